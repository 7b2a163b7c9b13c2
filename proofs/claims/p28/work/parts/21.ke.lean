def mergeA (g : Row) (mm x y : Nat) : Row := zseq (mstep x y ((20 + 10 * g (37 + 7 * y)) / 2)) g mm
def mergeC (g : Row) (mm x y : Nat) : Row := rPres (rClose (upd (mergeA g mm x y) (36 + 7 * x) (mergeA g mm x y (36 + 7 * x) + mergeA g mm x y (36 + 7 * y))) y) x
theorem rMerge_eq {g : Row} {mm x y : Nat} : rMerge g mm x y = rEnd (mergeC g mm x y) := rfl
theorem half_n : ∀ s, s ≤ 11 → (20 + 10 * Int32.ofNat s) / 2 = Int32.ofNat (10 + 5 * s) := by decide
theorem zrem_2 : ∀ a, a ≤ 10 → zrem (Int32.ofNat a) 2 = Int32.ofNat (a % 2) ∧ Int32.ofNat a / 2 = Int32.ofNat (a / 2) := by decide
theorem mergeA_spec {g : Row} {mm x y st : Nat} {sx sy cash : Nat → Nat} (hm : mm ≤ 4) (hx : x < 4) (hy : y < 4) (hxy : x ≠ y) (h1 : ∀ p, p < 4 → g (18 + 4 * p + x) = Int32.ofNat (sx p)) (h2 : ∀ p, p < 4 → g (18 + 4 * p + y) = Int32.ofNat (sy p) ∧ sy p ≤ 10) (h3 : ∀ p, p < mm → g (14 + p) = Int32.ofNat (cash p)) (h4 : g (37 + 7 * y) = Int32.ofNat st) (h5 : st ≤ 11) : (∀ p, p < mm → mergeA g mm x y (18 + 4 * p + x) = Int32.ofNat (sx p + sy p / 2) ∧ mergeA g mm x y (14 + p) = Int32.ofNat (cash p + sy p % 2 * (10 + 5 * st))) ∧ ∀ i, i ≠ 6 → (∀ p, p < mm → i ≠ 18 + 4 * p + x ∧ i ≠ 14 + p) → mergeA g mm x y i = g i := by
  unfold mergeA
  rw [h4, half_n st h5]
  have key := zseq_ok (N := mm) (P := fun k (r : Row) => (∀ p, p < k → r (18 + 4 * p + x) = Int32.ofNat (sx p + sy p / 2) ∧ r (14 + p) = Int32.ofNat (cash p + sy p % 2 * (10 + 5 * st))) ∧ ∀ i, i ≠ 6 → (∀ p, p < k → i ≠ 18 + 4 * p + x ∧ i ≠ 14 + p) → r i = g i) (step := mstep x y (Int32.ofNat (10 + 5 * st))) (s := g) ⟨fun p hp => by omega, fun _ _ _ => rfl⟩ (fun k r hk hr => by
    obtain ⟨r1, r2⟩ := hr
    have ex : r (18 + 4 * k + x) = Int32.ofNat (sx k) := by rw [r2 _ (by omega) (fun p hp => by omega), h1 k (by omega)]
    have ey : r (18 + 4 * k + y) = Int32.ofNat (sy k) := by rw [r2 _ (by omega) (fun p hp => by omega), (h2 k (by omega)).1]
    have ec : r (14 + k) = Int32.ofNat (cash k) := by rw [r2 _ (by omega) (fun p hp => by omega), h3 k hk]
    have z := zrem_2 (sy k) (h2 k (by omega)).2
    have hne : ∀ i, i ≠ 6 → i ≠ 18 + 4 * k + x → i ≠ 14 + k → mstep x y (Int32.ofNat (10 + 5 * st)) k r i = r i := fun i a b c => by
      unfold mstep
      rw [rPay_ne c a, upd_ne b]
    refine ⟨fun p hp => ?_, fun i a b => ?_⟩
    · by_cases e : p = k
      · subst e
        constructor
        · unfold mstep
          rw [rPay_ne (by omega) (by omega), upd_eq, ex, ey, z.2, i32_addn]
        · unfold mstep rPay
          rw [upd_ne (by omega), upd_eq, upd_ne (by omega), ec, ey, z.1, Int32.neg_mul, Int32.sub_neg, i32_mulm, i32_addn]
      · rw [hne _ (by omega) (by omega) (by omega), hne _ (by omega) (by omega) (by omega)]
        exact r1 p (by omega)
    · rw [hne i a (b k (by omega)).1 (b k (by omega)).2]
      exact r2 i a fun p hp => b p (by omega)) mm (Nat.le_refl mm)
  exact key
theorem rClose_at {g : Row} {c : Nat} (hc : c < 4) : rClose g c (34 + 7 * c) = 0 ∧ rClose g c (36 + 7 * c) = 0 ∧ rClose g c (37 + 7 * c) = 0 ∧ rClose g c (39 + 7 * c) = -1 ∧ ∀ p, p < 4 → rClose g c (18 + 4 * p + c) = 0 := by
  unfold rClose
  refine ⟨?_, ?_, ?_, ?_, fun p hp => ?_⟩
  · rw [upd_ne (by omega), upd_ne (by omega), upd_ne (by omega), upd_ne (by omega), upd_ne (by omega), upd_ne (by omega), upd_eq]
  · rw [upd_ne (by omega), upd_ne (by omega), upd_ne (by omega), upd_ne (by omega), upd_eq]
  · rw [upd_ne (by omega), upd_ne (by omega), upd_ne (by omega), upd_eq]
  · rw [upd_ne (by omega), upd_eq]
  · rw [upd_ne (by omega), upd_ne (by omega), upd_ne (by omega), upd_ne (by omega), upd_ne (by omega), upd_ne (by omega), upd_ne (by omega), rFill_at ⟨p, hp, rfl⟩]
theorem closed_co {g' : Row} {mm c : Nat} (h : g' (34 + 7 * c) = 0 ∧ g' (37 + 7 * c) = 0 ∧ g' (39 + 7 * c) = -1 ∧ ∀ p, p < 4 → g' (18 + 4 * p + c) = 0) : ShOk g' mm c ∧ PrOk g' mm c ∧ StOk g' c ∧ OpOk g' c :=
  ⟨⟨fun _ => 0, fun p hp => h.2.2.2 p hp, Nat.zero_le 10, fun _ _ _ => rfl⟩, Or.inl h.2.2.1, ⟨0, by omega, h.2.1⟩, Or.inr h⟩
theorem merge_wf {g : Row} {mm x y B : Nat} (h : WF g mm) (hM : MonW g mm B) (hB : B ≤ 100000) (h3 : g 3 = 0) (hx : x < 4) (hy : y < 4) (hxy : x ≠ y) (ox : g (34 + 7 * x) = 1) (hbk : ¬ bank (fun p => g (18 + 4 * p + x)) < exch (fun p => g (18 + 4 * p + y))) : WF (rMerge g mm x y) mm ∧ MonW (rMerge g mm x y) mm (B + 1) := by
  obtain ⟨hb, ho', hw, hl⟩ := h
  have hm := hb.2.1
  obtain ⟨sx, sx1, sx2, sx3⟩ := (hw x hx).1
  obtain ⟨sy, sy1, sy2, sy3⟩ := (hw y hy).1
  obtain ⟨st, st1, st2⟩ := (hw y hy).2.2.1
  have hcash : ∃ cash : Nat → Nat, ∀ p, p < mm → g (14 + p) = Int32.ofNat (cash p) ∧ cash p ≤ 500 + 4000 * B := by
    have : ∀ p, ∃ x, p < mm → g (14 + p) = Int32.ofNat x ∧ x ≤ 500 + 4000 * B := fun p => by
      by_cases hp : p < mm
      · obtain ⟨x, a, b⟩ := hM.1 p hp
        exact ⟨x, fun _ => ⟨b, a⟩⟩
      · exact ⟨0, fun q => absurd q hp⟩
    exact ⟨fun p => Classical.choose (this p), fun p hp => Classical.choose_spec (this p) hp⟩
  obtain ⟨cash, hcash⟩ := hcash
  obtain ⟨a1, a2⟩ := mergeA_spec (sx := sx) (sy := sy) (cash := cash) hm hx hy hxy sx1 (fun p hp => ⟨sy1 p hp, sh_lt sy2 p hp⟩) (fun p hp => (hcash p hp).1) st2 st1
  have hsum : sx 0 + sx 1 + sx 2 + sx 3 + (sy 0 / 2 + sy 1 / 2 + sy 2 / 2 + sy 3 / 2) ≤ 10 := by
    rw [bank_eq (f := fun p => g (18 + 4 * p + x)) (s := sx) sx1 sx2, exch_eq (f := fun p => g (18 + 4 * p + y)) (s := sy) sy1 (fun p hp => sh_lt sy2 p hp), i32_lt_of (by omega) (by omega)] at hbk
    omega
  have hall : ∀ p, p < 4 → mergeA g mm x y (18 + 4 * p + x) = Int32.ofNat (sx p + sy p / 2) := by
    intro p hp
    by_cases q : p < mm
    · exact (a1 p q).1
    · rw [a2 _ (by omega) (fun r hr => by omega), sx1 p hp, sy3 p (by omega) hp]
      rfl
  have cne : ∀ i, i ≠ 6 → ¬ (14 ≤ i ∧ i < 34) → ¬ (34 + 7 * y ≤ i ∧ i < 41 + 7 * y) → i ≠ 36 + 7 * x → i ≠ 39 + 7 * x → mergeC g mm x y i = g i := fun i h1 h2 h3 h4 h5 => by
    unfold mergeC
    rw [rPres_ne h5, rClose_ne h3 (fun p hp => by omega), upd_ne h4, a2 i h1 (fun p hp => by omega)]
  have csh : ∀ p d, p < 4 → d < 4 → d ≠ x → d ≠ y → mergeC g mm x y (18 + 4 * p + d) = g (18 + 4 * p + d) := fun p d hp hd e1 e2 => by
    unfold mergeC
    rw [rPres_ne (by omega), rClose_ne (by omega) (fun q hq => by omega), upd_ne (by omega), a2 _ (by omega) (fun q hq => by omega)]
  have hcl := rClose_at (g := upd (mergeA g mm x y) (36 + 7 * x) (mergeA g mm x y (36 + 7 * x) + mergeA g mm x y (36 + 7 * y))) hy
  rw [rMerge_eq]
  refine ⟨end_wf ⟨BaseW_congr (fun k hk => cne k (by omega) (by omega) (by omega) (by omega) (by omega)) hb, ord_open (c := 0) h3 (fun k hk => cne k (by omega) (by omega) (by omega) (by omega) (by omega)) ho', fun d hd => ?_, LandW_congr (fun k hk => cne k (by omega) (by omega) (by omega) (by omega) (by omega)) hl⟩, end_mon hm ?_⟩
  · by_cases e1 : d = y
    · subst e1
      have f : ∀ i, i ≠ 39 + 7 * x → mergeC g mm x d i = rClose (upd (mergeA g mm x d) (36 + 7 * x) (mergeA g mm x d (36 + 7 * x) + mergeA g mm x d (36 + 7 * d))) d i := fun i hi => by
        unfold mergeC
        rw [rPres_ne hi]
      exact closed_co ⟨by rw [f _ (by omega), hcl.1], by rw [f _ (by omega), hcl.2.2.1], by rw [f _ (by omega), hcl.2.2.2.1], fun p hp => by rw [f _ (by omega), hcl.2.2.2.2 p hp]⟩
    · by_cases e2 : d = x
      · subst e2
        have h0 := hw d hd
        have s1 : ShOk (rClose (upd (mergeA g mm d y) (36 + 7 * d) (mergeA g mm d y (36 + 7 * d) + mergeA g mm d y (36 + 7 * y))) y) mm d := by
          refine ⟨fun p => sx p + sy p / 2, fun p hp => ?_, (by show sx 0 + sy 0 / 2 + (sx 1 + sy 1 / 2) + (sx 2 + sy 2 / 2) + (sx 3 + sy 3 / 2) ≤ 10; omega), fun p q1 q2 => ?_⟩
          · rw [rClose_ne (by omega) (fun q hq => by omega), upd_ne (by omega), hall p hp]
          · show sx p + sy p / 2 = 0
            rw [sx3 p q1 q2, sy3 p q1 q2]
        have p1 : PrOk (rClose (upd (mergeA g mm d y) (36 + 7 * d) (mergeA g mm d y (36 + 7 * d) + mergeA g mm d y (36 + 7 * y))) y) mm d := PrOk_congr (by rw [rClose_ne (by omega) (fun q hq => by omega), upd_ne (by omega), a2 _ (by omega) (fun q hq => by omega)]) h0.2.1
        refine ⟨?_, ?_, StOk_congr (cne _ (by omega) (by omega) (by omega) (by omega) (by omega)) h0.2.2.1, OpOk_open ox (cne _ (by omega) (by omega) (by omega) (by omega) (by omega)) (cne _ (by omega) (by omega) (by omega) (by omega) (by omega)) (cne _ (by omega) (by omega) (by omega) (by omega) (by omega)) h0.2.2.2⟩
        · unfold mergeC
          exact ShOk_congr (fun q hq => rPres_ne (by omega)) s1
        · unfold mergeC
          exact pres_mm hm s1 p1
      · exact Co1_congr (fun p hp => csh p d hp hd e2 e1) (fun k h1 h2 => cne k (by omega) (by omega) (by omega) (by omega) (by omega)) (hw d hd)
  · obtain ⟨yy, hy1, hy2⟩ := hM.2
    have e36 : mergeC g mm x y (36 + 7 * x) = Int32.ofNat (yy x + yy y) := by
      unfold mergeC
      rw [rPres_ne (by omega), rClose_ne (by omega) (fun q hq => by omega), upd_eq, a2 _ (by omega) (fun q hq => by omega), a2 _ (by omega) (fun q hq => by omega), hy1 x hx, hy1 y hy, i32_addn]
    have e36y : mergeC g mm x y (36 + 7 * y) = Int32.ofNat 0 := by
      unfold mergeC
      rw [rPres_ne (by omega), hcl.2.1]
      rfl
    refine ⟨fun p hp => ⟨cash p + sy p % 2 * (10 + 5 * st), ?_, ?_⟩, fun d => if d = x then yy x + yy y else if d = y then 0 else yy d, fun d hd => ?_, ?_⟩
    · have q1 := (hcash p hp).2
      have q2 : sy p % 2 * (10 + 5 * st) ≤ 1 * 65 := Nat.mul_le_mul (by omega) (by omega)
      omega
    · unfold mergeC
      rw [rPres_ne (by omega), rClose_ne (by omega) (fun q hq => by omega), upd_ne (by omega), (a1 p hp).2]
    · show mergeC g mm x y (36 + 7 * d) = Int32.ofNat (if d = x then yy x + yy y else if d = y then 0 else yy d)
      by_cases q1 : d = x
      · rw [q1, if_pos rfl, e36]
      · rw [if_neg q1]
        by_cases q2 : d = y
        · rw [q2, if_pos rfl, e36y]
        · rw [if_neg q2, cne _ (by omega) (by omega) (by omega) (by omega) (by omega), hy1 d hd]
    · show (if 0 = x then yy x + yy y else if 0 = y then 0 else yy 0) + (if 1 = x then yy x + yy y else if 1 = y then 0 else yy 1) + (if 2 = x then yy x + yy y else if 2 = y then 0 else yy 2) + (if 3 = x then yy x + yy y else if 3 = y then 0 else yy 3) ≤ 4000 * (B + 1)
      obtain rfl | rfl | rfl | rfl : x = 0 ∨ x = 1 ∨ x = 2 ∨ x = 3 := by omega
      all_goals obtain rfl | rfl | rfl | rfl : y = 0 ∨ y = 1 ∨ y = 2 ∨ y = 3 := by omega
      all_goals simp at hxy ⊢
      all_goals omega
theorem town_wf {g : Row} {mm t v B : Nat} (h : WF g mm) (hM : MonW g mm B) (ht : t < 8) (hv : v ≤ 90) : WF (upd g (126 + t) (Int32.ofNat v)) mm ∧ MonW (upd g (126 + t) (Int32.ofNat v)) mm B := by
  obtain ⟨hb, ho', hw, hl⟩ := h
  have hm := hb.2.1
  refine ⟨⟨BaseW_congr (fun k hk => upd_ne (by omega)) hb, OrdW_congr (fun k hk => upd_ne (by omega)) (fun d hd => upd_ne (by omega)) ho', fun d hd => Co1_congr (fun p hp => upd_ne (by omega)) (fun k h1 h2 => upd_ne (by omega)) (hw d hd), ?_⟩, mon_cash hM (Nat.le_refl B) (fun c hc => upd_ne (by omega)) fun p hp => by rw [upd_ne (by omega)]; exact hM.1 p hp⟩
  obtain ⟨l1, l2, l3, l4⟩ := hl
  refine ⟨fun a b ha hb => by rw [upd_ne (by omega), upd_ne (by omega), l1 a b ha hb], fun a b ha hb => by rw [upd_ne (by omega)]; exact l2 a b ha hb, fun a ha => by rw [upd_ne (by omega), l3 a ha], fun s hs => ?_⟩
  by_cases e : s = t
  · exact ⟨v, hv, by rw [e, upd_eq]⟩
  · rw [upd_ne (by omega)]
    exact l4 s hs
theorem rClear_at {g : Row} : (∀ a b, a < 8 → b < 8 → rClear g (62 + 8 * a + b) = 0) ∧ ∀ i, i < 62 ∨ 126 ≤ i → rClear g i = g i := by
  unfold rClear
  have key := zseq_ok (N := 8) (P := fun k (r : Row) => (∀ a b, a < k → b < 8 → r (62 + 8 * a + b) = 0) ∧ ∀ i, i < 62 ∨ 126 ≤ i → r i = g i) (step := fun t g => rFill (fun i => 62 + 8 * t + i) 0 8 g) (s := g) ⟨fun a b ha => by omega, fun _ _ => rfl⟩ (fun k r hk hr => ⟨fun a b ha hb => by
    show rFill (fun i => 62 + 8 * k + i) 0 8 r (62 + 8 * a + b) = 0
    by_cases e : a = k
    · rw [e]
      exact rFill_at ⟨b, hb, rfl⟩
    · rw [rFill_ne (fun j hj => by omega)]
      exact hr.1 a b (by omega) hb, fun i hi => by
    show rFill (fun i => 62 + 8 * k + i) 0 8 r i = g i
    rw [rFill_ne (fun j hj => by omega)]
    exact hr.2 i hi⟩) 8 (Nat.le_refl 8)
  exact key
theorem rReset0_at {g : Row} : (∀ c, c < 4 → rReset0 g (34 + 7 * c) = 0 ∧ rReset0 g (36 + 7 * c) = 0 ∧ rReset0 g (37 + 7 * c) = 0 ∧ rReset0 g (39 + 7 * c) = -1 ∧ ∀ p, p < 4 → rReset0 g (18 + 4 * p + c) = 0) ∧ ∀ i, i < 10 ∨ 62 ≤ i → rReset0 g i = g i := by
  unfold rReset0
  have key := zseq_ok (N := 4) (P := fun k (r : Row) => (∀ c, c < k → r (34 + 7 * c) = 0 ∧ r (36 + 7 * c) = 0 ∧ r (37 + 7 * c) = 0 ∧ r (39 + 7 * c) = -1 ∧ ∀ p, p < 4 → r (18 + 4 * p + c) = 0) ∧ ∀ i, i < 10 ∨ 62 ≤ i → r i = g i) (step := fun k g => upd (rClose g k) (10 + k) 0) (s := g) ⟨fun c hc => by omega, fun _ _ => rfl⟩ (fun k r hk hr => ⟨fun c hc => by
    have hcl := rClose_at (g := r) hk
    have ne : ∀ i, i ≠ 10 + k → upd (rClose r k) (10 + k) 0 i = rClose r k i := fun i hi => upd_ne hi
    show upd (rClose r k) (10 + k) 0 (34 + 7 * c) = 0 ∧ upd (rClose r k) (10 + k) 0 (36 + 7 * c) = 0 ∧ upd (rClose r k) (10 + k) 0 (37 + 7 * c) = 0 ∧ upd (rClose r k) (10 + k) 0 (39 + 7 * c) = -1 ∧ ∀ p, p < 4 → upd (rClose r k) (10 + k) 0 (18 + 4 * p + c) = 0
    by_cases e : c = k
    · subst e
      exact ⟨by rw [ne _ (by omega), hcl.1], by rw [ne _ (by omega), hcl.2.1], by rw [ne _ (by omega), hcl.2.2.1], by rw [ne _ (by omega), hcl.2.2.2.1], fun p hp => by rw [ne _ (by omega), hcl.2.2.2.2 p hp]⟩
    · have q := hr.1 c (by omega)
      have ne2 : ∀ i, ¬ (34 + 7 * k ≤ i ∧ i < 41 + 7 * k) → (∀ p, p < 4 → i ≠ 18 + 4 * p + k) → i ≠ 10 + k → upd (rClose r k) (10 + k) 0 i = r i := fun i a b d => by rw [ne i d, rClose_ne a b]
      exact ⟨by rw [ne2 _ (by omega) (fun p hp => by omega) (by omega), q.1], by rw [ne2 _ (by omega) (fun p hp => by omega) (by omega), q.2.1], by rw [ne2 _ (by omega) (fun p hp => by omega) (by omega), q.2.2.1], by rw [ne2 _ (by omega) (fun p hp => by omega) (by omega), q.2.2.2.1], fun p hp => by rw [ne2 _ (by omega) (fun p hp => by omega) (by omega), q.2.2.2.2 p hp]⟩, fun i hi => by
    show upd (rClose r k) (10 + k) 0 i = g i
    rw [upd_ne (by omega), rClose_ne (by omega) (fun p hp => by omega)]
    exact hr.2 i hi⟩) 4 (Nat.le_refl 4)
  exact key
theorem rReset_at {g : Row} {m : Int32} : rReset g m 0 = m ∧ (∀ i, i < 10 → i ≠ 0 → rReset g m i = 0) ∧ (∀ p, p < 4 → rReset g m (14 + p) = 500) ∧ ∀ i, 18 ≤ i → rReset g m i = rReset0 (rClear g) i := by
  unfold rReset
  refine ⟨?_, fun i h1 h2 => ?_, fun p hp => ?_, fun i hi => ?_⟩
  · simp [upd]
  · obtain rfl | rfl | rfl | rfl | rfl | rfl | rfl | rfl | rfl : i = 1 ∨ i = 2 ∨ i = 3 ∨ i = 4 ∨ i = 5 ∨ i = 6 ∨ i = 7 ∨ i = 8 ∨ i = 9 := by omega
    all_goals simp [upd]
  · rw [upd_ne (by omega), upd_ne (by omega), upd_ne (by omega), upd_ne (by omega), upd_ne (by omega), upd_ne (by omega), upd_ne (by omega), upd_ne (by omega), upd_ne (by omega), upd_ne (by omega), rFill_at ⟨p, hp, rfl⟩]
  · rw [upd_ne (by omega), upd_ne (by omega), upd_ne (by omega), upd_ne (by omega), upd_ne (by omega), upd_ne (by omega), upd_ne (by omega), upd_ne (by omega), upd_ne (by omega), upd_ne (by omega), rFill_ne (fun p hp => by omega)]
theorem reset_wf {g : Row} {mm : Nat} (h1 : 2 ≤ mm) (h2 : mm ≤ 4) (hl : ∀ t, t < 8 → ∃ v, v ≤ 90 ∧ g (126 + t) = Int32.ofNat v) (B : Nat) : WF (rReset g (Int32.ofNat mm)) mm ∧ MonW (rReset g (Int32.ofNat mm)) mm B := by
  have ra := rReset_at (g := g) (m := Int32.ofNat mm)
  have rb := rReset0_at (g := rClear g)
  have rc := rClear_at (g := g)
  have z : ∀ i, i < 10 → i ≠ 0 → rReset g (Int32.ofNat mm) i = Int32.ofNat 0 := ra.2.1
  refine ⟨⟨⟨h1, h2, ra.1, ⟨0, by omega, z 1 (by omega) (by omega)⟩, Or.inl (z 3 (by omega) (by omega)), Or.inl (z 8 (by omega) (by omega)), fun _ => ⟨0, by omega, z 2 (by omega) (by omega)⟩⟩, ?_, fun c hc => closed_co ⟨by rw [ra.2.2.2 _ (by omega), (rb.1 c hc).1], by rw [ra.2.2.2 _ (by omega), (rb.1 c hc).2.2.1], by rw [ra.2.2.2 _ (by omega), (rb.1 c hc).2.2.2.1], fun p hp => by rw [ra.2.2.2 _ (by omega), (rb.1 c hc).2.2.2.2 p hp]⟩, ?_⟩, ?_⟩
  · refine ⟨0, 0, fun _ => 0, by omega, by omega, z 9 (by omega) (by omega), z 4 (by omega) (by omega), fun j hj => by omega, fun q => ?_⟩
    rw [z 3 (by omega) (by omega)] at q
    exact absurd q (by decide)
  · have lev : ∀ a b, a < 8 → b < 8 → rReset g (Int32.ofNat mm) (62 + 8 * a + b) = 0 := fun a b ha hb => by rw [ra.2.2.2 _ (by omega), rb.2 _ (by omega), rc.1 a b ha hb]
    refine ⟨fun a b ha hb => by rw [lev a b ha hb, lev b a hb ha], fun a b ha hb => ⟨0, by omega, lev a b ha hb⟩, fun a ha => lev a a ha ha, fun t ht => ?_⟩
    rw [ra.2.2.2 _ (by omega), rb.2 _ (by omega), rc.2 _ (by omega)]
    exact hl t ht
  · refine ⟨fun p hp => ⟨500, by omega, ra.2.2.1 p (by omega)⟩, fun _ => 0, fun c hc => by rw [ra.2.2.2 _ (by omega), (rb.1 c hc).2.1]; rfl, Nat.zero_le _⟩
def FrC (c : Nat) (g g' : Row) : Prop := ∀ i, i < 14 → i ≠ 6 → i ≠ 7 → g' i = g i
def FrL (g g' : Row) : Prop := ∀ i, 62 ≤ i → g' i = g i
def FrO (c : Nat) (g g' : Row) : Prop := ∀ d, d < 4 → d ≠ c → g' (34 + 7 * d) = g (34 + 7 * d) ∧ g' (36 + 7 * d) = g (36 + 7 * d)
def Fr (c : Nat) (g g' : Row) : Prop := FrC c g g' ∧ FrL g g' ∧ FrO c g g'
theorem Fr_trans {c : Nat} {g g' g'' : Row} (h : Fr c g g') (h' : Fr c g' g'') : Fr c g g'' := ⟨fun i a b d => by rw [h'.1 i a b d, h.1 i a b d], fun i a => by rw [h'.2.1 i a, h.2.1 i a], fun d a b => ⟨by rw [(h'.2.2 d a b).1, (h.2.2 d a b).1], by rw [(h'.2.2 d a b).2, (h.2.2 d a b).2]⟩⟩
theorem Fr_of {c : Nat} {g g' : Row} (h : ∀ i, (i < 14 ∧ i ≠ 6 ∧ i ≠ 7) ∨ 62 ≤ i ∨ (34 ≤ i ∧ i < 62 ∧ (((i - 34) % 7 = 0 ∧ i ≠ 34 + 7 * c) ∨ ((i - 34) % 7 = 2 ∧ i ≠ 36 + 7 * c))) → g' i = g i) : Fr c g g' := ⟨fun i a b d => h i (Or.inl ⟨a, b, d⟩), fun i a => h i (Or.inr (Or.inl a)), fun d a b => ⟨h _ (Or.inr (Or.inr (by omega))), h _ (Or.inr (Or.inr (by omega)))⟩⟩
theorem div_10 : ∀ k, k ≤ 475 → Int32.ofNat k / 10 = Int32.ofNat (k / 10) := by decide +kernel
theorem rOut_spec {g : Row} {mm c X B : Nat} (hm : mm ≤ 4) (hc : c < 4) (hw : CoW g mm) (hX : X ≤ 475) (hM : MonW g mm B) (hB : B ≤ 100000) : (∀ p, p < mm → ∃ x, x ≤ 500 + 4000 * (B + 1) ∧ rOut g mm c (Int32.ofNat X) (14 + p) = Int32.ofNat x) ∧ ∀ i, i ≠ 6 → (∀ p, p < mm → i ≠ 14 + p) → rOut g mm c (Int32.ofNat X) i = g i := by
  unfold rOut
  rw [div_10 X hX]
  obtain ⟨s, s1, s2, s3⟩ := (hw c hc).1
  have key := zseq_ok (N := mm) (P := fun k (r : Row) => (∀ p, p < k → ∃ x, x ≤ 500 + 4000 * (B + 1) ∧ r (14 + p) = Int32.ofNat x) ∧ ∀ i, i ≠ 6 → (∀ p, p < k → i ≠ 14 + p) → r i = g i) (step := fun p g => rPay g p (-(g (18 + 4 * p + c) * Int32.ofNat (X / 10)))) (s := g) ⟨fun p hp => by omega, fun _ _ _ => rfl⟩ (fun k r hk hr => by
    obtain ⟨r1, r2⟩ := hr
    obtain ⟨x, hx, ex⟩ := hM.1 k hk
    have hne : ∀ i, i ≠ 6 → i ≠ 14 + k → rPay r k (-(r (18 + 4 * k + c) * Int32.ofNat (X / 10))) i = r i := fun i a b => rPay_ne b a
    refine ⟨fun p hp => ?_, fun i a b => ?_⟩
    · by_cases e : p = k
      · subst e
        have q := sh_lt s2 p (by omega)
        have q2 : s p * (X / 10) ≤ 10 * 47 := Nat.mul_le_mul q (by omega)
        refine ⟨x + s p * (X / 10), by omega, ?_⟩
        show rPay r p _ (14 + p) = _
        unfold rPay
        rw [upd_ne (by omega), upd_eq, r2 _ (by omega) (fun j hj => by omega), ex, r2 _ (by omega) (fun j hj => by omega), s1 p (by omega), Int32.sub_neg, i32_mulm, i32_addn]
      · obtain ⟨x', hx', ex'⟩ := r1 p (by omega)
        exact ⟨x', hx', (hne _ (by omega) (by omega)).trans ex'⟩
    · exact (hne i a (b k (by omega))).trans (r2 i a fun p hp => b p (by omega))) mm (Nat.le_refl mm)
  exact key
theorem paid_spec {g : Row} {mm c X B : Nat} (hm : mm ≤ 4) (hc : c < 4) (hw : CoW g mm) (ho : g (34 + 7 * c) = 1) (hX : X ≤ 475) (hM : MonW g mm B) (hB : B ≤ 100000) : CoW (rPaid g mm c (Int32.ofNat X)) mm ∧ MonW (rPaid g mm c (Int32.ofNat X)) mm (B + 1) ∧ ∀ i, i ≠ 6 → ¬ (14 ≤ i ∧ i < 18) → i ≠ 37 + 7 * c → rPaid g mm c (Int32.ofNat X) i = g i := by
  obtain ⟨h1, h2⟩ := rOut_spec hm hc hw hX hM hB
  have hne : ∀ i, i ≠ 37 + 7 * c → rPaid g mm c (Int32.ofNat X) i = rOut g mm c (Int32.ofNat X) i := fun i hi => by
    unfold rPaid
    split
    · exact rFall_ne hi
    · exact rRise_ne hi
  have hall : ∀ i, i ≠ 6 → ¬ (14 ≤ i ∧ i < 18) → i ≠ 37 + 7 * c → rPaid g mm c (Int32.ofNat X) i = g i := fun i a b d => by rw [hne i d, h2 i a fun p hp => by omega]
  refine ⟨fun d hd => ?_, mon_cash hM (by omega) (fun d hd => hall _ (by omega) (by omega) (by omega)) fun p hp => ?_, hall⟩
  · by_cases e : d = c
    · subst e
      have h0 := hw d hd
      refine ⟨ShOk_congr (fun p hp => hall _ (by omega) (by omega) (by omega)) h0.1, PrOk_congr (hall _ (by omega) (by omega) (by omega)) h0.2.1, ?_, OpOk_open ho (hall _ (by omega) (by omega) (by omega)) (hall _ (by omega) (by omega) (by omega)) (hall _ (by omega) (by omega) (by omega)) h0.2.2.2⟩
      have s0 : StOk (rOut g mm d (Int32.ofNat X)) d := StOk_congr (h2 _ (by omega) (fun p hp => by omega)) h0.2.2.1
      unfold rPaid
      split
      · exact StOk_fall s0
      · exact StOk_rise s0
    · exact Co1_congr (fun p hp => hall _ (by omega) (by omega) (by omega)) (fun k a b => hall _ (by omega) (by omega) (by omega)) (hw d hd)
  · rw [hne _ (by omega)]
    exact h1 p hp
def ZC (c : Nat) (g : Row) : Prop := g (34 + 7 * c) = 0 → g (36 + 7 * c) = 0
def ZW (g : Row) : Prop := ∀ c, c < 4 → ZC c g
theorem ZC_open {c : Nat} {g : Row} (h : g (34 + 7 * c) = 1) : ZC c g := fun q => by rw [h] at q; exact absurd q (by decide)
theorem shut_spec {g : Row} {mm c B : Nat} (hm : mm ≤ 4) (hc : c < 4) (hw : CoW g mm) (hM : MonW g mm B) : CoW (rShut g c) mm ∧ MonW (rShut g c) mm B ∧ Fr c g (rShut g c) ∧ ZC c (rShut g c) := by
  have hcl := rClose_at (g := rCPay g c (g (36 + 7 * c))) hc
  have h7 : ∀ i, i ≠ 7 → rShut g c i = rClose (rCPay g c (g (36 + 7 * c))) c i := fun i hi => by
    unfold rShut
    rw [upd_ne hi]
  have hne : ∀ i, i ≠ 6 → i ≠ 7 → ¬ (34 + 7 * c ≤ i ∧ i < 41 + 7 * c) → (∀ p, p < 4 → i ≠ 18 + 4 * p + c) → rShut g c i = g i := fun i a b d e => by rw [h7 i b, rClose_ne d e, rCPay_ne (by omega) a]
  refine ⟨fun d hd => ?_, ?_, Fr_of fun i hi => hne i (by omega) (by omega) (by omega) (fun p hp => by omega), fun _ => by rw [h7 _ (by omega), hcl.2.1]⟩
  · by_cases e : d = c
    · subst e
      exact closed_co ⟨by rw [h7 _ (by omega), hcl.1], by rw [h7 _ (by omega), hcl.2.2.1], by rw [h7 _ (by omega), hcl.2.2.2.1], fun p hp => by rw [h7 _ (by omega), hcl.2.2.2.2 p hp]⟩
    · exact Co1_congr (fun p hp => hne _ (by omega) (by omega) (by omega) (fun q hq => by omega)) (fun k a b => hne _ (by omega) (by omega) (by omega) (fun q hq => by omega)) (hw d hd)
  · obtain ⟨y, hy1, hy2⟩ := hM.2
    refine mon_co (c := c) (v := 0) (y := y) hc (fun p hp => by rw [hne _ (by omega) (by omega) (by omega) (fun q hq => by omega)]; exact hM.1 p hp) hy1 (fun d hd e => hne _ (by omega) (by omega) (by omega) (fun q hq => by omega)) ?_ (by omega)
    rw [h7 _ (by omega), hcl.2.1]
    rfl
theorem mon_y {y : Nat → Nat} {Z c : Nat} (hc : c < 4) (h : y 0 + y 1 + y 2 + y 3 ≤ Z) : y c ≤ Z := by
  obtain rfl | rfl | rfl | rfl : c = 0 ∨ c = 1 ∨ c = 2 ∨ c = 3 := by omega
  all_goals omega
theorem upk4_spec {g : Row} {mm c p d B : Nat} (ho : g (34 + 7 * c) = 1) (hm : mm ≤ 4) (hc : c < 4) (hp : p < mm) (hd : d ≤ 200) (hw : CoW g mm) (hM : MonW g mm B) (hB : B ≤ 100001) : CoW (upk4 g c p (Int32.ofNat d)) mm ∧ MonW (upk4 g c p (Int32.ofNat d)) mm B ∧ Fr c g (upk4 g c p (Int32.ofNat d)) ∧ ZC c (upk4 g c p (Int32.ofNat d)) := by
  obtain ⟨x, hx, ex⟩ := hM.1 p hp
  unfold upk4
  rw [ex, zmin_b (by omega) (by omega)]
  have w1 : CoW (rPay g p (Int32.ofNat (min d x))) mm := fun e he => Co1_congr (fun q hq => rPay_ne (by omega) (by omega)) (fun k a b => rPay_ne (by omega) (by omega)) (hw e he)
  have m1 : MonW (rPay g p (Int32.ofNat (min d x))) mm B := by
    refine mon_one (t := p) (x' := x - min d x) hM (Nat.le_refl B) (fun e he => rPay_ne (by omega) (by omega)) (fun q hq e => rPay_ne (by omega) (by omega)) ?_ (by omega)
    unfold rPay
    rw [upd_ne (by omega), upd_eq, ex, i32_subm (Nat.min_le_right _ _)]
  have f1 : Fr c g (rPay g p (Int32.ofNat (min d x))) := Fr_of fun i hi => rPay_ne (by omega) (by omega)
  split
  · exact ⟨w1, m1, f1, ZC_open (by rw [rPay_ne (by omega) (by omega), ho])⟩
  · obtain ⟨a, b, e, z⟩ := shut_spec hm hc w1 m1
    exact ⟨a, b, Fr_trans f1 e, z⟩
theorem rest_spec {g : Row} {mm c p d B j : Nat} (hm : mm ≤ 4) (hc : c < 4) (hp : p < mm) (hd : d ≤ 200) (hw : CoW g mm) (hM : MonW g mm B) (hB : B ≤ 100001) : CoW (rRest p (Int32.ofNat d) j g) mm ∧ MonW (rRest p (Int32.ofNat d) j g) mm B ∧ Fr c g (rRest p (Int32.ofNat d) j g) ∧ rRest p (Int32.ofNat d) j g (34 + 7 * c) = g (34 + 7 * c) := by
  obtain ⟨x, hx, ex⟩ := hM.1 p hp
  obtain ⟨a, ⟨x', b1, b2⟩, e⟩ := rRest_spec (X := 500 + 4000 * B) hm hp hd (by omega) (by omega) j g x hw ex hx
  exact ⟨a, mon_one (t := p) hM (Nat.le_refl B) (fun q hq => e _ (by omega) (by omega) (by omega) (fun r hr => by omega)) (fun q hq n => e _ (by omega) (by omega) (by omega) (fun r hr => by omega)) b2 b1, Fr_of fun i hi => e i (by omega) (by omega) (by omega) (fun r hr => by omega), e _ (by omega) (by omega) (by omega) (fun r hr => by omega)⟩
theorem upkeep_spec {g : Row} {mm c home S B : Nat} (ho : g (34 + 7 * c) = 1) (hm : mm ≤ 4) (hc : c < 4) (hco : CoOk g c home S) (hw : CoW g mm) (hM : MonW g mm B) (hB : B ≤ 100001) : CoW (rUpkeep g c) mm ∧ MonW (rUpkeep g c) mm B ∧ Fr c g (rUpkeep g c) ∧ ZC c (rUpkeep g c) := by
  obtain ⟨y, hy1, hy2⟩ := hM.2
  have hyc := mon_y hc hy2
  have h5 := hco.2.2.2.2
  have e5 : (5 : Int32) * g (38 + 7 * c) = Int32.ofNat (5 * S) := by rw [hco.2.1, show (5 : Int32) = Int32.ofNat 5 from rfl, i32_mulm]
  rw [rUpkeep_eq, e5, hy1 c hc, zmin_b (by omega) (by omega), i32_subm (Nat.min_le_left _ _)]
  have w1 : CoW (rCPay g c (Int32.ofNat (min (5 * S) (y c)))) mm := fun e he => Co1_congr (fun q hq => rCPay_ne (by omega) (by omega)) (fun k a b => rCPay_ne (by omega) (by omega)) (hw e he)
  have m1 : MonW (rCPay g c (Int32.ofNat (min (5 * S) (y c)))) mm B := by
    refine mon_co (c := c) (v := y c - min (5 * S) (y c)) (y := y) hc (fun p hp => by rw [rCPay_ne (by omega) (by omega)]; exact hM.1 p hp) hy1 (fun d hd e => rCPay_ne (by omega) (by omega)) ?_ (by omega)
    unfold rCPay
    rw [upd_ne (by omega), upd_eq, hy1 c hc, i32_subm (Nat.min_le_right _ _)]
  have f1 : Fr c g (rCPay g c (Int32.ofNat (min (5 * S) (y c)))) := Fr_of fun i hi => rCPay_ne (by omega) (by omega)
  obtain ⟨d, hd⟩ : ∃ d, 5 * S - min (5 * S) (y c) = d := ⟨_, rfl⟩
  rw [hd]
  have o1 : rCPay g c (Int32.ofNat (min (5 * S) (y c))) (34 + 7 * c) = 1 := by rw [rCPay_ne (by omega) (by omega), ho]
  generalize rCPay g c (Int32.ofNat (min (5 * S) (y c))) = g1 at w1 m1 f1 o1 ⊢
  unfold upk2
  split
  · exact ⟨w1, m1, f1, ZC_open o1⟩
  · split
    · obtain ⟨a, b, e, z⟩ := shut_spec hm hc w1 m1
      exact ⟨a, b, Fr_trans f1 e, z⟩
    · rename_i q
      obtain ⟨p, hp, ep⟩ := ((w1 c hc).2.1).resolve_left q
      rw [ep, nn_of (by omega)]
      obtain ⟨a, b, e, z⟩ := rest_spec (j := 40) hm hc hp (show d ≤ 200 by omega) w1 m1 hB
      obtain ⟨a', b', e', z'⟩ := upk4_spec (by rw [z, o1]) hm hc hp (show d ≤ 200 by omega) a b hB
      exact ⟨a', b', Fr_trans f1 (Fr_trans e e'), z'⟩
theorem over_wf {g g' : Row} {mm c len pl : Nat} {o : Nat → Nat} (hb : BaseW g mm) (h3 : g 3 = 1) (hl : len ≤ 4) (hp : pl < len) (e9 : g 9 = Int32.ofNat len) (ho : ∀ j, j < len → o j < 4 ∧ g (10 + j) = Int32.ofNat (o j)) (hop : ∀ j, pl ≤ j → j < len → g (34 + 7 * o j) = 1) (hd : ∀ i j, pl ≤ i → i < j → j < len → o i ≠ o j) (hc : o pl = c) (hf : Fr c g g') (h4 : g' 4 = g 4) (e4 : g 4 = Int32.ofNat pl) (hw : CoW g' mm) (hL : LandW g) : WF (rOver (upd (upd g' 8 0) 4 (g' 4 + 1))) mm ∧ (pl + 1 < len → ∃ d, d < 4 ∧ upd (upd g' 8 0) 4 (g' 4 + 1) (10 + (pl + 1)) = Int32.ofNat d ∧ upd (upd g' 8 0) 4 (g' 4 + 1) (34 + 7 * d) = 1) := by
  obtain ⟨b1, b2, b3, ⟨t, ht, b4⟩, b5, b6, b7⟩ := hb
  have e4' : g' 4 + 1 = Int32.ofNat (pl + 1) := by rw [h4, e4, i32_succ]
  rw [e4']
  have ne : ∀ i, i ≠ 8 → i ≠ 4 → upd (upd g' 8 0) 4 (Int32.ofNat (pl + 1)) i = g' i := fun i a b => by rw [upd_ne b, upd_ne a]
  have lo : ∀ i, i < 14 → i ≠ 6 → i ≠ 7 → i ≠ 8 → i ≠ 4 → upd (upd g' 8 0) 4 (Int32.ofNat (pl + 1)) i = g i := fun i a b c d e => by rw [ne i d e, hf.1 i a b c]
  have co : ∀ j, pl < j → j < len → upd (upd g' 8 0) 4 (Int32.ofNat (pl + 1)) (34 + 7 * o j) = 1 := fun j h1 h2 => by
    rw [ne _ (by omega) (by omega), (hf.2.2 _ (ho j h2).1 (by rw [← hc]; exact (hd pl j (Nat.le_refl _) h1 h2).symm)).1, hop j (by omega) h2]
  have cw : ∀ x : Row, (∀ i, 14 ≤ i → x i = g' i) → CoW x mm := fun x hx d hd => Co1_congr (fun p hp => hx _ (by omega)) (fun k h1 h2 => hx _ (by omega)) (hw d hd)
  have lw : ∀ x : Row, (∀ i, 14 ≤ i → x i = g' i) → LandW x := fun x hx => LandW_congr (fun k hk => by rw [hx k (by omega), hf.2.1 k (by omega)]) hL
  refine ⟨?_, fun h => ⟨o (pl + 1), (ho _ h).1, by rw [lo _ (by omega) (by omega) (by omega) (by omega) (by omega), (ho _ h).2], co _ (by omega) h⟩⟩
  have q9 : upd (upd g' 8 0) 4 (Int32.ofNat (pl + 1)) 9 = Int32.ofNat len := by rw [lo _ (by omega) (by omega) (by omega) (by omega) (by omega), e9]
  have q4 : upd (upd g' 8 0) 4 (Int32.ofNat (pl + 1)) 4 = Int32.ofNat (pl + 1) := upd_eq
  have q8 : upd (upd g' 8 0) 4 (Int32.ofNat (pl + 1)) 8 = 0 := by rw [upd_ne (by omega), upd_eq]
  have q0 : upd (upd g' 8 0) 4 (Int32.ofNat (pl + 1)) 0 = Int32.ofNat mm := by rw [lo _ (by omega) (by omega) (by omega) (by omega) (by omega), b3]
  have q1 : upd (upd g' 8 0) 4 (Int32.ofNat (pl + 1)) 1 = Int32.ofNat t := by rw [lo _ (by omega) (by omega) (by omega) (by omega) (by omega), b4]
  have q3 : upd (upd g' 8 0) 4 (Int32.ofNat (pl + 1)) 3 = 1 := by rw [lo _ (by omega) (by omega) (by omega) (by omega) (by omega), h3]
  have qo : ∀ j, j < len → o j < 4 ∧ upd (upd g' 8 0) 4 (Int32.ofNat (pl + 1)) (10 + j) = Int32.ofNat (o j) := fun j hj => ⟨(ho j hj).1, by rw [lo _ (by omega) (by omega) (by omega) (by omega) (by omega), (ho j hj).2]⟩
  have qn : ∀ i, 14 ≤ i → upd (upd g' 8 0) 4 (Int32.ofNat (pl + 1)) i = g' i := fun i hi => ne i (by omega) (by omega)
  generalize upd (upd g' 8 0) 4 (Int32.ofNat (pl + 1)) = r at q9 q4 q8 q0 q1 q3 qo qn co ⊢
  unfold rOver
  have hlt : (r 4 < r 9) = (pl + 1 < len) := by rw [q4, q9]; exact i32_lt_of (by omega) (by omega)
  by_cases c1 : pl + 1 < len
  · rw [if_pos (hlt ▸ c1)]
    refine ⟨⟨b1, b2, q0, ⟨t, ht, q1⟩, Or.inr q3, Or.inl q8, fun z => ?_⟩, ⟨len, pl + 1, o, hl, by omega, q9, q4, qo, fun _ => ⟨c1, fun j h1 h2 => co j (by omega) h2, fun i j h1 h2 h3 => hd i j (by omega) h2 h3⟩⟩, cw r qn, lw r qn⟩
    rw [q3] at z
    exact absurd z (by decide)
  · rw [if_neg (fun z => c1 (hlt ▸ z))]
    have un : ∀ i, i ≠ 3 → i ≠ 2 → i ≠ 5 → upd (upd (upd r 3 0) 2 0) 5 (r 5 + 1) i = r i := fun i a b d => by rw [upd_ne d, upd_ne b, upd_ne a]
    have u3 : upd (upd (upd r 3 0) 2 0) 5 (r 5 + 1) 3 = 0 := by rw [upd_ne (by omega), upd_ne (by omega), upd_eq]
    refine ⟨⟨b1, b2, by rw [un _ (by omega) (by omega) (by omega), q0], ⟨t, ht, by rw [un _ (by omega) (by omega) (by omega), q1]⟩, Or.inl u3, Or.inl (by rw [un _ (by omega) (by omega) (by omega), q8]), fun _ => ⟨0, by omega, ?_⟩⟩, ⟨len, pl + 1, o, hl, by omega, by rw [un _ (by omega) (by omega) (by omega), q9], by rw [un _ (by omega) (by omega) (by omega), q4], fun j hj => ⟨(qo j hj).1, by rw [un _ (by omega) (by omega) (by omega), (qo j hj).2]⟩, fun z => ?_⟩, cw _ (fun i hi => by rw [un _ (by omega) (by omega) (by omega), qn i hi]), lw _ (fun i hi => by rw [un _ (by omega) (by omega) (by omega), qn i hi])⟩
    · rw [upd_ne (by omega), upd_eq]
      rfl
    · rw [u3] at z
      exact absurd z (by decide)
theorem mon_over {g : Row} {mm B : Nat} (hm : mm ≤ 4) (h : MonW g mm B) : MonW (rOver (upd (upd g 8 0) 4 (g 4 + 1))) mm B := by
  have hn : ∀ i, 14 ≤ i → rOver (upd (upd g 8 0) 4 (g 4 + 1)) i = g i := fun i hi => by
    unfold rOver
    split
    · rw [upd_ne (by omega), upd_ne (by omega)]
    · rw [upd_ne (by omega), upd_ne (by omega), upd_ne (by omega), upd_ne (by omega), upd_ne (by omega)]
  exact mon_cash h (Nat.le_refl B) (fun c hc => hn _ (by omega)) fun p hp => by rw [hn _ (by omega)]; exact h.1 p hp
def earnA (g : Row) (mm c : Nat) (x : Int32) (pays : Bool) : Row := if pays then rPaid (upd g (40 + 7 * c) x) mm c x else rFall (rCPay (upd g (40 + 7 * c) x) c (-x)) c
theorem rEarn_eq {g : Row} {mm c : Nat} {x : Int32} {pays : Bool} : rEarn g mm c x pays = rOver (upd (upd (rUpkeep (earnA g mm c x pays) c) 8 0) 4 (rUpkeep (earnA g mm c x pays) c 4 + 1)) := by
  unfold rEarn earnA
  dsimp only
  rw [upd_ne (show 4 ≠ 8 by omega)]
theorem earnA_spec {g : Row} {mm c home S X B : Nat} {pays : Bool} (hm : mm ≤ 4) (hc : c < 4) (hw : CoW g mm) (ho : g (34 + 7 * c) = 1) (hco : CoOk g c home S) (hX : X ≤ 475) (hM : MonW g mm B) (hB : B ≤ 100000) : CoW (earnA g mm c (Int32.ofNat X) pays) mm ∧ MonW (earnA g mm c (Int32.ofNat X) pays) mm (B + 1) ∧ Fr c g (earnA g mm c (Int32.ofNat X) pays) ∧ CoOk (earnA g mm c (Int32.ofNat X) pays) c home S ∧ earnA g mm c (Int32.ofNat X) pays (34 + 7 * c) = 1 := by
  have w0 : CoW (upd g (40 + 7 * c) (Int32.ofNat X)) mm := fun d hd => Co1_congr (fun p hp => upd_ne (by omega)) (fun k a b => upd_ne (by omega)) (hw d hd)
  have m0 : MonW (upd g (40 + 7 * c) (Int32.ofNat X)) mm B := mon_cash hM (Nat.le_refl B) (fun d hd => upd_ne (by omega)) fun p hp => by rw [upd_ne (by omega)]; exact hM.1 p hp
  have o0 : upd g (40 + 7 * c) (Int32.ofNat X) (34 + 7 * c) = 1 := by rw [upd_ne (by omega), ho]
  unfold earnA
  cases pays with
  | true =>
    rw [if_pos rfl]
    obtain ⟨a, b, e⟩ := paid_spec hm hc w0 o0 hX m0 hB
    have hne : ∀ i, i ≠ 6 → ¬ (14 ≤ i ∧ i < 18) → i ≠ 37 + 7 * c → i ≠ 40 + 7 * c → rPaid (upd g (40 + 7 * c) (Int32.ofNat X)) mm c (Int32.ofNat X) i = g i := fun i p q r s => by rw [e i p q r, upd_ne s]
    exact ⟨a, b, Fr_of fun i hi => hne i (by omega) (by omega) (by omega) (by omega), CoOk_congr (hne _ (by omega) (by omega) (by omega) (by omega)) (hne _ (by omega) (by omega) (by omega) (by omega)) hco, by rw [hne _ (by omega) (by omega) (by omega) (by omega), ho]⟩
  | false =>
    rw [if_neg (by decide)]
    have hne : ∀ i, i ≠ 6 → i ≠ 36 + 7 * c → i ≠ 37 + 7 * c → i ≠ 40 + 7 * c → rFall (rCPay (upd g (40 + 7 * c) (Int32.ofNat X)) c (-Int32.ofNat X)) c i = g i := fun i p q r s => by rw [rFall_ne r, rCPay_ne q p, upd_ne s]
    refine ⟨fun d hd => ?_, ?_, Fr_of fun i hi => hne i (by omega) (by omega) (by omega) (by omega), CoOk_congr (hne _ (by omega) (by omega) (by omega) (by omega)) (hne _ (by omega) (by omega) (by omega) (by omega)) hco, by rw [hne _ (by omega) (by omega) (by omega) (by omega), ho]⟩
    · by_cases e : d = c
      · subst e
        have h0 := hw d hd
        exact ⟨ShOk_congr (fun p hp => hne _ (by omega) (by omega) (by omega) (by omega)) h0.1, PrOk_congr (hne _ (by omega) (by omega) (by omega) (by omega)) h0.2.1, StOk_fall (StOk_congr (g := g) (by rw [rCPay_ne (by omega) (by omega), upd_ne (by omega)]) h0.2.2.1), OpOk_open ho (hne _ (by omega) (by omega) (by omega) (by omega)) (hne _ (by omega) (by omega) (by omega) (by omega)) (hne _ (by omega) (by omega) (by omega) (by omega)) h0.2.2.2⟩
      · exact Co1_congr (fun p hp => hne _ (by omega) (by omega) (by omega) (by omega)) (fun k a b => hne _ (by omega) (by omega) (by omega) (by omega)) (hw d hd)
    · obtain ⟨y, hy1, hy2⟩ := hM.2
      refine mon_co (c := c) (v := y c + X) (y := y) hc (fun p hp => ?_) hy1 (fun d hd e => hne _ (by omega) (by omega) (by omega) (by omega)) ?_ (by omega)
      · obtain ⟨x, hx, ex⟩ := hM.1 p hp
        exact ⟨x, by omega, by rw [hne _ (by omega) (by omega) (by omega) (by omega), ex]⟩
      · rw [rFall_ne (by omega)]
        unfold rCPay
        rw [upd_ne (by omega), upd_eq, upd_ne (by omega), hy1 c hc, Int32.sub_neg, i32_addn]
theorem earn_wf {g : Row} {mm c home S X B : Nat} {pays : Bool} (h : WF g mm) (hM : MonW g mm B) (hB : B ≤ 100000) (h3 : g 3 = 1) (hc : c < 4) (hnc : nextC g = Int32.ofNat c) (hco : CoOk g c home S) (hX : X ≤ 475) (hz : ZW g) : WF (rEarn g mm c (Int32.ofNat X) pays) mm ∧ MonW (rEarn g mm c (Int32.ofNat X) pays) mm (B + 1) ∧ ZW (rEarn g mm c (Int32.ofNat X) pays) := by
  obtain ⟨hb, ⟨len, pl, o, hl, hpl, e9, e4, ho, hop⟩, hw, hL⟩ := h
  have hm := hb.2.1
  obtain ⟨hp, hopen, hdis⟩ := hop h3
  have hoc : o pl = c := by
    have h3n : ¬ g 3 = 0 := by rw [h3]; decide
    unfold nextC at hnc
    rw [if_neg h3n, e9, e4, if_neg (i32_ge hp (by omega)), nn_of (by omega), (ho pl hp).2, i32_eq_of (by have := (ho pl hp).1; omega) (by omega)] at hnc
    exact hnc
  have oc : g (34 + 7 * c) = 1 := by rw [← hoc]; exact hopen pl (Nat.le_refl _) hp
  obtain ⟨w1, m1, f1, c1, o1⟩ := earnA_spec (pays := pays) hm hc hw oc hco hX hM hB
  obtain ⟨w2, m2, f2, z2⟩ := upkeep_spec o1 hm hc c1 w1 m1 (by omega)
  have f := Fr_trans f1 f2
  rw [rEarn_eq]
  refine ⟨(over_wf hb h3 hl hp e9 ho hopen hdis hoc f (f.1 4 (by omega) (by omega) (by omega)) e4 w2 hL).1, mon_over hm m2, fun d hd => ?_⟩
  have hn : ∀ i, 14 ≤ i → rOver (upd (upd (rUpkeep (earnA g mm c (Int32.ofNat X) pays) c) 8 0) 4 (rUpkeep (earnA g mm c (Int32.ofNat X) pays) c 4 + 1)) i = rUpkeep (earnA g mm c (Int32.ofNat X) pays) c i := fun i hi => by
    unfold rOver
    split
    · rw [upd_ne (by omega), upd_ne (by omega)]
    · rw [upd_ne (by omega), upd_ne (by omega), upd_ne (by omega), upd_ne (by omega), upd_ne (by omega)]
  unfold ZC
  rw [hn _ (by omega), hn _ (by omega)]
  by_cases e : d = c
  · rw [e]
    exact z2
  · rw [(f.2.2 d hd e).1, (f.2.2 d hd e).2]
    exact hz d hd
def dead (mm len i : Nat) : Prop := (14 + mm ≤ i ∧ i < 18) ∨ (10 + len ≤ i ∧ i < 14)
theorem dead_ok {mm len : Nat} : DOk (dead mm len) mm := ⟨fun i h => by unfold dead at h; omega, fun p hp h => by unfold dead at h; omega⟩
def AgW (mm : Nat) (g m : Row) : Prop := ∃ len, len ≤ 4 ∧ g 9 = Int32.ofNat len ∧ AgD (dead mm len) g m
theorem AgW_of {mm len : Nat} {g m : Row} (hl : len ≤ 4) (h9 : g 9 = Int32.ofNat len) (h : AgD (dead mm len) g m) : AgW mm g m := ⟨len, hl, h9, h⟩
theorem BaseW_ag {mm : Nat} {g m : Row} (hA : AgW mm g m) (hb : BaseW g mm) : BaseW m mm := by
  obtain ⟨len, hl, h9, hA⟩ := hA
  exact BaseW_congr (fun k hk => (ag0 dead_ok hA (by omega) (by omega)).symm) hb
theorem CoW_ag {mm : Nat} {g m : Row} (hA : AgW mm g m) (hb : CoW g mm) : CoW m mm := by
  obtain ⟨len, hl, h9, hA⟩ := hA
  exact fun c hc => Co1_congr (fun p hp => (ag0 dead_ok hA (by omega) (by omega)).symm) (fun k h1 h2 => (ag0 dead_ok hA (by omega) (by omega)).symm) (hb c hc)
theorem LandW_ag {mm : Nat} {g m : Row} (hA : AgW mm g m) (hb : LandW g) : LandW m := by
  obtain ⟨len, hl, h9, hA⟩ := hA
  exact LandW_congr (fun k hk => (ag0 dead_ok hA (by omega) (by omega)).symm) hb
theorem OrdW_ag {mm : Nat} {g m : Row} (hA : AgW mm g m) (hb : OrdW g) : OrdW m := by
  obtain ⟨len, hl, h9, hA⟩ := hA
  obtain ⟨len', pl, o, h4, hpl, e9, e4, ho, hop⟩ := hb
  have e : len = len' := ofNat_inj (by omega) (by omega) (by rw [← h9, e9])
  subst e
  refine ⟨len, pl, o, h4, hpl, by rw [← ag0 dead_ok hA (by omega) (by omega), e9], by rw [← ag0 dead_ok hA (by omega) (by omega), e4], fun j hj => ⟨(ho j hj).1, by rw [← hA (10 + j) (by omega) (fun q => by unfold dead at q; omega), (ho j hj).2]⟩, fun h3 => ?_⟩
  rw [← ag0 dead_ok hA (by omega) (by omega)] at h3
  obtain ⟨q1, q2, q3⟩ := hop h3
  exact ⟨q1, fun j a b => by rw [← ag0 dead_ok hA (by have := (ho j b).1; omega) (by omega), q2 j a b], q3⟩
theorem WF_ag {mm : Nat} {g m : Row} (hA : AgW mm g m) (h : WF g mm) : WF m mm := ⟨BaseW_ag hA h.1, OrdW_ag hA h.2.1, CoW_ag hA h.2.2.1, LandW_ag hA h.2.2.2⟩
theorem MonW_ag {mm B : Nat} {g m : Row} (hm : mm ≤ 4) (hA : AgW mm g m) (h : MonW g mm B) : MonW m mm B := by
  obtain ⟨len, hl, h9, hA⟩ := hA
  exact mon_cash h (Nat.le_refl B) (fun c hc => (ag0 dead_ok hA (by omega) (by omega)).symm) fun p hp => by rw [← ag14 dead_ok hA hp hm]; exact h.1 p hp
theorem mOrd_spec {op : Nat → Bool} {st : Nat → Nat} {len : Nat} {m r : Row} (hi : OrdInv op st 4 len r) : mOrd op st m 9 = Int32.ofNat len ∧ ∀ j, j < len → mOrd op st m (10 + j) = r (10 + j) := by
  obtain ⟨h1, h2, h3, h4, h5, h6⟩ := hi
  have cnt : sumTo 4 (fun d => if op d = true then 1 else 0) = len := by
    rw [← h4 len (Nat.le_refl _)]
    refine sumTo_congr 4 fun d hd => ?_
    by_cases o : op d = true
    · rw [if_pos o, if_pos ⟨o, (h3 d hd o).1⟩]
    · rw [if_neg o, if_neg (fun q => o q.1)]
  unfold mOrd
  have key := zseq_ok (N := 4) (P := fun k (x : Row) => x 9 = Int32.ofNat (sumTo k (fun d => if op d = true then 1 else 0)) ∧ ∀ c, c < k → op c = true → x (10 + placeN op st 4 c) = Int32.ofNat c) (step := mOrdStep op st) (s := rFill (fun k => 10 + k) 0 4 (upd m 9 0)) ⟨by rw [rFill_ne (fun j hj => by omega), upd_eq]; rfl, fun c hc => by omega⟩ (fun k x hk hx => by
    obtain ⟨x1, x2⟩ := hx
    unfold mOrdStep
    show (if op k = true then _ else x) 9 = Int32.ofNat (sumTo k (fun d => if op d = true then 1 else 0) + if op k = true then 1 else 0) ∧ ∀ c, c < k + 1 → op c = true → (if op k = true then upd (upd x (10 + placeN op st 4 k) (Int32.ofNat k)) 9 (x 9 + 1) else x) (10 + placeN op st 4 c) = Int32.ofNat c
    by_cases o : op k = true
    · rw [if_pos o, if_pos o]
      refine ⟨by rw [upd_eq, x1, i32_succ], fun c hc oc => ?_⟩
      rw [upd_ne (by omega)]
      by_cases e : c = k
      · rw [e, upd_eq]
      · have a := (h3 c (by omega) oc).2
        have b := (h3 k hk o).2
        rw [upd_ne (fun q => ?_), x2 c (by omega) oc]
        have q' : placeN op st 4 c = placeN op st 4 k := by omega
        rw [q', b, i32_eq_of (by omega) (by omega)] at a
        exact e a.symm
    · rw [if_neg o, if_neg o]
      refine ⟨x1, fun c hc oc => ?_⟩
      refine x2 c ?_ oc
      rcases Nat.lt_or_ge c k with q | q
      · exact q
      · rw [show c = k by omega] at oc
        exact absurd oc o) 4 (Nat.le_refl 4)
  refine ⟨by rw [key.1, cnt], fun j hj => ?_⟩
  obtain ⟨c, hc, oc, ec⟩ := h6 j hj
  rw [← ec, key.2 c hc oc, (h3 c hc oc).2]
theorem row_ops {g : Row} {mm : Nat} (hw : CoW g mm) : ∃ (op : Nat → Bool) (st : Nat → Nat), (∀ c, c < 4 → (op c = true ∧ g (34 + 7 * c) = 1) ∨ (op c = false ∧ g (34 + 7 * c) = 0)) ∧ ∀ c, c < 4 → g (37 + 7 * c) = Int32.ofNat (st c) ∧ st c ≤ 11 := by
  have hs : ∀ c, ∃ s : Nat, c < 4 → g (37 + 7 * c) = Int32.ofNat s ∧ s ≤ 11 := fun c => by
    by_cases hc : c < 4
    · obtain ⟨s, a, b⟩ := (hw c hc).2.2.1
      exact ⟨s, fun _ => ⟨b, a⟩⟩
    · exact ⟨0, fun q => absurd q hc⟩
  refine ⟨fun c => decide (g (34 + 7 * c) = 1), fun c => Classical.choose (hs c), fun c hc => ?_, fun c hc => Classical.choose_spec (hs c) hc⟩
  rcases (hw c hc).2.2.2 with ⟨a, _⟩ | ⟨a, _⟩
  · exact Or.inl ⟨decide_eq_true a, a⟩
  · exact Or.inr ⟨decide_eq_false (by rw [a]; decide), a⟩
theorem pass_all {g m : Row} {mm : Nat} {op : Nat → Bool} {st : Nat → Nat} (h : WF g mm) (h3 : g 3 = 0) (hA : AgW mm g m) (hop : ∀ c, c < 4 → (op c = true ∧ g (34 + 7 * c) = 1) ∨ (op c = false ∧ g (34 + 7 * c) = 0)) (hst : ∀ c, c < 4 → g (37 + 7 * c) = Int32.ofNat (st c) ∧ st c ≤ 11) : WF (rPass g) mm ∧ AgW mm (rPass g) (mPass op st m) ∧ ∀ i, 14 ≤ i → rPass g i = g i := by
  obtain ⟨hb, ho, hw, hL⟩ := h
  obtain ⟨b1, b2, b3, ⟨t, ht, b4⟩, b5, b6, b7⟩ := hb
  obtain ⟨p, hp, e2⟩ := b7 h3
  obtain ⟨len0, hl0, h90, hA0⟩ := hA
  have m2 : m 2 = Int32.ofNat p := by rw [← ag0 dead_ok hA0 (by omega) (by omega), e2]
  have m0 : m 0 = Int32.ofNat mm := by rw [← ag0 dead_ok hA0 (by omega) (by omega), b3]
  have nt : nextT m = nextT g := by
    unfold nextT
    rw [ag0 dead_ok hA0 (show 0 < 134 by omega) (by omega), ag0 dead_ok hA0 (show 1 < 134 by omega) (by omega)]
  have ntn : ∃ t', t' < mm ∧ nextT g = Int32.ofNat t' := by
    unfold nextT
    rw [b3, b4, i32_succ]
    split
    · exact ⟨0, by omega, rfl⟩
    · rename_i q
      rw [i32_le_of (by omega) (by omega)] at q
      exact ⟨t + 1, by omega, rfl⟩
  obtain ⟨t', ht', et'⟩ := ntn
  unfold rPass mPass
  rw [e2, b3, m2, m0, i32_succ, nt]
  have c1 : (Int32.ofNat (p + 1) < Int32.ofNat mm) = (p + 1 < mm) := i32_lt_of (by omega) (by omega)
  have c2 : (Int32.ofNat (p + 1) = Int32.ofNat mm) = (p + 1 = mm) := i32_eq_of (by omega) (by omega)
  dsimp only
  by_cases c : p + 1 < mm
  · rw [if_pos (c1 ▸ c), if_neg (fun q => by rw [c2] at q; omega), upd_comm (g := m) (by omega)]
    have ne : ∀ i, i ≠ 1 → i ≠ 2 → upd (upd g 2 (Int32.ofNat (p + 1))) 1 (nextT g) i = g i := fun i a b => by rw [upd_ne a, upd_ne b]
    refine ⟨⟨⟨b1, b2, by rw [ne _ (by omega) (by omega), b3], ⟨t', ht', by rw [upd_eq, et']⟩, by rw [ne _ (by omega) (by omega)]; exact b5, by rw [ne _ (by omega) (by omega)]; exact b6, fun _ => ⟨p + 1, c, by rw [upd_ne (by omega), upd_eq]⟩⟩, OrdW_congr (fun k hk => ne _ (by omega) (by omega)) (fun d hd => ne _ (by omega) (by omega)) ho, fun d hd => Co1_congr (fun q hq => ne _ (by omega) (by omega)) (fun k a b => ne _ (by omega) (by omega)) (hw d hd), LandW_congr (fun k hk => ne _ (by omega) (by omega)) hL⟩, AgW_of hl0 (by rw [ne _ (by omega) (by omega), h90]) (ag_upd (ag_upd hA0 rfl) rfl), fun i hi => ne i (by omega) (by omega)⟩
  · rw [if_neg (fun q => c (c1 ▸ q)), if_pos (by rw [c2]; omega)]
    unfold rBegOp
    have g2n : ∀ i, i ≠ 1 → i ≠ 2 → i ≠ 3 → i ≠ 4 → i ≠ 8 → i ≠ 9 → upd (upd (upd (upd (upd (upd g 2 (Int32.ofNat (p + 1))) 1 (nextT g)) 3 1) 8 0) 4 0) 9 0 i = g i := fun i a1 a2 a3 a4 a8 a9 => by rw [upd_ne a9, upd_ne a4, upd_ne a8, upd_ne a3, upd_ne a1, upd_ne a2]
    have g2_1 : upd (upd (upd (upd (upd (upd g 2 (Int32.ofNat (p + 1))) 1 (nextT g)) 3 1) 8 0) 4 0) 9 0 1 = nextT g := by rw [upd_ne (by omega), upd_ne (by omega), upd_ne (by omega), upd_ne (by omega), upd_eq]
    have g2_2 : upd (upd (upd (upd (upd (upd g 2 (Int32.ofNat (p + 1))) 1 (nextT g)) 3 1) 8 0) 4 0) 9 0 2 = Int32.ofNat (p + 1) := by rw [upd_ne (by omega), upd_ne (by omega), upd_ne (by omega), upd_ne (by omega), upd_ne (by omega), upd_eq]
    have g2_3 : upd (upd (upd (upd (upd (upd g 2 (Int32.ofNat (p + 1))) 1 (nextT g)) 3 1) 8 0) 4 0) 9 0 3 = 1 := by rw [upd_ne (by omega), upd_ne (by omega), upd_ne (by omega), upd_eq]
    have g2_4 : upd (upd (upd (upd (upd (upd g 2 (Int32.ofNat (p + 1))) 1 (nextT g)) 3 1) 8 0) 4 0) 9 0 4 = Int32.ofNat 0 := by rw [upd_ne (by omega), upd_eq]; rfl
    have g2_8 : upd (upd (upd (upd (upd (upd g 2 (Int32.ofNat (p + 1))) 1 (nextT g)) 3 1) 8 0) 4 0) 9 0 8 = 0 := by rw [upd_ne (by omega), upd_ne (by omega), upd_eq]
    have g2_9 : upd (upd (upd (upd (upd (upd g 2 (Int32.ofNat (p + 1))) 1 (nextT g)) 3 1) 8 0) 4 0) 9 0 9 = 0 := upd_eq
    generalize upd (upd (upd (upd (upd (upd g 2 (Int32.ofNat (p + 1))) 1 (nextT g)) 3 1) 8 0) 4 0) 9 0 = g2 at g2n g2_1 g2_2 g2_3 g2_4 g2_8 g2_9 ⊢
    obtain ⟨⟨len, hinv⟩, hfr⟩ := rOrder_inv (g := g2) (op := op) (st := st) g2_9 (fun c hc => by
      rw [g2n _ (by omega) (by omega) (by omega) (by omega) (by omega) (by omega)]
      rcases hop c hc with ⟨a, b⟩ | ⟨a, b⟩
      · rw [a, b]
        exact ⟨fun q => absurd q (by decide), fun q => absurd q (by decide)⟩
      · rw [a, b]
        exact ⟨fun _ => rfl, fun _ => rfl⟩) (fun c hc => by
      rw [g2n _ (by omega) (by omega) (by omega) (by omega) (by omega) (by omega)]
      exact ⟨(hst c hc).1, by have := (hst c hc).2; omega⟩)
    obtain ⟨i1, i2, i3, i4, i5, i6⟩ := hinv
    have ms := mOrd_spec (m := upd (upd (upd (upd m 1 (nextT g)) 2 (Int32.ofNat (p + 1))) 3 1) 4 0) ⟨i1, i2, i3, i4, i5, i6⟩
    have mne : ∀ i, i ≠ 9 → i < 10 ∨ 14 ≤ i → mOrd op st (upd (upd (upd (upd m 1 (nextT g)) 2 (Int32.ofNat (p + 1))) 3 1) 4 0) i = upd (upd (upd (upd m 1 (nextT g)) 2 (Int32.ofNat (p + 1))) 3 1) 4 0 i := fun i a b => by
      unfold mOrd
      exact mOrd_ne (by omega) a b
    have hAg : AgD (dead mm len) (rOrder g2) (upd (mOrd op st (upd (upd (upd (upd m 1 (nextT g)) 2 (Int32.ofNat (p + 1))) 3 1) 4 0)) 8 0) := by
      intro i hi hd
      by_cases q9 : i = 9
      · subst q9
        rw [upd_ne (by omega), i1, ms.1]
      · by_cases qo : 10 ≤ i ∧ i < 14
        · obtain ⟨j, rfl⟩ : ∃ j, i = 10 + j := ⟨i - 10, by omega⟩
          rw [upd_ne (by omega), ms.2 j (by unfold dead at hd; omega)]
        · rw [hfr i q9 (by omega)]
          by_cases q8 : i = 8
          · rw [q8, upd_eq, g2_8]
          · rw [upd_ne q8, mne i q9 (by omega)]
            by_cases q4 : i = 4
            · rw [q4, upd_eq, g2_4]; rfl
            · rw [upd_ne q4]
              by_cases q3 : i = 3
              · rw [q3, upd_eq, g2_3]
              · rw [upd_ne q3]
                by_cases q2 : i = 2
                · rw [q2, upd_eq, g2_2]
                · rw [upd_ne q2]
                  by_cases q1 : i = 1
                  · rw [q1, upd_eq, g2_1]
                  · rw [upd_ne q1, g2n i q1 q2 q3 q4 q8 q9]
                    exact hA0 i hi fun q => hd (by unfold dead at q ⊢; omega)
    have hov := ag_rOver dead_ok hAg
    have r0 := hfr 0 (by omega) (by omega)
    rw [g2n _ (by omega) (by omega) (by omega) (by omega) (by omega) (by omega), b3] at r0
    have r1 := hfr 1 (by omega) (by omega)
    rw [g2_1, et'] at r1
    have r3 := hfr 3 (by omega) (by omega)
    rw [g2_3] at r3
    have r4 := hfr 4 (by omega) (by omega)
    rw [g2_4] at r4
    have r8 := hfr 8 (by omega) (by omega)
    rw [g2_8] at r8
    have rn : ∀ i, 14 ≤ i → rOrder g2 i = g i := fun i hi => by rw [hfr i (by omega) (by omega), g2n i (by omega) (by omega) (by omega) (by omega) (by omega) (by omega)]
    have hcho : ∃ o : Nat → Nat, ∀ j, j < len → o j < 4 ∧ op (o j) = true ∧ placeN op st 4 (o j) = j := by
      have : ∀ j, ∃ c, j < len → c < 4 ∧ op c = true ∧ placeN op st 4 c = j := fun j => by
        by_cases q : j < len
        · obtain ⟨c, a, b, d⟩ := i6 j q
          exact ⟨c, fun _ => ⟨a, b, d⟩⟩
        · exact ⟨0, fun x => absurd x q⟩
      exact ⟨fun j => Classical.choose (this j), fun j hj => Classical.choose_spec (this j) hj⟩
    obtain ⟨o, hoj⟩ := hcho
    have ro : ∀ j, j < len → o j < 4 ∧ rOrder g2 (10 + j) = Int32.ofNat (o j) := fun j hj => by
      obtain ⟨a, b, d⟩ := hoj j hj
      have e := (i3 (o j) a b).2
      rw [d] at e
      exact ⟨a, e⟩
    have oo : ∀ j, j < len → g (34 + 7 * o j) = 1 := fun j hj => by
      obtain ⟨a, b, d⟩ := hoj j hj
      rcases hop (o j) a with ⟨_, q⟩ | ⟨q, _⟩
      · exact q
      · rw [b] at q
        exact absurd q (by decide)
    have od : ∀ i j, i < j → j < len → o i ≠ o j := fun i j h1 h2 q => by
      have a := (hoj i (by omega)).2.2
      have b := (hoj j h2).2.2
      rw [q, b] at a
      omega
    generalize rOrder g2 = r at i1 hov r0 r1 r3 r4 r8 rn ro ⊢
    have cw : ∀ x : Row, (∀ i, 14 ≤ i → x i = r i) → CoW x mm := fun x hx d hd => Co1_congr (fun p hp => by rw [hx _ (by omega), rn _ (by omega)]) (fun k h1 h2 => by rw [hx _ (by omega), rn _ (by omega)]) (hw d hd)
    have lw : ∀ x : Row, (∀ i, 14 ≤ i → x i = r i) → LandW x := fun x hx => LandW_congr (fun k hk => by rw [hx k (by omega), rn k (by omega)]) hL
    have hlt : (r 4 < r 9) = (0 < len) := by rw [r4, i1]; exact i32_lt_of (by omega) (by omega)
    have un : ∀ i, i ≠ 3 → i ≠ 2 → i ≠ 5 → upd (upd (upd r 3 0) 2 0) 5 (r 5 + 1) i = r i := fun i a b d => by rw [upd_ne d, upd_ne b, upd_ne a]
    have hov9 : rOver r 9 = Int32.ofNat len := by
      unfold rOver
      split
      · exact i1
      · rw [un _ (by omega) (by omega) (by omega), i1]
    refine ⟨?_, AgW_of i2 hov9 hov, fun i hi => ?_⟩
    · unfold rOver
      by_cases cl : 0 < len
      · rw [if_pos (hlt ▸ cl)]
        refine ⟨⟨b1, b2, r0, ⟨t', ht', r1⟩, Or.inr r3, Or.inl r8, fun z => ?_⟩, ⟨len, 0, o, i2, by omega, i1, r4, ro, fun _ => ⟨cl, fun j _ hj => by rw [rn _ (by omega)]; exact oo j hj, fun i j _ h1 h2 => od i j h1 h2⟩⟩, cw r fun _ _ => rfl, lw r fun _ _ => rfl⟩
        rw [r3] at z
        exact absurd z (by decide)
      · rw [if_neg (fun z => cl (hlt ▸ z))]
        have u3 : upd (upd (upd r 3 0) 2 0) 5 (r 5 + 1) 3 = 0 := by rw [upd_ne (by omega), upd_ne (by omega), upd_eq]
        refine ⟨⟨b1, b2, by rw [un _ (by omega) (by omega) (by omega), r0], ⟨t', ht', by rw [un _ (by omega) (by omega) (by omega), r1]⟩, Or.inl u3, Or.inl (by rw [un _ (by omega) (by omega) (by omega), r8]), fun _ => ⟨0, by omega, ?_⟩⟩, ⟨len, 0, o, i2, by omega, by rw [un _ (by omega) (by omega) (by omega), i1], by rw [un _ (by omega) (by omega) (by omega), r4], fun j hj => ⟨(ro j hj).1, by rw [un _ (by omega) (by omega) (by omega), (ro j hj).2]⟩, fun z => ?_⟩, cw _ (fun i hi => un _ (by omega) (by omega) (by omega)), lw _ (fun i hi => un _ (by omega) (by omega) (by omega))⟩
        · rw [upd_ne (by omega), upd_eq]
          rfl
        · rw [u3] at z
          exact absurd z (by decide)
    · unfold rOver
      split
      · exact rn i hi
      · rw [un _ (by omega) (by omega) (by omega), rn i hi]
theorem track_wf {g : Row} {mm c home i j B : Nat} (h : WF g mm) (hM : MonW g mm B) (hc : c < 4) (hi : i < 8) (hj : j < 8) (hB : B ≤ 100000) (hlay : layB g c home i j = true) : WF (rTrack g c i j) mm ∧ MonW (rTrack g c i j) mm B := by
  obtain ⟨hb, ho, hw, l1, l2, l3, l4⟩ := h
  obtain ⟨q1, q2, q3, _⟩ := of_decide_eq_true (show decide _ = true from hlay)
  obtain ⟨l, hl, el⟩ := l2 i j hi hj
  have hl1 : l ≤ 1 := by
    refine Nat.le_of_not_lt fun q => q2 ?_
    rw [el, show l = 2 by omega]
    decide
  have ne : ∀ k, k ≠ 6 → k ≠ 36 + 7 * c → k < 62 ∨ 126 ≤ k → rTrack g c i j k = g k := fun k a b d => by
    unfold rTrack
    rw [rCPay_ne b a, rLev_ne hi hj d]
  have lev : ∀ k, 62 ≤ k → rTrack g c i j k = rLev g i j (Int32.ofNat (l + 1)) k := fun k hk => by
    unfold rTrack
    rw [rCPay_ne (by omega) (by omega), el, i32_succ]
  refine ⟨⟨BaseW_congr (fun k hk => ne k (by omega) (by omega) (by omega)) hb, OrdW_congr (fun k hk => ne k (by omega) (by omega) (by omega)) (fun d hd => ne _ (by omega) (by omega) (by omega)) ho, fun d hd => Co1_congr (fun p hp => ne _ (by omega) (by omega) (by omega)) (fun k a b => ne _ (by omega) (by omega) (by omega)) (hw d hd), ?_⟩, ?_⟩
  · refine ⟨fun a b ha hb => by rw [lev _ (by omega), lev _ (by omega)]; exact rLev_sym l1 hi hj a b ha hb, fun a b ha hb => ?_, fun a ha => ?_, fun t ht => by rw [ne _ (by omega) (by omega) (by omega)]; exact l4 t ht⟩
    · rw [lev _ (by omega)]
      unfold rLev upd
      split
      · exact ⟨l + 1, by omega, rfl⟩
      · split
        · exact ⟨l + 1, by omega, rfl⟩
        · exact l2 a b ha hb
    · rw [lev _ (by omega)]
      unfold rLev
      rw [upd_ne (by omega), upd_ne (by omega), l3 a ha]
  · obtain ⟨y, hy1, hy2⟩ := hM.2
    have hyc := mon_y hc hy2
    have e20 : (20 : Int32) * (g (62 + 8 * i + j) + 1) = Int32.ofNat (20 * (l + 1)) := by rw [el, i32_succ, show (20 : Int32) = Int32.ofNat 20 from rfl, i32_mulm]
    rw [e20, hy1 c hc, i32_le_b (by omega) (by omega)] at q3
    refine mon_co (c := c) (v := y c - 20 * (l + 1)) (y := y) hc (fun p hp => by rw [ne _ (by have := hb.2.1; omega) (by have := hb.2.1; omega) (by have := hb.2.1; omega)]; exact hM.1 p hp) hy1 (fun d hd e => ne _ (by omega) (by omega) (by omega)) ?_ (by omega)
    unfold rTrack rCPay
    rw [upd_ne (by omega), upd_eq, rLev_ne hi hj (by omega), e20, hy1 c hc, i32_subm q3]
def cBuy (g : Row) (t c : Nat) : Prop := g 3 = 0 ∧ ¬ g (34 + 7 * c) = 0 ∧ ¬ bank (fun p => g (18 + 4 * p + c)) ≤ 0 ∧ ¬ 6 ≤ g (18 + 4 * t + c) ∧ ¬ g (14 + t) < 20 + 10 * g (37 + 7 * c)
def cSell (g : Row) (t c : Nat) (s : Int32) : Prop := g 3 = 0 ∧ ¬ g (34 + 7 * c) = 0 ∧ ¬ g (18 + 4 * t + c) < s
def cMerge (g : Row) (x y : Nat) : Prop := g 3 = 0 ∧ ¬ g (34 + 7 * x) = 0 ∧ ¬ g (34 + 7 * y) = 0 ∧ g (39 + 7 * x) = g 1 ∧ g (39 + 7 * y) = g 1 ∧ ¬ bank (fun p => g (18 + 4 * p + x)) < exch (fun p => g (18 + 4 * p + y))
theorem op_one {m : Row} {mm c : Nat} (hw : CoW m mm) (hc : c < 4) : (if m (34 + 7 * c) = 1 then (1 : Int32) else 0) = if m (34 + 7 * c) = 0 then 0 else 1 := by
  rcases (hw c hc).2.2.2 with ⟨a, _⟩ | ⟨a, _⟩
  · rw [a, if_pos rfl, if_neg (by decide)]
  · rw [a, if_neg (by decide), if_pos rfl]
theorem rFall_upd {g : Row} {c i : Nat} {v : Int32} (h : i ≠ 37 + 7 * c) : rFall (upd g i v) c = upd (rFall g c) i v := by
  unfold rFall
  rw [upd_ne (show 37 + 7 * c ≠ i by omega)]
  split
  · rfl
  · rw [upd_comm h]
theorem rRise_upd {g : Row} {c i : Nat} {v : Int32} (h : i ≠ 37 + 7 * c) : rRise (upd g i v) c = upd (rRise g c) i v := by
  unfold rRise
  rw [upd_ne (show 37 + 7 * c ≠ i by omega)]
  split
  · rfl
  · rw [upd_comm h]
theorem rCPay_upd {g : Row} {c i : Nat} {v x : Int32} (h : i ≠ 36 + 7 * c) (h6 : i ≠ 6) : rCPay (upd g i v) c x = upd (rCPay g c x) i v := by
  unfold rCPay
  rw [upd_ne (show 36 + 7 * c ≠ i by omega), upd_ne (show 6 ≠ i by omega), upd_comm h, upd_comm h6]
theorem rPay_upd {g : Row} {p i : Nat} {v x : Int32} (h : i ≠ 14 + p) (h6 : i ≠ 6) : rPay (upd g i v) p x = upd (rPay g p x) i v := by
  unfold rPay
  rw [upd_ne (show 14 + p ≠ i by omega), upd_ne (show 6 ≠ i by omega), upd_comm h, upd_comm h6]
theorem rOut_upd {g : Row} {mm c i : Nat} {v x : Int32} (h : 34 ≤ i) (hc : c < 4) (hm : mm ≤ 4) : rOut (upd g i v) mm c x = upd (rOut g mm c x) i v := by
  unfold rOut
  have : ∀ k, k ≤ mm → zseq (fun p g => rPay g p (-(g (18 + 4 * p + c) * (x / 10)))) (upd g i v) k = upd (zseq (fun p g => rPay g p (-(g (18 + 4 * p + c) * (x / 10)))) g k) i v := by
    intro k
    induction k with
    | zero => intro _; rfl
    | succ k ih =>
      intro hk
      show rPay (zseq (fun p g => rPay g p (-(g (18 + 4 * p + c) * (x / 10)))) (upd g i v) k) k (-((zseq (fun p g => rPay g p (-(g (18 + 4 * p + c) * (x / 10)))) (upd g i v) k) (18 + 4 * k + c) * (x / 10))) = upd (rPay (zseq (fun p g => rPay g p (-(g (18 + 4 * p + c) * (x / 10)))) g k) k (-((zseq (fun p g => rPay g p (-(g (18 + 4 * p + c) * (x / 10)))) g k) (18 + 4 * k + c) * (x / 10)))) i v
      rw [ih (by omega), upd_ne (show 18 + 4 * k + c ≠ i by omega), rPay_upd (by omega) (by omega)]
  exact this mm (Nat.le_refl mm)
theorem ofNat_ne_neg {k : Nat} (hk : k < 599) : ¬ Int32.ofNat k = -1 := by
  intro q
  have := in_of (show k < k + 1 by omega) (show k + 1 < 600 by omega)
  rw [q] at this
  exact this (Or.inl (by decide))
theorem nextC_congr {g m : Row} (h3 : m 3 = g 3) (h9 : m 9 = g 9) (h4 : m 4 = g 4) (ho : ∀ i, i < 4 → m (10 + i) = g (10 + i)) (hp : ∃ pl, pl < 4 ∧ g 4 = Int32.ofNat pl) : nextC m = nextC g := by
  obtain ⟨pl, h, e⟩ := hp
  unfold nextC
  rw [h3, h9, h4, e, nn_of (by omega), ho pl h]
theorem rClose_z {g : Row} {c d : Nat} (hd : d < 7) (h5 : d ≠ 5) : rClose g c (34 + d + 7 * c) = 0 := by
  unfold rClose
  obtain rfl | rfl | rfl | rfl | rfl | rfl : d = 0 ∨ d = 1 ∨ d = 2 ∨ d = 3 ∨ d = 4 ∨ d = 6 := by omega
  all_goals simp [upd]
theorem rReset0_z {g : Row} : ∀ c d, c < 4 → d < 7 → d ≠ 5 → rReset0 g (34 + d + 7 * c) = 0 := by
  unfold rReset0
  have key := zseq_ok (N := 4) (P := fun k (r : Row) => ∀ c d, c < k → d < 7 → d ≠ 5 → r (34 + d + 7 * c) = 0) (step := fun k g => upd (rClose g k) (10 + k) 0) (s := g) (fun c d hc => by omega) (fun k r hk hr c d hc hd h5 => by
    show upd (rClose r k) (10 + k) 0 (34 + d + 7 * c) = 0
    rw [upd_ne (by omega)]
    by_cases e : c = k
    · rw [e]
      exact rClose_z hd h5
    · rw [rClose_ne (by omega) (fun p hp => by omega)]
      exact hr c d (by omega) hd h5) 4 (Nat.le_refl 4)
  exact key
def MonZ (g : Row) (mm B : Nat) : Prop := MonW g mm B ∧ ZW g
theorem monz_mono {g : Row} {mm B B' : Nat} (h : MonZ g mm B) (hB : B ≤ B') : MonZ g mm B' := ⟨mon_mono h.1 hB, h.2⟩
theorem zw_congr {g g' : Row} (h : ZW g) (h1 : ∀ c, c < 4 → g' (34 + 7 * c) = g (34 + 7 * c)) (h2 : ∀ c, c < 4 → g' (36 + 7 * c) = g (36 + 7 * c)) : ZW g' := fun c hc q => by
  rw [h1 c hc] at q
  rw [h2 c hc]
  exact h c hc q
theorem zw_one {g g' : Row} {x : Nat} (h : ZW g) (hx : ZC x g') (h1 : ∀ c, c < 4 → c ≠ x → g' (34 + 7 * c) = g (34 + 7 * c)) (h2 : ∀ c, c < 4 → c ≠ x → g' (36 + 7 * c) = g (36 + 7 * c)) : ZW g' := fun c hc => by
  by_cases e : c = x
  · rw [e]
    exact hx
  · intro q
    rw [h1 c hc e] at q
    rw [h2 c hc e]
    exact h c hc q
theorem zw_buy {g : Row} {t c : Nat} (e1 : g 1 = Int32.ofNat t) (ht : t < 4) (hc : c < 4) (h : ZW g) : ZW (rBuy g c) := by
  rw [rBuy_eq e1 ht]
  exact zw_congr h (fun d hd => by rw [rEnd_ne (by omega) (by omega), buyC_ne (by omega) (by omega) (by omega) (by omega)]) (fun d hd => by rw [rEnd_ne (by omega) (by omega), buyC_ne (by omega) (by omega) (by omega) (by omega)])
theorem zw_sell {g : Row} {t c : Nat} {s : Int32} (ht : t < 4) (hc : c < 4) (h : ZW g) : ZW (rSell g t c s) := zw_congr h (fun d hd => rSell_ne (by omega) (by omega) (by omega) (by omega) (by omega)) (fun d hd => rSell_ne (by omega) (by omega) (by omega) (by omega) (by omega))
theorem zw_14 {g g' : Row} (h : ZW g) (hn : ∀ i, 14 ≤ i → g' i = g i) : ZW g' := zw_congr h (fun c hc => hn _ (by omega)) (fun c hc => hn _ (by omega))
theorem zw_town {g : Row} {t : Nat} {v : Int32} (h : ZW g) : ZW (upd g (126 + t) v) := zw_congr h (fun c hc => upd_ne (by omega)) (fun c hc => upd_ne (by omega))
theorem zw_reset {g : Row} {m : Int32} : ZW (rReset g m) := fun c hc _ => by
  rw [(rReset_at (g := g) (m := m)).2.2.2 _ (by omega), ((rReset0_at (g := rClear g)).1 c hc).2.1]
theorem zw_start {g : Row} {t c home st : Nat} (e1 : g 1 = Int32.ofNat t) (ht : t < 4) (hc : c < 4) (h : ZW g) : ZW (rStart g c (Int32.ofNat home) (Int32.ofNat st)) := by
  rw [rStart_eq e1 ht]
  refine zw_one (x := c) h (ZC_open ?_) (fun d hd e => by rw [rEnd_ne (by omega) (by omega), startD_ne (by omega) (by omega) (by omega) (by omega)]) (fun d hd e => by rw [rEnd_ne (by omega) (by omega), startD_ne (by omega) (by omega) (by omega) (by omega)])
  rw [rEnd_ne (by omega) (by omega)]
  unfold startD startC
  rw [upd_ne (by omega), upd_ne (by omega), rPres_ne (by omega), upd_ne (by omega), rPay_ne (by omega) (by omega), rOpen_at.1]
theorem zw_ext {g : Row} {c : Nat} (ho : g (34 + 7 * c) = 1) (hc : c < 4) (h : ZW g) : ZW (extC g c) := zw_one (x := c) h (ZC_open (by rw [extC_ne (by omega) (by omega) (by omega) (by omega), ho])) (fun d hd e => extC_ne (by omega) (by omega) (by omega) (by omega)) (fun d hd e => extC_ne (by omega) (by omega) (by omega) (by omega))
theorem zw_track {g : Row} {c i j : Nat} (ho : g (34 + 7 * c) = 1) (hc : c < 4) (hi : i < 8) (hj : j < 8) (h : ZW g) : ZW (rTrack g c i j) := by
  have ne : ∀ k, k ≠ 6 → k ≠ 36 + 7 * c → k < 62 → rTrack g c i j k = g k := fun k a b d => by
    unfold rTrack
    rw [rCPay_ne b a, rLev_ne hi hj (Or.inl d)]
  exact zw_one (x := c) h (ZC_open (by rw [ne _ (by omega) (by omega) (by omega), ho])) (fun d hd e => ne _ (by omega) (by omega) (by omega)) (fun d hd e => ne _ (by omega) (by omega) (by omega))
theorem zw_merge {g : Row} {mm x y : Nat} (hm : mm ≤ 4) (hx : x < 4) (hy : y < 4) (hxy : x ≠ y) (ox : g (34 + 7 * x) = 1) (h : ZW g) : ZW (rMerge g mm x y) := by
  rw [rMerge_eq]
  have a2 : ∀ i, 34 ≤ i → mergeA g mm x y i = g i := by
    intro i hi
    unfold mergeA
    exact zseq_lt (P := fun r : Row => r i = g i) (N := mm) rfl (fun k s hk hs => by rw [mstep_ne (Or.inr hi) (by omega) (by omega) hx, hs]) mm (Nat.le_refl mm)
  have hcl := rClose_at (g := upd (mergeA g mm x y) (36 + 7 * x) (mergeA g mm x y (36 + 7 * x) + mergeA g mm x y (36 + 7 * y))) hy
  have e : ∀ i, 34 ≤ i → ¬ (34 + 7 * y ≤ i ∧ i < 41 + 7 * y) → i ≠ 36 + 7 * x → i ≠ 39 + 7 * x → rEnd (mergeC g mm x y) i = g i := fun i h0 h3 h4 h5 => by
    rw [rEnd_ne (by omega) (by omega)]
    unfold mergeC
    rw [rPres_ne h5, rClose_ne h3 (fun p hp => by omega), upd_ne h4, a2 i h0]
  intro c hc
  by_cases c1 : c = y
  · subst c1
    intro _
    rw [rEnd_ne (by omega) (by omega)]
    unfold mergeC
    rw [rPres_ne (by omega), hcl.2.1]
  · by_cases c2 : c = x
    · subst c2
      exact ZC_open (by rw [e _ (by omega) (by omega) (by omega) (by omega), ox])
    · intro q
      rw [e _ (by omega) (by omega) (by omega) (by omega)] at q
      rw [e _ (by omega) (by omega) (by omega) (by omega)]
      exact h c hc q
theorem pushK_le {k : Nat} (h : k ≤ 4) : pushK k ≤ 4 := by
  unfold pushK
  split <;> omega
theorem AgW_congr {mm : Nat} {g m m' : Row} (h : AgW mm g m) (e : ∀ j, j < 134 → m' j = m j) : AgW mm g m' := by
  obtain ⟨len, a, b, c⟩ := h
  exact ⟨len, a, b, fun i hi hd => by rw [c i hi hd, e i hi]⟩
theorem WF_bools {g : Row} {mm : Nat} (h : WF g mm) : Bools g := ⟨h.1.2.2.2.2.1, h.1.2.2.2.2.2.1, fun c hc => by
  rcases (h.2.2.1 c hc).2.2.2 with ⟨a, _⟩ | ⟨a, _⟩
  · exact Or.inr a
  · exact Or.inl a⟩
def playerS (g : Row) (p k : Nat) : Int32 := if k = 0 then g (14 + p) else if k ≤ 4 then g (18 + 4 * p + (k - 1)) else if k = 5 then worthS g p else presS g (Int32.ofNat p)
def companyS (g : Row) (c home S k : Nat) : Int32 := if k = 0 then (if g (34 + 7 * c) = 0 then 0 else 1) else if g (34 + 7 * c) = 0 then -1 else if k = 7 then incS g home S else cnumS g c (Int32.ofNat k)
theorem ag_worth {D : Nat → Prop} {mm p : Nat} {g m : Row} (hD : DOk D mm) (hA : AgD D g m) (hp : p < mm) (hm : mm ≤ 4) : worthS g p = worthS m p := by
  unfold worthS
  rw [ag14 hD hA hp hm]
  exact zseq_congr 4 fun j x hj => by rw [ag0 hD hA (show 18 + 4 * p + j < 134 by omega) (by omega), ag0 hD hA (show 37 + 7 * j < 134 by omega) (by omega)]
theorem ag_presS {D : Nat → Prop} {mm : Nat} {g m : Row} {p : Int32} (hD : DOk D mm) (hA : AgD D g m) : presS g p = presS m p := by
  unfold presS
  exact zseq_congr 4 fun j x hj => by unfold prStep; rw [ag0 hD hA (show 39 + 7 * j < 134 by omega) (by omega)]
theorem ag_player {D : Nat → Prop} {mm p k : Nat} {g m : Row} (hD : DOk D mm) (hA : AgD D g m) (hp : p < mm) (hm : mm ≤ 4) : playerS g p k = playerS m p k := by
  unfold playerS
  rw [ag14 hD hA hp hm, ag_worth hD hA hp hm, ag_presS hD hA]
  split
  · rfl
  · split
    · rw [ag0 hD hA (by omega) (by omega)]
    · rfl
theorem ag_bank {D : Nat → Prop} {mm c : Nat} {g m : Row} (hD : DOk D mm) (hA : AgD D g m) (hc : c < 4) : bank (fun p => g (18 + 4 * p + c)) = bank (fun p => m (18 + 4 * p + c)) := by
  unfold bank
  exact zseq_congr 4 fun j x hj => by
    show x - g (18 + 4 * j + c) = x - m (18 + 4 * j + c)
    rw [ag0 hD hA (show 18 + 4 * j + c < 134 by omega) (by omega)]
theorem ag_exch {D : Nat → Prop} {mm c : Nat} {g m : Row} (hD : DOk D mm) (hA : AgD D g m) (hc : c < 4) : exch (fun p => g (18 + 4 * p + c)) = exch (fun p => m (18 + 4 * p + c)) := by
  unfold exch
  exact zseq_congr 4 fun j x hj => by
    show x + g (18 + 4 * j + c) / 2 = x + m (18 + 4 * j + c) / 2
    rw [ag0 hD hA (show 18 + 4 * j + c < 134 by omega) (by omega)]
theorem ag_company {D : Nat → Prop} {mm c home S k : Nat} {g m : Row} (hD : DOk D mm) (hA : AgD D g m) (hc : c < 4) : companyS g c home S k = companyS m c home S k := by
  unfold companyS cnumS
  rw [ag_bank hD hA hc, inc_congr (ag_land hD hA), ag0 hD hA (show 34 + 7 * c < 134 by omega) (by omega), ag0 hD hA (show 35 + 7 * c < 134 by omega) (by omega), ag0 hD hA (show 36 + 7 * c < 134 by omega) (by omega), ag0 hD hA (show 37 + 7 * c < 134 by omega) (by omega), ag0 hD hA (show 38 + 7 * c < 134 by omega) (by omega), ag0 hD hA (show 39 + 7 * c < 134 by omega) (by omega), ag0 hD hA (show 40 + 7 * c < 134 by omega) (by omega)]
def trB (g : Row) (i : Nat) : Nat := if g (62 + i) ≤ 0 then 0 else 1
theorem tracks_n {g : Row} : tracksS g = Int32.ofNat (sumTo 64 (fun k => if k / 8 < k % 8 then trB g k else 0)) := by
  unfold tracksS
  have key : ∀ k, zseq (trStep g) 0 k = Int32.ofNat (sumTo k (fun k => if k / 8 < k % 8 then trB g k else 0)) := by
    intro k
    induction k with
    | zero => rfl
    | succ k ih =>
      show trStep g k (zseq (trStep g) 0 k) = Int32.ofNat (sumTo k _ + if k / 8 < k % 8 then trB g k else 0)
      rw [ih]
      unfold trStep trB
      rw [show 62 + 8 * (k / 8) + k % 8 = 62 + k by omega]
      split
      · split
        · rw [show (0 : Int32) = Int32.ofNat 0 from rfl, i32_addn]
        · rw [show (1 : Int32) = Int32.ofNat 1 from rfl, i32_addn]
      · rfl
  exact key 64
theorem two_sums {f : Nat → Nat} (hs : ∀ a b, a < 8 → b < 8 → f (8 * a + b) = f (8 * b + a)) (hd : ∀ a, a < 8 → f (8 * a + a) = 0) : sumTo 64 f = 2 * sumTo 64 (fun k => if k / 8 < k % 8 then f k else 0) := by
  have row : ∀ a, a < 8 → sumTo 8 (fun b => if a < b then f (8 * a + b) else 0) + sumTo 8 (fun b => if b < a then f (8 * a + b) else 0) = sumTo 8 (fun b => f (8 * a + b)) := by
    intro a ha
    have add : ∀ k (u v : Nat → Nat), sumTo k u + sumTo k v = sumTo k (fun b => u b + v b) := by
      intro k u v
      induction k with
      | zero => rfl
      | succ k ih =>
        show sumTo k u + u k + (sumTo k v + v k) = sumTo k (fun b => u b + v b) + (u k + v k)
        rw [← ih]
        omega
    rw [add]
    refine sumTo_congr 8 fun b hb => ?_
    by_cases c1 : a < b
    · rw [if_pos c1, if_neg (by omega), Nat.add_zero]
    · by_cases c2 : b < a
      · rw [if_neg c1, if_pos c2, Nat.zero_add]
      · rw [if_neg c1, if_neg c2, show b = a by omega, hd a ha]
  have split8 : ∀ u : Nat → Nat, sumTo 64 u = sumTo 8 (fun a => sumTo 8 (fun b => u (8 * a + b))) := by
    intro u
    have : ∀ k, sumTo (8 * k) u = sumTo k (fun a => sumTo 8 (fun b => u (8 * a + b))) := by
      intro k
      induction k with
      | zero => rfl
      | succ k ih =>
        show sumTo (8 * k + 8) u = sumTo k _ + sumTo 8 (fun b => u (8 * k + b))
        rw [← ih]
        show sumTo (8 * k) u + u (8 * k) + u (8 * k + 1) + u (8 * k + 2) + u (8 * k + 3) + u (8 * k + 4) + u (8 * k + 5) + u (8 * k + 6) + u (8 * k + 7) = sumTo (8 * k) u + (0 + u (8 * k) + u (8 * k + 1) + u (8 * k + 2) + u (8 * k + 3) + u (8 * k + 4) + u (8 * k + 5) + u (8 * k + 6) + u (8 * k + 7))
        omega
    exact this 8
  have addf : ∀ k (u v : Nat → Nat), sumTo k u + sumTo k v = sumTo k (fun b => u b + v b) := by
    intro k u v
    induction k with
    | zero => rfl
    | succ k ih =>
      show sumTo k u + u k + (sumTo k v + v k) = sumTo k (fun b => u b + v b) + (u k + v k)
      rw [← ih]
      omega
  have swap : ∀ (F : Nat → Nat → Nat) (k j : Nat), sumTo k (fun a => sumTo j (fun b => F a b)) = sumTo j (fun b => sumTo k (fun a => F a b)) := by
    intro F k j
    induction k with
    | zero =>
      induction j with
      | zero => rfl
      | succ j ih =>
        show 0 = sumTo j (fun _ => 0) + 0
        rw [Nat.add_zero]
        exact ih
    | succ k ih =>
      show sumTo k (fun a => sumTo j (fun b => F a b)) + sumTo j (fun b => F k b) = _
      rw [ih, addf]
      rfl
  have e1 : sumTo 64 (fun k => if k / 8 < k % 8 then f k else 0) = sumTo 8 (fun a => sumTo 8 (fun b => if a < b then f (8 * a + b) else 0)) := by
    rw [split8]
    refine sumTo_congr 8 fun a ha => sumTo_congr 8 fun b hb => ?_
    rw [show (8 * a + b) / 8 = a by omega, show (8 * a + b) % 8 = b by omega]
  have e2 : sumTo 8 (fun a => sumTo 8 (fun b => if b < a then f (8 * a + b) else 0)) = sumTo 8 (fun a => sumTo 8 (fun b => if a < b then f (8 * a + b) else 0)) := by
    rw [swap]
    refine sumTo_congr 8 fun a ha => sumTo_congr 8 fun b hb => ?_
    rw [hs b a hb ha]
  rw [split8, e1, sumTo_congr 8 (fun a ha => (row a ha).symm), ← addf, e2]
  omega
theorem CS_H {h : zH} {st : Nat → Row} {k : Nat} {len : Int32} {tx g : Row} {H : zH} (hC : CS h st k len tx g H) : ∃ h' : zH, H = put h' 5 g ∧ zgR H 0 5 0 = some 5 := by
  obtain ⟨sg, p, _, _, l, q, rfl⟩ := hC
  exact ⟨_, rfl, ogR_0⟩
theorem CS_cur {h : zH} {st : Nat → Row} {k : Nat} {len : Int32} {tx g : Row} {H : zH} (hC : CS h st k len tx g H) : ∃ h0 : zH, Cur h0 5 g H ∧ ∀ g' H', Cur h0 5 g' H' → CS h st k len tx g' H' := by
  obtain ⟨sg, p, hp, hst, hc⟩ := hC
  exact ⟨_, hc, fun g' H' h' => ⟨sg, p, hp, hst, h'⟩⟩
theorem NextOk_of {g : Row} {mm : Nat} (h : WF g mm) : NextOk g := by
  obtain ⟨hb, ⟨len, pl, o, hl, hpl, e9, e4, ho, hop⟩, hw, hL⟩ := h
  unfold NextOk
  rw [e9, e4]
  refine ⟨fun q => ?_, fun q => ?_⟩
  · rw [i32_le_of (by omega) (by omega)] at q
    exact in_of (by omega) (by omega)
  · unfold nextC at q ⊢
    rw [e9, e4] at q ⊢
    by_cases c1 : g 3 = 0
    · rw [if_pos c1] at q
      exact absurd rfl q
    · by_cases c2 : Int32.ofNat len ≤ Int32.ofNat pl
      · rw [if_neg c1, if_pos c2] at q
        exact absurd rfl q
      · rw [if_neg c1, if_neg c2, nn_of (by omega)]
        rw [i32_le_of (by omega) (by omega)] at c2
        have := ho pl (by omega)
        rw [this.2]
        exact in_of this.1 (by omega)
theorem ag_nextC {mm : Nat} {g m : Row} (hm : WF g mm) (hA : AgW mm g m) : nextC g = nextC m := by
  obtain ⟨len, hl, h9, hA⟩ := hA
  obtain ⟨hb, ⟨len', pl, o, hl', hpl, e9, e4, ho, hop⟩, hw, hL⟩ := hm
  have e : len = len' := ofNat_inj (by omega) (by omega) (by rw [← h9, e9])
  subst e
  unfold nextC
  rw [← ag0 dead_ok hA (show 3 < 134 by omega) (by omega), ← ag0 dead_ok hA (show 9 < 134 by omega) (by omega), ← ag0 dead_ok hA (show 4 < 134 by omega) (by omega), e9, e4, nn_of (by omega)]
  split
  · rfl
  · split
    · rfl
    · rename_i q
      rw [i32_le_of (by omega) (by omega)] at q
      exact hA _ (by omega) (fun z => by unfold dead at z; omega)
theorem ag_num {mm : Nat} {g m : Row} {v : Int32} (h : WF g mm) (hA : AgW mm g m) : numS g v = numS m v := by
  have e := ag_nextC h hA
  obtain ⟨len, hl, h9, hA⟩ := hA
  have a := fun i (h1 : i < 134) (h2 : i < 10 ∨ 18 ≤ i) => ag0 dead_ok hA h1 h2
  have t : tracksS g = tracksS m := by
    unfold tracksS
    exact zseq_congr 64 fun j x hj => by unfold trStep; rw [a (62 + 8 * (j / 8) + j % 8) (by omega) (by omega)]
  have o : openS g = openS m := by
    unfold openS
    exact zseq_congr 4 fun j x hj => by rw [a (34 + 7 * j) (by omega) (by omega)]
  unfold numS
  rw [e, t, o, a 0 (by omega) (by omega), a 1 (by omega) (by omega), a 2 (by omega) (by omega), a 3 (by omega) (by omega), a 5 (by omega) (by omega), a 6 (by omega) (by omega), a 7 (by omega) (by omega)]
theorem vp_lt_iff {x : Int32} {k : Nat} (hk : k < 600) (hx : vp_in x k) : ¬ x < 0 ∧ x < Int32.ofNat k := by
  obtain ⟨i, hi, rfl⟩ := vp_ex hx
  refine ⟨fun c => hx (Or.inl c), ?_⟩
  rw [i32_lt_of (by omega) hk]
  exact hi
theorem p_player {n mm p k : Nat} {H h' : zH} {g : Row} (hn : 600 ≤ n) (hH : H = put h' 5 g) (h05 : zgR H 0 5 0 = some 5) (hg0 : g 0 = Int32.ofNat mm) (hm : mm ≤ 4) (hp : p < mm) (hk : k < 7) : f_X5_player n 0 (Int32.ofNat p) (Int32.ofNat k) H = some (.inr (playerS g p k), H) := by
  unfold f_X5_player playerS
  have e0 : (Int32.ofNat k = 0) = (k = 0) := i32_eq_of (b := 0) (by omega) (by omega)
  have e4 : ((4 : Int32) < Int32.ofNat k) = (4 < k) := i32_lt_of (a := 4) (by omega) (by omega)
  have e5 : (Int32.ofNat k = 5) = (k = 5) := i32_eq_of (b := 5) (by omega) (by omega)
  have hp4 : vp_in (Int32.ofNat p) 4 := in_of (by omega) (by omega)
  simp only [zlet]
  rw [if_neg (fun q => hp4 (Or.inl q)), h05, Option.bind_some]
  have e8 : zgI H 5 1 8 = some (Int32.ofNat mm) := by rw [hH, gI_8, hg0]
  rw [e8, Option.bind_some, if_pos (by rw [i32_lt_of (by omega) (by omega)]; omega), if_neg (fun q => in_of (show k < 7 by omega) (show 7 < 600 by omega) (Or.inl q)), if_pos (show Int32.ofNat k < (7 : Int32) from by rw [show (7 : Int32) = Int32.ofNat 7 from rfl, i32_lt_of (by omega) (by omega)]; omega)]
  simp only [e0, e4, e5]
  by_cases c0 : k = 0
  · rw [if_pos c0, if_pos c0, Option.bind_some, hH, gR_3, Option.bind_some, gA_m hp4, nn_of (by omega), Option.bind_some]
  · rw [if_neg c0, if_neg c0]
    by_cases c4 : 4 < k
    · rw [if_pos c4, if_neg (show ¬ k ≤ 4 by omega)]
      by_cases c5 : k = 5
      · rw [if_pos c5, if_pos c5, Option.bind_some, hH, gK_0, p_worthOf hn hp4, nn_of (by omega), Option.bind_some]
      · rw [if_neg c5, if_neg c5, Option.bind_some, hH, gK_0, p_presidenciesOf hn, Option.bind_some]
    · rw [if_neg c4, if_pos (show k ≤ 4 by omega)]
      obtain ⟨j, rfl⟩ : ∃ j, k = j + 1 := ⟨k - 1, by omega⟩
      rw [Option.bind_some, hH, gR_2, Option.bind_some, i32_pred, gA_c (in_of (show j < 4 by omega) (by omega)), nn_of (by omega), Option.bind_some, gC_0 (show j < 4 by omega), Option.bind_some, gA_h (show j < 4 by omega) hp4, nn_of (by omega), Option.bind_some]
      rfl
theorem p_company {n mm c home S k : Nat} {h0 H : zH} {g : Row} (hn : 600 ≤ n) (hH : Cur h0 5 g H) (h05 : zgR H 0 5 0 = some 5) (hL : SymL g) (hc : c < 4) (hk : k < 9) (hw : CoW g mm) (ho : g (34 + 7 * c) = 1 → CoOk g c home S) : ∃ H', f_X5_company n 0 (Int32.ofNat c) (Int32.ofNat k) H = some (.inr (companyS g c home S k), H') ∧ Cur h0 5 g H' := by
  obtain ⟨h', hput, hCu⟩ := Cur_mk hH
  have z1 : ¬ (1 : Int32) = 0 := by decide
  have e0 : (Int32.ofNat k = 0) = (k = 0) := i32_eq_of (b := 0) (by omega) (by omega)
  have e7 : (Int32.ofNat k = 7) = (k = 7) := i32_eq_of (b := 7) (by omega) (by omega)
  have hc4 : vp_in (Int32.ofNat c) 4 := in_of hc (by omega)
  have start : f_X5_company n 0 (Int32.ofNat c) (Int32.ofNat k) H = if k = 0 then (if g (34 + 7 * c) = 0 then some (.inr 0, H) else some (.inr 1, H)) else if g (34 + 7 * c) = 0 then some (.inr (-1), H) else if k = 7 then ((zgR H 0 5 0).bind fun v76 => zrc H v76 1 <| zb2 (f_X1_incomeOf n v76 (5 + 15 + 2 * c) H) fun r80 h80 => some (.inr r80, h80)) else (zrc H (5 + 15 + 2 * c) 0 <| (f_X0_number n (5 + 15 + 2 * c) (Int32.ofNat k) H).bind fun r88 => some (.inr r88, H)) := by
    unfold f_X5_company
    rw [company_y hc4, Option.bind_some, if_neg z1]
    simp only [zlet]
    rw [if_neg (fun q => in_of hk (show 9 < 600 by omega) (Or.inl q)), if_pos (show Int32.ofNat k < (9 : Int32) from by rw [show (9 : Int32) = Int32.ofNat 9 from rfl, i32_lt_of (by omega) (by omega)]; omega), h05, Option.bind_some]
    have r1 : zgR H 5 1 2 = some (5 + 12) := by rw [hput, gR_2]
    have r2 : zar H (5 + 12) 3 (Int32.ofNat c) = some (5 + 15 + 2 * c) := by rw [hput, gA_c hc4, nn_of (by omega)]
    have r3 : zgI H (5 + 15 + 2 * c) 0 1 = some (g (34 + 7 * c)) := by rw [hput, gC_1 hc]
    rw [r1, Option.bind_some, r2, Option.bind_some, r3]
    simp only [e0, e7, Option.bind_some]
  rw [start]
  unfold companyS
  by_cases c0 : k = 0
  · rw [if_pos c0, if_pos c0]
    refine ⟨H, ?_, hH⟩
    split <;> rfl
  · rw [if_neg c0, if_neg c0]
    rcases (hw c hc).2.2.2 with ⟨a, _⟩ | ⟨a, _⟩
    · have on : ¬ g (34 + 7 * c) = 0 := by rw [a]; decide
      rw [if_neg on, if_neg on]
      by_cases c7 : k = 7
      · obtain ⟨H', e, hC'⟩ := p_incomeOf (n := n) hn (by omega) hc hL (ho a) hH
        refine ⟨H', ?_, hC'⟩
        rw [if_pos c7, if_pos c7, h05, Option.bind_some, e]
        rw [hput, gK_0]
        rfl
      · refine ⟨H, ?_, hH⟩
        rw [if_neg c7, if_neg c7, hput, gK_2 hc, p_cnumber hn hc, Option.bind_some]
    · refine ⟨H, ?_, hH⟩
      rw [if_pos a, if_pos a]
theorem open_co {g : Row} {mm c : Nat} (hw : CoW g mm) (hc : c < 4) : ∃ home S, g (34 + 7 * c) = 1 → CoOk g c home S := by
  rcases (hw c hc).2.2.2 with ⟨_, home, S, h, _⟩ | ⟨a, _⟩
  · exact ⟨home, S, fun _ => h⟩
  · exact ⟨0, 0, fun q => by rw [a] at q; exact absurd q (by decide)⟩
theorem CoOk_one {g : Row} {c home S home' S' : Nat} (h : CoOk g c home S) (h' : CoOk g c home' S') : home = home' ∧ S = S' := by
  obtain ⟨a1, a2, a3, a4, a5⟩ := h
  obtain ⟨b1, b2, b3, b4, b5⟩ := h'
  exact ⟨ofNat_inj (by omega) (by omega) (by rw [← a1, b1]), ofNat_inj (by omega) (by omega) (by rw [← a2, b2])⟩
theorem company_eq {g m : Row} {mm c home S home' S' k : Nat} (hWF : WF g mm) (hA : AgW mm g m) (hc : c < 4) (h1 : g (34 + 7 * c) = 1 → CoOk g c home S) (h2 : m (34 + 7 * c) = 1 → CoOk m c home' S') : companyS g c home S k = companyS m c home' S' k := by
  obtain ⟨len, hl, h9, hA⟩ := hA
  rcases (hWF.2.2.1 c hc).2.2.2 with ⟨a, _⟩ | ⟨a, _⟩
  · have a' : m (34 + 7 * c) = 1 := by rw [← ag0 dead_ok hA (by omega) (by omega), a]
    have e := CoOk_one (h1 a) (CoOk_congr (g := m) (ag0 dead_ok hA (by omega) (by omega)) (ag0 dead_ok hA (by omega) (by omega)) (h2 a'))
    rw [ag_company dead_ok hA hc, e.1, e.2]
  · have a' : m (34 + 7 * c) = 0 := by rw [← ag0 dead_ok hA (by omega) (by omega), a]
    unfold companyS
    rw [a, a']
    rfl
theorem cell_co {H h' : zH} {g : Row} {c : Nat} (hput : H = put h' 5 g) (hc : c < 4) : zgR H 5 1 2 = some (5 + 12) ∧ zar H (5 + 12) 3 (Int32.ofNat c) = some (5 + 15 + 2 * c) ∧ zgI H (5 + 15 + 2 * c) 0 1 = some (g (34 + 7 * c)) ∧ ∀ {β : Type} (o : Option β), zrc H 5 1 o = o := by
  refine ⟨by rw [hput, gR_2], by rw [hput, gA_c (in_of hc (by omega)), nn_of (by omega)], by rw [hput, gC_1 hc], fun o => by rw [hput]; exact gK_0⟩
theorem bt_shut7 {n c : Nat} {H : zH} {y : Int32} (hn : 600 ≤ n) (hy : y = -1) (h : zgI H c 0 1 = some 0) : L_X1_bestTrackOf_7 n c 5 y y 0 H = some (y, H) := by
  unfold L_X1_bestTrackOf_7
  refine zfor4 0 (fun _ => y) (fun _ => y) (fun _ => 0) (fun _ => H) (fun k hk rec => absurd hk (by omega)) (fun rec => ?_) (by omega)
  rw [if_neg (show ¬ (8 : Int32) ≤ 0 by decide), h, Option.bind_some, if_pos rfl]
theorem ag_bt {D : Nat → Prop} {mm c home S : Nat} {g m : Row} (hD : DOk D mm) (hA : AgD D g m) (hc : c < 4) : btS g c home S = btS m c home S := by
  unfold btS
  rw [zseq_congr (f := btStep g c home S) (f' := btStep m c home S) 64 fun k x hk => ?_]
  unfold btStep
  rw [lay_congr (show k / 8 < 8 by omega) (show k % 8 < 8 by omega) (ag_land hD hA) (ag0 hD hA (by omega) (by omega)), up_congr (show k / 8 < 8 by omega) (show k % 8 < 8 by omega) (ag_land hD hA)]
theorem CS_z {h : zH} {st : Nat → Row} {k : Nat} {len : Int32} {tx g : Row} {H : zH} (hC : CS h st k len tx g H) : (∀ {β : Type} (o : Option β), zrc H 0 5 o = o) ∧ (∀ {β : Type} (o : Option β), zrc H 5 1 o = o) ∧ zgR H 0 5 0 = some 5 := by
  obtain ⟨sg, p, _, _, l, q, rfl⟩ := hC
  exact ⟨fun o => ogK_5, fun o => gK_0, ogR_0⟩
theorem in24 {x : Int32} : (¬ x < 2 ∧ ¬ 4 < x) → ∃ i, 2 ≤ i ∧ i ≤ 4 ∧ x = Int32.ofNat i := by
  rintro ⟨h1, h2⟩
  have hv : vp_in x 5 := by
    refine Classical.byContradiction fun q => ?_
    rcases vp_no (by omega) q with c | c
    · refine h1 ?_
      rw [Int32.lt_iff_toInt_lt] at c ⊢
      have e0 : (0 : Int32).toInt = 0 := rfl
      have e2 : (2 : Int32).toInt = 2 := rfl
      omega
    · refine h2 ?_
      rw [Int32.le_iff_toInt_le, Int32.toInt_ofNat_of_lt (by omega)] at c
      rw [Int32.lt_iff_toInt_lt]
      have e4 : (4 : Int32).toInt = 4 := rfl
      omega
  obtain ⟨i, hi, rfl⟩ := vp_ex hv
  refine ⟨i, ?_, by omega, rfl⟩
  refine Nat.le_of_not_lt fun q => h1 ?_
  rw [show (2 : Int32) = Int32.ofNat 2 from rfl, i32_lt_of (by omega) (by omega)]
  exact q
theorem ag_cBuy {D : Nat → Prop} {mm t c : Nat} {g m : Row} (hD : DOk D mm) (hA : AgD D g m) (ht : t < mm) (hm : mm ≤ 4) (hc : c < 4) : cBuy g t c ↔ cBuy m t c := by
  unfold cBuy
  rw [ag_bank hD hA hc, ag0 hD hA (show 3 < 134 by omega) (by omega), ag0 hD hA (show 34 + 7 * c < 134 by omega) (by omega), ag0 hD hA (show 18 + 4 * t + c < 134 by omega) (by omega), ag14 hD hA ht hm, ag0 hD hA (show 37 + 7 * c < 134 by omega) (by omega)]
theorem ag_rBuy {D : Nat → Prop} {mm t c : Nat} {g m : Row} (hD : DOk D mm) (hA : AgD D g m) (e1 : g 1 = Int32.ofNat t) (ht : t < mm) (hm : mm ≤ 4) (hc : c < 4) (ho : PresOk g c) : AgD D (rBuy g c) (rBuy m c) := by
  have e1' : m 1 = Int32.ofNat t := by rw [← ag0 hD hA (by omega) (by omega), e1]
  rw [rBuy_eq e1 (by omega), rBuy_eq e1' (by omega)]
  refine ag_rEnd hD ?_
  unfold buyC
  refine ag_rPres hD (ag_upd (ag_rPay hD hA ht hm ?_) ?_) hc ?_
  · rw [ag0 hD hA (show 37 + 7 * c < 134 by omega) (by omega)]
  · rw [ag0 hD hA (show 18 + 4 * t + c < 134 by omega) (by omega)]
  · unfold PresOk
    rw [upd_ne (by omega), rPay_ne (by omega) (by omega)]
    exact ho
theorem p_canBuy' {n t c : Nat} {h : zH} {b : Nat} {g : Row} (hn : 600 ≤ n) (hc : c < 4) (e1 : g 1 = Int32.ofNat t) (ht : t < 4) : (cBuy g t c → f_X1_canBuy n b (Int32.ofNat c) (put h b g) = some 1) ∧ (¬ cBuy g t c → f_X1_canBuy n b (Int32.ofNat c) (put h b g) = some 0) := by
  have e := p_canBuy (n := n) (h := h) (b := b) (g := g) (c := Int32.ofNat c) hn (in_of hc (by omega)) (by rw [e1]; exact in_of ht (by omega))
  rw [nn_of (show c < 600 by omega), e1, nn_of (show t < 600 by omega)] at e
  unfold cBuy
  exact ⟨fun q => by rw [e, if_pos q], fun q => by rw [e, if_neg q]⟩
theorem rEnd9 {g : Row} : rEnd g 9 = g 9 := rEnd_ne (by omega) (by omega)
theorem ag_cSell {D : Nat → Prop} {mm t c : Nat} {s : Int32} {g m : Row} (hD : DOk D mm) (hA : AgD D g m) (ht : t < 4) (hc : c < 4) : cSell g t c s ↔ cSell m t c s := by
  unfold cSell
  rw [ag0 hD hA (show 3 < 134 by omega) (by omega), ag0 hD hA (show 34 + 7 * c < 134 by omega) (by omega), ag0 hD hA (show 18 + 4 * t + c < 134 by omega) (by omega)]
theorem p_canSell' {n t c : Nat} {h : zH} {b : Nat} {g : Row} {s : Int32} (hc : c < 4) (e1 : g 1 = Int32.ofNat t) (ht : t < 4) : (cSell g t c s → f_X1_canSell n b (Int32.ofNat c) s (put h b g) = some 1) ∧ (¬ cSell g t c s → f_X1_canSell n b (Int32.ofNat c) s (put h b g) = some 0) := by
  have e := p_canSell (n := n) (h := h) (b := b) (g := g) (c := Int32.ofNat c) (s := s) (in_of hc (by omega)) (by rw [e1]; exact in_of ht (by omega))
  rw [nn_of (show c < 600 by omega), e1, nn_of (show t < 600 by omega)] at e
  unfold cSell
  exact ⟨fun q => by rw [e, if_pos q], fun q => by rw [e, if_neg q]⟩
theorem in110 {x : Int32} (h : ¬ x < 1 ∧ ¬ 10 < x) : ∃ i, 1 ≤ i ∧ i ≤ 10 ∧ x = Int32.ofNat i := by
  obtain ⟨h1, h2⟩ := h
  have hv : vp_in x 11 := by
    refine Classical.byContradiction fun q => ?_
    rcases vp_no (by omega) q with c | c
    · refine h1 ?_
      rw [Int32.lt_iff_toInt_lt] at c ⊢
      have e0 : (0 : Int32).toInt = 0 := rfl
      have e2 : (1 : Int32).toInt = 1 := rfl
      omega
    · refine h2 ?_
      rw [Int32.le_iff_toInt_le, Int32.toInt_ofNat_of_lt (by omega)] at c
      rw [Int32.lt_iff_toInt_lt]
      have e4 : (10 : Int32).toInt = 10 := rfl
      omega
  obtain ⟨i, hi, rfl⟩ := vp_ex hv
  refine ⟨i, ?_, by omega, rfl⟩
  refine Nat.le_of_not_lt fun q => h1 ?_
  rw [show (1 : Int32) = Int32.ofNat 1 from rfl, i32_lt_of (by omega) (by omega)]
  exact q
theorem mon_14 {g g' : Row} {mm B : Nat} (h : MonW g mm B) (hn : ∀ i, 14 ≤ i → g' i = g i) : MonW g' mm B := mon_cash h (Nat.le_refl B) (fun c hc => hn _ (by omega)) fun p hp => by rw [hn _ (by omega)]; exact h.1 p hp
def cStart (g : Row) (t c : Nat) (s : Int32) : Prop := g 3 = 0 ∧ g (34 + 7 * c) = 0 ∧ ¬ g (14 + t) < 2 * (20 + 10 * s)
theorem p_canStart' {n t c : Nat} {h : zH} {b : Nat} {g : Row} {s : Int32} (hc : c < 4) (e1 : g 1 = Int32.ofNat t) (ht : t < 4) : (cStart g t c s → f_X1_canStart n b (Int32.ofNat c) s (put h b g) = some 1) ∧ (¬ cStart g t c s → f_X1_canStart n b (Int32.ofNat c) s (put h b g) = some 0) := by
  have e := p_canStart (n := n) (h := h) (b := b) (g := g) (c := Int32.ofNat c) (s := s) (in_of hc (by omega)) (by rw [e1]; exact in_of ht (by omega))
  rw [nn_of (show c < 600 by omega), e1, nn_of (show t < 600 by omega)] at e
  unfold cStart
  exact ⟨fun q => by rw [e, if_pos q], fun q => by rw [e, if_neg q]⟩
theorem in28 {x : Int32} (h : ¬ x < 2 ∧ ¬ 8 < x) : ∃ i, 2 ≤ i ∧ i ≤ 8 ∧ x = Int32.ofNat i := by
  obtain ⟨h1, h2⟩ := h
  have hv : vp_in x 9 := by
    refine Classical.byContradiction fun q => ?_
    rcases vp_no (by omega) q with c | c
    · refine h1 ?_
      rw [Int32.lt_iff_toInt_lt] at c ⊢
      have e0 : (0 : Int32).toInt = 0 := rfl
      have e2 : (2 : Int32).toInt = 2 := rfl
      omega
    · refine h2 ?_
      rw [Int32.le_iff_toInt_le, Int32.toInt_ofNat_of_lt (by omega)] at c
      rw [Int32.lt_iff_toInt_lt]
      have e4 : (8 : Int32).toInt = 8 := rfl
      omega
  obtain ⟨i, hi, rfl⟩ := vp_ex hv
  refine ⟨i, ?_, by omega, rfl⟩
  refine Nat.le_of_not_lt fun q => h1 ?_
  rw [show (2 : Int32) = Int32.ofNat 2 from rfl, i32_lt_of (by omega) (by omega)]
  exact q
theorem ag_rStart {D : Nat → Prop} {mm t c : Nat} {x y : Int32} {g m : Row} (hD : DOk D mm) (hA : AgD D g m) (e1 : g 1 = Int32.ofNat t) (ht : t < mm) (hm : mm ≤ 4) (hc : c < 4) (ho : PresOk g c) : AgD D (rStart g c x y) (rStart m c x y) := by
  have e1' : m 1 = Int32.ofNat t := by rw [← ag0 hD hA (by omega) (by omega), e1]
  rw [rStart_eq e1 (by omega), rStart_eq e1' (by omega)]
  refine ag_rEnd hD ?_
  have hC : AgD D (startC g t c x y) (startC m t c x y) := by
    unfold startC
    refine ag_rPres hD (ag_upd (ag_rPay hD ?_ ht hm rfl) rfl) hc ?_
    · unfold rOpen
      exact ag_upd (ag_upd (ag_upd (ag_upd hA rfl) rfl) rfl) rfl
    · unfold PresOk
      rw [upd_ne (by omega), rPay_ne (by omega) (by omega), rOpen_ne (by omega) (by omega) (by omega) (by omega)]
      exact ho
  unfold startD
  exact ag_upd (ag_upd hC rfl) (by rw [ag0 hD hC (by omega) (by omega)])
