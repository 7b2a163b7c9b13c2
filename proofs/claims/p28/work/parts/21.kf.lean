theorem mergeA_sh {g : Row} {mm x y : Nat} (hm : mm ≤ 4) (hx : x < 4) (hy : y < 4) (hxy : x ≠ y) (hw : CoW g mm) (hbk : ¬ bank (fun p => g (18 + 4 * p + x)) < exch (fun p => g (18 + 4 * p + y))) : ShOk (mergeA g mm x y) mm x ∧ (∀ i, i ≠ 6 → ¬ (14 ≤ i ∧ i < 18) → (∀ p, p < 4 → i ≠ 18 + 4 * p + x) → mergeA g mm x y i = g i) := by
  obtain ⟨sx, sx1, sx2, sx3⟩ := (hw x hx).1
  obtain ⟨sy, sy1, sy2, sy3⟩ := (hw y hy).1
  have hsum : sx 0 + sx 1 + sx 2 + sx 3 + (sy 0 / 2 + sy 1 / 2 + sy 2 / 2 + sy 3 / 2) ≤ 10 := by
    rw [bank_eq (f := fun p => g (18 + 4 * p + x)) (s := sx) sx1 sx2, exch_eq (f := fun p => g (18 + 4 * p + y)) (s := sy) sy1 (fun p hp => sh_lt sy2 p hp), i32_lt_of (by omega) (by omega)] at hbk
    omega
  unfold mergeA
  have key := zseq_ok (N := mm) (P := fun k (r : Row) => (∀ p, p < k → r (18 + 4 * p + x) = Int32.ofNat (sx p + sy p / 2)) ∧ (∀ p, k ≤ p → p < 4 → r (18 + 4 * p + x) = Int32.ofNat (sx p)) ∧ ∀ i, i ≠ 6 → ¬ (14 ≤ i ∧ i < 18) → (∀ p, p < 4 → i ≠ 18 + 4 * p + x) → r i = g i) (step := mstep x y ((20 + 10 * g (37 + 7 * y)) / 2)) (s := g) ⟨fun p hp => by omega, fun p _ hp => sx1 p hp, fun _ _ _ _ => rfl⟩ (fun k r hk hr => by
    obtain ⟨r1, r2, r3⟩ := hr
    have ex : r (18 + 4 * k + x) = Int32.ofNat (sx k) := r2 k (Nat.le_refl k) (by omega)
    have ey : r (18 + 4 * k + y) = Int32.ofNat (sy k) := by rw [r3 _ (by omega) (by omega) (fun p hp => by omega), sy1 k (by omega)]
    have z := zrem_2 (sy k) (sh_lt sy2 k (by omega))
    have hne : ∀ i, i ≠ 6 → i ≠ 18 + 4 * k + x → i ≠ 14 + k → mstep x y ((20 + 10 * g (37 + 7 * y)) / 2) k r i = r i := fun i a b c => by
      unfold mstep
      rw [rPay_ne c a, upd_ne b]
    refine ⟨fun p hp => ?_, fun p h1 h2 => by rw [hne _ (by omega) (by omega) (by omega)]; exact r2 p (by omega) h2, fun i a b c => by rw [hne i a (c k (by omega)) (by omega)]; exact r3 i a b c⟩
    by_cases e : p = k
    · subst e
      unfold mstep
      rw [rPay_ne (by omega) (by omega), upd_eq, ex, ey, z.2, i32_addn]
    · rw [hne _ (by omega) (by omega) (by omega)]
      exact r1 p (by omega)) mm (Nat.le_refl mm)
  obtain ⟨k1, k2, k3⟩ := key
  refine ⟨⟨fun p => sx p + sy p / 2, fun p hp => ?_, (by show sx 0 + sy 0 / 2 + (sx 1 + sy 1 / 2) + (sx 2 + sy 2 / 2) + (sx 3 + sy 3 / 2) ≤ 10; omega), fun p h1 h2 => ?_⟩, k3⟩
  · by_cases q : p < mm
    · exact k1 p q
    · have e := sy3 p (by omega) hp
      rw [k2 p (by omega) hp]
      exact congrArg Int32.ofNat (by show sx p = sx p + sy p / 2; omega)
  · show sx p + sy p / 2 = 0
    rw [sx3 p h1 h2, sy3 p h1 h2]
theorem ag_cMerge {D : Nat → Prop} {mm x y : Nat} {g m : Row} (hD : DOk D mm) (hA : AgD D g m) (hx : x < 4) (hy : y < 4) : cMerge g x y ↔ cMerge m x y := by
  unfold cMerge
  rw [ag_bank hD hA hx, ag_exch hD hA hy, ag0 hD hA (show 3 < 134 by omega) (by omega), ag0 hD hA (show 1 < 134 by omega) (by omega), ag0 hD hA (show 34 + 7 * x < 134 by omega) (by omega), ag0 hD hA (show 34 + 7 * y < 134 by omega) (by omega), ag0 hD hA (show 39 + 7 * x < 134 by omega) (by omega), ag0 hD hA (show 39 + 7 * y < 134 by omega) (by omega)]
theorem ag_rMerge {D : Nat → Prop} {mm x y : Nat} {g m : Row} (hD : DOk D mm) (hA : AgD D g m) (hm : mm ≤ 4) (hx : x < 4) (hy : y < 4) (hxy : x ≠ y) (ho : PresOk g x) : AgD D (rMerge g mm x y) (rMerge m mm x y) := by
  rw [rMerge_eq, rMerge_eq]
  refine ag_rEnd hD ?_
  have hAA : AgD D (mergeA g mm x y) (mergeA m mm x y) := by
    unfold mergeA
    rw [ag0 hD hA (show 37 + 7 * y < 134 by omega) (by omega)]
    have : ∀ k, k ≤ mm → AgD D (zseq (mstep x y ((20 + 10 * m (37 + 7 * y)) / 2)) g k) (zseq (mstep x y ((20 + 10 * m (37 + 7 * y)) / 2)) m k) := by
      intro k
      induction k with
      | zero => intro _; exact hA
      | succ k ih =>
        intro hk
        have i := ih (by omega)
        show AgD D (mstep x y _ k (zseq _ g k)) (mstep x y _ k (zseq _ m k))
        generalize zseq (mstep x y ((20 + 10 * m (37 + 7 * y)) / 2)) g k = r1 at i ⊢
        generalize zseq (mstep x y ((20 + 10 * m (37 + 7 * y)) / 2)) m k = r2 at i ⊢
        unfold mstep
        rw [ag0 hD i (show 18 + 4 * k + y < 134 by omega) (by omega)]
        exact ag_rPay hD (ag_upd i (by rw [ag0 hD i (show 18 + 4 * k + x < 134 by omega) (by omega)])) (by omega) hm rfl
    exact this mm (Nat.le_refl mm)
  have an : ∀ i, 34 ≤ i → mergeA g mm x y i = g i := by
    intro i hi
    unfold mergeA
    exact zseq_lt (P := fun r : Row => r i = g i) (N := mm) rfl (fun k s hk hs => by rw [mstep_ne (Or.inr hi) (by omega) (by omega) hx, hs]) mm (Nat.le_refl mm)
  unfold mergeC
  refine ag_rPres hD (ag_rClose (ag_upd hAA ?_)) hx ?_
  · rw [ag0 hD hAA (show 36 + 7 * x < 134 by omega) (by omega), ag0 hD hAA (show 36 + 7 * y < 134 by omega) (by omega)]
  · unfold PresOk
    rw [rClose_ne (by omega) (fun p hp => by omega), upd_ne (by omega), an _ (by omega)]
    exact ho
theorem p_canMerge' {n x y : Nat} {h : zH} {b : Nat} {g : Row} (hn : 600 ≤ n) (hx : x < 4) (hy : y < 4) : (cMerge g x y → f_X1_canMerge n b (Int32.ofNat x) (Int32.ofNat y) (put h b g) = some 1) ∧ (¬ cMerge g x y → f_X1_canMerge n b (Int32.ofNat x) (Int32.ofNat y) (put h b g) = some 0) := by
  have e := p_canMerge (n := n) (h := h) (b := b) (g := g) (x := Int32.ofNat x) (y := Int32.ofNat y) hn (in_of hx (by omega)) (in_of hy (by omega))
  rw [nn_of (show x < 600 by omega), nn_of (show y < 600 by omega)] at e
  unfold cMerge
  exact ⟨fun q => by rw [e, if_pos q], fun q => by rw [e, if_neg q]⟩
theorem next_co {g : Row} {mm : Nat} (h : WF g mm) : (g 3 = 0 ∧ nextC g = -1) ∨ (g 3 = 1 ∧ ∃ c home S, c < 4 ∧ nextC g = Int32.ofNat c ∧ g (34 + 7 * c) = 1 ∧ CoOk g c home S ∧ 2 ≤ S) := by
  obtain ⟨hb, ⟨len, pl, o, hl, hpl, e9, e4, ho, hop⟩, hw, hL⟩ := h
  rcases hb.2.2.2.2.1 with h3 | h3
  · refine Or.inl ⟨h3, ?_⟩
    unfold nextC
    rw [if_pos h3]
  · obtain ⟨q1, q2, q3⟩ := hop h3
    have hc := ho pl q1
    have oc := q2 pl (Nat.le_refl _) q1
    rcases (hw (o pl) hc.1).2.2.2 with ⟨_, home, S, hco, h2⟩ | ⟨a, _⟩
    · refine Or.inr ⟨h3, o pl, home, S, hc.1, ?_, oc, hco, h2⟩
      unfold nextC
      rw [if_neg (by rw [h3]; decide), e9, e4, if_neg (i32_ge q1 (by omega)), nn_of (by omega), hc.2]
    · rw [oc] at a
      exact absurd a (by decide)
theorem ag_extC {D : Nat → Prop} {mm c : Nat} {g m : Row} (hD : DOk D mm) (hA : AgD D g m) (hc : c < 4) : AgD D (extC g c) (extC m c) := by
  unfold extC
  exact ag_upd (ag_upd (ag_rCPay hD hA hc rfl) (by rw [ag0 hD hA (show 38 + 7 * c < 134 by omega) (by omega)])) rfl
theorem zb2_s {α β γ : Type} {a : α} {b : β} {F : α → β → Option γ} : zb2 (some (a, b)) F = F a b := rfl
theorem ag_rEarn {D : Nat → Prop} {mm c home S X B : Nat} {g m : Row} {pays : Bool} (hD : DOk D mm) (hA : AgD D g m) (h : WF g mm) (hM : MonW g mm B) (hB : B ≤ 100000) (hc : c < 4) (ho : g (34 + 7 * c) = 1) (hco : CoOk g c home S) (hX : X ≤ 475) : AgD D (rEarn g mm c (Int32.ofNat X) pays) (rEarn m mm c (Int32.ofNat X) pays) ∧ rEarn g mm c (Int32.ofNat X) pays 9 = g 9 := by
  have hm := h.1.2.1
  obtain ⟨w1, m1, f1, c1, o1⟩ := earnA_spec (pays := pays) hm hc h.2.2.1 ho hco hX hM hB
  obtain ⟨w2, m2, f2, z2⟩ := upkeep_spec o1 hm hc c1 w1 m1 (by omega)
  have f := Fr_trans f1 f2
  rw [rEarn_eq, rEarn_eq]
  have a1 : AgD D (earnA g mm c (Int32.ofNat X) pays) (earnA m mm c (Int32.ofNat X) pays) := by
    unfold earnA
    split
    · exact ag_rPaid hD (ag_upd hA rfl) hm hc
    · exact ag_rFall hD (ag_rCPay hD (ag_upd hA rfl) hc rfl) hc
  have a2 := ag_rUpkeep hD a1 hm hc (CoW_pa hm w1) (w1 c hc).2.1
  refine ⟨ag_rOver hD (ag_upd (ag_upd a2 rfl) (by rw [ag0 hD a2 (by omega) (by omega)])), ?_⟩
  have e9 := f.1 9 (by omega) (by omega) (by omega)
  unfold rOver
  split
  · rw [upd_ne (by omega), upd_ne (by omega), e9]
  · rw [upd_ne (by omega), upd_ne (by omega), upd_ne (by omega), upd_ne (by omega), upd_ne (by omega), e9]
def opE (n : Nat) (x y z : Int32) (h68 : zH) : Option zO2 := zrc h68 0 5 <| (f_X5_saveState n 0 h68).bind fun (h83 : zH) => (zgR h83 0 5 0).bind fun (v87 : Nat) => zrc h83 v87 1 <| zb2 (f_X1_operateNext n v87 x y z h83) fun (r93 : Int32) (h93 : zH) => some (.inr r93, h93)
def opK (n : Nat) (x y z : Int32) (H : zH) : Option zO2 := (zgR H 0 5 0).bind fun (v63 : Nat) => zrc H v63 1 <| zb2 (f_X1_canOperate n v63 x y H) fun (r68 : Int32) (h68 : zH) => if r68 = 0 then (some (.inl 2, h68)) else opE n x y z h68
theorem e_op5 {n : Nat} {x y z : Int32} {H : zH} : f_X5_operate n 0 x y z H = zlet (fun (s0_15 : Int32) => zlet (zlet (opK n x y z H) fun K62 => if s0_15 = 0 then (K62) else (if x = y then (some (.inl 0, H)) else (K62))) fun K44 => if s0_15 = 0 then (K44) else ((f_X5_isTown n x H).bind fun (r23 : Int32) => zlet (some (.inl 1, H)) fun K36 => if r23 = 0 then (K36) else ((f_X5_isTown n y H).bind fun (r30 : Int32) => if r30 = 0 then (K36) else (K44)))) fun K15 => zlet (K15 (1 : Int32)) fun K10 => if x = (-1 : Int32) then (if y = (-1 : Int32) then (K15 (0 : Int32)) else (K10)) else (K10) := rfl
theorem p_canOp {n x1 : Nat} {H : zH} {g : Row} {h0 : zH} {i j : Nat} (hn : 600 ≤ n) (hno : NextOk g) (hi : i < 8) (hj : j < 8) (hcur : Cur h0 5 g H) : (nextC g = -1 → f_X1_canOperate n 5 (Int32.ofNat i) (Int32.ofNat j) H = some (0, H)) ∧ ∀ c home S, c < 4 → nextC g = Int32.ofNat c → CoOk g c home S → ∃ H', Cur h0 5 g H' ∧ f_X1_canOperate n 5 (Int32.ofNat i) (Int32.ofNat j) H = some (if layB g c home i j = true then 1 else 0, H') := by
  have z1 : ¬ (1 : Int32) = 0 := by decide
  obtain ⟨h', hput, hcu⟩ := Cur_mk hcur
  refine ⟨fun q => ?_, fun c home S hc hnc hco => ?_⟩
  · unfold f_X1_canOperate
    rw [hput, gK_0, p_nextCompany hno.1, q, Option.bind_some, if_pos rfl]
  · obtain ⟨H', r, e, hC', hr⟩ := p_canLay (x := Int32.ofNat i) (y := Int32.ofNat j) hn (Nat.le_refl 5) hc hco hcur
    obtain ⟨h'', hput', _⟩ := Cur_mk hC'
    refine ⟨H', hC', ?_⟩
    have l1 : layI g c home (Int32.ofNat i) (Int32.ofNat j) ↔ layB g c home i j = true := by
      unfold layI
      rw [nn_of (show i < 600 by omega), nn_of (show j < 600 by omega), layB_iff]
      exact ⟨fun q => q.2.2, fun q => ⟨in_of hi (by omega), in_of hj (by omega), q⟩⟩
    unfold f_X1_canOperate
    rw [hput, gK_0, p_nextCompany hno.1, hnc, Option.bind_some, if_neg (ofNat_ne_neg (by omega))]
    simp only [zlet, if_neg (ofNat_ne_neg (show i < 599 by omega)), if_neg z1, gR_2, gA_c (in_of hc (show 4 < 600 by omega)), nn_of (show c < 600 by omega), Option.bind_some, gK_0]
    rw [← hput]
    rw [e, zb2_s]
    rcases hr with ⟨rfl, hl⟩ | ⟨rfl, hl⟩
    · rw [if_neg z1, if_pos (l1.mp hl)]
    · rw [if_pos rfl, if_neg (fun q => hl (l1.mpr q))]
def leadS (g : Row) : Nat → Int32
  | 0 => 0
  | k + 1 => if worthS g (k + 1) ≤ worthS g (leadS g k).toNatClampNeg then leadS g k else Int32.ofNat (k + 1)
theorem lead_in {g : Row} : ∀ k, ∃ i, i ≤ k ∧ leadS g k = Int32.ofNat i
  | 0 => ⟨0, Nat.le_refl 0, rfl⟩
  | k + 1 => by
    obtain ⟨i, hi, e⟩ := lead_in (g := g) k
    unfold leadS
    split
    · exact ⟨i, by omega, e⟩
    · exact ⟨k + 1, Nat.le_refl _, rfl⟩
theorem lead_ag {D : Nat → Prop} {mm : Nat} {g m : Row} (hD : DOk D mm) (hA : AgD D g m) (hm : mm ≤ 4) : ∀ k, k < mm → leadS g k = leadS m k
  | 0, _ => rfl
  | k + 1, hk => by
    have e := lead_ag hD hA hm k (by omega)
    obtain ⟨i, hi, ei⟩ := lead_in (g := m) k
    unfold leadS
    rw [e, ei, nn_of (by omega), ag_worth hD hA hk hm, ag_worth hD hA (show i < mm by omega) hm]
theorem zdd_ok : ∀ a : Fin 41, ∀ b : Fin 4, zdd (FP.i2d (Int32.ofNat a.1)) (FP.i2d ((10 : Int32) * Int32.ofNat (b.1 + 1))) = some (FP.ddiv (FP.i2d (Int32.ofNat a.1)) (FP.i2d ((10 : Int32) * Int32.ofNat (b.1 + 1)))) := by decide +kernel
theorem openS_num {g : Row} {mm : Nat} (hw : CoW g mm) : ∀ k, k ≤ 4 → ∃ a, a ≤ k ∧ zseq (fun k s => s + (if g (34 + 7 * k) = 0 then 0 else 1)) (0 : Int32) k = Int32.ofNat a
  | 0, _ => ⟨0, Nat.le_refl 0, rfl⟩
  | k + 1, hk => by
    obtain ⟨a, ha, e⟩ := openS_num hw k (by omega)
    show ∃ a, a ≤ k + 1 ∧ zseq (fun k s => s + (if g (34 + 7 * k) = 0 then 0 else 1)) (0 : Int32) k + (if g (34 + 7 * k) = 0 then 0 else 1) = Int32.ofNat a
    rw [e]
    split
    · exact ⟨a, by omega, Int32.add_zero _⟩
    · exact ⟨a + 1, by omega, i32_succ a⟩
theorem bank_num {g : Row} {mm c : Nat} (h : ShOk g mm c) : ∃ a, a ≤ 10 ∧ bank (fun p => g (18 + 4 * p + c)) = Int32.ofNat a := by
  obtain ⟨s, h1, h2, _⟩ := h
  exact ⟨10 - (s 0 + s 1 + s 2 + s 3), by omega, bank_eq h1 h2⟩
def unF (g : Row) (k : Nat) (s : Int32) : Int32 := s + (if g (34 + 7 * k) = 0 then 0 else bank (fun p => g (18 + 4 * p + k)))
theorem unsoldS_eq {g : Row} : unsoldS g = zseq (unF g) 0 4 := rfl
theorem unsold_num {g : Row} {mm : Nat} (hw : CoW g mm) : ∀ k, k ≤ 4 → ∃ a, a ≤ 10 * k ∧ zseq (unF g) (0 : Int32) k = Int32.ofNat a
  | 0, _ => ⟨0, Nat.le_refl 0, rfl⟩
  | k + 1, hk => by
    obtain ⟨a, ha, e⟩ := unsold_num hw k (by omega)
    obtain ⟨c, hc, ec⟩ := bank_num (hw k (by omega)).1
    show ∃ a, a ≤ 10 * (k + 1) ∧ unF g k (zseq (unF g) (0 : Int32) k) = Int32.ofNat a
    unfold unF
    rw [show (fun k s => s + if g (34 + 7 * k) = 0 then 0 else bank fun p => g (18 + 4 * p + k)) = unF g from rfl, e]
    split
    · exact ⟨a, by omega, Int32.add_zero _⟩
    · exact ⟨a + c, by omega, by rw [ec, Int32.ofNat_add]⟩
theorem unsold_ag {D : Nat → Prop} {mm : Nat} {g m : Row} (hD : DOk D mm) (hA : AgD D g m) : ∀ k, k ≤ 4 → zseq (unF g) (0 : Int32) k = zseq (unF m) (0 : Int32) k
  | 0, _ => rfl
  | k + 1, hk => by
    show unF g k (zseq (unF g) (0 : Int32) k) = unF m k (zseq (unF m) (0 : Int32) k)
    rw [unsold_ag hD hA k (by omega)]
    unfold unF
    rw [ag_bank hD hA (show k < 4 by omega), ag0 hD hA (show 34 + 7 * k < 134 by omega) (by omega)]
theorem open_ag {D : Nat → Prop} {mm : Nat} {g m : Row} (hD : DOk D mm) (hA : AgD D g m) : openS g = openS m := by
  unfold openS
  have : ∀ k, k ≤ 4 → zseq (fun k s => s + (if g (34 + 7 * k) = 0 then 0 else 1)) (0 : Int32) k = zseq (fun k s => s + (if m (34 + 7 * k) = 0 then 0 else 1)) (0 : Int32) k := by
    intro k
    induction k with
    | zero => intro _; rfl
    | succ k ih =>
      intro hk
      show zseq _ _ k + (if g (34 + 7 * k) = 0 then 0 else 1) = zseq _ _ k + (if m (34 + 7 * k) = 0 then 0 else 1)
      rw [ih (by omega), ag0 hD hA (show 34 + 7 * k < 134 by omega) (by omega)]
  exact this 4 (Nat.le_refl 4)
theorem p_playerQ {n mm p k : Nat} {H h' : zH} {g : Row} (hn : 600 ≤ n) (hH : H = put h' 5 g) (h05 : zgR H 0 5 0 = some 5) (hg0 : g 0 = Int32.ofNat mm) (hm : mm ≤ 4) (hp : p < mm) (hk : k < 7) : f_X5_player' n 0 (Int32.ofNat p) (Int32.ofNat k) H = some (playerS g p k) := by
  unfold f_X5_player' playerS
  have e0 : (Int32.ofNat k = 0) = (k = 0) := i32_eq_of (b := 0) (by omega) (by omega)
  have e4 : ((4 : Int32) < Int32.ofNat k) = (4 < k) := i32_lt_of (a := 4) (by omega) (by omega)
  have e5 : (Int32.ofNat k = 5) = (k = 5) := i32_eq_of (b := 5) (by omega) (by omega)
  have hp4 : vp_in (Int32.ofNat p) 4 := in_of (by omega) (by omega)
  simp only [zlet]
  rw [if_neg (fun q => hp4 (Or.inl q)), h05, Option.bind_some]
  have e8 : zgI H 5 1 8 = some (Int32.ofNat mm) := by rw [hH, gI_8, hg0]
  rw [e8, Option.bind_some, if_pos (by rw [i32_lt_of (by omega) (by omega)]; omega), if_neg (fun q => in_of (show k < 7 by omega) (show 7 < 600 by omega) (Or.inl q)), if_pos (show Int32.ofNat k < (7 : Int32) from by rw [show (7 : Int32) = Int32.ofNat 7 from rfl, i32_lt_of (by omega) (by omega)]; omega)]
  simp only [e0, e4, e5]
  by_cases c0 : k = 0
  · rw [if_pos c0, if_pos c0, Option.bind_some, hH, gR_3, Option.bind_some, gA_m hp4, nn_of (by omega), Option.bind_some]
  · rw [if_neg c0, if_neg c0]
    by_cases c4 : 4 < k
    · rw [if_pos c4, if_neg (show ¬ k ≤ 4 by omega)]
      by_cases c5 : k = 5
      · rw [if_pos c5, if_pos c5, Option.bind_some, hH, gK_0, p_worthOf hn hp4, nn_of (by omega), Option.bind_some]
      · rw [if_neg c5, if_neg c5, Option.bind_some, hH, gK_0, p_presidenciesOf hn, Option.bind_some]
    · rw [if_neg c4, if_pos (show k ≤ 4 by omega)]
      obtain ⟨j, rfl⟩ : ∃ j, k = j + 1 := ⟨k - 1, by omega⟩
      rw [Option.bind_some, hH, gR_2, Option.bind_some, i32_pred, gA_c (in_of (show j < 4 by omega) (by omega)), nn_of (by omega), Option.bind_some, gC_0 (show j < 4 by omega), Option.bind_some, gA_h (show j < 4 by omega) hp4, nn_of (by omega), Option.bind_some]
      rfl
theorem p_companyQ {n mm c home S k : Nat} {h0 H : zH} {g : Row} (hn : 600 ≤ n) (hH : Cur h0 5 g H) (h05 : zgR H 0 5 0 = some 5) (hL : SymL g) (hc : c < 4) (hk : k < 9) (hw : CoW g mm) (ho : g (34 + 7 * c) = 1 → CoOk g c home S) : ∃ H', f_X5_company' n 0 (Int32.ofNat c) (Int32.ofNat k) H = some (companyS g c home S k, H') ∧ Cur h0 5 g H' := by
  obtain ⟨h', hput, hCu⟩ := Cur_mk hH
  have z1 : ¬ (1 : Int32) = 0 := by decide
  have e0 : (Int32.ofNat k = 0) = (k = 0) := i32_eq_of (b := 0) (by omega) (by omega)
  have e7 : (Int32.ofNat k = 7) = (k = 7) := i32_eq_of (b := 7) (by omega) (by omega)
  have hc4 : vp_in (Int32.ofNat c) 4 := in_of hc (by omega)
  have start : f_X5_company' n 0 (Int32.ofNat c) (Int32.ofNat k) H = if k = 0 then (if g (34 + 7 * c) = 0 then some (0, H) else some (1, H)) else if g (34 + 7 * c) = 0 then some (-1, H) else if k = 7 then ((zgR H 0 5 0).bind fun v76 => zrc H v76 1 <| zb2 (f_X1_incomeOf n v76 (5 + 15 + 2 * c) H) fun r80 h80 => some (r80, h80)) else (zrc H (5 + 15 + 2 * c) 0 <| (f_X0_number n (5 + 15 + 2 * c) (Int32.ofNat k) H).bind fun r88 => some (r88, H)) := by
    unfold f_X5_company'
    rw [company_y hc4, Option.bind_some, if_neg z1]
    simp only [zlet]
    rw [if_neg (fun q => in_of hk (show 9 < 600 by omega) (Or.inl q)), if_pos (show Int32.ofNat k < (9 : Int32) from by rw [show (9 : Int32) = Int32.ofNat 9 from rfl, i32_lt_of (by omega) (by omega)]; omega), h05, Option.bind_some]
    have r1 : zgR H 5 1 2 = some (5 + 12) := by rw [hput, gR_2]
    have r2 : zar H (5 + 12) 3 (Int32.ofNat c) = some (5 + 15 + 2 * c) := by rw [hput, gA_c hc4, nn_of (by omega)]
    have r3 : zgI H (5 + 15 + 2 * c) 0 1 = some (g (34 + 7 * c)) := by rw [hput, gC_1 hc]
    rw [r1, Option.bind_some, r2, Option.bind_some, r3]
    simp only [e0, e7, Option.bind_some]
  rw [start]
  unfold companyS
  by_cases c0 : k = 0
  · rw [if_pos c0, if_pos c0]
    refine ⟨H, ?_, hH⟩
    split <;> rfl
  · rw [if_neg c0, if_neg c0]
    rcases (hw c hc).2.2.2 with ⟨a, _⟩ | ⟨a, _⟩
    · have on : ¬ g (34 + 7 * c) = 0 := by rw [a]; decide
      rw [if_neg on, if_neg on]
      by_cases c7 : k = 7
      · obtain ⟨H', e, hC'⟩ := p_incomeOf (n := n) hn (by omega) hc hL (ho a) hH
        refine ⟨H', ?_, hC'⟩
        rw [if_pos c7, if_pos c7, h05, Option.bind_some, e]
        rw [hput, gK_0]
        rfl
      · refine ⟨H, ?_, hH⟩
        rw [if_neg c7, if_neg c7, hput, gK_2 hc, p_cnumber hn hc, Option.bind_some]
    · refine ⟨H, ?_, hH⟩
      rw [if_pos a, if_pos a]
def mx (s : Int64) (v : Int32) : Int64 := (31 : Int64) * s + Int32.toInt64 v
def coD (g : Row) (c k : Nat) : Int32 := companyS g c (g (35 + 7 * c)).toNatClampNeg (g (38 + 7 * c)).toNatClampNeg k
theorem coD_eq {g : Row} {mm c home S k : Nat} (hw : CoW g mm) (hc : c < 4) (h : g (34 + 7 * c) = 1 → CoOk g c home S) : companyS g c home S k = coD g c k := by
  unfold coD
  rcases (hw c hc).2.2.2 with ⟨a, _⟩ | ⟨a, _⟩
  · obtain ⟨a1, a2, a3, a4, a5⟩ := h a
    rw [a1, a2, nn_of (by omega), nn_of (by omega)]
  · unfold companyS
    by_cases c0 : k = 0
    · rw [if_pos c0, if_pos c0]
    · rw [if_neg c0, if_neg c0, if_pos a, if_pos a]
def dTown (g : Row) (s : Int64) : Int64 := zseq (fun t s => mx s (g (126 + t))) s 8
def tmStep (g : Row) (k : Nat) (s : Int64) : Int64 := if k / 8 < k % 8 then mx s (g (62 + k)) else s
theorem tm_y {g : Row} {k : Nat} {s : Int64} (h : k / 8 < k % 8) : tmStep g k s = mx s (g (62 + k)) := if_pos h
theorem tm_n {g : Row} {k : Nat} {s : Int64} (h : ¬ k / 8 < k % 8) : tmStep g k s = s := if_neg h
def dTr (g : Row) (s : Int64) : Int64 := zseq (tmStep g) s 64
def dCo1 (g : Row) (c : Nat) (s : Int64) : Int64 := zseq (fun k s => mx s (coD g c k)) s 9
def dCo (g : Row) (s : Int64) : Int64 := zseq (dCo1 g) s 4
def dPl1 (g : Row) (p : Nat) (s : Int64) : Int64 := zseq (fun k s => mx s (playerS g p k)) s 7
def dPl (g : Row) (mm : Nat) (s : Int64) : Int64 := zseq (dPl1 g) s mm
def dVal (g : Row) (s : Int64) : Int64 := zseq (fun k s => mx s (numS g (Int32.ofNat k))) s 10
def digS (g : Row) (mm k : Nat) (s : Int64) : Int64 := mx (dTown g (dTr g (dCo g (dPl g mm (dVal g s))))) (Int32.ofNat k)
theorem ag_coD {D : Nat → Prop} {mm c k : Nat} {g m : Row} (hD : DOk D mm) (hA : AgD D g m) (hc : c < 4) : coD g c k = coD m c k := by
  unfold coD
  rw [ag_company hD hA hc, ag0 hD hA (show 35 + 7 * c < 134 by omega) (by omega), ag0 hD hA (show 38 + 7 * c < 134 by omega) (by omega)]
theorem dig_ag {g m : Row} {mm k : Nat} {s : Int64} (hWF : WF g mm) (hA : AgW mm g m) : digS g mm k s = digS m mm k s := by
  have hm := hWF.1.2.1
  have hn := fun v => ag_num (v := v) hWF hA
  obtain ⟨len, hl, h9, hA⟩ := hA
  have e1 : ∀ s, dTown g s = dTown m s := fun s => zseq_congr 8 fun j x hj => by
    show mx x (g (126 + j)) = mx x (m (126 + j))
    rw [ag0 dead_ok hA (by omega) (by omega)]
  have e2 : ∀ s, dTr g s = dTr m s := fun s => zseq_congr 64 fun j x hj => by
    unfold tmStep
    rw [ag0 dead_ok hA (by omega) (by omega)]
  have e3 : ∀ s, dCo g s = dCo m s := fun s => zseq_congr 4 fun j x hj => zseq_congr 9 fun i y hi => by
    show mx y (coD g j i) = mx y (coD m j i)
    rw [ag_coD dead_ok hA hj]
  have e4 : ∀ s, dPl g mm s = dPl m mm s := fun s => zseq_congr mm fun j x hj => zseq_congr 7 fun i y hi => by
    show mx y (playerS g j i) = mx y (playerS m j i)
    rw [ag_player dead_ok hA hj hm]
  have e5 : ∀ s, dVal g s = dVal m s := fun s => zseq_congr 10 fun j x hj => by
    show mx x (numS g (Int32.ofNat j)) = mx x (numS m (Int32.ofNat j))
    rw [hn]
  unfold digS
  rw [e5, e4, e3, e2, e1]
theorem c_town {n t : Nat} {H h' : zH} {g : Row} (hH : H = put h' 5 g) (h05 : zgR H 0 5 0 = some 5) (ht : t < 8) : f_X5_town' n 0 (Int32.ofNat t) H = some (g (126 + t)) := by
  have hx : vp_in (Int32.ofNat t) 8 := in_of ht (by omega)
  unfold f_X5_town'
  rw [town_y hx, Option.bind_some, if_neg (by decide), h05, Option.bind_some, hH, gR_1, Option.bind_some, gL_0, Option.bind_some, gA_w hx, nn_of (by omega), Option.bind_some]
theorem c_track {n i j : Nat} {H h' : zH} {g : Row} (hH : H = put h' 5 g) (h05 : zgR H 0 5 0 = some 5) (hi : i < 8) (hj : j < 8) : f_X5_track' n 0 (Int32.ofNat i) (Int32.ofNat j) H = some (g (62 + 8 * i + j)) := by
  have hx : vp_in (Int32.ofNat i) 8 := in_of hi (by omega)
  have hy : vp_in (Int32.ofNat j) 8 := in_of hj (by omega)
  have z1 : ¬ (1 : Int32) = 0 := by decide
  unfold f_X5_track'
  rw [town_y hx, Option.bind_some]
  simp only [zlet, if_neg z1, town_y hy, Option.bind_some]
  rw [h05, Option.bind_some, hH, gR_1, Option.bind_some, gL_1, Option.bind_some, gA_r hx, nn_of (by omega), Option.bind_some, gA_l hi hy, nn_of (by omega), Option.bind_some]
theorem c_value {n k : Nat} {H h' : zH} {g : Row} (hn : 600 ≤ n) (hH : H = put h' 5 g) (h05 : zgR H 0 5 0 = some 5) (hno : NextOk g) (hk : k < 10) : f_X5_value' n 0 (Int32.ofNat k) H = some (numS g (Int32.ofNat k)) := by
  obtain ⟨q1, q2⟩ := vp_lt_iff (show 10 < 600 by omega) (in_of hk (by omega))
  unfold f_X5_value'
  simp only [zlet, if_neg q1, if_pos (show Int32.ofNat k < (10 : Int32) from q2)]
  rw [h05, Option.bind_some, hH, gK_0, p_number (by omega) hno, Option.bind_some]
theorem c_d183 {n k : Nat} {H h' : zH} {g : Row} {s : Int64} (hn : 600 ≤ n) (hH : H = put h' 5 g) (h05 : zgR H 0 5 0 = some 5) (hz : ∀ {β : Type} (o : Option β), zrc H 0 5 o = o) (hk : zgI H 0 5 2 = some (Int32.ofNat k)) : L_X5_digest_183 n H 0 s 0 = some (mx (dTown g s) (Int32.ofNat k), H) := by
  unfold L_X5_digest_183 dTown
  refine zfor2 8 (fun t => zseq (fun t s => mx s (g (126 + t))) s t) (fun t => Int32.ofNat t) (fun t ht rec => ?_) (fun rec => ?_) (by omega)
  · rw [if_neg (of_eq_false (ge8 ht)), hz, c_town hH h05 ht, Option.bind_some]
    simp only [zlet]
    rw [i32_succ]
    rfl
  · rw [if_pos (by decide), hk, Option.bind_some]
    rfl
theorem tm_skip {g : Row} {a : Nat} {s : Int64} : ∀ i, i ≤ a + 1 → a < 8 → zseq (tmStep g) s (8 * a + i) = zseq (tmStep g) s (8 * a)
  | 0, _, _ => rfl
  | i + 1, h, ha => by
    show tmStep g (8 * a + i) (zseq (tmStep g) s (8 * a + i)) = _
    unfold tmStep
    rw [if_neg (by omega)]
    exact tm_skip i (by omega) ha
theorem c_d136 {n k : Nat} {H h' : zH} {g : Row} {s : Int64} (hn : 600 ≤ n) (hH : H = put h' 5 g) (h05 : zgR H 0 5 0 = some 5) (hz : ∀ {β : Type} (o : Option β), zrc H 0 5 o = o) (hk : zgI H 0 5 2 = some (Int32.ofNat k)) : L_X5_digest_136 n H 0 s 0 = some (mx (dTown g (dTr g s)) (Int32.ofNat k), H) := by
  unfold L_X5_digest_136 dTr
  refine zfor2 8 (fun a => zseq (tmStep g) s (8 * a)) (fun a => Int32.ofNat a) (fun a ha rec => ?_) (fun rec => ?_) (by omega)
  · rw [if_neg (of_eq_false (ge8 ha))]
    simp only [zlet]
    rw [i32_succ]
    unfold L_X5_digest_147
    have e0 : zseq (tmStep g) s (8 * a) = zseq (tmStep g) s (8 * a + (a + 1 + 0)) := (tm_skip (a + 1) (Nat.le_refl _) ha).symm
    rw [e0]
    refine zfor2 (7 - a) (fun i => zseq (tmStep g) s (8 * a + (a + 1 + i))) (fun i => Int32.ofNat (a + 1 + i)) (fun i hi rec' => ?_) (fun rec' => ?_) (by omega)
    · rw [if_neg (of_eq_false (ge8 (show a + 1 + i < 8 by omega))), hz, c_track hH h05 ha (show a + 1 + i < 8 by omega), Option.bind_some]
      simp only [zlet]
      rw [i32_succ]
      rw [show zseq (tmStep g) s (8 * a + (a + 1 + (i + 1))) = tmStep g (8 * a + (a + 1 + i)) (zseq (tmStep g) s (8 * a + (a + 1 + i))) from rfl]
      unfold tmStep
      rw [if_pos (by omega), show 62 + 8 * a + (a + 1 + i) = 62 + (8 * a + (a + 1 + i)) by omega]
      rfl
    · rw [show a + 1 + (7 - a) = 8 by omega, if_pos (by decide)]
      simp only [zlet]
      rw [i32_succ]
      rfl
  · rw [if_pos (by decide)]
    exact c_d183 hn hH h05 hz hk
theorem CS_2 {h : zH} {st : Nat → Row} {k : Nat} {len : Int32} {tx g : Row} {H : zH} (hC : CS h st k len tx g H) : zgI H 0 5 2 = some (Int32.ofNat k) ∧ zgR H 0 5 3 = some 121 ∧ zgI H 121 4 1 = some len := by
  obtain ⟨sg, p, _, _, l, q, rfl⟩ := hC
  exact ⟨ogI_2, ogR_3, ogI_s⟩
theorem c_d92 {h : zH} {st : Nat → Row} {n k mm : Nat} {len : Int32} {tx g : Row} {H : zH} {s : Int64} (hn : 600 ≤ n) (hC : CS h st k len tx g H) (hWF : WF g mm) : ∃ H', L_X5_digest_92 n 0 s 0 H = some (mx (dTown g (dTr g (dCo g s))) (Int32.ofNat k), H') ∧ CS h st k len tx g H' := by
  unfold L_X5_digest_92 dCo
  refine zwh3 (Q := fun r => ∃ H', r = some (mx (dTown g (dTr g (zseq (dCo1 g) s 4))) (Int32.ofNat k), H') ∧ CS h st k len tx g H') (fun j a1 a2 a3 => ∃ c, c + j = 4 ∧ a2 = Int32.ofNat c ∧ a1 = zseq (dCo1 g) s c ∧ CS h st k len tx g a3) ?_ n 4 _ _ _ ⟨0, rfl, rfl, rfl, hC⟩ (by omega)
  rintro j a1 a2 a3 ⟨c, hj, rfl, rfl, hC3⟩
  cases j with
  | zero =>
    refine Or.inl fun rec => ⟨a3, ?_, hC3⟩
    obtain ⟨h', hH, h05⟩ := CS_H hC3
    rw [show c = 4 by omega, if_pos (by decide)]
    exact c_d136 hn hH h05 (CS_z hC3).1 (CS_2 hC3).1
  | succ j =>
    have hc : c < 4 := by omega
    obtain ⟨home, S, hco⟩ := open_co hWF.2.2.1 hc
    have inner : ∃ o : zH, CS h st k len tx g o ∧ ∀ rec, L_X5_digest_100 n (Int32.ofNat c) rec 0 (zseq (dCo1 g) s c) 0 a3 = rec (zseq (dCo1 g) s (c + 1)) (Int32.ofNat c + 1) o := by
      unfold L_X5_digest_100
      refine zrun3 (G := fun (rec : Int64 → Int32 → zH → Option (Int64 × zH)) (o : zH) => rec (zseq (dCo1 g) s (c + 1)) (Int32.ofNat c + 1) o) (Q := fun o : zH => CS h st k len tx g o) (fun j b1 b2 b3 => ∃ i, i + j = 9 ∧ b2 = Int32.ofNat i ∧ b1 = zseq (fun k s => mx s (coD g c k)) (zseq (dCo1 g) s c) i ∧ CS h st k len tx g b3) ?_ n 9 _ _ _ ⟨0, rfl, rfl, rfl, hC3⟩ (by omega)
      rintro j b1 b2 b3 ⟨i, hij, rfl, rfl, hC4⟩
      cases j with
      | zero =>
        refine Or.inl ⟨b3, hC4, fun r rec => ?_⟩
        rw [show i = 9 by omega, if_pos (by decide)]
        rfl
      | succ j =>
        have hi : i < 9 := by omega
        obtain ⟨h0, hcur, hcc⟩ := CS_cur hC4
        obtain ⟨H', e, hcu⟩ := p_companyQ (n := n) (k := i) hn hcur (CS_z hC4).2.2 hWF.2.2.2.1 hc hi hWF.2.2.1 hco
        refine Or.inr ⟨j, _, _, _, by omega, ⟨i + 1, by omega, rfl, rfl, hcc g H' hcu⟩, fun r rec => ?_⟩
        rw [if_neg (show ¬ (9 : Int32) ≤ Int32.ofNat _ from i32_ge (N := 9) hi (by omega)), (CS_z hC4).1, e, zb2_s, coD_eq hWF.2.2.1 hc hco]
        simp only [zlet]
        rw [i32_succ]
        rfl
    obtain ⟨o, ho, e⟩ := inner
    refine Or.inr ⟨j, _, _, o, by omega, ⟨c + 1, by omega, rfl, rfl, ho⟩, fun rec => ?_⟩
    rw [if_neg (of_eq_false (ge4 hc)), e, i32_succ]
theorem c_digest {h : zH} {st : Nat → Row} {n k mm L : Nat} {tx g : Row} {H : zH} (hn : 600 ≤ n) (hC : CS h st k (Int32.ofNat L) tx g H) (hWF : WF g mm) : ∃ H', f_X5_digest n 0 H = some (digS g mm k (111073 + Int32.toInt64 (Int32.ofNat L)), H') ∧ CS h st k (Int32.ofNat L) tx g H' := by
  obtain ⟨h', hH, h05⟩ := CS_H hC
  have hm4 := hWF.1.2.1
  have g0 := hWF.1.2.2.1
  obtain ⟨H', e, hC'⟩ := c_d92 (s := dPl g mm (dVal g (111073 + Int32.toInt64 (Int32.ofNat L)))) hn hC hWF
  refine ⟨H', ?_, hC'⟩
  rw [e_X5_digest, (CS_2 hC).2.1, Option.bind_some, (CS_2 hC).2.2, Option.bind_some]
  simp only [zlet]
  generalize (111073 + Int32.toInt64 (Int32.ofNat L) : Int64) = s at e ⊢
  have e8 : zgI H 5 1 8 = some (Int32.ofNat mm) := by rw [hH, gI_8, g0]
  have d42 : L_X5_digest_42 n H 0 (dVal g s) 0 = some (digS g mm k s, H') := by
    unfold digS
    rw [← e]
    unfold L_X5_digest_42
    refine zfor2 mm (fun p => zseq (dPl1 g) (dVal g s) p) (fun p => Int32.ofNat p) (fun p hp rec => ?_) (fun rec => ?_) (by omega)
    · rw [h05, Option.bind_some, e8, Option.bind_some, if_neg (i32_ge hp (by omega))]
      unfold L_X5_digest_56
      rw [show zseq (dPl1 g) (dVal g s) p = zseq (fun k s => mx s (playerS g p k)) (zseq (dPl1 g) (dVal g s) p) 0 from rfl]
      refine zfor2 7 (fun i => zseq (fun k s => mx s (playerS g p k)) (zseq (dPl1 g) (dVal g s) p) i) (fun i => Int32.ofNat i) (fun i hi rec' => ?_) (fun rec' => ?_) (by omega)
      · rw [if_neg (show ¬ (7 : Int32) ≤ Int32.ofNat _ from i32_ge (N := 7) hi (by omega)), (CS_z hC).1, p_playerQ hn hH h05 g0 hm4 hp hi, Option.bind_some]
        simp only [zlet]
        rw [i32_succ]
        rfl
      · rw [if_pos (by decide)]
        simp only [zlet]
        rw [i32_succ]
        rfl
    · rw [h05, Option.bind_some, e8, Option.bind_some, if_pos (Int32.le_refl _)]
      rfl
  rw [← d42]
  unfold L_X5_digest_15
  refine zfor2 10 (fun i => zseq (fun k s => mx s (numS g (Int32.ofNat k))) s i) (fun i => Int32.ofNat i) (fun i hi rec => ?_) (fun rec => ?_) (by omega)
  · rw [if_neg (show ¬ (10 : Int32) ≤ Int32.ofNat _ from i32_ge (N := 10) hi (by omega)), (CS_z hC).1, c_value hn hH h05 (NextOk_of hWF) hi, Option.bind_some]
    simp only [zlet]
    rw [i32_succ]
    rfl
  · rw [if_pos (by decide)]
    rfl
