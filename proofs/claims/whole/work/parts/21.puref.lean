theorem u_isAhead {n : Nat} {h : zH} {m pp tx w : Row} {hs : Int64} {c d a b : Nat} (hc : c < 4) (hd : d < 4) (ea : m (37 + 7 * d) = Int32.ofNat a) (eb : m (37 + 7 * c) = Int32.ofNat b) (ha : a ≤ 11) (hb : b ≤ 11) : f_X6_isAhead n 123 (Int32.ofNat d) (Int32.ofNat c) (mput h m pp tx w hs) = some (if b < a ∨ (b = a ∧ d < c) then 1 else 0) := by
  unfold f_X6_isAhead
  have pr : ∀ x, x ≤ 11 → (20 : Int32) + 10 * Int32.ofNat x = Int32.ofNat (20 + 10 * x) := fun x _ => by
    rw [show (20 : Int32) = Int32.ofNat 20 from rfl, show (10 : Int32) = Int32.ofNat 10 from rfl, i32_mulm, i32_addn]
  simp only [mgK, u_price hc, u_price hd, ea, eb, pr a ha, pr b hb, zlet, Option.bind_some, i32_lt_of (show 20 + 10 * b < 600 by omega) (show 20 + 10 * a < 600 by omega), i32_eq_of (show 20 + 10 * a < 600 by omega) (show 20 + 10 * b < 600 by omega), i32_le_of (show c < 600 by omega) (show d < 600 by omega)]
  by_cases c1 : b < a
  · rw [if_pos (by omega), if_pos (Or.inl c1)]
  · rw [if_neg (by omega)]
    by_cases c2 : a = b
    · rw [if_pos (by omega)]
      by_cases c3 : d < c
      · rw [if_neg (by omega), if_pos (Or.inr ⟨c2.symm, c3⟩)]
      · rw [if_pos (by omega), if_neg (by omega)]
    · rw [if_neg (by omega), if_neg (by omega)]
def mOrdStep (op : Nat → Bool) (st : Nat → Nat) (c : Nat) (r : Row) : Row := if op c = true then upd (upd r (10 + placeN op st 4 c) (Int32.ofNat c)) 9 (r 9 + 1) else r
def mOrd (op : Nat → Bool) (st : Nat → Nat) (m : Row) : Row := zseq (mOrdStep op st) (rFill (fun k => 10 + k) 0 4 (upd m 9 0)) 4
theorem placeN_lt {op : Nat → Bool} {st : Nat → Nat} {c : Nat} (hc : c < 4) : placeN op st 4 c < 4 := by
  have e : sumTo 4 (fun d => if d ≠ c then 1 else 0) = 3 := by
    obtain rfl | rfl | rfl | rfl : c = 0 ∨ c = 1 ∨ c = 2 ∨ c = 3 := by omega
    all_goals rfl
  have : placeN op st 4 c ≤ sumTo 4 (fun d => if d ≠ c then 1 else 0) := sumTo_le 4 fun d _ => by
    by_cases q : d ≠ c ∧ op d = true ∧ ahead st d c = true
    · rw [if_pos q, if_pos q.1]; exact Nat.le_refl 1
    · rw [if_neg q]; exact Nat.zero_le _
  omega
theorem mOrd_ne {op : Nat → Bool} {st : Nat → Nat} {m : Row} {k i : Nat} (hk : k ≤ 4) (h9 : i ≠ 9) (hi : i < 10 ∨ 14 ≤ i) : zseq (mOrdStep op st) (rFill (fun k => 10 + k) 0 4 (upd m 9 0)) k i = m i := by
  refine zseq_lt (P := fun r : Row => r i = m i) (N := 4) ?_ (fun c r hc hr => ?_) k hk
  · show rFill (fun k => 10 + k) 0 4 (upd m 9 0) i = m i
    rw [rFill_ne (fun j hj => by omega), upd_ne h9]
  · show mOrdStep op st c r i = m i
    unfold mOrdStep
    have := placeN_lt (op := op) (st := st) hc
    split
    · rw [upd_ne h9, upd_ne (by omega), hr]
    · exact hr
theorem u_orders {n : Nat} {h : zH} {m pp tx w : Row} {hs : Int64} {op : Nat → Bool} {st : Nat → Nat} (hn : 600 ≤ n) (hop : ∀ c, c < 4 → (op c = true ∧ m (34 + 7 * c) = 1) ∨ (op c = false ∧ m (34 + 7 * c) = 0)) (hst : ∀ c, c < 4 → m (37 + 7 * c) = Int32.ofNat (st c) ∧ st c ≤ 11) : f_X6_orders n 123 (mput h m pp tx w hs) = some (mput h (mOrd op st m) pp tx w hs) := by
  rw [e_X6_orders]
  simp only [mgR_0, mNs_9, Option.bind_some]
  unfold L_X6_orders_10 mOrd
  refine zfor2 4 (fun k => Int32.ofNat k) (fun k => mput h (rFill (fun k => 10 + k) 0 k (upd m 9 0)) pp tx w hs) (fun k hk rec => ?_) (fun rec => ?_) (by omega)
  · simp only [zlet, if_neg (of_eq_false (ge4 hk)), mgR_0, ixo, mNs (show 10 + k < 134 by omega), Option.bind_some, i32_succ]
    rfl
  · rw [if_pos (by decide)]
    have hne := fun k (hk : k ≤ 4) i (h9 : i ≠ 9) hi => mOrd_ne (op := op) (st := st) (m := m) (k := k) (i := i) hk h9 hi
    unfold L_X6_orders_33
    refine zfor2 4 (fun k => Int32.ofNat k) (fun k => mput h (zseq (mOrdStep op st) (rFill (fun k => 10 + k) 0 4 (upd m 9 0)) k) pp tx w hs) (fun k hk rec => ?_) (fun rec => ?_) (by omega)
    · rw [if_neg (of_eq_false (ge4 hk))]
      show _ = rec _ (mput h (mOrdStep op st k (zseq (mOrdStep op st) (rFill (fun k => 10 + k) 0 4 (upd m 9 0)) k)) pp tx w hs)
      have hr := hne k (by omega)
      generalize zseq (mOrdStep op st) (rFill (fun k => 10 + k) 0 4 (upd m 9 0)) k = r at hr ⊢
      have hop' : ∀ c, c < 4 → (if r (34 + 7 * c) = 1 then (1 : Int32) else 0) = if op c = true then 1 else 0 := by
        intro c hc
        rw [hr _ (by omega) (by omega)]
        rcases hop c hc with ⟨a, b⟩ | ⟨a, b⟩
        · rw [if_pos b, if_pos a]
        · rw [if_neg (by rw [b]; decide), if_neg (by rw [a]; decide)]
      have hah : ∀ d, d < 4 → f_X6_isAhead n 123 (Int32.ofNat d) (Int32.ofNat k) (mput h r pp tx w hs) = some (if ahead st d k = true then 1 else 0) := by
        intro d hd
        rw [u_isAhead hk hd (by rw [hr _ (by omega) (by omega)]; exact (hst d hd).1) (by rw [hr _ (by omega) (by omega)]; exact (hst k hk).1) (hst d hd).2 (hst k hk).2]
        unfold ahead
        by_cases q : st k < st d ∨ (st k = st d ∧ d < k)
        · rw [if_pos q, if_pos (decide_eq_true q)]
        · rw [if_neg q, if_neg (fun e => q (of_decide_eq_true e))]
      unfold L_X6_orders_42
      refine zfor2 4 (fun d => Int32.ofNat (placeN op st d k)) (fun d => Int32.ofNat d) (fun d hd rec' => ?_) (fun rec' => ?_) (by omega)
      · rw [if_neg (of_eq_false (ge4 hd))]
        show _ = rec' (Int32.ofNat (placeN op st d k + if d ≠ k ∧ op d = true ∧ ahead st d k = true then 1 else 0)) (Int32.ofNat (d + 1))
        simp only [zlet, mgK, u_isOpen hd, hop' d hd, hah d hd, Option.bind_some, i32_eq_of (show d < 600 by omega) (show k < 600 by omega), i32_succ]
        by_cases c1 : d = k
        · rw [if_pos c1, if_neg (fun q => q.1 c1), show (0 : Int32) = Int32.ofNat 0 from rfl, i32_addn]
        · rw [if_neg c1]
          by_cases c2 : op d = true
          · rw [if_pos c2, if_neg (show ¬ (1 : Int32) = 0 by decide)]
            by_cases c3 : ahead st d k = true
            · rw [if_pos c3, if_neg (show ¬ (1 : Int32) = 0 by decide), if_pos ⟨c1, c2, c3⟩]
            · rw [if_neg c3, if_pos rfl, if_neg (fun q => c3 q.2.2), show (0 : Int32) = Int32.ofNat 0 from rfl, i32_addn]
          · rw [if_neg c2, if_pos rfl, if_neg (fun q => c2 q.2.1), show (0 : Int32) = Int32.ofNat 0 from rfl, i32_addn]
      · rw [if_pos (by decide)]
        have hp := placeN_lt (op := op) (st := st) hk
        unfold mOrdStep
        simp only [zlet, mgK, u_isOpen hk, hop' k hk, Option.bind_some, i32_succ]
        by_cases c2 : op k = true
        · rw [if_pos c2, if_neg (show ¬ (1 : Int32) = 0 by decide), if_pos c2]
          simp only [mgR_0, ixo, mNs (show 10 + placeN op st 4 k < 134 by omega), mN_9, mNs_9, Option.bind_some, upd_ne (show 9 ≠ 10 + placeN op st 4 k by omega)]
        · rw [if_neg c2, if_pos rfl, if_neg c2]
    · rw [if_pos (by decide)]
theorem u_goesOn {n : Nat} {h : zH} {m pp tx w : Row} {hs : Int64} {len pl : Nat} (hn : 600 ≤ n) (hl : len ≤ 4) (hp : pl ≤ len) (e9 : m 9 = Int32.ofNat len) (e4 : m 4 = Int32.ofNat pl) (ho : pl < len → ∃ c, c < 4 ∧ m (10 + pl) = Int32.ofNat c ∧ m (34 + 7 * c) = 1) : f_X6_goesOn n 123 (mput h m pp tx w hs) = some (mput h (rOver (upd m 8 0)) pp tx w hs) := by
  rw [e_X6_goesOn]
  simp only [mgR_0, mNs_8, Option.bind_some]
  unfold L_X6_goesOn_8 rOver
  have e9' : upd m 8 0 9 = Int32.ofNat len := by rw [upd_ne (by omega), e9]
  have e4' : upd m 8 0 4 = Int32.ofNat pl := by rw [upd_ne (by omega), e4]
  refine zfor1 0 (fun _ => mput h (upd m 8 0) pp tx w hs) (fun k hk rec => absurd hk (by omega)) (fun rec => ?_) (by omega)
  simp only [mgR_0, mN_4, mN_9, e9', e4', zlet, Option.bind_some, i32_le_of (show len < 600 by omega) (show pl < 600 by omega), i32_eq_of (show pl < 600 by omega) (show len < 600 by omega), i32_lt_of (show pl < 600 by omega) (show len < 600 by omega)]
  by_cases c1 : pl < len
  · obtain ⟨c, hc, ec, oc⟩ := ho c1
    have ec' : upd m 8 0 (10 + pl) = Int32.ofNat c := by rw [upd_ne (by omega), ec]
    have oc' : upd m 8 0 (34 + 7 * c) = 1 := by rw [upd_ne (by omega), oc]
    rw [if_neg (by omega), if_pos c1]
    simp only [ixo, mN (show 10 + pl < 134 by omega), ec', mgK, u_isOpen hc, oc', if_true, Option.bind_some, if_neg (show ¬ (1 : Int32) = 0 by decide), if_neg (show ¬ pl = len by omega)]
  · rw [if_pos (by omega), if_neg c1, if_pos (by omega)]
    simp only [mNs_3, mNs_2, mN_5, mNs_5, mgR_0, Option.bind_some]
    rw [upd_ne (show 5 ≠ 2 by omega), upd_ne (show 5 ≠ 3 by omega)]
def mPass (op : Nat → Bool) (st : Nat → Nat) (m : Row) : Row :=
  let m1 := upd (upd m 1 (nextT m)) 2 (m 2 + 1)
  if m 2 + 1 = m 0 then rOver (upd (mOrd op st (upd (upd m1 3 1) 4 0)) 8 0) else m1
theorem u_passes {n : Nat} {h : zH} {m pp tx w : Row} {hs : Int64} {mm : Nat} {op : Nat → Bool} {st : Nat → Nat} (hn : 600 ≤ n) (hb : BaseW m mm) (hop : ∀ c, c < 4 → (op c = true ∧ m (34 + 7 * c) = 1) ∨ (op c = false ∧ m (34 + 7 * c) = 0)) (hst : ∀ c, c < 4 → m (37 + 7 * c) = Int32.ofNat (st c) ∧ st c ≤ 11) (hlen : ∀ m1 : Row, (∀ i, 34 ≤ i → m1 i = m i) → ∃ len, len ≤ 4 ∧ mOrd op st m1 9 = Int32.ofNat len ∧ (0 < len → ∃ c, c < 4 ∧ mOrd op st m1 10 = Int32.ofNat c ∧ op c = true)) : f_X6_passes n 123 (mput h m pp tx w hs) = some (mPass op st m 3, mput h (mPass op st m) pp tx w hs) := by
  obtain ⟨b1, b2, h0, ⟨t, ht, h1⟩, _⟩ := hb
  unfold f_X6_passes mPass
  have e2 : upd m 1 (nextT m) 2 = m 2 := upd_ne (by omega)
  have e0 : upd (upd m 1 (nextT m)) 2 (m 2 + 1) 0 = m 0 := by rw [upd_ne (by omega), upd_ne (by omega)]
  simp only [mgK, u_turns h0 (show mm < 5 by omega) ht h1, mgR_0, mN_2, mNs_2, mN_0, upd_eq, e2, e0, zlet, Option.bind_some]
  by_cases c : m 2 + 1 = m 0
  · rw [if_pos c, if_pos c]
    simp only [mgR_0, mNs_3, mNs_4, mgK, Option.bind_some]
    have hh : ∀ i, 34 ≤ i → upd (upd (upd (upd m 1 (nextT m)) 2 (m 2 + 1)) 3 1) 4 0 i = m i := fun i hi => by rw [upd_ne (by omega), upd_ne (by omega), upd_ne (by omega), upd_ne (by omega)]
    rw [u_orders hn (op := op) (st := st) (fun c hc => by rw [hh _ (by omega)]; exact hop c hc) (fun c hc => by rw [hh _ (by omega)]; exact hst c hc)]
    obtain ⟨len, l4, l9, lo⟩ := hlen _ hh
    have e4 : mOrd op st (upd (upd (upd (upd m 1 (nextT m)) 2 (m 2 + 1)) 3 1) 4 0) 4 = Int32.ofNat 0 := by
      unfold mOrd
      rw [mOrd_ne (by omega) (by omega) (by omega), upd_eq]
      rfl
    simp only [mgK, Option.bind_some]
    rw [u_goesOn hn l4 (Nat.zero_le len) l9 e4 (fun q => by
      obtain ⟨c, hc, e, o⟩ := lo q
      refine ⟨c, hc, e, ?_⟩
      unfold mOrd
      rw [mOrd_ne (by omega) (by omega) (by omega), hh _ (by omega)]
      rcases hop c hc with ⟨_, a⟩ | ⟨a, _⟩
      · exact a
      · rw [o] at a
        exact absurd a (by decide))]
    simp only [mgR_0, mN_3, Option.bind_some]
  · rw [if_neg c, if_neg c]
    simp only [mgR_0, mN_3, Option.bind_some]
def frK (n this : Nat) (p0 : Int32) (rec26 : Int32 → zH → Option zH) (a3_26 s0_97 : Int32) (h153 : zH) : Option zH := zlet (fun (a3_180 : Int32) (h180 : zH) => L_X6_findsRoute_180 n rec26 h180 this a3_180) fun K180 => if s0_97 = 0 then (K180 a3_26 h153) else (zrc h153 this 6 <| (f_X6_of n this p0 (4 : Int32) h153).bind fun (r164 : Int32) => if r164 ≤ (a3_26 + (1 : Int32)) then (K180 a3_26 h153) else (zlet (a3_26 + 1) fun (x170 : Int32) => (zgR h153 this 6 6).bind fun (v174 : Nat) => (zsi h153 v174 x170 (-1 : Int32)).bind fun (h179 : zH) => K180 x170 h179))
def frF (n this : Nat) (p0 r3 : Int32) : (Int32 → zH → Option zH) → Int32 → zH → Option zH := (fun rec26 (a3_26 : Int32) (h26 : zH) => if a3_26 < 0 then (some h26) else ((zgR h26 this 6 6).bind fun (v31 : Nat) => (zai h26 v31 a3_26).bind fun (v36 : Int32) => (zsi h26 v31 a3_26 (v36 + (1 : Int32))).bind fun (h39 : zH) => (zgR h39 this 6 6).bind fun (v41 : Nat) => (zai h39 v41 a3_26).bind fun (v45 : Int32) => zlet (fun (s0_97 : Int32) => zlet (fun (h153 : zH) => frK n this p0 rec26 a3_26 s0_97 h153) fun K153 => if s0_97 = 0 then (K153 h39) else (zrc h39 this 6 <| (f_X6_comes n this a3_26 v45 h39).bind fun (h108 : zH) => if a3_26 ≤ 0 then (K153 h108) else ((zgR h108 this 6 8).bind fun (v116 : Nat) => (zai h108 v116 a3_26).bind fun (v120 : Int32) => (f_X6_has n v120 r3 h108).bind fun (r122 : Int32) => if r122 = 0 then (K153 h108) else ((zgI h108 this 6 10).bind fun (v129 : Int32) => zlet (zrc h108 this 6 <| (f_X6_keepsBest n this a3_26 h108).bind fun (h150 : zH) => K153 h150) fun K148 => if v129 = 0 then (K148) else ((zgR h108 this 6 7).bind fun (v136 : Nat) => (zai h108 v136 a3_26).bind fun (v140 : Int32) => (zgI h108 this 6 11).bind fun (v142 : Int32) => if v140 ≤ v142 then (K153 h108) else (K148)))))) fun K97 => zlet (K97 (0 : Int32)) fun K96 => if (8 : Int32) ≤ v45 then (K96) else (zlet (K97 (1 : Int32)) fun K92 => if a3_26 = 0 then (K92) else ((zgR h39 this 6 8).bind fun (v60 : Nat) => (zai h39 v60 (a3_26 - (1 : Int32))).bind fun (v66 : Int32) => (f_X6_has n v66 v45 h39).bind fun (r69 : Int32) => if r69 = 0 then ((zgR h39 this 6 6).bind fun (v77 : Nat) => (zai h39 v77 (a3_26 - (1 : Int32))).bind fun (v83 : Int32) => zrc h39 this 6 <| (f_X6_level n this v83 v45 h39).bind fun (r86 : Int32) => if r86 ≤ 0 then (K96) else (K92)) else (K96)))))
theorem frF_e (n this : Nat) (p0 r3 a : Int32) (h : zH) : L_X6_findsRoute_26 n this p0 r3 a h = zfix2 (frF n this p0 r3) n a h := rfl
theorem u_has {n : Nat} {u : Int32} {k : Nat} {h : zH} (hk : k < 8) : f_X6_has n u (Int32.ofNat k) h = some (if tb u k = true then 1 else 0) := by
  unfold f_X6_has
  simp only [has_bit hk]
  split <;> rfl
theorem ofNat_pred_ne (d : Nat) : ¬ Int32.ofNat d = -1 ∨ 600 ≤ d := by
  rcases Nat.lt_or_ge d 600 with q | q
  · left
    intro e
    rcases Nat.lt_or_ge d 599 with q2 | q2
    · have := in_of (show d < d + 1 by omega) (show d + 1 < 600 by omega)
      rw [e] at this
      exact this (Or.inl (by decide))
    · rw [show d = 599 by omega] at e
      exact absurd e (by decide)
  · exact Or.inr q
def rCome (w : Row) (d t y : Nat) (u : Int32) : Row := upd (upd (upd w d (Int32.ofNat t)) (5 + d) (Int32.ofNat y)) (10 + d) (1 <<< (Int32.ofNat t &&& 31) ||| u)
def mkeep (d : Nat) (w : Row) : Row := zseq (fun k w => upd w (15 + k) (w k)) (upd (upd w 24 (w (5 + d))) 23 (Int32.ofNat (d + 1))) (d + 1)
theorem mkeep_ne {d i : Nat} {w : Row} (hd : d < 5) (hi : i < 15 ∨ 25 ≤ i ∨ (20 ≤ i ∧ i < 23)) : mkeep d w i = w i := by
  unfold mkeep
  refine (zseq_lt (P := fun r : Row => r i = w i) (N := d + 1) ?_ (fun k s hk hs => ?_) (d + 1) (Nat.le_refl _))
  · show upd (upd w 24 _) 23 _ i = w i
    rw [upd_ne (by omega), upd_ne (by omega)]
  · show upd s (15 + k) (s k) i = w i
    rw [upd_ne (by omega), hs]
theorem mkeep_23 {d : Nat} {w : Row} (hd : d < 5) : mkeep d w 23 = Int32.ofNat (d + 1) ∧ mkeep d w 24 = w (5 + d) := by
  unfold mkeep
  refine (zseq_lt (P := fun r : Row => r 23 = Int32.ofNat (d + 1) ∧ r 24 = w (5 + d)) (N := d + 1) ?_ (fun k s hk hs => ?_) (d + 1) (Nat.le_refl _))
  · show upd (upd w 24 _) 23 _ 23 = _ ∧ upd (upd w 24 _) 23 _ 24 = _
    rw [upd_eq, upd_ne (by omega), upd_eq]
    exact ⟨rfl, rfl⟩
  · show upd s (15 + k) (s k) 23 = _ ∧ upd s (15 + k) (s k) 24 = _
    rw [upd_ne (by omega), upd_ne (by omega)]
    exact hs
theorem mkeep_at {d i : Nat} {w : Row} (hd : d < 5) (hi : i ≤ d) : mkeep d w (15 + i) = w i := by
  unfold mkeep
  have key := zseq_ok (N := d + 1) (P := fun k (r : Row) => (∀ j, j < 15 → r j = w j) ∧ ∀ j, j < k → r (15 + j) = w j) (step := fun k w => upd w (15 + k) (w k)) (s := upd (upd w 24 (w (5 + d))) 23 (Int32.ofNat (d + 1))) ⟨fun j hj => by rw [upd_ne (by omega), upd_ne (by omega)], fun j hj => by omega⟩ (fun k r hk hr => ⟨fun j hj => by show upd r (15 + k) (r k) j = w j; rw [upd_ne (by omega), hr.1 j hj], fun j hj => by
    show upd r (15 + k) (r k) (15 + j) = w j
    by_cases e : j = k
    · rw [e, upd_eq, hr.1 k (by omega)]
    · rw [upd_ne (by omega), hr.2 j (by omega)]⟩) (d + 1) (Nat.le_refl _)
  exact key.2 i (by omega)
theorem u_keepsBest {n : Nat} {h : zH} {m pp tx w : Row} {hs : Int64} {d : Nat} (hn : 600 ≤ n) (hd : d < 5) : f_X6_keepsBest n 123 (Int32.ofNat d) (mput h m pp tx w hs) = some (mput h m pp tx (mkeep d w) hs) := by
  rw [e_X6_keepsBest]
  simp only [mgR_7, mW_128 hd, msI_11, msI_10, Option.bind_some, i32_succ]
  unfold L_X6_keepsBest_19 mkeep
  refine zfor2 (d + 1) (fun k => Int32.ofNat k) (fun k => mput h m pp tx (zseq (fun k w => upd w (15 + k) (w k)) (upd (upd w 24 (w (5 + d))) 23 (Int32.ofNat (d + 1))) k) hs) (fun k hk rec => ?_) (fun rec => ?_) (by omega)
  · simp only [zlet, i32_lt_of (show d < 600 by omega) (show k < 600 by omega), if_neg (show ¬ d < k by omega), mgR_9, mgR_6, mW_127 (show k < 5 by omega), mWs_130 (show k < 5 by omega), Option.bind_some, i32_succ]
    rfl
  · exact if_pos (by rw [i32_lt_of (show d < 600 by omega) (show d + 1 < 600 by omega)]; omega)
theorem u_comes0 {n : Nat} {h : zH} {m pp tx w : Row} {hs : Int64} {t v : Nat} (ht : t < 8) (hv : m (126 + t) = Int32.ofNat v) (hw : w 0 = Int32.ofNat t) : f_X6_comes n 123 0 (Int32.ofNat t) (mput h m pp tx w hs) = some (mput h m pp tx (rCome w 0 t v 0) hs) := by
  have e5 : ∀ x, zsi (mput h m pp tx w hs) 128 0 x = some (mput h m pp tx (upd w (5 + 0) x) hs) := fun x => mWs_128 (k := 0) (by omega)
  have e10 : ∀ w x, zsi (mput h m pp tx w hs) 129 0 x = some (mput h m pp tx (upd w (10 + 0) x) hs) := fun w x => mWs_129 (k := 0) (by omega)
  unfold f_X6_comes rCome
  simp only [zlet, if_true, mgR_7, mgR_0, mgR_8, ixt, mN (show 126 + t < 134 by omega), hv, e5, e10, Option.bind_some, Int32.add_zero, if_neg (show ¬ (1 : Int32) = 0 by decide)]
  rw [upd_self hw]
theorem u_comes1 {n : Nat} {h : zH} {m pp tx w : Row} {hs : Int64} {t v e u x : Nat} (hd : e + 1 < 5) (ht : t < 8) (hu : u < 8) (hv : m (126 + t) = Int32.ofNat v) (hw : w (e + 1) = Int32.ofNat t) (hp : w e = Int32.ofNat u) (hx : w (5 + e) = Int32.ofNat x) : f_X6_comes n 123 (Int32.ofNat (e + 1)) (Int32.ofNat t) (mput h m pp tx w hs) = some (mput h m pp tx (rCome w (e + 1) t (x + (if m (62 + 8 * u + t) = 2 then 5 else 0) + v) (w (10 + e))) hs) := by
  have hz : ¬ Int32.ofNat (e + 1) = 0 := by
    intro q
    have : (Int32.ofNat (e + 1) = Int32.ofNat 0) = (e + 1 = 0) := i32_eq_of (by omega) (by omega)
    rw [show (0 : Int32) = Int32.ofNat 0 from rfl, this] at q
    omega
  have hw10 : ∀ y, upd w (5 + (e + 1)) y (10 + e) = w (10 + e) := fun y => upd_ne (by omega)
  unfold f_X6_comes rCome
  simp only [zlet, if_neg hz, if_true, mgR_6, mgR_7, mgR_0, mgR_8, ixt, mN (show 126 + t < 134 by omega), hv, i32_pred, mW_127 (show e < 5 by omega), mW_128 (show e < 5 by omega), mW_129 (show e < 5 by omega), mWs_128 (show e + 1 < 5 by omega), mWs_129 (show e + 1 < 5 by omega), hp, hx, mgK, u_level hu ht, Option.bind_some, hw10]
  have hadd : ∀ y : Nat, Int32.ofNat v + Int32.ofNat x + Int32.ofNat y = Int32.ofNat (x + y + v) := fun y => by
    rw [i32_addn, i32_addn]
    exact congrArg _ (by omega)
  rw [upd_self hw]
  split
  · rw [show (5 : Int32) = Int32.ofNat 5 from rfl, hadd]
  · rw [show (0 : Int32) = Int32.ofNat 0 from rfl, hadd]
theorem l_pop1 {n : Nat} {h : zH} {m pp tx w : Row} {hs : Int64} {rec : Int32 → zH → Option zH} {d : Nat} (hn : 600 ≤ n) (hd : d < 5) (hw : (∃ t, t < 8 ∧ w d = Int32.ofNat t) ∨ w d = -1) : L_X6_findsRoute_180 n rec (mput h m pp tx w hs) 123 (Int32.ofNat d) = rec (Int32.ofNat d) (mput h m pp tx w hs) := by
  unfold L_X6_findsRoute_180
  refine zfor1 0 (fun _ => Int32.ofNat d) (fun k hk rec => absurd hk (by omega)) (fun rec' => ?_) (by omega)
  have h0 : ¬ Int32.ofNat d < 0 := fun q => in_of (show d < 5 by omega) (show 5 < 600 by omega) (Or.inl q)
  have h8 : w d < 8 := by
    rcases hw with ⟨t, ht, e⟩ | e
    · rw [e]
      have : (Int32.ofNat t < (8 : Int32)) = (t < 8) := i32_lt_of (b := 8) (by omega) (by omega)
      rw [this]
      omega
    · rw [e]
      decide
  simp only [zlet, if_neg h0, mgR_6, mW_127 hd, if_pos h8, Option.bind_some]
theorem l_pop2 {n : Nat} {h : zH} {m pp tx w : Row} {hs : Int64} {rec : Int32 → zH → Option zH} {d : Nat} (hn : 600 ≤ n) (hd : d < 5) (hw : w d = 8) (hp : ∀ e, d = e + 1 → ∃ t, t < 8 ∧ w e = Int32.ofNat t) : L_X6_findsRoute_180 n rec (mput h m pp tx w hs) 123 (Int32.ofNat d) = rec (Int32.ofNat d - 1) (mput h m pp tx w hs) := by
  unfold L_X6_findsRoute_180
  refine zfor1 1 (fun k => if k = 0 then Int32.ofNat d else Int32.ofNat d - 1) (fun k hk rec' => ?_) (fun rec' => ?_) (by omega)
  · have h0 : ¬ Int32.ofNat d < 0 := fun q => in_of (show d < 5 by omega) (show 5 < 600 by omega) (Or.inl q)
    have hk0 : k = 0 := by omega
    subst hk0
    simp only [if_true, zlet, if_neg h0, mgR_6, mW_127 hd, hw, if_neg (show ¬ (8 : Int32) < 8 by decide), Option.bind_some, if_neg (show ¬ 0 + 1 = 0 by omega), Int32.sub_eq_add_neg]
  · simp only [if_neg (show ¬ 1 = 0 by omega), zlet]
    cases d with
    | zero => rw [if_pos (show Int32.ofNat 0 - 1 < 0 by decide)]
    | succ e =>
      obtain ⟨t, ht, et⟩ := hp e rfl
      have h0 : ¬ Int32.ofNat e < 0 := fun q => in_of (show e < 5 by omega) (show 5 < 600 by omega) (Or.inl q)
      have h8 : Int32.ofNat t < 8 := by
        have : (Int32.ofNat t < (8 : Int32)) = (t < 8) := i32_lt_of (b := 8) (by omega) (by omega)
        rw [this]
        omega
      rw [i32_pred, if_neg h0]
      simp only [mgR_6, mW_127 (show e < 5 by omega), et, if_pos h8, Option.bind_some]
theorem frK_0 {n : Nat} {p0 : Int32} {rec : Int32 → zH → Option zH} {a : Int32} {h : zH} : frK n 123 p0 rec a 0 h = L_X6_findsRoute_180 n rec h 123 a := by
  unfold frK
  simp only [zlet, if_true]
theorem fr_pop {n : Nat} {h : zH} {m pp tx w : Row} {hs : Int64} {rec : Int32 → zH → Option zH} {c d home : Nat} (hn : 600 ≤ n) (hd : d < 5) (hw : w d = Int32.ofNat 8 - 1) (hp : ∀ e, d = e + 1 → ∃ t, t < 8 ∧ w e = Int32.ofNat t) : frF n 123 (Int32.ofNat c) (Int32.ofNat home) rec (Int32.ofNat d) (mput h m pp tx w hs) = rec (Int32.ofNat d - 1) (mput h m pp tx (upd w d 8) hs) := by
  unfold frF
  have h0 : ¬ Int32.ofNat d < 0 := fun q => in_of (show d < 5 by omega) (show 5 < 600 by omega) (Or.inl q)
  have e8 : w d + 1 = 8 := by rw [hw]; rfl
  simp only [if_neg h0, mgR_6, mW_127 hd, mWs_127 hd, e8, zlet, upd_eq, if_pos (show (8 : Int32) ≤ 8 by decide), if_true, frK_0, Option.bind_some]
  exact l_pop2 hn hd upd_eq (fun e he => by
    obtain ⟨t, ht, et⟩ := hp e he
    exact ⟨t, ht, by rw [upd_ne (by omega), et]⟩)
theorem fr_no {n : Nat} {h : zH} {m pp tx w : Row} {hs : Int64} {rec : Int32 → zH → Option zH} {c e home t u : Nat} {P : List Nat} (hn : 600 ≤ n) (hd : e + 1 < 5) (ht : t < 8) (hu : u < 8) (hw : w (e + 1) = Int32.ofNat t - 1) (hp : w e = Int32.ofNat u) (ht10 : usedOk (w (10 + e)) P) (hno : t ∈ P ∨ m (62 + 8 * u + t) ≤ 0) : frF n 123 (Int32.ofNat c) (Int32.ofNat home) rec (Int32.ofNat (e + 1)) (mput h m pp tx w hs) = rec (Int32.ofNat (e + 1)) (mput h m pp tx (upd w (e + 1) (Int32.ofNat t)) hs) := by
  unfold frF
  have h0 : ¬ Int32.ofNat (e + 1) < 0 := fun q => in_of (show e + 1 < 5 by omega) (show 5 < 600 by omega) (Or.inl q)
  have hz : ¬ Int32.ofNat (e + 1) = 0 := by
    intro q
    have : (Int32.ofNat (e + 1) = Int32.ofNat 0) = (e + 1 = 0) := i32_eq_of (by omega) (by omega)
    rw [show (0 : Int32) = Int32.ofNat 0 from rfl, this] at q
    omega
  have et : w (e + 1) + 1 = Int32.ofNat t := by rw [hw]; exact Int32.sub_add_cancel _ _
  have h10 : upd w (e + 1) (Int32.ofNat t) (10 + e) = w (10 + e) := upd_ne (by omega)
  have h1 : upd w (e + 1) (Int32.ofNat t) e = w e := upd_ne (by omega)
  simp only [if_neg h0, mgR_6, mgR_8, mW_127 hd, mWs_127 hd, et, zlet, upd_eq, if_neg (of_eq_false (ge8 ht)), if_neg hz, i32_pred, mW_129 (show e < 5 by omega), h10, u_has ht, Option.bind_some]
  by_cases c1 : t ∈ P
  · rw [ht10 t ht, if_pos (decide_eq_true c1), if_neg (show ¬ (1 : Int32) = 0 by decide), if_pos trivial, frK_0]
    exact l_pop1 hn hd (Or.inl ⟨t, ht, upd_eq⟩)
  · have c2 := hno.resolve_left c1
    rw [ht10 t ht, if_neg (fun q => c1 (of_decide_eq_true q)), if_pos rfl]
    simp only [mW_127 (show e < 5 by omega), h1, hp, mgK, u_level hu ht, Option.bind_some, if_pos c2, if_true, frK_0]
    exact l_pop1 hn hd (Or.inl ⟨t, ht, upd_eq⟩)
def rKeepM (d home : Nat) (P : List Nat) (w : Row) : Row := if d = 0 then w else if home ∉ P then w else if w 23 = 0 then mkeep d w else if w (5 + d) ≤ w 24 then w else mkeep d w
def rGo (S d : Nat) (w : Row) : Row := if d + 1 < S then upd w (d + 1) (-1) else w
theorem rKeepM_ne {d home i : Nat} {P : List Nat} {w : Row} (hd : d < 5) (hi : i < 15 ∨ 25 ≤ i ∨ (20 ≤ i ∧ i < 23)) : rKeepM d home P w i = w i := by
  unfold rKeepM
  split
  · rfl
  · split
    · rfl
    · split
      · exact mkeep_ne hd hi
      · split
        · rfl
        · exact mkeep_ne hd hi
theorem frK_1 {n : Nat} {h : zH} {m pp tx w : Row} {hs : Int64} {rec : Int32 → zH → Option zH} {c d S t : Nat} (hn : 600 ≤ n) (hc : c < 4) (hd : d < 5) (hS : S ≤ 5) (ht : t < 8) (eS : m (38 + 7 * c) = Int32.ofNat S) (hw : w d = Int32.ofNat t) : frK n 123 (Int32.ofNat c) rec (Int32.ofNat d) 1 (mput h m pp tx w hs) = rec (if d + 1 < S then Int32.ofNat (d + 1) else Int32.ofNat d) (mput h m pp tx (rGo S d w) hs) := by
  unfold frK rGo
  simp only [zlet, if_neg (show ¬ (1 : Int32) = 0 by decide), mgK, u_of_4 hc, eS, i32_succ, i32_le_of (show S < 600 by omega) (show d + 1 < 600 by omega), mgR_6, Option.bind_some]
  by_cases c1 : d + 1 < S
  · rw [if_neg (by omega), if_pos c1, if_pos c1, mWs_127 (show d + 1 < 5 by omega), Option.bind_some]
    exact l_pop1 hn (by omega) (Or.inr upd_eq)
  · rw [if_pos (by omega), if_neg c1, if_neg c1]
    exact l_pop1 hn hd (Or.inl ⟨t, ht, hw⟩)
theorem fr_may {n : Nat} {h : zH} {m pp tx w : Row} {hs : Int64} {rec : Int32 → zH → Option zH} {c d home S t y : Nat} {u0 : Int32} {P : List Nat} (hn : 600 ≤ n) (hc : c < 4) (hh : home < 8) (hd : d < 5) (hS : S ≤ 5) (ht : t < 8) (eS : m (38 + 7 * c) = Int32.ofNat S) (hw : w d = Int32.ofNat t - 1) (hmay : d = 0 ∨ ∃ e u, d = e + 1 ∧ u < 8 ∧ w e = Int32.ofNat u ∧ usedOk (w (10 + e)) P ∧ t ∉ P ∧ ¬ m (62 + 8 * u + t) ≤ 0) (hcome : f_X6_comes n 123 (Int32.ofNat d) (Int32.ofNat t) (mput h m pp tx (upd w d (Int32.ofNat t)) hs) = some (mput h m pp tx (rCome (upd w d (Int32.ofNat t)) d t y u0) hs)) (hu : usedOk (1 <<< (Int32.ofNat t &&& 31) ||| u0) (t :: P)) : frF n 123 (Int32.ofNat c) (Int32.ofNat home) rec (Int32.ofNat d) (mput h m pp tx w hs) = rec (if d + 1 < S then Int32.ofNat (d + 1) else Int32.ofNat d) (mput h m pp tx (rGo S d (rKeepM d home (t :: P) (rCome (upd w d (Int32.ofNat t)) d t y u0))) hs) := by
  have h0 : ¬ Int32.ofNat d < 0 := fun q => in_of (show d < 5 by omega) (show 5 < 600 by omega) (Or.inl q)
  have et : w d + 1 = Int32.ofNat t := by rw [hw]; exact Int32.sub_add_cancel _ _
  have W0 : rCome (upd w d (Int32.ofNat t)) d t y u0 d = Int32.ofNat t := by
    unfold rCome
    rw [upd_ne (by omega), upd_ne (by omega), upd_eq]
  have W10 : rCome (upd w d (Int32.ofNat t)) d t y u0 (10 + d) = 1 <<< (Int32.ofNat t &&& 31) ||| u0 := by
    unfold rCome
    rw [upd_eq]
  have key : (zrc (mput h m pp tx (upd w d (Int32.ofNat t)) hs) 123 6 <| (f_X6_comes n 123 (Int32.ofNat d) (Int32.ofNat t) (mput h m pp tx (upd w d (Int32.ofNat t)) hs)).bind fun (h108 : zH) => if Int32.ofNat d ≤ 0 then (frK n 123 (Int32.ofNat c) rec (Int32.ofNat d) 1 h108) else ((zgR h108 123 6 8).bind fun (v116 : Nat) => (zai h108 v116 (Int32.ofNat d)).bind fun (v120 : Int32) => (f_X6_has n v120 (Int32.ofNat home) h108).bind fun (r122 : Int32) => if r122 = 0 then (frK n 123 (Int32.ofNat c) rec (Int32.ofNat d) 1 h108) else ((zgI h108 123 6 10).bind fun (v129 : Int32) => zlet (zrc h108 123 6 <| (f_X6_keepsBest n 123 (Int32.ofNat d) h108).bind fun (h150 : zH) => frK n 123 (Int32.ofNat c) rec (Int32.ofNat d) 1 h150) fun K148 => if v129 = 0 then (K148) else ((zgR h108 123 6 7).bind fun (v136 : Nat) => (zai h108 v136 (Int32.ofNat d)).bind fun (v140 : Int32) => (zgI h108 123 6 11).bind fun (v142 : Int32) => if v140 ≤ v142 then (frK n 123 (Int32.ofNat c) rec (Int32.ofNat d) 1 h108) else (K148))))) = rec (if d + 1 < S then Int32.ofNat (d + 1) else Int32.ofNat d) (mput h m pp tx (rGo S d (rKeepM d home (t :: P) (rCome (upd w d (Int32.ofNat t)) d t y u0))) hs) := by
    have d0 : (Int32.ofNat d ≤ 0) = (d = 0) := by
      rw [show (0 : Int32) = Int32.ofNat 0 from rfl, i32_le_of (by omega) (by omega)]
      exact propext (by omega)
    rw [mgK, hcome, Option.bind_some]
    generalize rCome (upd w d (Int32.ofNat t)) d t y u0 = W at W0 W10 ⊢
    have kd : mkeep d W d = Int32.ofNat t := by rw [mkeep_ne hd (by omega), W0]
    unfold rKeepM
    by_cases c1 : d = 0
    · rw [if_pos (d0 ▸ c1), if_pos c1]
      exact frK_1 hn hc hd hS ht eS W0
    · rw [if_neg (fun q => c1 (d0 ▸ q)), if_neg c1]
      simp only [mgR_8, mW_129 hd, W10, u_has hh, hu home hh, mgI_10, mgI_11, mgR_7, mW_128 hd, mgK, u_keepsBest hn hd, zlet, Option.bind_some]
      by_cases c2 : home ∈ t :: P
      · rw [if_pos (decide_eq_true c2), if_neg (show ¬ (1 : Int32) = 0 by decide), if_neg (not_not_intro c2)]
        by_cases c3 : W 23 = 0
        · rw [if_pos c3, if_pos c3]
          exact frK_1 hn hc hd hS ht eS kd
        · rw [if_neg c3, if_neg c3]
          by_cases c4 : W (5 + d) ≤ W 24
          · rw [if_pos c4, if_pos c4]
            exact frK_1 hn hc hd hS ht eS W0
          · rw [if_neg c4, if_neg c4]
            exact frK_1 hn hc hd hS ht eS kd
      · rw [if_neg (fun q => c2 (of_decide_eq_true q)), if_pos rfl, if_pos c2]
        exact frK_1 hn hc hd hS ht eS W0
  unfold frF
  simp only [if_neg h0, mgR_6, mgR_8, mW_127 hd, mWs_127 hd, et, zlet, upd_eq, if_neg (of_eq_false (ge8 ht)), Option.bind_some]
  rcases hmay with c1 | ⟨e, u, rfl, hu8, hwe, hue, hno, hlev⟩
  · have cz : Int32.ofNat d = 0 := by rw [c1]; rfl
    rw [if_pos cz, if_neg (show ¬ (1 : Int32) = 0 by decide)]
    exact key
  · have hz : ¬ Int32.ofNat (e + 1) = 0 := by
      intro q
      have : (Int32.ofNat (e + 1) = Int32.ofNat 0) = (e + 1 = 0) := i32_eq_of (by omega) (by omega)
      rw [show (0 : Int32) = Int32.ofNat 0 from rfl, this] at q
      omega
    have h10 : upd w (e + 1) (Int32.ofNat t) (10 + e) = w (10 + e) := upd_ne (by omega)
    have h1 : upd w (e + 1) (Int32.ofNat t) e = w e := upd_ne (by omega)
    rw [if_neg hz, i32_pred, mW_129 (show e < 5 by omega), h10, Option.bind_some, u_has ht, hue t ht, if_neg (fun q => hno (of_decide_eq_true q)), Option.bind_some, if_pos rfl]
    rw [mW_127 (show e < 5 by omega), h1, hwe, Option.bind_some, mgK, u_level hu8 ht, Option.bind_some, if_neg hlev, if_neg (show ¬ (1 : Int32) = 0 by decide)]
    exact key
def mRel (w : Row) (s : List Nat × Int32) : Prop := w 23 = Int32.ofNat s.1.length ∧ s.1.length ≤ 5 ∧ (∀ i, i < s.1.length → w (15 + i) = Int32.ofNat (s.1.reverse.getD i 0)) ∧ ((s.1 = [] ∧ s.2 = -1 ∧ w 24 = 0) ∨ (s.1 ≠ [] ∧ ∃ x, x ≤ 475 ∧ s.2 = Int32.ofNat x ∧ w 24 = Int32.ofNat x))
def mPre (w : Row) (P : List Nat) (x : Nat) : Prop := (∀ i, i < P.length → w i = Int32.ofNat (P.reverse.getD i 0)) ∧ ∀ e, P.length = e + 1 → w (5 + e) = Int32.ofNat x ∧ usedOk (w (10 + e)) P
def keepBelow (d : Nat) (w w' : Row) : Prop := (∀ i, i < d → w' i = w i ∧ w' (5 + i) = w (5 + i) ∧ w' (10 + i) = w (10 + i)) ∧ ∀ i, 20 ≤ i → i ≠ 23 → i ≠ 24 → w' i = w i
def lvlNodes (g : Row) (left : Nat) (P : List Nat) (x t : Nat) : List (List Nat × Int32) := match P with
  | [] => nodes g left t [] 0
  | u :: _ => kidsOf g u (fun k z => nodes g left k P z) P (Int32.ofNat x) t
theorem lvlNodes_cons {g : Row} {left u x t : Nat} {P : List Nat} : lvlNodes g left (u :: P) x t = kidsOf g u (fun k z => nodes g left k (u :: P) z) (u :: P) (Int32.ofNat x) t := rfl
theorem keepBelow_trans {d : Nat} {w w' w'' : Row} (h : keepBelow d w w') (h' : keepBelow d w' w'') : keepBelow d w w'' := ⟨fun i hi => ⟨by rw [(h'.1 i hi).1, (h.1 i hi).1], by rw [(h'.1 i hi).2.1, (h.1 i hi).2.1], by rw [(h'.1 i hi).2.2, (h.1 i hi).2.2]⟩, fun i h1 h2 h3 => by rw [h'.2 i h1 h2 h3, h.2 i h1 h2 h3]⟩
theorem keepBelow_mono {d d' : Nat} {w w' : Row} (hd : d ≤ d') (h : keepBelow d' w w') : keepBelow d w w' := ⟨fun i hi => h.1 i (by omega), h.2⟩
theorem keepBelow_of {d : Nat} {w w' : Row} (hd : d ≤ 5) (h : ∀ i, (i < d ∨ (5 ≤ i ∧ i < 5 + d) ∨ (10 ≤ i ∧ i < 10 + d) ∨ 25 ≤ i ∨ (20 ≤ i ∧ i < 23)) → w' i = w i) : keepBelow d w w' := ⟨fun i hi => ⟨h i (by omega), h _ (by omega), h _ (by omega)⟩, fun i h1 h2 h3 => h i (by omega)⟩
theorem mPre_below {w w' : Row} {P : List Nat} {x : Nat} (hp : mPre w P x) (h : keepBelow P.length w w') : mPre w' P x := ⟨fun i hi => by rw [(h.1 i hi).1, hp.1 i hi], fun e he => by
  have a := hp.2 e he
  rw [(h.1 e (by omega)).2.1, (h.1 e (by omega)).2.2]
  exact a⟩
theorem mRel_ne {w w' : Row} {s : List Nat × Int32} (hs : mRel w s) (h : ∀ i, 15 ≤ i → i < 25 → w' i = w i) : mRel w' s := by
  obtain ⟨h1, h2, h3, h4⟩ := hs
  refine ⟨by rw [h 23 (by omega) (by omega), h1], h2, fun i hi => by rw [h _ (by omega) (by omega), h3 i hi], ?_⟩
  rw [h 24 (by omega) (by omega)]
  exact h4
theorem keepM_spec {w : Row} {P : List Nat} {home t y : Nat} {s : List Nat × Int32} (hd : P.length < 5) (hr : ∀ i, i < (t :: P).length → w i = Int32.ofNat ((t :: P).reverse.getD i 0)) (hy : w (5 + P.length) = Int32.ofNat y) (hy2 : y ≤ 475) (hs : mRel w s) : mRel (rKeepM P.length home (t :: P) w) (keepS home s (t :: P, Int32.ofNat y)) := by
  have hk : mRel (mkeep P.length w) (t :: P, Int32.ofNat y) := by
    have k23 := mkeep_23 (w := w) hd
    refine ⟨?_, ?_, fun i hi => ?_, Or.inr ⟨List.cons_ne_nil _ _, y, hy2, rfl, ?_⟩⟩
    · rw [k23.1, List.length_cons]
    · rw [List.length_cons]; omega
    · rw [List.length_cons] at hi
      rw [mkeep_at hd (by omega), hr i (by rw [List.length_cons]; exact hi)]
    · rw [k23.2, hy]
  unfold rKeepM keepS
  show mRel _ (if home ∈ t :: P ∧ 1 < (t :: P).length ∧ s.2 < Int32.ofNat y then _ else _)
  rw [List.length_cons]
  by_cases c1 : P.length = 0
  · rw [if_pos c1, if_neg (by omega)]
    exact hs
  · rw [if_neg c1]
    by_cases c2 : home ∈ t :: P
    · rw [if_neg (not_not_intro c2)]
      obtain ⟨h1, h2, h3, h4⟩ := hs
      rcases h4 with ⟨a, b, d⟩ | ⟨a, x, hx, b, d⟩
      · have e23 : w 23 = 0 := by rw [h1, a]; rfl
        have lt : s.2 < Int32.ofNat y := by
          rw [b, Int32.lt_iff_toInt_lt, Int32.toInt_ofNat_of_lt (by omega)]
          have : (-1 : Int32).toInt = -1 := rfl
          omega
        rw [if_pos e23, if_pos ⟨c2, by omega, lt⟩]
        exact hk
      · have e23 : ¬ w 23 = 0 := by
          intro q
          rw [h1, show (0 : Int32) = Int32.ofNat 0 from rfl, i32_eq_of (by omega) (by omega)] at q
          exact a (List.eq_nil_of_length_eq_zero q)
        have q1 : (w (5 + P.length) ≤ w 24) = (y ≤ x) := by rw [hy, d]; exact i32_le_of (by omega) (by omega)
        have q2 : (s.2 < Int32.ofNat y) = (x < y) := by rw [b]; exact i32_lt_of (by omega) (by omega)
        rw [if_neg e23]
        simp only [q1, q2]
        by_cases c3 : y ≤ x
        · rw [if_pos c3, if_neg (by omega)]
          exact ⟨h1, h2, h3, Or.inr ⟨a, x, hx, b, d⟩⟩
        · rw [if_neg c3, if_pos ⟨c2, by omega, by omega⟩]
          exact hk
    · rw [if_pos c2, if_neg (fun q => c2 q.1)]
      exact hs
def costN : Nat → Nat
  | 0 => 0
  | l + 1 => 1 + 8 * (1 + costN l)
theorem usedOk_cons' {u : Int32} {P : List Nat} {t : Nat} (h : usedOk u P) (ht : t < 8) : usedOk (1 <<< (Int32.ofNat t &&& 31) ||| u) (t :: P) := by
  rw [Int32.or_comm]
  exact usedOk_cons h ht
theorem getD_mem {P : List Nat} {i : Nat} (hP : ∀ u, u ∈ P → u < 8) (hi : i < P.length) : P.reverse.getD i 0 < 8 := by
  have h : i < P.reverse.length := by rw [List.length_reverse]; exact hi
  rw [List.getD_eq_getElem?_getD, List.getElem?_eq_getElem h, Option.getD_some]
  exact hP _ (List.mem_reverse.mp (List.getElem_mem h))
def mayD (g w : Row) (P : List Nat) (t : Nat) : Prop := P.length = 0 ∨ ∃ e u, P.length = e + 1 ∧ u < 8 ∧ w e = Int32.ofNat u ∧ usedOk (w (10 + e)) P ∧ t ∉ P ∧ ¬ g (62 + 8 * u + t) ≤ 0
def nodesTl (g : Row) (left t : Nat) (P : List Nat) (z : Int32) : List (List Nat × Int32) := match left with
  | 0 => []
  | l + 1 => (List.range 8).flatMap (kidsOf g t (fun k x => nodes g l k (t :: P) x) (t :: P) z)
theorem nodes_tl {g : Row} {left t : Nat} {P : List Nat} {z : Int32} : nodes g left t P z = (t :: P, z + g (126 + t)) :: nodesTl g left t P (z + g (126 + t)) := by
  cases left with
  | zero => rfl
  | succ l => rfl
def Deep (n : Nat) (h : zH) (g pp tx : Row) (hs : Int64) (c home S left : Nat) : Prop := ∀ (t : Nat) (P : List Nat) (y : Nat) (w : Row) (s : List Nat × Int32), P.length = S - left - 1 → t < 8 → (∀ u, u ∈ P → u < 8) → y ≤ 95 * (P.length + 1) → mPre w (t :: P) y → mRel w s → ∃ k w', k ≤ costN left ∧ (∀ N, zfix2 (frF n 123 (Int32.ofNat c) (Int32.ofNat home)) (N + k) (if P.length + 1 < S then Int32.ofNat (P.length + 1) else Int32.ofNat P.length) (mput h g pp tx (rGo S P.length w) hs) = zfix2 (frF n 123 (Int32.ofNat c) (Int32.ofNat home)) N (Int32.ofNat P.length) (mput h g pp tx w' hs)) ∧ keepBelow (P.length + 1) w w' ∧ mRel w' ((nodesTl g left t P (Int32.ofNat y)).foldl (keepS home) s)
theorem dfs_level {n : Nat} {h : zH} {g pp tx : Row} {hs : Int64} {c home S left : Nat} (hn : 600 ≤ n) (hc : c < 4) (hh : home < 8) (hS : S ≤ 5) (eS : g (38 + 7 * c) = Int32.ofNat S) (hv : ∀ t, t < 8 → ∃ v, v ≤ 90 ∧ g (126 + t) = Int32.ofNat v) (hl : left + 1 ≤ S) (hdeep : Deep n h g pp tx hs c home S left) : ∀ (P : List Nat) (x : Nat), P.length = S - left - 1 → (∀ u, u ∈ P → u < 8) → x ≤ 95 * P.length → ∀ j, j ≤ 8 → ∀ (w : Row) (s : List Nat × Int32), mPre w P x → w P.length = Int32.ofNat (8 - j) - 1 → mRel w s → ∃ k w', k ≤ 1 + j * (1 + costN left) ∧ (∀ N, zfix2 (frF n 123 (Int32.ofNat c) (Int32.ofNat home)) (N + k) (Int32.ofNat P.length) (mput h g pp tx w hs) = zfix2 (frF n 123 (Int32.ofNat c) (Int32.ofNat home)) N (Int32.ofNat P.length - 1) (mput h g pp tx w' hs)) ∧ keepBelow P.length w w' ∧ mRel w' (((List.range' (8 - j) j).flatMap (lvlNodes g left P x)).foldl (keepS home) s) := by
  intro P x hP hP8 hx j
  induction j with
  | zero =>
    intro _ w s hp hw hm
    have hpath : ∀ e, P.length = e + 1 → ∃ t, t < 8 ∧ w e = Int32.ofNat t := fun e he => ⟨_, getD_mem hP8 (by omega), hp.1 e (by omega)⟩
    exact ⟨1, upd w P.length 8, by omega, fun N => by rw [zfix2_s]; exact fr_pop hn (by omega) hw hpath, keepBelow_of (by omega) fun i hi => upd_ne (by omega), mRel_ne hm fun i h1 h2 => upd_ne (by omega)⟩
  | succ j ihj =>
    intro hj w s hp hw hm
    obtain ⟨t, ht⟩ : ∃ t, 8 - (j + 1) = t := ⟨_, rfl⟩
    have ht8 : t < 8 := by omega
    rw [ht] at hw
    have e8 : 8 - j = t + 1 := by omega
    have er : List.range' (8 - (j + 1)) (j + 1) = t :: List.range' (8 - j) j := by rw [ht, e8]; rfl
    rw [er, List.flatMap_cons, List.foldl_append]
    obtain ⟨v, hv90, ev⟩ := hv t ht8
    have hno : ∀ e u, P.length = e + 1 → u < 8 → w e = Int32.ofNat u → usedOk (w (10 + e)) P → (t ∈ P ∨ g (62 + 8 * u + t) ≤ 0) → lvlNodes g left P x t = [] → ∃ k w', k ≤ 1 + (j + 1) * (1 + costN left) ∧ (∀ N, zfix2 (frF n 123 (Int32.ofNat c) (Int32.ofNat home)) (N + k) (Int32.ofNat P.length) (mput h g pp tx w hs) = zfix2 (frF n 123 (Int32.ofNat c) (Int32.ofNat home)) N (Int32.ofNat P.length - 1) (mput h g pp tx w' hs)) ∧ keepBelow P.length w w' ∧ mRel w' (((List.range' (8 - j) j).flatMap (lvlNodes g left P x)).foldl (keepS home) ((lvlNodes g left P x t).foldl (keepS home) s)) := by
      intro e u he hu hwe hue hcond hnil
      have kb : keepBelow P.length w (upd w P.length (Int32.ofNat t)) := keepBelow_of (by omega) fun i hi => upd_ne (by omega)
      obtain ⟨k, w', hk, hN, hkb, hmr⟩ := ihj (by omega) (upd w P.length (Int32.ofNat t)) s (mPre_below hp kb) (by rw [upd_eq, e8, i32_pred]) (mRel_ne hm fun i h1 h2 => upd_ne (by omega))
      refine ⟨k + 1, w', by rw [Nat.succ_mul]; omega, fun N => ?_, keepBelow_trans kb hkb, by rw [hnil]; exact hmr⟩
      rw [show N + (k + 1) = (N + k) + 1 by omega, zfix2_s, ← hN]
      rw [he]
      exact fr_no hn (by omega) ht8 hu (by rw [← he]; exact hw) hwe hue hcond
    have hyes : ∀ (z : Int32) (y : Nat) (u0 : Int32), lvlNodes g left P x t = nodes g left t P z → z + g (126 + t) = Int32.ofNat y → y ≤ 95 * (P.length + 1) → mayD g w P t → f_X6_comes n 123 (Int32.ofNat P.length) (Int32.ofNat t) (mput h g pp tx (upd w P.length (Int32.ofNat t)) hs) = some (mput h g pp tx (rCome (upd w P.length (Int32.ofNat t)) P.length t y u0) hs) → usedOk (1 <<< (Int32.ofNat t &&& 31) ||| u0) (t :: P) → ∃ k w', k ≤ 1 + (j + 1) * (1 + costN left) ∧ (∀ N, zfix2 (frF n 123 (Int32.ofNat c) (Int32.ofNat home)) (N + k) (Int32.ofNat P.length) (mput h g pp tx w hs) = zfix2 (frF n 123 (Int32.ofNat c) (Int32.ofNat home)) N (Int32.ofNat P.length - 1) (mput h g pp tx w' hs)) ∧ keepBelow P.length w w' ∧ mRel w' (((List.range' (8 - j) j).flatMap (lvlNodes g left P x)).foldl (keepS home) ((lvlNodes g left P x t).foldl (keepS home) s)) := by
      intro z y u0 hnode hzy hy hmay hcome hu
      have cw : ∀ i, i ≠ P.length → i ≠ 5 + P.length → i ≠ 10 + P.length → rCome (upd w P.length (Int32.ofNat t)) P.length t y u0 i = w i := fun i h1 h2 h3 => by
        unfold rCome
        rw [upd_ne h3, upd_ne h2, upd_ne h1, upd_ne h1]
      have kb1 : keepBelow P.length w (rCome (upd w P.length (Int32.ofNat t)) P.length t y u0) := keepBelow_of (by omega) fun i hi => cw i (by omega) (by omega) (by omega)
      have c0 : rCome (upd w P.length (Int32.ofNat t)) P.length t y u0 P.length = Int32.ofNat t := by
        unfold rCome
        rw [upd_ne (by omega), upd_ne (by omega), upd_eq]
      have c5 : rCome (upd w P.length (Int32.ofNat t)) P.length t y u0 (5 + P.length) = Int32.ofNat y := by
        unfold rCome
        rw [upd_ne (by omega), upd_eq]
      have hrow : ∀ i, i < (t :: P).length → rCome (upd w P.length (Int32.ofNat t)) P.length t y u0 i = Int32.ofNat ((t :: P).reverse.getD i 0) := by
        intro i hi
        rw [List.length_cons] at hi
        rw [getD_rev]
        by_cases q : i < P.length
        · rw [if_pos q, cw i (by omega) (by omega) (by omega), hp.1 i q]
        · rw [if_neg q, if_pos (by omega), show i = P.length by omega, c0]
      have km := keepM_spec (home := home) (by omega) hrow c5 (by omega) (mRel_ne hm fun i h1 h2 => cw i (by omega) (by omega) (by omega))
      have kb2 : keepBelow P.length w (rKeepM P.length home (t :: P) (rCome (upd w P.length (Int32.ofNat t)) P.length t y u0)) := keepBelow_trans kb1 (keepBelow_of (by omega) fun i hi => rKeepM_ne (by omega) (by omega))
      have nd : lvlNodes g left P x t = (t :: P, Int32.ofNat y) :: nodesTl g left t P (Int32.ofNat y) := by
        rw [hnode, nodes_tl, hzy]
      have pre : mPre (rKeepM P.length home (t :: P) (rCome (upd w P.length (Int32.ofNat t)) P.length t y u0)) (t :: P) y := by
        refine ⟨fun i hi => ?_, fun e he => ?_⟩
        · rw [rKeepM_ne (by omega) (by rw [List.length_cons] at hi; omega)]
          exact hrow i hi
        · rw [List.length_cons] at he
          obtain rfl : e = P.length := by omega
          rw [rKeepM_ne (by omega) (by omega), rKeepM_ne (by omega) (by omega), c5]
          refine ⟨rfl, ?_⟩
          unfold rCome
          rw [upd_eq]
          exact hu
      obtain ⟨k1, w3, hk1, hN1, hkb1, hmr1⟩ := hdeep t P y _ _ hP ht8 hP8 hy pre km
      have kb3 : keepBelow P.length w w3 := keepBelow_trans kb2 (keepBelow_mono (by omega) hkb1)
      have w3d : w3 P.length = Int32.ofNat t := by rw [(hkb1.1 P.length (by omega)).1, rKeepM_ne (by omega) (by omega), c0]
      obtain ⟨k, w', hk, hN, hkb, hmr⟩ := ihj (by omega) w3 _ (mPre_below hp kb3) (by rw [w3d, e8, i32_pred]) hmr1
      refine ⟨k + k1 + 1, w', by rw [Nat.succ_mul]; omega, fun N => ?_, keepBelow_trans kb3 hkb, by rw [nd]; exact hmr⟩
      rw [show N + (k + k1 + 1) = (N + k + k1) + 1 by omega, zfix2_s, fr_may hn hc hh (by omega) hS ht8 eS hw hmay hcome hu, hN1, hN]
    cases hPc : P with
    | nil =>
      subst hPc
      refine hyes 0 v 0 rfl (by rw [ev, Int32.zero_add]) (by omega) (Or.inl rfl) (u_comes0 ht8 ev upd_eq) ?_
      exact usedOk_cons' usedOk_nil ht8
    | cons u P' =>
      have hl' : P.length = P'.length + 1 := by rw [hPc, List.length_cons]
      have hu8 : u < 8 := hP8 u (by rw [hPc]; exact List.mem_cons_self)
      have hwe : w P'.length = Int32.ofNat u := by
        rw [hp.1 _ (by omega), hPc, getD_rev, if_neg (by omega), if_pos rfl]
      obtain ⟨hx5, hu10⟩ := hp.2 _ hl'
      rw [← hPc]
      by_cases c1 : g (62 + 8 * u + t) ≤ 0
      · exact hno _ u hl' hu8 hwe hu10 (Or.inr c1) (by rw [hPc, lvlNodes_cons]; unfold kidsOf; rw [if_pos c1])
      · by_cases c2 : t ∈ P
        · exact hno _ u hl' hu8 hwe hu10 (Or.inl c2) (by rw [hPc] at c2; rw [hPc, lvlNodes_cons]; unfold kidsOf; rw [if_neg c1, if_pos c2])
        · refine hyes (Int32.ofNat x + (if g (62 + 8 * u + t) = 2 then 5 else 0)) (x + (if g (62 + 8 * u + t) = 2 then 5 else 0) + v) (w (10 + P'.length)) ?_ ?_ ?_ (Or.inr ⟨_, u, hl', hu8, hwe, hu10, c2, c1⟩) ?_ (usedOk_cons' hu10 ht8)
          · rw [hPc] at c2
            rw [hPc, lvlNodes_cons]
            unfold kidsOf
            rw [if_neg c1, if_neg c2]
          · rw [ev]
            split
            · rw [show (5 : Int32) = Int32.ofNat 5 from rfl, i32_addn, i32_addn]
            · rw [show (0 : Int32) = Int32.ofNat 0 from rfl, i32_addn, i32_addn]
          · split <;> omega
          · rw [hl']
            have := u_comes1 (n := n) (h := h) (m := g) (pp := pp) (tx := tx) (w := upd w (P'.length + 1) (Int32.ofNat t)) (hs := hs) (e := P'.length) (by omega) ht8 hu8 ev upd_eq (by rw [upd_ne (by omega), hwe]) (by rw [upd_ne (by omega), hx5])
            rw [this, upd_ne (show 10 + P'.length ≠ P'.length + 1 by omega)]
theorem deep_0 {n : Nat} {h : zH} {g pp tx : Row} {hs : Int64} {c home S : Nat} (hS : 1 ≤ S) : Deep n h g pp tx hs c home S 0 := by
  intro t P y w s hP ht hP8 hy hp hm
  refine ⟨0, w, Nat.le_refl 0, fun N => ?_, ⟨fun i hi => ⟨rfl, rfl, rfl⟩, fun i _ _ _ => rfl⟩, hm⟩
  unfold rGo
  rw [if_neg (by omega), if_neg (by omega)]
  rfl
theorem deep_s {n : Nat} {h : zH} {g pp tx : Row} {hs : Int64} {c home S left : Nat} (hn : 600 ≤ n) (hc : c < 4) (hh : home < 8) (hS : S ≤ 5) (eS : g (38 + 7 * c) = Int32.ofNat S) (hv : ∀ t, t < 8 → ∃ v, v ≤ 90 ∧ g (126 + t) = Int32.ofNat v) (hl : left + 1 + 1 ≤ S) (hd : Deep n h g pp tx hs c home S left) : Deep n h g pp tx hs c home S (left + 1) := by
  intro t P y w s hP ht hP8 hy hp hm
  have hgo : ∀ i, i ≠ P.length + 1 → rGo S P.length w i = w i := fun i hi => by
    unfold rGo
    split
    · exact upd_ne hi
    · rfl
  have kb0 : keepBelow (P.length + 1) w (rGo S P.length w) := keepBelow_of (by omega) fun i hi => hgo i (by omega)
  have eg : rGo S P.length w (t :: P).length = Int32.ofNat (8 - 8) - 1 := by
    rw [List.length_cons]
    unfold rGo
    rw [if_pos (by omega), upd_eq]
    decide
  obtain ⟨k, w', hk, hN, hkb, hmr⟩ := dfs_level hn hc hh hS eS hv (by omega) hd (t :: P) y (by rw [List.length_cons]; omega) (fun u hu => by
    rcases List.mem_cons.mp hu with e | e
    · rw [e]; exact ht
    · exact hP8 u e) (by rw [List.length_cons]; exact hy) 8 (Nat.le_refl 8) (rGo S P.length w) s (mPre_below hp (by rw [List.length_cons]; exact kb0)) eg (mRel_ne hm fun i h1 h2 => hgo i (by omega))
  refine ⟨k, w', hk, fun N => ?_, keepBelow_trans kb0 (by rw [List.length_cons] at hkb; exact hkb), ?_⟩
  · have e := hN N
    rw [List.length_cons] at e
    rw [if_pos (by omega), e, i32_pred]
  · show mRel w' (((List.range 8).flatMap (kidsOf g t (fun k x => nodes g left k (t :: P) x) (t :: P) (Int32.ofNat y))).foldl (keepS home) s)
    rw [List.range_eq_range']
    exact hmr
theorem deep_all {n : Nat} {h : zH} {g pp tx : Row} {hs : Int64} {c home S : Nat} (hn : 600 ≤ n) (hc : c < 4) (hh : home < 8) (hS : S ≤ 5) (eS : g (38 + 7 * c) = Int32.ofNat S) (hv : ∀ t, t < 8 → ∃ v, v ≤ 90 ∧ g (126 + t) = Int32.ofNat v) : ∀ left, left + 1 ≤ S → Deep n h g pp tx hs c home S left
  | 0, hl => deep_0 (by omega)
  | left + 1, hl => deep_s hn hc hh hS eS hv hl (deep_all hn hc hh hS eS hv left (by omega))
theorem u_findsRoute {n : Nat} {h : zH} {g pp tx w : Row} {hs : Int64} {c home S : Nat} (hn : 50000 ≤ n) (hc : c < 4) (hho : CoOk g c home S) (hv : ∀ t, t < 8 → ∃ v, v ≤ 90 ∧ g (126 + t) = Int32.ofNat v) : ∃ w', f_X6_findsRoute n 123 (Int32.ofNat c) (mput h g pp tx w hs) = some (mput h g pp tx w' hs) ∧ mRel w' (bestOf g home (S - 1)) ∧ ∀ i, 20 ≤ i → i ≠ 23 → i ≠ 24 → w' i = w i := by
  obtain ⟨eh, eS, hh, h1, h5⟩ := hho
  have hm0 : mRel (upd (upd (upd w 0 (-1)) 23 0) 24 0) ([], -1) := by
    refine ⟨?_, Nat.zero_le 5, fun i hi => absurd hi (Nat.not_lt_zero i), Or.inl ⟨rfl, rfl, upd_eq⟩⟩
    rw [upd_ne (by omega), upd_eq]
    rfl
  obtain ⟨k, w', hk, hN, hkb, hmr⟩ := dfs_level (n := n) (h := h) (g := g) (pp := pp) (tx := tx) (hs := hs) (c := c) (home := home) (S := S) (left := S - 1) (by omega) hc hh h5 eS hv (by omega) (deep_all (by omega) hc hh h5 eS hv (S - 1) (by omega)) [] 0 (show 0 = S - (S - 1) - 1 by omega) (fun u hu => nomatch hu) (Nat.le_refl 0) 8 (Nat.le_refl 8) (upd (upd (upd w 0 (-1)) 23 0) 24 0) ([], -1) ⟨fun i hi => absurd hi (Nat.not_lt_zero i), fun e he => absurd he (Nat.succ_ne_zero e).symm⟩ (by show upd (upd (upd w 0 (-1)) 23 0) 24 0 0 = _; rw [upd_ne (by omega), upd_ne (by omega), upd_eq]; decide) hm0
  have hcost : costN (S - 1) ≤ costN 4 := by
    obtain e | e | e | e | e : S = 1 ∨ S = 2 ∨ S = 3 ∨ S = 4 ∨ S = 5 := by omega
    all_goals subst e; decide
  have hc4 : costN 4 = 5265 := by decide
  refine ⟨w', ?_, ?_, fun i q1 q2 q3 => ?_⟩
  · rw [e_X6_findsRoute]
    have e0 : ∀ x, zsi (mput h g pp tx w hs) 127 0 x = some (mput h g pp tx (upd w 0 x) hs) := fun x => mWs_127 (k := 0) (by omega)
    rw [mgK, u_of_1 hc, eh, Option.bind_some, mgR_6, Option.bind_some, e0, Option.bind_some, msI_10, Option.bind_some, msI_11, Option.bind_some, frF_e]
    obtain ⟨N, rfl⟩ : ∃ N, n = (N + 1) + k := ⟨n - k - 1, by omega⟩
    have e := hN (N + 1)
    rw [show Int32.ofNat ([] : List Nat).length = 0 from rfl] at e
    rw [e, zfix2_s]
    unfold frF
    rw [if_pos (by decide)]
  · unfold bestOf
    rw [List.range_eq_range']
    exact hmr
  · rw [hkb.2 i q1 q2 q3, upd_ne (by omega), upd_ne (by omega), upd_ne (by omega)]
def jnStep (g : Row) (u : Int32) (k : Nat) (s : Int32) : Int32 := s ||| (if tb u (k / 8) = true ∧ edge g (k / 8) (k % 8) then bitOf (k % 8) else 0)
def jn (g : Row) (u : Int32) : Int32 := zseq (jnStep g u) u 64
def jnU (g : Row) (home : Nat) : Nat → Int32
  | 0 => bitOf home
  | k + 1 => jn g (jnU g home k)
theorem jn_bit {g : Row} {u : Int32} : (∀ b, b < 8 → (tb (jn g u) b = true ↔ tb u b = true ∨ ∃ a, a < 8 ∧ tb u a = true ∧ edge g a b)) ∧ ∀ i, 8 ≤ i → i < 32 → tb (jn g u) i = tb u i := by
  unfold jn
  have key := zseq_ok (N := 64) (P := fun k (s : Int32) => (∀ b, b < 8 → (tb s b = true ↔ tb u b = true ∨ ∃ a, a < 8 ∧ 8 * a + b < k ∧ tb u a = true ∧ edge g a b)) ∧ ∀ i, 8 ≤ i → i < 32 → tb s i = tb u i) (step := jnStep g u) (s := u) ⟨fun b hb => ⟨Or.inl, fun h => h.elim id (fun ⟨a, _, h, _⟩ => by omega)⟩, fun _ _ _ => rfl⟩ ?_ 64 (by omega)
  · refine ⟨fun b hb => ?_, key.2⟩
    rw [key.1 b hb]
    exact ⟨fun h => h.elim Or.inl (fun ⟨a, h1, _, h2⟩ => Or.inr ⟨a, h1, h2⟩), fun h => h.elim Or.inl (fun ⟨a, h1, h2⟩ => Or.inr ⟨a, h1, by omega, h2⟩)⟩
  · intro k s hk hs
    obtain ⟨h1, h2⟩ := hs
    unfold jnStep
    have hm : k % 8 < 8 := Nat.mod_lt _ (by omega)
    by_cases c : tb u (k / 8) = true ∧ edge g (k / 8) (k % 8)
    · rw [if_pos c]
      refine ⟨fun b hb => ?_, fun i h8 h32 => ?_⟩
      · rw [tb_or, tb_bit hm (by omega), Bool.or_eq_true, h1 b hb]
        constructor
        · rintro (q | q)
          · rcases q with q | ⟨a, q1, q2, q3⟩
            · exact Or.inl q
            · exact Or.inr ⟨a, q1, by omega, q3⟩
          · have e := of_decide_eq_true q
            exact Or.inr ⟨k / 8, by omega, by omega, c.1, by rw [e]; exact c.2⟩
        · rintro (q | ⟨a, q1, q2, q3, q4⟩)
          · exact Or.inl (Or.inl q)
          · by_cases e : 8 * a + b < k
            · exact Or.inl (Or.inr ⟨a, q1, e, q3, q4⟩)
            · exact Or.inr (decide_eq_true (by omega))
      · rw [tb_or, tb_bit hm h32, h2 i h8 h32, decide_eq_false (by omega), Bool.or_false]
    · rw [if_neg c]
      refine ⟨fun b hb => ?_, fun i h8 h32 => ?_⟩
      · rw [tb_or, tb_zero, Bool.or_false, h1 b hb]
        constructor
        · rintro (q | ⟨a, q1, q2, q3⟩)
          · exact Or.inl q
          · exact Or.inr ⟨a, q1, by omega, q3⟩
        · rintro (q | ⟨a, q1, q2, q3, q4⟩)
          · exact Or.inl q
          · by_cases e : 8 * a + b < k
            · exact Or.inr ⟨a, q1, e, q3, q4⟩
            · refine absurd ⟨?_, ?_⟩ c
              · rw [show k / 8 = a by omega]; exact q3
              · rw [show k / 8 = a by omega, show k % 8 = b by omega]; exact q4
      · rw [tb_or, tb_zero, Bool.or_false, h2 i h8 h32]
theorem jnU_hi {g : Row} {home : Nat} (hh : home < 8) : ∀ k i, 8 ≤ i → i < 32 → tb (jnU g home k) i = false
  | 0, i, h8, h32 => by
    show tb (bitOf home) i = false
    rw [tb_bit hh h32]
    exact decide_eq_false (by omega)
  | k + 1, i, h8, h32 => by
    show tb (jn g (jnU g home k)) i = false
    rw [jn_bit.2 i h8 h32]
    exact jnU_hi hh k i h8 h32
theorem jnU_lvl {g : Row} {home : Nat} (hh : home < 8) : ∀ k, k ≤ 7 → ∀ b, b < 8 → (tb (jnU g home k) b = true ↔ lvl g home k b ≠ 8)
  | 0, _, b, hb => by
    show tb (bitOf home) b = true ↔ _
    rw [tb_bit hh (by omega), lvl_0]
    by_cases e : b = home
    · rw [if_pos e]
      exact ⟨fun _ => by omega, fun _ => decide_eq_true e⟩
    · rw [if_neg e]
      exact ⟨fun q => absurd (of_decide_eq_true q) e, fun q => absurd rfl q⟩
  | k + 1, hk, b, hb => by
    have ih := jnU_lvl (g := g) hh k (by omega)
    show tb (jn g (jnU g home k)) b = true ↔ _
    rw [jn_bit.1 b hb]
    constructor
    · rintro (q | ⟨a, ha, q1, q2⟩)
      · have e := (ih b hb).mp q
        have := lvl_stay e 1
        rw [this]
        exact e
      · have e := (ih a ha).mp q1
        have hle : lvl g home k a ≤ k := (lvl_le (g := g) (home := home) k a).resolve_right e
        have e2 := lvl_at (g := g) (home := home) (m := k) (k := lvl g home k a) (b := a) rfl (by omega) hle
        have e3 := lvl_next ha e2 q2
        have e4 := lvl_stay (g := g) (home := home) (r := lvl g home k a + 1) (b := b) (by omega) (k - lvl g home k a)
        rw [show lvl g home k a + 1 + (k - lvl g home k a) = k + 1 by omega] at e4
        rw [e4]
        omega
    · intro q
      rw [lvl_s] at q
      by_cases c : lvl g home k b = 8 ∧ ∃ a, a < 8 ∧ lvl g home k a = k ∧ edge g a b
      · obtain ⟨_, a, ha, c1, c2⟩ := c
        exact Or.inr ⟨a, ha, (ih a ha).mpr (by omega), c2⟩
      · rw [if_neg c] at q
        exact Or.inl ((ih b hb).mpr q)
theorem sumTo_eq {f f' : Nat → Nat} : ∀ k, (∀ d, d < k → f d ≤ f' d) → sumTo k f' ≤ sumTo k f → ∀ d, d < k → f d = f' d
  | 0, _, _, d, hd => absurd hd (Nat.not_lt_zero d)
  | k + 1, h, hs, d, hd => by
    have h1 := sumTo_le k (fun d hd => h d (by omega))
    have h2 := h k (by omega)
    have hs' : sumTo k f' + f' k ≤ sumTo k f + f k := hs
    rcases Nat.lt_or_ge d k with e | e
    · exact sumTo_eq k (fun d hd => h d (by omega)) (by omega) d e
    · rw [show d = k by omega]; omega
def cntB (u : Int32) : Nat := sumTo 8 (fun k => if tb u k = true then 1 else 0)
theorem jnU_stop {g : Row} {home : Nat} (hh : home < 8) {k : Nat} (h : jnU g home (k + 1) = jnU g home k) : ∀ m, jnU g home (k + m) = jnU g home k
  | 0 => rfl
  | m + 1 => by
    show jn g (jnU g home (k + m)) = _
    rw [jnU_stop hh h m]
    exact h
theorem jnU_grow {g : Row} {home : Nat} (hh : home < 8) {k : Nat} (h : jnU g home (k + 1) ≠ jnU g home k) : cntB (jnU g home k) < cntB (jnU g home (k + 1)) := by
  refine Nat.lt_of_not_le fun c => h ?_
  have hle : ∀ d, d < 8 → (if tb (jnU g home k) d = true then 1 else 0) ≤ (if tb (jnU g home (k + 1)) d = true then 1 else 0) := by
    intro d hd
    by_cases q : tb (jnU g home k) d = true
    · have q2 : tb (jnU g home (k + 1)) d = true := (jn_bit.1 d hd).mpr (Or.inl q)
      rw [if_pos q, if_pos q2]
      exact Nat.le_refl 1
    · rw [if_neg q]
      exact Nat.zero_le _
  have e := sumTo_eq 8 hle c
  refine tb_ext fun i hi => ?_
  by_cases h8 : i < 8
  · have := e i h8
    cases q1 : tb (jnU g home k) i <;> cases q2 : tb (jnU g home (k + 1)) i <;> simp [q1, q2] at this ⊢
  · rw [jnU_hi hh (k + 1) i (by omega) hi, jnU_hi hh k i (by omega) hi]
theorem cntB_full {u : Int32} (h : 8 ≤ cntB u) : ∀ b, b < 8 → tb u b = true := by
  have hle : ∀ d, d < 8 → (if tb u d = true then 1 else 0) ≤ 1 := fun d _ => by split <;> omega
  have e := sumTo_eq 8 (f := fun d => if tb u d = true then 1 else 0) (f' := fun _ => 1) hle h
  intro b hb
  have := e b hb
  by_cases q : tb u b = true
  · exact q
  · simp [q] at this
theorem u_joined {n : Nat} {h : zH} {m pp tx w : Row} {hs : Int64} {c home : Nat} (hn : 600 ≤ n) (hc : c < 4) (hh : home < 8) (eh : m (35 + 7 * c) = Int32.ofNat home) : f_X6_joined n 123 (Int32.ofNat c) (mput h m pp tx w hs) = some (jnU m home 7) := by
  rw [e_X6_joined]
  simp only [mgK, u_of_1 hc, eh, zlet, Option.bind_some]
  unfold L_X6_joined_11
  have dv : ∀ k, k < 64 → Int32.ofNat k / 8 = Int32.ofNat (k / 8) ∧ zrem (Int32.ofNat k) 8 = Int32.ofNat (k % 8) := by decide
  have inner : ∀ (rec : Int32 → Int32 → Option Int32) (u : Int32), L_X6_joined_21 n rec u (mput h m pp tx w hs) 123 u 0 = rec (jn m u) u := by
    intro rec u
    unfold L_X6_joined_21
    refine zfor2 64 (fun k => zseq (jnStep m u) u k) (fun k => Int32.ofNat k) (fun k hk rec' => ?_) (fun rec' => ?_) (by omega)
    · have ix : (62 : Int32) + Int32.ofNat k = Int32.ofNat (62 + k) := by rw [show (62 : Int32) = Int32.ofNat 62 from rfl, i32_addn]
      have e62 : 62 + 8 * (k / 8) + k % 8 = 62 + k := by omega
      have c64 : ¬ (64 : Int32) ≤ Int32.ofNat k := i32_ge (N := 64) hk (by omega)
      rw [show zseq (jnStep m u) u (k + 1) = zseq (jnStep m u) u k ||| (if tb u (k / 8) = true ∧ edge m (k / 8) (k % 8) then bitOf (k % 8) else 0) from rfl]
      simp only [zlet, if_neg c64, (dv k hk).1, (dv k hk).2, u_has (show k / 8 < 8 by omega), mgR_0, ix, mN (show 62 + k < 134 by omega), Option.bind_some, i32_succ]
      by_cases c1 : tb u (k / 8) = true
      · rw [if_pos c1, if_neg (show ¬ (1 : Int32) = 0 by decide)]
        by_cases c2 : m (62 + k) ≤ 0
        · rw [if_pos c2, if_neg (fun q => by have := q.2; unfold edge at this; rw [e62] at this; exact this c2)]
        · rw [if_neg c2, if_pos ⟨c1, by unfold edge; rw [e62]; exact c2⟩]
      · rw [if_neg c1, if_pos rfl, if_neg (fun q => c1 q.1)]
    · rw [if_pos (by decide)]
      rfl
  have h0 : bitOf home ≠ 0 := by
    intro q
    have e : tb (bitOf home) home = false := by rw [q, tb_zero]
    rw [tb_bit hh (by omega), decide_eq_true rfl] at e
    exact absurd e (by decide)
  have c0 : 1 ≤ cntB (bitOf home) := by
    refine Nat.lt_of_not_le fun c => ?_
    have e := sumTo_eq 8 (f := fun _ => 0) (f' := fun k => if tb (bitOf home) k = true then 1 else 0) (fun d _ => Nat.zero_le _) (by unfold cntB at c; have : sumTo 8 (fun _ => 0) = 0 := rfl; omega) home hh
    have e' : (0 : Nat) = if tb (bitOf home) home = true then 1 else 0 := e
    rw [tb_bit hh (by omega), if_pos (decide_eq_true rfl)] at e'
    omega
  refine zind2 (fun j a2 a3 r => r = some (jnU m home 7) ∧ ∃ k, k + j = 9 ∧ a2 = jnU m home k ∧ ((k = 0 ∧ a3 = 0) ∨ ∃ k', k = k' + 1 ∧ a3 = jnU m home k' ∧ k ≤ cntB (jnU m home k'))) ?_ n 9 _ _ _ ⟨rfl, 0, rfl, rfl, Or.inl ⟨rfl, rfl⟩⟩ (by omega)
  intro j a2 a3 r hP
  obtain ⟨rfl, k, hk, rfl, hq⟩ := hP
  rcases hq with ⟨rfl, rfl⟩ | ⟨k', rfl, rfl, hcnt⟩
  · exact Or.inr ⟨8, jnU m home 1, jnU m home 0, by omega, ⟨rfl, 1, by omega, rfl, Or.inr ⟨0, rfl, rfl, c0⟩⟩, fun rec => by rw [if_neg (show ¬ jnU m home 0 = 0 from h0), inner]; rfl⟩
  · by_cases c1 : jnU m home (k' + 1) = jnU m home k'
    · refine Or.inl fun rec => ?_
      rw [if_pos c1, c1]
      have := jnU_stop hh c1 (7 - k')
      have k7 : k' ≤ 7 := by
        refine Nat.le_of_not_lt fun q => ?_
        have : cntB (jnU m home k') ≤ 8 := sumTo_le 8 (f' := fun _ => 1) (fun d _ => by split <;> omega)
        omega
      rw [show k' + (7 - k') = 7 by omega] at this
      rw [this]
    · have g1 := jnU_grow hh c1
      have : cntB (jnU m home (k' + 1)) ≤ 8 := sumTo_le 8 (f' := fun _ => 1) (fun d _ => by split <;> omega)
      exact Or.inr ⟨j - 1, jnU m home (k' + 1 + 1), jnU m home (k' + 1), by omega, ⟨rfl, k' + 1 + 1, by omega, rfl, Or.inr ⟨k' + 1, rfl, rfl, by omega⟩⟩, fun rec => by rw [if_neg c1, inner]; rfl⟩
theorem u_canLay {n : Nat} {h : zH} {m pp tx w : Row} {hs : Int64} {c home S i j : Nat} (hn : 600 ≤ n) (hc : c < 4) (ho : CoOk m c home S) (hi : i < 8) (hj : j < 8) : f_X6_canLay n 123 (Int32.ofNat c) (Int32.ofNat i) (Int32.ofNat j) (mput h m pp tx w hs) = some (if layB m c home i j = true then 1 else 0) := by
  have hh := ho.2.2.1
  unfold f_X6_canLay
  simp only [mgK, u_joined hn hc hh ho.1, u_level hi hj, u_of_2 hc, u_has hi, u_has hj, zlet, Option.bind_some, i32_eq_of (show i < 600 by omega) (show j < 600 by omega)]
  unfold layB
  have b1 := jnU_lvl (g := m) hh 7 (by omega) i hi
  have b2 := jnU_lvl (g := m) hh 7 (by omega) j hj
  by_cases c1 : i = j
  · rw [if_pos c1, if_neg (fun q => (of_decide_eq_true q).1 c1)]
  · rw [if_neg c1]
    by_cases c2 : 2 ≤ m (62 + 8 * i + j)
    · rw [if_pos c2, if_neg (fun q => (of_decide_eq_true q).2.1 c2)]
    · rw [if_neg c2]
      by_cases c3 : m (36 + 7 * c) < 20 * (m (62 + 8 * i + j) + 1)
      · rw [if_pos c3, if_neg (fun q => Int32.not_le.mpr c3 (of_decide_eq_true q).2.2.1)]
      · rw [if_neg c3]
        have c3' := Int32.not_lt.mp c3
        by_cases c4 : tb (jnU m home 7) i = true
        · rw [if_pos c4, if_neg (show ¬ (1 : Int32) = 0 by decide), if_pos (decide_eq_true ⟨c1, c2, c3', Or.inl (b1.mp c4)⟩)]
        · rw [if_neg c4, if_pos rfl]
          by_cases c5 : tb (jnU m home 7) j = true
          · rw [if_pos c5, if_neg (show ¬ (1 : Int32) = 0 by decide), if_pos (decide_eq_true ⟨c1, c2, c3', Or.inr (b2.mp c5)⟩)]
          · rw [if_neg c5, if_pos rfl, if_neg]
            intro q
            rcases (of_decide_eq_true q).2.2.2 with d | d
            · exact c4 (b1.mpr d)
            · exact c5 (b2.mpr d)
theorem i32_le_b {a b : Nat} (ha : a < 2147483648) (hb : b < 2147483648) : (Int32.ofNat a ≤ Int32.ofNat b) = (a ≤ b) := by
  rw [Int32.le_iff_toInt_le, Int32.toInt_ofNat_of_lt (by omega), Int32.toInt_ofNat_of_lt (by omega)]
  exact propext (by omega)
theorem i32_lt_b {a b : Nat} (ha : a < 2147483648) (hb : b < 2147483648) : (Int32.ofNat a < Int32.ofNat b) = (a < b) := by
  rw [Int32.lt_iff_toInt_lt, Int32.toInt_ofNat_of_lt (by omega), Int32.toInt_ofNat_of_lt (by omega)]
  exact propext (by omega)
theorem i32_eq_b {a b : Nat} (ha : a < 2147483648) (hb : b < 2147483648) : (Int32.ofNat a = Int32.ofNat b) = (a = b) := by
  rw [← Int32.toInt_inj, Int32.toInt_ofNat_of_lt (by omega), Int32.toInt_ofNat_of_lt (by omega)]
  exact propext (by omega)
theorem zmin_b {a b : Nat} (ha : a < 2147483648) (hb : b < 2147483648) : zmin (Int32.ofNat a) (Int32.ofNat b) = Int32.ofNat (min a b) := by
  unfold zmin
  have e := i32_lt_b hb ha
  by_cases c : b < a
  · rw [if_pos (e ▸ c), Nat.min_eq_right (by omega)]
  · rw [if_neg (fun q => c (e ▸ q)), Nat.min_eq_left (by omega)]
def MonW (g : Row) (mm B : Nat) : Prop := (∀ p, p < mm → ∃ x, x ≤ 500 + 4000 * B ∧ g (14 + p) = Int32.ofNat x) ∧ ∃ y : Nat → Nat, (∀ c, c < 4 → g (36 + 7 * c) = Int32.ofNat (y c)) ∧ y 0 + y 1 + y 2 + y 3 ≤ 4000 * B
theorem price_n {s : Nat} : (20 : Int32) + 10 * Int32.ofNat s = Int32.ofNat (20 + 10 * s) := by
  rw [show (20 : Int32) = Int32.ofNat 20 from rfl, show (10 : Int32) = Int32.ofNat 10 from rfl, i32_mulm, i32_addn]
theorem sell_cash {g : Row} {p c k x s : Nat} (hp : p < 4) (hx : g (14 + p) = Int32.ofNat x) (hs : g (37 + 7 * c) = Int32.ofNat s) : rSell g p c (Int32.ofNat k) (14 + p) = Int32.ofNat (x + k * (20 + 10 * s)) := by
  unfold rSell
  rw [rPres_ne (by omega), rFall_ne (by omega), upd_ne (by omega)]
  unfold rPay
  rw [upd_ne (by omega), upd_eq, hx, hs, price_n, Int32.neg_mul, Int32.sub_neg, i32_mulm, i32_addn]
theorem rRest_spec {mm p d X : Nat} (hm : mm ≤ 4) (hp : p < mm) (hd : d ≤ 200) (hX : 500 ≤ X) (hX2 : X < 2147483648) : ∀ (j : Nat) (g : Row) (x : Nat), CoW g mm → g (14 + p) = Int32.ofNat x → x ≤ X → CoW (rRest p (Int32.ofNat d) j g) mm ∧ (∃ x', x' ≤ X ∧ rRest p (Int32.ofNat d) j g (14 + p) = Int32.ofNat x') ∧ ∀ i, i ≠ 14 + p → i ≠ 6 → ¬ (18 ≤ i ∧ i < 34) → (∀ c, c < 4 → i ≠ 37 + 7 * c ∧ i ≠ 39 + 7 * c) → rRest p (Int32.ofNat d) j g i = g i := by
  intro j
  induction j with
  | zero => intro g x hw hx hxX; exact ⟨hw, ⟨x, hxX, hx⟩, fun _ _ _ _ _ => rfl⟩
  | succ j ih =>
    intro g x hw hx hxX
    unfold rRest
    have hle : (Int32.ofNat d ≤ g (14 + p)) = (d ≤ x) := by rw [hx]; exact i32_le_b (by omega) (by omega)
    by_cases c1 : d ≤ x
    · rw [if_pos (hle ▸ c1)]
      exact ⟨hw, ⟨x, hxX, hx⟩, fun _ _ _ _ _ => rfl⟩
    · rw [if_neg (fun q => c1 (hle ▸ q))]
      rcases chp_spec (g := g) (p := p) with c2 | ⟨i, hi, ei, oi, si⟩
      · rw [if_pos c2]
        exact ⟨hw, ⟨x, hxX, hx⟩, fun _ _ _ _ _ => rfl⟩
      · have hne2 : ¬ chp g p = -1 := by
          intro e
          rw [ei] at e
          have := in_of hi (show 4 < 600 by omega)
          rw [e] at this
          exact this (Or.inl (by decide))
        rw [if_neg hne2, ei, nn_of (by omega)]
        have ho : g (34 + 7 * i) = 1 := by
          rcases (hw i hi).2.2.2 with ⟨q, _⟩ | ⟨q, _⟩
          · exact q
          · exact absurd q oi
        obtain ⟨s, s1, s2, s3⟩ := (hw i hi).1
        obtain ⟨st, st1, st2⟩ := (hw i hi).2.2.1
        have hsp := sh_lt s2 p (by omega)
        have pos : 1 ≤ s p := by
          refine Nat.le_of_not_lt fun q => si ?_
          rw [s1 p (by omega), show s p = 0 by omega]
          decide
        have hw1 := rSell_co (k := 1) hm hp hi hw ho (s1 p (by omega)) (by omega) pos
        have hc1 := sell_cash (k := 1) (show p < 4 by omega) hx st2
        obtain ⟨a, b, e⟩ := ih (rSell g p i (Int32.ofNat 1)) _ hw1 hc1 (by omega)
        refine ⟨a, b, fun q h1 h2 h3 h4 => ?_⟩
        have := h4 i hi
        rw [show (1 : Int32) = Int32.ofNat 1 from rfl, e q h1 h2 h3 h4, rSell_ne h1 h2 (by omega) this.1 this.2]
def sameW (w w' : Row) : Prop := ∀ i, 20 ≤ i → i ≠ 23 → i ≠ 24 → w' i = w i
theorem best_num {w : Row} {s : List Nat × Int32} (h : mRel w s) : w 24 = zmax s.2 0 ∧ ∃ x, x ≤ 475 ∧ zmax s.2 0 = Int32.ofNat x := by
  rcases h.2.2.2 with ⟨_, b, d⟩ | ⟨_, x, hx, b, d⟩
  · rw [b, d]
    exact ⟨by decide, 0, by omega, by decide⟩
  · rw [b, d]
    unfold zmax
    have e : (Int32.ofNat x < 0) = False := eq_false (fun q => in_of (show x < 500 by omega) (show 500 < 600 by omega) (Or.inl q))
    rw [if_neg (of_eq_false e)]
    exact ⟨rfl, x, hx, rfl⟩
theorem u_income {n : Nat} {h : zH} {m pp tx w : Row} {hs : Int64} {c home S : Nat} (hn : 50000 ≤ n) (hc : c < 4) (ho : CoOk m c home S) (hv : ∀ t, t < 8 → ∃ v, v ≤ 90 ∧ m (126 + t) = Int32.ofNat v) : ∃ w', f_X6_income n 123 (Int32.ofNat c) (mput h m pp tx w hs) = some (incS m home S, mput h m pp tx w' hs) ∧ sameW w w' := by
  obtain ⟨w', e, hm, hk⟩ := u_findsRoute (h := h) (pp := pp) (tx := tx) (w := w) (hs := hs) hn hc ho hv
  refine ⟨w', ?_, hk⟩
  unfold f_X6_income incS
  simp only [mgK, e, mgI_11, Option.bind_some, (best_num hm).1]
theorem inc_num {m : Row} {c home S : Nat} (hc : c < 4) (ho : CoOk m c home S) (hv : ∀ t, t < 8 → ∃ v, v ≤ 90 ∧ m (126 + t) = Int32.ofNat v) : ∃ x, x ≤ 475 ∧ incS m home S = Int32.ofNat x := by
  obtain ⟨w', _, hm, _⟩ := u_findsRoute (n := 50000) (h := fun _ => none) (pp := m) (tx := m) (w := m) (hs := 0) (Nat.le_refl _) hc ho hv
  exact (best_num hm).2
theorem u_incomeBy {n : Nat} {h : zH} {m pp tx w : Row} {hs : Int64} {c home S i j : Nat} (hn : 50000 ≤ n) (hc : c < 4) (ho : CoOk m c home S) (hsy : SymL m) (hv : ∀ t, t < 8 → ∃ v, v ≤ 90 ∧ m (126 + t) = Int32.ofNat v) (hi : i < 8) (hj : j < 8) : ∃ w', f_X6_incomeBy n 123 (Int32.ofNat c) (Int32.ofNat i) (Int32.ofNat j) (mput h m pp tx w hs) = some (incUp m home S i j, mput h m pp tx w' hs) ∧ sameW w w' := by
  have hv' : ∀ t, t < 8 → ∃ v, v ≤ 90 ∧ rLev m i j (m (62 + 8 * i + j) + 1) (126 + t) = Int32.ofNat v := fun t ht => by
    rw [rLev_ne hi hj (by omega)]
    exact hv t ht
  obtain ⟨w', e, hk⟩ := u_income (h := h) (m := rLev m i j (m (62 + 8 * i + j) + 1)) (pp := pp) (tx := tx) (w := w) (hs := hs) hn hc (rLev_co hi hj hc ho) hv'
  refine ⟨w', ?_, hk⟩
  unfold f_X6_incomeBy incUp
  simp only [zb2, mgK, u_level hi hj, u_levels hi hj, e, rLev_back hsy hi hj, Option.bind_some]
theorem up_num {m : Row} {c home S i j : Nat} (hc : c < 4) (ho : CoOk m c home S) (hv : ∀ t, t < 8 → ∃ v, v ≤ 90 ∧ m (126 + t) = Int32.ofNat v) (hi : i < 8) (hj : j < 8) : ∃ x, x ≤ 475 ∧ incUp m home S i j = Int32.ofNat x := inc_num hc (rLev_co hi hj hc ho) (fun t ht => by
  rw [rLev_ne hi hj (by omega)]
  exact hv t ht)
def upK (n c : Nat) (D : Int32) (h : zH) (s0 : Int32) : Option zH := zrc h 123 6 <| (f_X6_earns n 123 (Int32.ofNat c) (-s0) h).bind fun (h34 : zH) => zrc h34 123 6 <| zb2 (f_X6_isPaid n 123 (Int32.ofNat c) (D - s0) h34) fun (r42 : Int32) (h42 : zH) => if r42 = 0 then (zrc h42 123 6 <| (f_X6_of n 123 (Int32.ofNat c) (2 : Int32) h42).bind fun (r53 : Int32) => zrc h42 123 6 <| (f_X6_earns n 123 (Int32.ofNat c) (-r53) h42).bind fun (h57 : zH) => zrc h57 123 6 <| (f_X6_closes n 123 (Int32.ofNat c) h57).bind fun (h62 : zH) => (zgR h62 123 6 0).bind fun (v66 : Nat) => (zai h62 v66 (7 : Int32)).bind fun (v72 : Int32) => (zsi h62 v66 (7 : Int32) (v72 + (1 : Int32))).bind fun (h75 : zH) => some h75) else (some h42)
theorem u_upkeep {n : Nat} {h : zH} {m pp tx w : Row} {hs : Int64} {mm c home S y X : Nat} (hn : 600 ≤ n) (h0 : m 0 = Int32.ofNat mm) (hm : mm ≤ 4) (hc : c < 4) (hw : CoW m mm) (ho : CoOk m c home S) (hy : m (36 + 7 * c) = Int32.ofNat y) (hyb : y < 2147483648) (hX : 500 ≤ X) (hX2 : X < 2147483648) (hx : ∀ p, p < mm → ∃ x, x ≤ X ∧ m (14 + p) = Int32.ofNat x) : f_X6_upkeep n 123 (Int32.ofNat c) (mput h m pp tx w hs) = some (mput h (rUpkeep m c) pp tx w hs) := by
  have h5 := ho.2.2.2.2
  have e5 : (5 : Int32) * m (38 + 7 * c) = Int32.ofNat (5 * S) := by rw [ho.2.1, show (5 : Int32) = Int32.ofNat 5 from rfl, i32_mulm]
  have shut : ∀ m : Row, m 0 = Int32.ofNat mm → (∀ p, mm ≤ p → p < 4 → m (18 + 4 * p + c) = 0) → ((f_X6_of n 123 (Int32.ofNat c) 2 (mput h m pp tx w hs)).bind fun (r53 : Int32) => zrc (mput h m pp tx w hs) 123 6 <| (f_X6_earns n 123 (Int32.ofNat c) (-r53) (mput h m pp tx w hs)).bind fun (h57 : zH) => zrc h57 123 6 <| (f_X6_closes n 123 (Int32.ofNat c) h57).bind fun (h62 : zH) => (zgR h62 123 6 0).bind fun (v66 : Nat) => (zai h62 v66 (7 : Int32)).bind fun (v72 : Int32) => (zsi h62 v66 (7 : Int32) (v72 + (1 : Int32))).bind fun (h75 : zH) => some h75) = some (mput h (rShut m c) pp tx w hs) := by
    intro m h0 hz
    unfold rShut
    rw [u_of_2 hc, Option.bind_some, mgK, u_earns hc, Option.bind_some, mgK, Int32.neg_neg, u_closes hn (by rw [rCPay_ne (by omega) (by omega), h0]) hm hc (fun p h1 h2 => by rw [rCPay_ne (by omega) (by omega)]; exact hz p h1 h2), Option.bind_some, mgR_0, Option.bind_some, mN_7, Option.bind_some, mNs_7, Option.bind_some]
  have hown : zmin (5 * m (38 + 7 * c)) (m (36 + 7 * c)) = Int32.ofNat (min (5 * S) y) := by rw [e5, hy]; exact zmin_b (by omega) hyb
  have hK : ∀ K : Int32 → Option zH, (if 5 * m (38 + 7 * c) ≤ m (36 + 7 * c) then K (5 * m (38 + 7 * c)) else K (m (36 + 7 * c))) = K (Int32.ofNat (min (5 * S) y)) := by
    intro K
    rw [← hown]
    unfold zmin
    by_cases q : 5 * m (38 + 7 * c) ≤ m (36 + 7 * c)
    · rw [if_pos q, if_neg (Int32.not_lt.mpr q)]
    · rw [if_neg q, if_pos (Int32.not_le.mp q)]
  have hstart : f_X6_upkeep n 123 (Int32.ofNat c) (mput h m pp tx w hs) = upK n c (5 * m (38 + 7 * c)) (mput h m pp tx w hs) (Int32.ofNat (min (5 * S) y)) := by
    rw [← hK (upK n c (5 * m (38 + 7 * c)) (mput h m pp tx w hs))]
    unfold f_X6_upkeep upK
    simp only [mgK, u_of_4 hc, u_of_2 hc, zlet, Option.bind_some]
  rw [hstart]
  unfold upK rUpkeep
  rw [mgK, u_earns hc, Option.bind_some, mgK, Int32.neg_neg]
  simp only [hown]
  have hsub : 5 * m (38 + 7 * c) - Int32.ofNat (min (5 * S) y) = Int32.ofNat (5 * S - min (5 * S) y) := by rw [e5, i32_subm (Nat.min_le_left _ _)]
  rw [hsub]
  have hdz : (Int32.ofNat (5 * S - min (5 * S) y) ≤ 0) = (5 * S - min (5 * S) y = 0) := by
    rw [show (0 : Int32) = Int32.ofNat 0 from rfl, i32_le_of (by omega) (by omega)]
    exact propext (by omega)
  have hdz2 : (Int32.ofNat (5 * S - min (5 * S) y) = 0) = (5 * S - min (5 * S) y = 0) := i32_eq_of (b := 0) (by omega) (by omega)
  obtain ⟨d, hd⟩ : ∃ d, 5 * S - min (5 * S) y = d := ⟨_, rfl⟩
  rw [hd] at hdz hdz2 ⊢
  have hd25 : d ≤ 25 := by omega
  generalize hg1 : rCPay m c (Int32.ofNat (min (5 * S) y)) = g1
  have g1n : ∀ i, i ≠ 36 + 7 * c → i ≠ 6 → g1 i = m i := fun i h1 h2 => by rw [← hg1]; exact rCPay_ne h1 h2
  have hw1 : CoW g1 mm := fun e he => Co1_congr (fun p hp => g1n _ (by omega) (by omega)) (fun k h1 h2 => g1n _ (by omega) (by omega)) (hw e he)
  have g10 : g1 0 = Int32.ofNat mm := by rw [g1n 0 (by omega) (by omega), h0]
  by_cases c1 : d = 0
  · rw [if_pos (hdz ▸ c1)]
    rw [e_X6_isPaid]
    simp only [mgK, u_of_5 hc, zlet, zb2, if_pos (show Int32.ofNat d = 0 by rw [hdz2]; exact c1), Option.bind_some, if_neg (show ¬ (1 : Int32) = 0 by decide)]
  · rw [if_neg (fun q => c1 (hdz ▸ q))]
    rcases (hw1 c hc).2.1 with c2 | ⟨p, hp, c2⟩
    · rw [if_pos c2]
      rw [e_X6_isPaid]
      simp only [mgK, u_of_5 hc, zlet, zb2, if_neg (show ¬ Int32.ofNat d = 0 by rw [hdz2]; exact c1), if_pos c2, Option.bind_some, if_true]
      have := shut g1 g10 (sh_zero (hw1 c hc).1)
      first
        | exact this
        | (simp only [mgK] at this; exact this)
    · have hne : ¬ g1 (39 + 7 * c) = -1 := by
        rw [c2]
        intro e
        have := in_of (show p < 4 by omega) (show 4 < 600 by omega)
        rw [e] at this
        exact this (Or.inl (by decide))
      rw [if_neg hne, c2, nn_of (by omega)]
      rw [u_isPaid hn g10 hm hc hp hw1 c2 (show ¬ Int32.ofNat d = 0 by rw [hdz2]; exact c1)]
      obtain ⟨x, hxX, ex⟩ := hx p hp
      obtain ⟨r1, ⟨x', hx', ex'⟩, r3⟩ := rRest_spec hm hp (show d ≤ 200 by omega) hX hX2 40 g1 x hw1 (by rw [g1n _ (by omega) (by omega), ex]) hxX
      generalize rRest p (Int32.ofNat d) 40 g1 = g2 at r1 ex' r3 ⊢
      rw [ex', zmin_b (by omega) (by omega)]
      have e1 : (Int32.ofNat (min d x') = Int32.ofNat d) = (min d x' = d) := i32_eq_of (by omega) (by omega)
      have e2 : (Int32.ofNat d - Int32.ofNat (min d x') ≤ 0) = (min d x' = d) := by
        rw [i32_subm (Nat.min_le_left _ _), show (0 : Int32) = Int32.ofNat 0 from rfl, i32_le_of (by omega) (by omega)]
        exact propext (by omega)
      simp only [e1, e2, zb2, Option.bind_some, mgK]
      by_cases c3 : min d x' = d
      · rw [if_pos c3, if_pos c3, if_neg (show ¬ (1 : Int32) = 0 by decide)]
      · rw [if_neg c3, if_neg c3, if_pos rfl]
        have := shut (rPay g2 p (Int32.ofNat (min d x'))) (by rw [rPay_ne (by omega) (by omega), r3 0 (by omega) (by omega) (by omega) (fun e he => by omega), g10]) (fun q h1 h2 => by rw [rPay_ne (by omega) (by omega)]; exact sh_zero (r1 c hc).1 q h1 h2)
        first
          | exact this
          | (simp only [mgK] at this; exact this)
def DOk (D : Nat → Prop) (mm : Nat) : Prop := (∀ i, D i → 10 ≤ i ∧ i < 18) ∧ ∀ p, p < mm → ¬ D (14 + p)
def AgD (D : Nat → Prop) (g m : Row) : Prop := ∀ i, i < 134 → ¬ D i → g i = m i
theorem ag0 {D : Nat → Prop} {mm : Nat} {g m : Row} (hD : DOk D mm) (hA : AgD D g m) {i : Nat} (h1 : i < 134) (h2 : i < 10 ∨ 18 ≤ i) : g i = m i := hA i h1 fun q => by have := hD.1 i q; omega
theorem ag14 {D : Nat → Prop} {mm : Nat} {g m : Row} (hD : DOk D mm) (hA : AgD D g m) {p : Nat} (h1 : p < mm) (h2 : mm ≤ 4) : g (14 + p) = m (14 + p) := hA _ (by omega) (hD.2 p h1)
theorem ag_upd {D : Nat → Prop} {g m : Row} {k : Nat} {v v' : Int32} (hA : AgD D g m) (hv : v = v') : AgD D (upd g k v) (upd m k v') := by
  intro i h1 h2
  unfold upd
  split
  · exact hv
  · exact hA i h1 h2
theorem ag_rPay {D : Nat → Prop} {mm : Nat} {g m : Row} {p : Nat} {x x' : Int32} (hD : DOk D mm) (hA : AgD D g m) (h1 : p < mm) (h2 : mm ≤ 4) (hx : x = x') : AgD D (rPay g p x) (rPay m p x') := by
  unfold rPay
  exact ag_upd (ag_upd hA (by rw [ag14 hD hA h1 h2, hx])) (by rw [ag0 hD hA (by omega) (by omega), hx])
theorem ag_rCPay {D : Nat → Prop} {mm : Nat} {g m : Row} {c : Nat} {x x' : Int32} (hD : DOk D mm) (hA : AgD D g m) (hc : c < 4) (hx : x = x') : AgD D (rCPay g c x) (rCPay m c x') := by
  unfold rCPay
  exact ag_upd (ag_upd hA (by rw [ag0 hD hA (by omega) (by omega), hx])) (by rw [ag0 hD hA (by omega) (by omega), hx])
theorem zseq_congr {σ : Type} {f f' : Nat → σ → σ} {s : σ} : ∀ k, (∀ j x, j < k → f j x = f' j x) → zseq f s k = zseq f' s k
  | 0, _ => rfl
  | k + 1, h => by
    show f k (zseq f s k) = f' k (zseq f' s k)
    rw [zseq_congr k (fun j x hj => h j x (by omega)), h k _ (by omega)]
theorem pres_congr {f f' : Row} {its : Int32} (h : ∀ p, p < 4 → f p = f' p) (hi : its = -1 ∨ vp_in its 4) : pres f its = pres f' its := by
  have e : (if its = -1 then (0 : Int32) else f its.toNatClampNeg) = if its = -1 then 0 else f' its.toNatClampNeg := by
    rcases hi with hi | hi
    · rw [if_pos hi, if_pos hi]
    · rw [h _ (vp_lt hi)]
  unfold pres
  rw [e, zseq_congr (f := pst f) (f' := pst f') 4 (fun j x hj => by unfold pst; rw [h j hj])]
theorem ag_rPres {D : Nat → Prop} {mm : Nat} {g m : Row} {c : Nat} (hD : DOk D mm) (hA : AgD D g m) (hc : c < 4) (ho : PresOk g c) : AgD D (rPres g c) (rPres m c) := by
  unfold rPres
  refine ag_upd hA ?_
  rw [← ag0 hD hA (show 39 + 7 * c < 134 by omega) (by omega)]
  exact pres_congr (fun p hp => ag0 hD hA (by omega) (by omega)) ho
theorem ag_rFall {D : Nat → Prop} {mm : Nat} {g m : Row} {c : Nat} (hD : DOk D mm) (hA : AgD D g m) (hc : c < 4) : AgD D (rFall g c) (rFall m c) := by
  unfold rFall
  rw [ag0 hD hA (show 37 + 7 * c < 134 by omega) (by omega)]
  split
  · exact hA
  · exact ag_upd hA rfl
theorem ag_rRise {D : Nat → Prop} {mm : Nat} {g m : Row} {c : Nat} (hD : DOk D mm) (hA : AgD D g m) (hc : c < 4) : AgD D (rRise g c) (rRise m c) := by
  unfold rRise
  rw [ag0 hD hA (show 37 + 7 * c < 134 by omega) (by omega)]
  split
  · exact hA
  · exact ag_upd hA rfl
theorem ag_rEnd {D : Nat → Prop} {mm : Nat} {g m : Row} (hD : DOk D mm) (hA : AgD D g m) : AgD D (rEnd g) (rEnd m) := by
  unfold rEnd nextT
  refine ag_upd (ag_upd hA rfl) ?_
  rw [ag0 hD hA (show 0 < 134 by omega) (by omega), ag0 hD hA (show 1 < 134 by omega) (by omega)]
theorem ag_rFill {D : Nat → Prop} {g m : Row} {x : Nat → Nat} {v : Int32} (hA : AgD D g m) : ∀ k, AgD D (rFill x v k g) (rFill x v k m)
  | 0 => hA
  | k + 1 => ag_upd (ag_rFill hA k) rfl
theorem ag_rClose {D : Nat → Prop} {g m : Row} {c : Nat} (hA : AgD D g m) : AgD D (rClose g c) (rClose m c) := by
  unfold rClose
  exact ag_upd (ag_upd (ag_upd (ag_upd (ag_upd (ag_upd (ag_upd (ag_rFill hA 4) rfl) rfl) rfl) rfl) rfl) rfl) rfl
theorem ag_rOver {D : Nat → Prop} {mm : Nat} {g m : Row} (hD : DOk D mm) (hA : AgD D g m) : AgD D (rOver g) (rOver m) := by
  unfold rOver
  rw [ag0 hD hA (show 4 < 134 by omega) (by omega), ag0 hD hA (show 9 < 134 by omega) (by omega), ag0 hD hA (show 5 < 134 by omega) (by omega)]
  split
  · exact hA
  · exact ag_upd (ag_upd (ag_upd hA rfl) rfl) rfl
theorem ag_rLev {D : Nat → Prop} {g m : Row} {a b : Nat} {v v' : Int32} (hA : AgD D g m) (hv : v = v') : AgD D (rLev g a b v) (rLev m a b v') := by
  unfold rLev
  exact ag_upd (ag_upd hA hv) hv
theorem ag_rSell {D : Nat → Prop} {mm : Nat} {g m : Row} {p c : Nat} {s : Int32} (hD : DOk D mm) (hA : AgD D g m) (hp : p < mm) (hm : mm ≤ 4) (hc : c < 4) (ho : PresOk g c) : AgD D (rSell g p c s) (rSell m p c s) := by
  unfold rSell
  refine ag_rPres hD (ag_rFall hD (ag_upd (ag_rPay hD hA hp hm ?_) ?_) hc) hc ?_
  · rw [ag0 hD hA (show 37 + 7 * c < 134 by omega) (by omega)]
  · rw [ag0 hD hA (show 18 + 4 * p + c < 134 by omega) (by omega)]
  · unfold PresOk
    rw [rFall_ne (by omega), upd_ne (by omega), rPay_ne (by omega) (by omega)]
    exact ho
theorem zseq_congrP {σ : Type} {f f' : Nat → σ → σ} {s : σ} {N : Nat} {P : σ → Prop} (h0 : P s) (hs : ∀ k x, k < N → P x → P (f' k x)) (he : ∀ k x, k < N → P x → f k x = f' k x) : ∀ k, k ≤ N → zseq f s k = zseq f' s k ∧ P (zseq f' s k)
  | 0, _ => ⟨rfl, h0⟩
  | k + 1, h => by
    have ih := zseq_congrP h0 hs he k (by omega)
    refine ⟨?_, hs k _ (by omega) ih.2⟩
    show f k (zseq f s k) = f' k (zseq f' s k)
    rw [ih.1]
    exact he k _ (by omega) ih.2
theorem chStep_ok {g : Row} {p k : Nat} {s : Int32} (hk : k < 4) (hs : s = -1 ∨ vp_in s 4) : chStep g p k s = -1 ∨ vp_in (chStep g p k s) 4 := by
  unfold chStep
  split
  · exact hs
  · split
    · exact hs
    · split
      · exact Or.inr (in_of hk (by omega))
      · split
        · exact hs
        · exact Or.inr (in_of hk (by omega))
theorem ag_chStep {D : Nat → Prop} {mm : Nat} {g m : Row} {p k : Nat} {s : Int32} (hD : DOk D mm) (hA : AgD D g m) (hp : p < 4) (hk : k < 4) (hs : s = -1 ∨ vp_in s 4) : chStep g p k s = chStep m p k s := by
  unfold chStep
  rw [ag0 hD hA (show 34 + 7 * k < 134 by omega) (by omega), ag0 hD hA (show 18 + 4 * p + k < 134 by omega) (by omega), ag0 hD hA (show 37 + 7 * k < 134 by omega) (by omega)]
  split
  · rfl
  · split
    · rfl
    · split
      · rfl
      · rename_i q
        have := vp_lt (hs.resolve_left q)
        rw [ag0 hD hA (show 37 + 7 * s.toNatClampNeg < 134 by omega) (by omega)]
theorem ag_chp {D : Nat → Prop} {mm : Nat} {g m : Row} {p : Nat} (hD : DOk D mm) (hA : AgD D g m) (hp : p < 4) : chp g p = chp m p := by
  unfold chp
  exact (zseq_congrP (N := 4) (P := fun s : Int32 => s = -1 ∨ vp_in s 4) (Or.inl rfl) (fun k x hk hx => chStep_ok hk hx) (fun k x hk hx => ag_chStep hD hA hp hk hx) 4 (Nat.le_refl 4)).1
theorem ag_rRest {D : Nat → Prop} {mm p : Nat} {due : Int32} (hD : DOk D mm) (hp : p < mm) (hm : mm ≤ 4) : ∀ (j : Nat) (g m : Row), AgD D g m → PresAll g → AgD D (rRest p due j g) (rRest p due j m) := by
  intro j
  induction j with
  | zero => intro g m hA _; exact hA
  | succ j ih =>
    intro g m hA ha
    unfold rRest
    rw [ag14 hD hA hp hm, ag_chp hD hA (show p < 4 by omega)]
    split
    · exact hA
    · split
      · exact hA
      · rename_i q
        have h4 : (chp m p).toNatClampNeg < 4 := vp_lt ((chp_ok (g := m) (p := p)).resolve_left q)
        exact ih _ _ (ag_rSell hD hA hp hm h4 (ha _ h4)) (rSell_pa (by omega) h4 ha)
theorem ag_rShut {D : Nat → Prop} {mm : Nat} {g m : Row} {c : Nat} (hD : DOk D mm) (hA : AgD D g m) (hc : c < 4) : AgD D (rShut g c) (rShut m c) := by
  unfold rShut
  have h1 : AgD D (rClose (rCPay g c (g (36 + 7 * c))) c) (rClose (rCPay m c (m (36 + 7 * c))) c) := ag_rClose (ag_rCPay hD hA hc (ag0 hD hA (by omega) (by omega)))
  exact ag_upd h1 (by rw [ag0 hD h1 (by omega) (by omega)])
theorem rRest_pa {p : Nat} {due : Int32} (hp : p < 4) : ∀ (j : Nat) (g : Row), PresAll g → PresAll (rRest p due j g) := by
  intro j
  induction j with
  | zero => intro g h; exact h
  | succ j ih =>
    intro g h
    unfold rRest
    split
    · exact h
    · split
      · exact h
      · rename_i q
        exact ih _ (rSell_pa hp (vp_lt ((chp_ok (g := g) (p := p)).resolve_left q)) h)
def upk4 (g : Row) (c p : Nat) (due : Int32) : Row := if due - zmin due (g (14 + p)) ≤ 0 then rPay g p (zmin due (g (14 + p))) else rShut (rPay g p (zmin due (g (14 + p)))) c
def upk2 (g : Row) (c : Nat) (due : Int32) : Row := if due ≤ 0 then g else if g (39 + 7 * c) = -1 then rShut g c else upk4 (rRest (g (39 + 7 * c)).toNatClampNeg due 40 g) c (g (39 + 7 * c)).toNatClampNeg due
theorem rUpkeep_eq {g : Row} {c : Nat} : rUpkeep g c = upk2 (rCPay g c (zmin (5 * g (38 + 7 * c)) (g (36 + 7 * c)))) c (5 * g (38 + 7 * c) - zmin (5 * g (38 + 7 * c)) (g (36 + 7 * c))) := rfl
theorem ag_upk4 {D : Nat → Prop} {mm : Nat} {g m : Row} {c p : Nat} {due : Int32} (hD : DOk D mm) (hA : AgD D g m) (hm : mm ≤ 4) (hc : c < 4) (hp : p < mm) : AgD D (upk4 g c p due) (upk4 m c p due) := by
  unfold upk4
  rw [ag14 hD hA hp hm]
  have h3 := ag_rPay (x := zmin due (m (14 + p))) hD hA hp hm rfl
  split
  · exact h3
  · exact ag_rShut hD h3 hc
theorem ag_upk2 {D : Nat → Prop} {mm : Nat} {g m : Row} {c : Nat} {due : Int32} (hD : DOk D mm) (hA : AgD D g m) (hm : mm ≤ 4) (hc : c < 4) (ha : PresAll g) (hp : PrOk g mm c) : AgD D (upk2 g c due) (upk2 m c due) := by
  unfold upk2
  unfold PrOk at hp
  rw [ag0 hD hA (show 39 + 7 * c < 134 by omega) (by omega)] at hp ⊢
  split
  · exact hA
  · split
    · exact ag_rShut hD hA hc
    · rename_i q
      obtain ⟨p, hpm, ep⟩ := hp.resolve_left q
      rw [ep, nn_of (by omega)]
      exact ag_upk4 hD (ag_rRest hD hpm hm 40 _ _ hA ha) hm hc hpm
theorem ag_rUpkeep {D : Nat → Prop} {mm : Nat} {g m : Row} {c : Nat} (hD : DOk D mm) (hA : AgD D g m) (hm : mm ≤ 4) (hc : c < 4) (ha : PresAll g) (hp : PrOk g mm c) : AgD D (rUpkeep g c) (rUpkeep m c) := by
  rw [rUpkeep_eq, rUpkeep_eq, ag0 hD hA (show 38 + 7 * c < 134 by omega) (by omega), ag0 hD hA (show 36 + 7 * c < 134 by omega) (by omega)]
  exact ag_upk2 hD (ag_rCPay hD hA hc rfl) hm hc (rCPay_pa hc ha) (PrOk_congr (rCPay_ne (by omega) (by omega)) hp)
theorem ag_rOut {D : Nat → Prop} {mm : Nat} {g m : Row} {c : Nat} {x : Int32} (hD : DOk D mm) (hA : AgD D g m) (hm : mm ≤ 4) (hc : c < 4) : ∀ k, k ≤ mm → AgD D (zseq (fun p g => rPay g p (-(g (18 + 4 * p + c) * (x / 10)))) g k) (zseq (fun p g => rPay g p (-(g (18 + 4 * p + c) * (x / 10)))) m k)
  | 0, _ => hA
  | k + 1, h => by
    have ih := ag_rOut (x := x) hD hA hm hc k (by omega)
    exact ag_rPay hD ih (by omega) hm (by rw [ag0 hD ih (show 18 + 4 * k + c < 134 by omega) (by omega)])
theorem ag_rPaid {D : Nat → Prop} {mm : Nat} {g m : Row} {c : Nat} {x : Int32} (hD : DOk D mm) (hA : AgD D g m) (hm : mm ≤ 4) (hc : c < 4) : AgD D (rPaid g mm c x) (rPaid m mm c x) := by
  unfold rPaid rOut
  have h1 := ag_rOut (x := x) hD hA hm hc mm (Nat.le_refl mm)
  split
  · exact ag_rFall hD h1 hc
  · exact ag_rRise hD h1 hc
def LandE (g m : Row) : Prop := ∀ i, 62 ≤ i → i < 134 → g i = m i
theorem flat_congr {α : Type} {f f' : Nat → List α} : ∀ l : List Nat, (∀ k, k ∈ l → f k = f' k) → l.flatMap f = l.flatMap f'
  | [], _ => rfl
  | k :: l, h => by
    rw [List.flatMap_cons, List.flatMap_cons, h k List.mem_cons_self, flat_congr l (fun j hj => h j (List.mem_cons_of_mem _ hj))]
theorem kids_congr {g m : Row} {t k : Nat} {f f' : Nat → Int32 → List (List Nat × Int32)} {P : List Nat} {x : Int32} (h : g (62 + 8 * t + k) = m (62 + 8 * t + k)) (hf : ∀ z, f k z = f' k z) : kidsOf g t f P x k = kidsOf m t f' P x k := by
  unfold kidsOf
  rw [h]
  split
  · rfl
  · split
    · rfl
    · exact hf _
theorem nodes_0 {g : Row} {t : Nat} {P : List Nat} {x : Int32} : nodes g 0 t P x = [(t :: P, x + g (126 + t))] := rfl
theorem nodes_s {g : Row} {left t : Nat} {P : List Nat} {x : Int32} : nodes g (left + 1) t P x = (t :: P, x + g (126 + t)) :: (List.range 8).flatMap (kidsOf g t (fun k x => nodes g left k (t :: P) x) (t :: P) (x + g (126 + t))) := rfl
theorem nodes_congr {g m : Row} (h : LandE g m) : ∀ (left t : Nat) (P : List Nat) (x : Int32), t < 8 → nodes g left t P x = nodes m left t P x
  | 0, t, P, x, ht => by
    rw [nodes_0, nodes_0, h (126 + t) (by omega) (by omega)]
  | left + 1, t, P, x, ht => by
    rw [nodes_s, nodes_s, h (126 + t) (by omega) (by omega)]
    exact congrArg _ (flat_congr _ fun k hk => by
      have hk8 := List.mem_range.mp hk
      exact kids_congr (h _ (by omega) (by omega)) (fun z => nodes_congr h left k _ z hk8))
theorem best_congr {g m : Row} {home left : Nat} (h : LandE g m) : bestOf g home left = bestOf m home left := by
  unfold bestOf
  rw [flat_congr (f := fun t => nodes g left t [] 0) (f' := fun t => nodes m left t [] 0) _ (fun k hk => nodes_congr h _ _ _ _ (List.mem_range.mp hk))]
theorem inc_congr {g m : Row} {home S : Nat} (h : LandE g m) : incS g home S = incS m home S := by
  unfold incS
  rw [best_congr h]
theorem lev_landE {g m : Row} {a b : Nat} {v : Int32} (h : LandE g m) : LandE (rLev g a b v) (rLev m a b v) := by
  intro i h1 h2
  unfold rLev upd
  split
  · rfl
  · split
    · rfl
    · exact h i h1 h2
theorem up_congr {g m : Row} {home S a b : Nat} (ha : a < 8) (hb : b < 8) (h : LandE g m) : incUp g home S a b = incUp m home S a b := by
  unfold incUp
  rw [h (62 + 8 * a + b) (by omega) (by omega), inc_congr (lev_landE h)]
theorem route_congr {g m : Row} {home S : Nat} {i : Int32} (h : LandE g m) : routeS g home S i = routeS m home S i := by
  unfold routeS
  rw [best_congr h]
theorem lvl_congr {g m : Row} {home : Nat} (h : LandE g m) : ∀ k b, b < 8 → lvl g home k b = lvl m home k b
  | 0, b, _ => by rw [lvl_0, lvl_0]
  | k + 1, b, hb => by
    rw [lvl_s, lvl_s, lvl_congr h k b hb]
    have e : (∃ a, a < 8 ∧ lvl g home k a = k ∧ edge g a b) ↔ ∃ a, a < 8 ∧ lvl m home k a = k ∧ edge m a b := by
      constructor
      · rintro ⟨a, ha, q1, q2⟩
        exact ⟨a, ha, by rw [← lvl_congr h k a ha]; exact q1, by unfold edge; rw [← h _ (by omega) (by omega)]; exact q2⟩
      · rintro ⟨a, ha, q1, q2⟩
        exact ⟨a, ha, by rw [lvl_congr h k a ha]; exact q1, by unfold edge; rw [h _ (by omega) (by omega)]; exact q2⟩
    by_cases c : lvl m home k b = 8 ∧ ∃ a, a < 8 ∧ lvl m home k a = k ∧ edge m a b
    · rw [if_pos c, if_pos ⟨c.1, e.mpr c.2⟩]
    · rw [if_neg c, if_neg (fun q => c ⟨q.1, e.mp q.2⟩)]
theorem lay_congr {g m : Row} {c home i j : Nat} (hi : i < 8) (hj : j < 8) (h : LandE g m) (h2 : g (36 + 7 * c) = m (36 + 7 * c)) : layB g c home i j = layB m c home i j := by
  unfold layB
  rw [h (62 + 8 * i + j) (by omega) (by omega), h2, lvl_congr h 7 i hi, lvl_congr h 7 j hj]
theorem ag_land {D : Nat → Prop} {mm : Nat} {g m : Row} (hD : DOk D mm) (hA : AgD D g m) : LandE g m := fun i h1 h2 => ag0 hD hA h2 (by omega)
theorem ag_rTrack {D : Nat → Prop} {mm : Nat} {g m : Row} {c i j : Nat} (hD : DOk D mm) (hA : AgD D g m) (hc : c < 4) (hi : i < 8) (hj : j < 8) : AgD D (rTrack g c i j) (rTrack m c i j) := by
  unfold rTrack
  have e := ag0 hD hA (show 62 + 8 * i + j < 134 by omega) (by omega)
  exact ag_rCPay hD (ag_rLev hA (by rw [e])) hc (by rw [e])
