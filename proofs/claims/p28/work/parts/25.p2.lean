/-! an operating, seen in the row -/
theorem rOut_at {g : Row} {mm c : Nat} {x : Int32} (hm : mm ≤ 4) (hc : c < 4) : (∀ p, p < mm → rOut g mm c x (14 + p) = g (14 + p) + g (18 + 4 * p + c) * (x / 10)) ∧ ∀ i, i ≠ 6 → (∀ p, p < mm → i ≠ 14 + p) → rOut g mm c x i = g i := by
  unfold rOut
  exact zseq_ok (N := mm) (P := fun k (r : Row) => (∀ p, p < k → r (14 + p) = g (14 + p) + g (18 + 4 * p + c) * (x / 10)) ∧ ∀ i, i ≠ 6 → (∀ p, p < k → i ≠ 14 + p) → r i = g i) (step := fun p g => rPay g p (-(g (18 + 4 * p + c) * (x / 10)))) ⟨fun p hp => absurd hp (Nat.not_lt_zero _), fun i _ _ => rfl⟩ (fun k r hk hr => by
    obtain ⟨r1, r2⟩ := hr
    have hne : ∀ i, i ≠ 6 → i ≠ 14 + k → rPay r k (-(r (18 + 4 * k + c) * (x / 10))) i = r i := fun i a b => rPay_ne b a
    refine ⟨fun p hp => ?_, fun i a b => ?_⟩
    · by_cases e : p = k
      · subst e
        show rPay r p _ (14 + p) = _
        unfold rPay
        rw [upd_ne (by omega), upd_eq, r2 _ (by omega) (fun j hj => by omega), r2 _ (by omega) (fun j hj => by omega), Int32.sub_neg]
      · exact (hne _ (by omega) (by omega)).trans (r1 p (by omega))
    · exact (hne i a (b k (by omega))).trans (r2 i a fun p hp => b p (by omega))) mm (Nat.le_refl mm)
theorem rRise_at {g : Row} {c : Nat} : rRise g c (37 + 7 * c) = if 11 ≤ g (37 + 7 * c) then g (37 + 7 * c) else g (37 + 7 * c) + 1 := by
  unfold rRise
  split
  · rfl
  · exact upd_eq
theorem rFall_at {g : Row} {c : Nat} : rFall g c (37 + 7 * c) = if g (37 + 7 * c) ≤ 0 then g (37 + 7 * c) else g (37 + 7 * c) - 1 := by
  unfold rFall
  split
  · rfl
  · exact upd_eq
theorem earnA_at {g : Row} {mm c : Nat} {x : Int32} {pays : Bool} (hm : mm ≤ 4) (hc : c < 4) : (∀ i, i ≠ 6 → ¬ (14 ≤ i ∧ i < 18) → i ≠ 36 + 7 * c → i ≠ 37 + 7 * c → i ≠ 40 + 7 * c → earnA g mm c x pays i = g i) ∧ earnA g mm c x pays (36 + 7 * c) = g (36 + 7 * c) + (if pays then 0 else x) ∧ earnA g mm c x pays (40 + 7 * c) = x ∧ earnA g mm c x pays (37 + 7 * c) = (if pays = true ∧ ¬ x ≤ 0 then (if 11 ≤ g (37 + 7 * c) then g (37 + 7 * c) else g (37 + 7 * c) + 1) else (if g (37 + 7 * c) ≤ 0 then g (37 + 7 * c) else g (37 + 7 * c) - 1)) ∧ ∀ p, p < mm → earnA g mm c x pays (14 + p) = g (14 + p) + (if pays then g (18 + 4 * p + c) * (x / 10) else 0) := by
  unfold earnA
  cases pays
  · rw [if_neg (by decide), if_neg (by decide), if_neg (show ¬ (false = true ∧ ¬ x ≤ 0) from fun q => by cases q.1)]
    refine ⟨fun i h1 h2 h3 h4 h5 => ?_, ?_, ?_, ?_, fun p hp => ?_⟩
    · rw [rFall_ne h4, rCPay_ne h3 h1, upd_ne h5]
    · rw [rFall_ne (by omega)]
      unfold rCPay
      rw [upd_ne (by omega), upd_eq, upd_ne (by omega), Int32.sub_neg]
    · rw [rFall_ne (by omega), rCPay_ne (by omega) (by omega), upd_eq]
    · rw [rFall_at, rCPay_ne (by omega) (by omega), upd_ne (by omega)]
    · rw [if_neg (by decide), rFall_ne (by omega), rCPay_ne (by omega) (by omega), upd_ne (by omega), Int32.add_zero]
  · rw [if_pos rfl, if_pos rfl]
    obtain ⟨o1, o2⟩ := rOut_at (g := upd g (40 + 7 * c) x) (x := x) hm hc
    have hn : ∀ i, i ≠ 6 → ¬ (14 ≤ i ∧ i < 18) → rOut (upd g (40 + 7 * c) x) mm c x i = upd g (40 + 7 * c) x i := fun i h1 h2 => o2 i h1 (fun p hp => by omega)
    have h37 : rOut (upd g (40 + 7 * c) x) mm c x (37 + 7 * c) = g (37 + 7 * c) := by rw [hn _ (by omega) (by omega), upd_ne (by omega)]
    unfold rPaid
    by_cases hx : x ≤ 0
    · rw [if_pos hx, if_neg (show ¬ (true = true ∧ ¬ x ≤ 0) from fun q => q.2 hx)]
      refine ⟨fun i h1 h2 h3 h4 h5 => ?_, ?_, ?_, ?_, fun p hp => ?_⟩
      · rw [rFall_ne h4, hn i h1 h2, upd_ne h5]
      · rw [rFall_ne (by omega), hn _ (by omega) (by omega), upd_ne (by omega), Int32.add_zero]
      · rw [rFall_ne (by omega), hn _ (by omega) (by omega), upd_eq]
      · rw [rFall_at, h37]
      · rw [if_pos rfl, rFall_ne (by omega), o1 p hp, upd_ne (by omega), upd_ne (by omega)]
    · rw [if_neg hx, if_pos (show true = true ∧ ¬ x ≤ 0 from ⟨rfl, hx⟩)]
      refine ⟨fun i h1 h2 h3 h4 h5 => ?_, ?_, ?_, ?_, fun p hp => ?_⟩
      · rw [rRise_ne h4, hn i h1 h2, upd_ne h5]
      · rw [rRise_ne (by omega), hn _ (by omega) (by omega), upd_ne (by omega), Int32.add_zero]
      · rw [rRise_ne (by omega), hn _ (by omega) (by omega), upd_eq]
      · rw [rRise_at, h37]
      · rw [if_pos rfl, rRise_ne (by omega), o1 p hp, upd_ne (by omega), upd_ne (by omega)]
theorem shut_at {g : Row} {c : Nat} (hc : c < 4) : rShut g c 7 = g 7 + 1 ∧ rShut g c (34 + 7 * c) = 0 := by
  unfold rShut
  refine ⟨?_, ?_⟩
  · rw [upd_eq, rClose_ne (by omega) (fun p hp => by omega), rCPay_ne (by omega) (by omega)]
  · rw [upd_ne (by omega)]
    exact (rClose_at hc).1
theorem upk_paid {g : Row} {c : Nat} (h : ¬ g (36 + 7 * c) < 5 * g (38 + 7 * c)) : rUpkeep g c = rCPay g c (5 * g (38 + 7 * c)) := by
  rw [rUpkeep_eq]
  have e : zmin (5 * g (38 + 7 * c)) (g (36 + 7 * c)) = 5 * g (38 + 7 * c) := by
    unfold zmin
    rw [if_neg h]
  rw [e]
  unfold upk2
  rw [if_pos]
  rw [show (5 : Int32) * g (38 + 7 * c) - 5 * g (38 + 7 * c) = 0 by grind]
  exact Int32.le_refl _
theorem upk_short {g : Row} {mm c L S B : Nat} (hm : mm ≤ 4) (hc : c < 4) (hw : CoW g mm) (hM : MonW g mm B) (hB : B ≤ 100001) (eL : g (36 + 7 * c) = Int32.ofNat L) (eS : g (38 + 7 * c) = Int32.ofNat S) (hS : S ≤ 5) (h : L < 5 * S) : (rUpkeep g c 7 = g 7 ∧ rUpkeep g c (34 + 7 * c) = g (34 + 7 * c) ∧ rUpkeep g c (36 + 7 * c) = 0) ∨ (rUpkeep g c 7 = g 7 + 1 ∧ rUpkeep g c (34 + 7 * c) = 0) := by
  have e5 : (5 : Int32) * g (38 + 7 * c) = Int32.ofNat (5 * S) := by rw [eS, show (5 : Int32) = Int32.ofNat 5 from rfl, i32_mulm]
  rw [rUpkeep_eq, e5, eL, zmin_b (by omega) (by omega), show min (5 * S) L = L by omega, i32_subm (by omega)]
  have w1 : CoW (rCPay g c (Int32.ofNat L)) mm := fun e he => Co1_congr (fun q hq => rCPay_ne (by omega) (by omega)) (fun k a b => rCPay_ne (by omega) (by omega)) (hw e he)
  have z7 : rCPay g c (Int32.ofNat L) 7 = g 7 := rCPay_ne (by omega) (by omega)
  have z34 : rCPay g c (Int32.ofNat L) (34 + 7 * c) = g (34 + 7 * c) := rCPay_ne (by omega) (by omega)
  have z36 : rCPay g c (Int32.ofNat L) (36 + 7 * c) = 0 := by
    unfold rCPay
    rw [upd_ne (by omega), upd_eq, eL]
    grind
  have zc : ∀ p, p < mm → ∃ x, x ≤ 500 + 4000 * B ∧ rCPay g c (Int32.ofNat L) (14 + p) = Int32.ofNat x := fun p hp => by rw [rCPay_ne (by omega) (by omega)]; exact hM.1 p hp
  generalize rCPay g c (Int32.ofNat L) = g1 at *
  unfold upk2
  rw [if_neg (by rw [show (0 : Int32) = Int32.ofNat 0 from rfl, i32_le_b (by omega) (by omega)]; omega)]
  by_cases q : g1 (39 + 7 * c) = -1
  · rw [if_pos q]
    obtain ⟨s1, s2⟩ := shut_at (g := g1) hc
    exact Or.inr ⟨by rw [s1, z7], s2⟩
  · rw [if_neg q]
    obtain ⟨p, hp, ep⟩ := ((w1 c hc).2.1).resolve_left q
    rw [ep, nn_of (by omega)]
    obtain ⟨x, hx, ex⟩ := zc p hp
    obtain ⟨-, -, e⟩ := rRest_spec (d := 5 * S - L) (X := 500 + 4000 * B) hm hp (by omega) (by omega) (by omega) 40 g1 x w1 ex hx
    have r7 := e 7 (by omega) (by omega) (by omega) (fun d hd => by omega)
    have r34 := e (34 + 7 * c) (by omega) (by omega) (by omega) (fun d hd => by omega)
    have r36 := e (36 + 7 * c) (by omega) (by omega) (by omega) (fun d hd => by omega)
    generalize rRest p (Int32.ofNat (5 * S - L)) 40 g1 = g2 at *
    unfold upk4
    split
    · exact Or.inl ⟨by rw [rPay_ne (by omega) (by omega), r7, z7], by rw [rPay_ne (by omega) (by omega), r34, z34], by rw [rPay_ne (by omega) (by omega), r36, z36]⟩
    · obtain ⟨s1, s2⟩ := shut_at (g := rPay g2 p (zmin (Int32.ofNat (5 * S - L)) (g2 (14 + p)))) hc
      exact Or.inr ⟨by rw [s1, rPay_ne (by omega) (by omega), r7, z7], s2⟩
/-- what an operating leaves: phase, land; and the company, its cash, its price, the players' cash where it pays its upkeep; where it can't -/
theorem op_row {g : Row} {mm c S X B : Nat} {pays : Bool} (h : WF g mm) (hM : MonW g mm B) (hB : B ≤ 100000) (hc : c < 4) (ho : g (34 + 7 * c) = 1) (h3 : g 3 = 1) {home : Nat} (hco : CoOk g c home S) (hX : X ≤ 475) : ((rEarn g mm c (Int32.ofNat X) pays 3 = 1 ∧ rEarn g mm c (Int32.ofNat X) pays 5 = g 5) ∨ (rEarn g mm c (Int32.ofNat X) pays 3 = 0 ∧ rEarn g mm c (Int32.ofNat X) pays 5 = g 5 + 1 ∧ rEarn g mm c (Int32.ofNat X) pays 2 = 0)) ∧ (∀ i, 62 ≤ i → rEarn g mm c (Int32.ofNat X) pays i = g i) ∧
    (¬ g (36 + 7 * c) + (if pays then 0 else Int32.ofNat X) < 5 * g (38 + 7 * c) → rEarn g mm c (Int32.ofNat X) pays 7 = g 7 ∧ rEarn g mm c (Int32.ofNat X) pays (34 + 7 * c) = 1 ∧ rEarn g mm c (Int32.ofNat X) pays (36 + 7 * c) = g (36 + 7 * c) + (if pays then 0 else Int32.ofNat X) - 5 * g (38 + 7 * c) ∧ rEarn g mm c (Int32.ofNat X) pays (37 + 7 * c) = (if pays = true ∧ ¬ Int32.ofNat X ≤ 0 then (if 11 ≤ g (37 + 7 * c) then g (37 + 7 * c) else g (37 + 7 * c) + 1) else (if g (37 + 7 * c) ≤ 0 then g (37 + 7 * c) else g (37 + 7 * c) - 1)) ∧ rEarn g mm c (Int32.ofNat X) pays (40 + 7 * c) = Int32.ofNat X ∧ rEarn g mm c (Int32.ofNat X) pays (39 + 7 * c) = g (39 + 7 * c) ∧ ∀ p, p < mm → rEarn g mm c (Int32.ofNat X) pays (14 + p) = g (14 + p) + (if pays then g (18 + 4 * p + c) * (Int32.ofNat X / 10) else 0)) ∧
    (g (36 + 7 * c) + (if pays then 0 else Int32.ofNat X) < 5 * g (38 + 7 * c) → (rEarn g mm c (Int32.ofNat X) pays 7 = g 7 ∧ rEarn g mm c (Int32.ofNat X) pays (34 + 7 * c) = 1 ∧ rEarn g mm c (Int32.ofNat X) pays (36 + 7 * c) = 0) ∨ (rEarn g mm c (Int32.ofNat X) pays 7 = g 7 + 1 ∧ rEarn g mm c (Int32.ofNat X) pays (34 + 7 * c) = 0)) := by
  have hm := h.1.2.1
  obtain ⟨a1, a2, a3, a4, a5⟩ := earnA_spec (pays := pays) hm hc h.2.2.1 ho hco hX hM hB
  obtain ⟨u1, u2, u3, u4⟩ := upkeep_spec a5 hm hc a4 a1 a2 (by omega)
  obtain ⟨b1, b2, b3, b4, b5⟩ := earnA_at (g := g) (x := Int32.ofNat X) (pays := pays) hm hc
  have hov : ∀ (r : Row) (i : Nat), i ≠ 2 → i ≠ 3 → i ≠ 5 → rOver r i = r i := fun r i q1 q2 q3 => by
    unfold rOver
    split
    · rfl
    · rw [upd_ne q3, upd_ne q1, upd_ne q2]
  have hi : ∀ i, i ≠ 2 → i ≠ 3 → i ≠ 4 → i ≠ 5 → i ≠ 8 → rEarn g mm c (Int32.ofNat X) pays i = rUpkeep (earnA g mm c (Int32.ofNat X) pays) c i := fun i q2 q3 q4 q5 q8 => by rw [rEarn_eq, hov _ _ q2 q3 q5, upd_ne q4, upd_ne q8]
  refine ⟨?_, fun i h62 => ?_, fun hge => ?_, fun hlt => ?_⟩
  · rw [rEarn_eq]
    have v3 : upd (upd (rUpkeep (earnA g mm c (Int32.ofNat X) pays) c) 8 0) 4 (rUpkeep (earnA g mm c (Int32.ofNat X) pays) c 4 + 1) 3 = 1 := by rw [upd_ne (by omega), upd_ne (by omega), u3.1 3 (by omega) (by omega) (by omega), a3.1 3 (by omega) (by omega) (by omega), h3]
    have v5 : upd (upd (rUpkeep (earnA g mm c (Int32.ofNat X) pays) c) 8 0) 4 (rUpkeep (earnA g mm c (Int32.ofNat X) pays) c 4 + 1) 5 = g 5 := by rw [upd_ne (by omega), upd_ne (by omega), u3.1 5 (by omega) (by omega) (by omega), a3.1 5 (by omega) (by omega) (by omega)]
    generalize upd (upd (rUpkeep (earnA g mm c (Int32.ofNat X) pays) c) 8 0) 4 (rUpkeep (earnA g mm c (Int32.ofNat X) pays) c 4 + 1) = r at v3 v5 ⊢
    unfold rOver
    split
    · exact Or.inl ⟨v3, v5⟩
    · exact Or.inr ⟨by rw [upd_ne (by omega), upd_ne (by omega), upd_eq], by rw [upd_eq, v5], by rw [upd_ne (by omega), upd_eq]⟩
  · rw [hi i (by omega) (by omega) (by omega) (by omega) (by omega), u3.2.1 i h62, a3.2.1 i h62]
  · have e38 : earnA g mm c (Int32.ofNat X) pays (38 + 7 * c) = g (38 + 7 * c) := b1 _ (by omega) (by omega) (by omega) (by omega) (by omega)
    have hU := upk_paid (g := earnA g mm c (Int32.ofNat X) pays) (c := c) (by rw [b2, e38]; exact hge)
    refine ⟨?_, ?_, ?_, ?_, ?_, ?_, fun p hp => ?_⟩
    · rw [hi _ (by omega) (by omega) (by omega) (by omega) (by omega), hU, rCPay_ne (by omega) (by omega), b1 _ (by omega) (by omega) (by omega) (by omega) (by omega)]
    · rw [hi _ (by omega) (by omega) (by omega) (by omega) (by omega), hU, rCPay_ne (by omega) (by omega), a5]
    · rw [hi _ (by omega) (by omega) (by omega) (by omega) (by omega), hU]
      unfold rCPay
      rw [upd_ne (by omega), upd_eq, b2, e38]
    · rw [hi _ (by omega) (by omega) (by omega) (by omega) (by omega), hU, rCPay_ne (by omega) (by omega), b4]
    · rw [hi _ (by omega) (by omega) (by omega) (by omega) (by omega), hU, rCPay_ne (by omega) (by omega), b3]
    · rw [hi _ (by omega) (by omega) (by omega) (by omega) (by omega), hU, rCPay_ne (by omega) (by omega), b1 _ (by omega) (by omega) (by omega) (by omega) (by omega)]
    · rw [hi _ (by omega) (by omega) (by omega) (by omega) (by omega), hU, rCPay_ne (by omega) (by omega), b5 p hp]
  · have e38 : earnA g mm c (Int32.ofNat X) pays (38 + 7 * c) = g (38 + 7 * c) := b1 _ (by omega) (by omega) (by omega) (by omega) (by omega)
    have e7 : earnA g mm c (Int32.ofNat X) pays 7 = g 7 := b1 _ (by omega) (by omega) (by omega) (by omega) (by omega)
    obtain ⟨y, y1, y2⟩ := a2.2
    have hyc := mon_y hc y2
    have hS5 := hco.2.2.2.2
    have hlt' : y c < 5 * S := by
      rw [← b2, y1 c hc, hco.2.1, show (5 : Int32) = Int32.ofNat 5 from rfl, i32_mulm, i32_lt_b (by omega) (by omega)] at hlt
      exact hlt
    rcases upk_short (g := earnA g mm c (Int32.ofNat X) pays) hm hc a1 a2 (by omega) (y1 c hc) (e38.trans hco.2.1) hS5 hlt' with ⟨q1, q2, q3⟩ | ⟨q1, q2⟩
    · exact Or.inl ⟨by rw [hi _ (by omega) (by omega) (by omega) (by omega) (by omega), q1, e7], by rw [hi _ (by omega) (by omega) (by omega) (by omega) (by omega), q2, a5], by rw [hi _ (by omega) (by omega) (by omega) (by omega) (by omega), q3]⟩
    · exact Or.inr ⟨by rw [hi _ (by omega) (by omega) (by omega) (by omega) (by omega), q1, e7], by rw [hi _ (by omega) (by omega) (by omega) (by omega) (by omega), q2]⟩
