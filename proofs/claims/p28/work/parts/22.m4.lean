theorem led_close {g : Row} {mm c : Nat} (hc : c < 4) : led (rClose g c) mm = led g mm + (0 - g (36 + 7 * c)) := by
  rw [← led_cash hc]
  refine led_congr fun i hi => ?_
  by_cases e : i = 36 + 7 * c
  · rw [e, upd_eq]; exact (rClose_at hc).2.1
  · rw [upd_ne e, rClose_ne (by omega) (fun p hp => by omega)]
theorem led_shut {g : Row} {mm c : Nat} (hc : c < 4) : led (rShut g c) mm = led g mm := by
  have h : led (rShut g c) mm = led (rClose (rCPay g c (g (36 + 7 * c))) c) mm := led_congr fun i hi => upd_ne (by omega)
  rw [h, led_close hc, led_cpay hc]
  have e : rCPay g c (g (36 + 7 * c)) (36 + 7 * c) = g (36 + 7 * c) - g (36 + 7 * c) := by
    unfold rCPay
    rw [upd_ne (by omega), upd_eq]
  rw [e]
  grind
theorem led_rEnd {g : Row} {mm : Nat} : led (rEnd g) mm = led g mm := led_congr fun i hi => rEnd_ne (by omega) (by omega)
theorem led_sell {g : Row} {mm p c : Nat} {s : Int32} (h2 : 2 ≤ mm) (hm : mm ≤ 4) (hp : p < mm) (hc : c < 4) : led (rSell g p c s) mm = led g mm := by
  unfold rSell
  rw [← led_pay (g := g) (x := -s * (20 + 10 * g (37 + 7 * c))) h2 hm hp]
  exact led_congr fun i hi => by rw [rPres_ne (by omega), rFall_ne (by omega), upd_ne (by omega)]
theorem led_buy {g : Row} {mm t c : Nat} (h2 : 2 ≤ mm) (hm : mm ≤ 4) (hc : c < 4) (e1 : g 1 = Int32.ofNat t) (ht : t < mm) : led (rBuy g c) mm = led g mm := by
  rw [rBuy_eq e1 (by omega), led_rEnd]
  unfold buyC
  rw [← led_pay (g := g) (x := 20 + 10 * g (37 + 7 * c)) h2 hm ht]
  exact led_congr fun i hi => by rw [rPres_ne (by omega), upd_ne (by omega)]
theorem led_start {g : Row} {mm t c : Nat} {x y : Int32} (h2 : 2 ≤ mm) (hm : mm ≤ 4) (hc : c < 4) (e1 : g 1 = Int32.ofNat t) (ht : t < mm) (hz : g (36 + 7 * c) = 0) : led (rStart g c x y) mm = led g mm := by
  rw [rStart_eq e1 (by omega), led_rEnd]
  have e1' : startC g t c x y (36 + 7 * c) = 0 := by rw [startC_ne (by omega) (by omega) (by omega) (by omega) (by omega) (by omega) (by omega) (by omega), hz]
  have e2 : led (startC g t c x y) mm = led g mm := by
    unfold startC
    rw [show led g mm = led (rOpen g c x y) mm from (led_congr fun i hi => rOpen_ne (by omega) (by omega) (by omega) (by omega)).symm]
    rw [← led_pay (g := rOpen g c x y) (x := 2 * (20 + 10 * y)) h2 hm ht]
    exact led_congr fun i hi => by rw [rPres_ne (by omega), upd_ne (by omega)]
  unfold startD
  rw [led_bank, led_cash hc, e1', e2, upd_ne (by omega)]
  grind
theorem led_mst {r : Row} {mm x y k : Nat} {half : Int32} (h2 : 2 ≤ mm) (hm : mm ≤ 4) (hx : x < 4) (hk : k < mm) : led (mstep x y half k r) mm = led r mm := by
  unfold mstep
  rw [led_pay h2 hm hk]
  exact led_congr fun i hi => upd_ne (by omega)
theorem led_mstep {g : Row} {mm x y : Nat} {half : Int32} (h2 : 2 ≤ mm) (hm : mm ≤ 4) (hx : x < 4) : ∀ k, k ≤ mm → led (zseq (mstep x y half) g k) mm = led g mm := by
  intro k
  induction k with
  | zero => exact fun _ => rfl
  | succ k ih => exact fun hk => (led_mst h2 hm hx (by omega)).trans (ih (by omega))
theorem led_merge {g : Row} {mm x y : Nat} (h2 : 2 ≤ mm) (hm : mm ≤ 4) (hx : x < 4) (hy : y < 4) (hxy : x ≠ y) : led (rMerge g mm x y) mm = led g mm := by
  rw [rMerge_eq, led_rEnd]
  unfold mergeC
  rw [show led (rPres (rClose (upd (mergeA g mm x y) (36 + 7 * x) (mergeA g mm x y (36 + 7 * x) + mergeA g mm x y (36 + 7 * y))) y) x) mm = led (rClose (upd (mergeA g mm x y) (36 + 7 * x) (mergeA g mm x y (36 + 7 * x) + mergeA g mm x y (36 + 7 * y))) y) mm from led_congr fun i hi => rPres_ne (by omega)]
  rw [led_close hy, led_cash hx, upd_ne (by omega), show led (mergeA g mm x y) mm = led g mm from led_mstep h2 hm hx mm (Nat.le_refl _)]
  grind
theorem led_rest {mm p : Nat} {due : Int32} (h2 : 2 ≤ mm) (hm : mm ≤ 4) (hp : p < mm) : ∀ (j : Nat) (g : Row), led (rRest p due j g) mm = led g mm
  | 0, _ => rfl
  | j + 1, g => by
    unfold rRest
    by_cases c1 : due ≤ g (14 + p)
    · rw [if_pos c1]
    · rw [if_neg c1]
      by_cases c2 : chp g p = -1
      · rw [if_pos c2]
      · rw [if_neg c2]
        rcases chp_spec (g := g) (p := p) with q | ⟨i, hi, q, -, -⟩
        · exact absurd q c2
        · rw [led_rest h2 hm hp j, q, nn_of (by omega), led_sell h2 hm hp hi]
theorem led_upk2 {g : Row} {mm c : Nat} {due : Int32} (h2 : 2 ≤ mm) (hm : mm ≤ 4) (hc : c < 4) (hw : CoW g mm) : led (upk2 g c due) mm = led g mm := by
  unfold upk2
  by_cases c1 : due ≤ 0
  · rw [if_pos c1]
  · rw [if_neg c1]
    by_cases c2 : g (39 + 7 * c) = -1
    · rw [if_pos c2, led_shut hc]
    · rw [if_neg c2]
      rcases (hw c hc).2.1 with q | ⟨i, hi, q⟩
      · exact absurd q c2
      · rw [q, nn_of (by omega)]
        unfold upk4
        split
        · rw [led_pay h2 hm hi, led_rest h2 hm hi]
        · rw [led_shut hc, led_pay h2 hm hi, led_rest h2 hm hi]
theorem led_out {g : Row} {mm c : Nat} {x : Int32} (h2 : 2 ≤ mm) (hm : mm ≤ 4) : led (rOut g mm c x) mm = led g mm := by
  have h : ∀ k, k ≤ mm → led (zseq (fun p g => rPay g p (-(g (18 + 4 * p + c) * (x / 10)))) g k) mm = led g mm := by
    intro k
    induction k with
    | zero => exact fun _ => rfl
    | succ k ih =>
      intro hk
      rw [← ih (by omega)]
      exact led_pay h2 hm (by omega)
  exact h mm (Nat.le_refl _)
theorem led_rise {g : Row} {mm c : Nat} (hc : c < 4) : led (rRise g c) mm = led g mm := led_congr fun i hi => rRise_ne (by omega)
theorem led_fall {g : Row} {mm c : Nat} (hc : c < 4) : led (rFall g c) mm = led g mm := led_congr fun i hi => rFall_ne (by omega)
theorem led_earnA {g : Row} {mm c : Nat} {x : Int32} {pays : Bool} (h2 : 2 ≤ mm) (hm : mm ≤ 4) (hc : c < 4) : led (earnA g mm c x pays) mm = led g mm := by
  have e : led (upd g (40 + 7 * c) x) mm = led g mm := led_congr fun i hi => upd_ne (by omega)
  unfold earnA
  cases pays
  · rw [if_neg (by decide), led_fall hc, led_cpay hc, e]
  · rw [if_pos rfl]
    unfold rPaid
    split
    · rw [led_fall hc, led_out h2 hm, e]
    · rw [led_rise hc, led_out h2 hm, e]
theorem led_over {g : Row} {mm : Nat} : led (rOver g) mm = led g mm := by
  unfold rOver
  split
  · rfl
  · exact led_congr fun i hi => by rw [upd_ne (by omega), upd_ne (by omega), upd_ne (by omega)]
theorem led_lev {g : Row} {mm i j : Nat} {v : Int32} (hi : i < 8) (hj : j < 8) : led (rLev g i j v) mm = led g mm := led_congr fun k hk => rLev_ne hi hj (by omega)
/-! who has passed -/
def PasOk (g : Row) (mm : Nat) : Prop := ∃ p, p ≤ mm ∧ g 2 = Int32.ofNat p
theorem pas_congr {g g' : Row} {mm : Nat} (h : g' 2 = g 2) (hp : PasOk g mm) : PasOk g' mm := by
  obtain ⟨p, h1, h2⟩ := hp
  exact ⟨p, h1, by rw [h, h2]⟩
theorem pas_0 {g : Row} {mm : Nat} (h : g 2 = 0) : PasOk g mm := ⟨0, Nat.zero_le _, h⟩
theorem rEnd_2 {g : Row} : rEnd g 2 = 0 := by
  unfold rEnd
  rw [upd_ne (by omega), upd_eq]
theorem pas_over {g : Row} {mm : Nat} (h : PasOk g mm) : PasOk (rOver g) mm := by
  unfold rOver
  split
  · exact h
  · exact pas_0 (by rw [upd_ne (by omega), upd_eq])
theorem order_2 {g : Row} : rOrder g 2 = g 2 := by
  unfold rOrder
  have h : ∀ k, k ≤ 4 → (∃ len, len ≤ k ∧ True) → zseq ordStep g k 2 = g 2 := by
    intro k
    induction k with
    | zero => exact fun _ _ => rfl
    | succ k ih =>
      intro hk _
      rw [← ih (by omega) ⟨0, Nat.zero_le _, trivial⟩]
      show ordStep k (zseq ordStep g k) 2 = _
      unfold ordStep
      split
      · rfl
      · unfold rIns
        show upd (upd (shRow _ _ _) _ _) 9 _ 2 = _
        rw [upd_ne (by omega), upd_ne (by omega), shRow_ne (by omega) (by omega)]
  exact h 4 (Nat.le_refl _) ⟨0, Nat.zero_le _, trivial⟩
theorem pas_pass {g : Row} {mm : Nat} (hb : BaseW g mm) (h3 : g 3 = 0) : PasOk (rPass g) mm := by
  obtain ⟨p, hp, e⟩ := hb.2.2.2.2.2.2 h3
  have e2 : g 2 + 1 = Int32.ofNat (p + 1) := by rw [e]; exact i32_succ p
  unfold rPass
  split
  · exact ⟨p + 1, by omega, by rw [upd_ne (by omega), upd_eq, e2]⟩
  · unfold rBegOp
    refine pas_over ⟨p + 1, by omega, ?_⟩
    rw [order_2, upd_ne (by omega), upd_ne (by omega), upd_ne (by omega), upd_ne (by omega), upd_ne (by omega), upd_eq, e2]
/-! all of it, move by move -/
def XOk (g : Row) (mm : Nat) : Prop := HoldA g mm ∧ LedOk g mm ∧ PasOk g mm
theorem x_buy {g : Row} {mm t c : Nat} (h : WF g mm) (hX : XOk g mm) (e1 : g 1 = Int32.ofNat t) (ht : t < mm) (hc : c < 4) (hw' : CoW (rBuy g c) mm) : XOk (rBuy g c) mm :=
  ⟨hold_buy h.1.2.1 hc e1 ht hX.1 h.2.2.1 hw', (led_buy h.1.1 h.1.2.1 hc e1 ht).trans hX.2.1, pas_0 (by rw [rBuy_eq e1 (by have := h.1.2.1; omega)]; exact rEnd_2)⟩
theorem x_sell {g : Row} {mm p c : Nat} {s : Int32} (h : WF g mm) (hX : XOk g mm) (hp : p < mm) (hc : c < 4) (hw' : CoW (rSell g p c s) mm) : XOk (rSell g p c s) mm :=
  ⟨hold_sell h.1.2.1 hp hc hX.1 h.2.2.1 hw', (led_sell h.1.1 h.1.2.1 hp hc).trans hX.2.1, pas_congr (rSell_ne (by omega) (by omega) (by omega) (by omega) (by omega)) hX.2.2⟩
theorem x_start {g : Row} {mm t c : Nat} {x y : Int32} (h : WF g mm) (hX : XOk g mm) (hz : ZW g) (e1 : g 1 = Int32.ofNat t) (ht : t < mm) (hc : c < 4) (ho : g (34 + 7 * c) = 0) (hw' : CoW (rStart g c x y) mm) : XOk (rStart g c x y) mm :=
  ⟨hold_start h.1.2.1 hc e1 ht hX.1 h.2.2.1 hw', (led_start h.1.1 h.1.2.1 hc e1 ht (hz c hc ho)).trans hX.2.1, pas_0 (by rw [rStart_eq e1 (by have := h.1.2.1; omega)]; exact rEnd_2)⟩
theorem x_merge {g : Row} {mm x y : Nat} (h : WF g mm) (hX : XOk g mm) (hx : x < 4) (hy : y < 4) (hxy : x ≠ y) (hbk : ¬ bank (fun p => g (18 + 4 * p + x)) < exch (fun p => g (18 + 4 * p + y))) (hw' : CoW (rMerge g mm x y) mm) : XOk (rMerge g mm x y) mm :=
  ⟨hold_merge h.1.2.1 hx hy hxy hX.1 h.2.2.1 hbk hw', (led_merge h.1.1 h.1.2.1 hx hy hxy).trans hX.2.1, pas_0 (by rw [rMerge_eq]; exact rEnd_2)⟩
theorem x_town {g : Row} {mm t : Nat} {v : Int32} (h : WF g mm) (hX : XOk g mm) : XOk (upd g (126 + t) v) mm :=
  ⟨hold_all h.1.2.1 (fun i h1 h2 => upd_ne (by omega)) (fun c hc => upd_ne (by omega)) hX.1, (led_congr fun i hi => upd_ne (by omega)).trans hX.2.1, pas_congr (upd_ne (by omega)) hX.2.2⟩
theorem x_pass {g : Row} {mm : Nat} (h : WF g mm) (h3 : g 3 = 0) (hX : XOk g mm) (hs : ∀ i, 14 ≤ i → rPass g i = g i) (h6 : rPass g 6 = g 6) : XOk (rPass g) mm :=
  ⟨hold_all h.1.2.1 (fun i h1 h2 => hs i (by omega)) (fun c hc => hs _ (by omega)) hX.1, (led_congr fun i hi => by
    by_cases e : i = 6
    · rw [e, h6]
    · exact hs i (by omega)).trans hX.2.1, pas_pass h.1 h3⟩
theorem x_ext {g : Row} {mm c : Nat} (h : WF g mm) (hX : XOk g mm) (hc : c < 4) : XOk (extC g c) mm := by
  refine ⟨hold_all h.1.2.1 (fun i h1 h2 => extC_ne (by omega) (by omega) (by omega) (by omega)) (fun d hd => extC_ne (by omega) (by omega) (by omega) (by omega)) hX.1, ?_, pas_congr (extC_ne (by omega) (by omega) (by omega) (by omega)) hX.2.2⟩
  unfold extC
  refine Eq.trans ?_ ((led_cpay (x := 60) hc).trans hX.2.1)
  exact led_congr fun i hi => by rw [upd_ne (by omega), upd_ne (by omega)]
theorem x_track {g : Row} {mm c i j : Nat} (h : WF g mm) (hX : XOk g mm) (hc : c < 4) (hi : i < 8) (hj : j < 8) : XOk (rTrack g c i j) mm := by
  unfold rTrack
  refine ⟨hold_all h.1.2.1 (fun k h1 h2 => ?_) (fun d hd => ?_) hX.1, ?_, pas_congr ?_ hX.2.2⟩
  · rw [rCPay_ne (by omega) (by omega), rLev_ne hi hj (by omega)]
  · rw [rCPay_ne (by omega) (by omega), rLev_ne hi hj (by omega)]
  · exact (led_cpay hc).trans ((led_lev hi hj).trans hX.2.1)
  · rw [rCPay_ne (by omega) (by omega), rLev_ne hi hj (by omega)]
theorem x_earn {g : Row} {mm c home S X B : Nat} {pays : Bool} (h : WF g mm) (hX : XOk g mm) (hM : MonW g mm B) (hB : B ≤ 100000) (hc : c < 4) (ho : g (34 + 7 * c) = 1) (hco : CoOk g c home S) (hX4 : X ≤ 475) : XOk (rEarn g mm c (Int32.ofNat X) pays) mm := by
  have hm := h.1.2.1
  have h2 := h.1.1
  obtain ⟨a1, a2, a3, a4, a5⟩ := earnA_spec (pays := pays) hm hc h.2.2.1 ho hco hX4 hM hB
  obtain ⟨u1, u2, u3, u4⟩ := upkeep_spec a5 hm hc a4 a1 a2 (by omega)
  have hH1 : HoldA (earnA g mm c (Int32.ofNat X) pays) mm := by
    unfold earnA
    cases pays
    · rw [if_neg (by decide)]
      exact hold_all hm (fun i q1 q2 => by rw [rFall_ne (by omega), rCPay_ne (by omega) (by omega), upd_ne (by omega)]) (fun d hd => by rw [rFall_ne (by omega), rCPay_ne (by omega) (by omega), upd_ne (by omega)]) hX.1
    · rw [if_pos rfl]
      have hw2 : CoW (upd g (40 + 7 * c) (Int32.ofNat X)) mm := fun d hd => Co1_congr (fun p hp => upd_ne (by omega)) (fun k q1 q2 => upd_ne (by omega)) (h.2.2.1 d hd)
      have hM2 : MonW (upd g (40 + 7 * c) (Int32.ofNat X)) mm B := mon_cash hM (Nat.le_refl _) (fun d hd => upd_ne (by omega)) (fun p hp => by rw [upd_ne (by omega)]; exact hM.1 p hp)
      obtain ⟨-, -, p3⟩ := paid_spec (g := upd g (40 + 7 * c) (Int32.ofNat X)) hm hc hw2 (by rw [upd_ne (by omega)]; exact ho) hX4 hM2 hB
      exact hold_all hm (fun i q1 q2 => by rw [p3 i (by omega) (by omega) (by omega), upd_ne (by omega)]) (fun d hd => by rw [p3 _ (by omega) (by omega) (by omega), upd_ne (by omega)]) hX.1
  have hc1 : CoW (rCPay (earnA g mm c (Int32.ofNat X) pays) c (zmin (5 * earnA g mm c (Int32.ofNat X) pays (38 + 7 * c)) (earnA g mm c (Int32.ofNat X) pays (36 + 7 * c)))) mm := fun d hd => Co1_congr (fun p hp => rCPay_ne (by omega) (by omega)) (fun k q1 q2 => rCPay_ne (by omega) (by omega)) (a1 d hd)
  have hH2 : HoldA (rUpkeep (earnA g mm c (Int32.ofNat X) pays) c) mm := by
    rw [rUpkeep_eq]
    exact hold_upk2 hm hc hc1 (hold_rCPay hm hc hH1)
  have hL2 : led (rUpkeep (earnA g mm c (Int32.ofNat X) pays) c) mm = led g mm := by
    rw [rUpkeep_eq, led_upk2 h2 hm hc hc1, led_cpay hc, led_earnA h2 hm hc]
  rw [rEarn_eq]
  have hn : ∀ i, i ≠ 4 → i ≠ 8 → upd (upd (rUpkeep (earnA g mm c (Int32.ofNat X) pays) c) 8 0) 4 (rUpkeep (earnA g mm c (Int32.ofNat X) pays) c 4 + 1) i = rUpkeep (earnA g mm c (Int32.ofNat X) pays) c i := fun i q1 q2 => by rw [upd_ne q1, upd_ne q2]
  have hov : ∀ (r : Row) (i : Nat), i ≠ 2 → i ≠ 3 → i ≠ 5 → rOver r i = r i := fun r i q1 q2 q3 => by
    unfold rOver
    split
    · rfl
    · rw [upd_ne q3, upd_ne q1, upd_ne q2]
  refine ⟨hold_all hm (fun i q1 q2 => ?_) (fun d hd => ?_) hH2, ?_, pas_over (pas_congr ?_ hX.2.2)⟩
  · rw [hov _ _ (by omega) (by omega) (by omega), hn _ (by omega) (by omega)]
  · rw [hov _ _ (by omega) (by omega) (by omega), hn _ (by omega) (by omega)]
  · show led _ mm = _
    rw [led_over, ← hX.2.1, ← hL2]
    exact led_congr fun i hi => hn _ (by omega) (by omega)
  · rw [hn _ (by omega) (by omega), u3.1 2 (by omega) (by omega) (by omega), a3.1 2 (by omega) (by omega) (by omega)]
theorem x_reset {g : Row} {mm : Nat} (h1 : 2 ≤ mm) (h2 : mm ≤ 4) (hw : CoW (rReset g (Int32.ofNat mm)) mm) : XOk (rReset g (Int32.ofNat mm)) mm := by
  obtain ⟨r0, r1, r2, r3⟩ := rReset_at (g := g) (m := Int32.ofNat mm)
  obtain ⟨z1, z2⟩ := rReset0_at (g := rClear g)
  refine ⟨fun c hc => hold_shutc ?_ (hw c hc).2.2.2, ?_, pas_0 (r1 2 (by omega) (by omega))⟩
  · rw [r3 _ (by omega)]
    exact (z1 c hc).1
  · show led _ mm = _
    unfold led
    rw [r1 6 (by omega) (by omega), show rReset g (Int32.ofNat mm) 14 = 500 from r2 0 (by omega), show rReset g (Int32.ofNat mm) 15 = 500 from r2 1 (by omega), show rReset g (Int32.ofNat mm) 16 = 500 from r2 2 (by omega), show rReset g (Int32.ofNat mm) 17 = 500 from r2 3 (by omega), r3 36 (by omega), r3 43 (by omega), r3 50 (by omega), r3 57 (by omega), show rReset0 (rClear g) 36 = 0 from (z1 0 (by omega)).2.1, show rReset0 (rClear g) 43 = 0 from (z1 1 (by omega)).2.1, show rReset0 (rClear g) 50 = 0 from (z1 2 (by omega)).2.1, show rReset0 (rClear g) 57 = 0 from (z1 3 (by omega)).2.1]
    rcases (show mm = 2 ∨ mm = 3 ∨ mm = 4 by omega) with rfl | rfl | rfl <;> decide
