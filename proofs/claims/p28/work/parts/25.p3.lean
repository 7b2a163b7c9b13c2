/-! AN OPERATING, WALKED -/
def Mv (B : Nat) (u : Int32 × zH) : Prop := u.1 = 1 ∧ ∃ st' k' g' mm', ST st' k' g' u.2 ∧ Inv (B + 5) mm' g' ∧ SvI (B + 5) k' st'
def keptV (X : Nat) (pays : Bool) : Int32 := if pays then 0 else Int32.ofNat X
def prV (p : Int32) (X : Nat) (pays : Bool) : Int32 := if pays = true ∧ ¬ Int32.ofNat X ≤ 0 then (if 130 < p + 10 then 130 else p + 10) else if p ≤ 20 then 20 else p - 10
theorem pr_rise : ∀ s, s ≤ 11 → 20 + 10 * (if 11 ≤ Int32.ofNat s then Int32.ofNat s else Int32.ofNat s + 1) = (if 130 < 20 + 10 * Int32.ofNat s + 10 then 130 else 20 + 10 * Int32.ofNat s + 10) := by decide
theorem pr_fall : ∀ s, s ≤ 11 → 20 + 10 * (if Int32.ofNat s ≤ 0 then Int32.ofNat s else Int32.ofNat s - 1) = (if 20 + 10 * Int32.ofNat s ≤ 20 then 20 else 20 + 10 * Int32.ofNat s - 10) := by decide
def OpFine (g g' : Row) (mm c : Nat) (laid : Int32) (X : Nat) (pays : Bool) : Prop := ((g' 3 = 1 ∧ g' 5 = g 5) ∨ (g' 3 = 0 ∧ g' 5 = g 5 + 1 ∧ g' 2 = 0)) ∧
  (¬ g (36 + 7 * c) - laid + keptV X pays < 5 * g (38 + 7 * c) → g' 7 = g 7 ∧ g' (34 + 7 * c) = 1 ∧ g' (36 + 7 * c) = g (36 + 7 * c) - laid + keptV X pays - 5 * g (38 + 7 * c) ∧ 20 + 10 * g' (37 + 7 * c) = prV (20 + 10 * g (37 + 7 * c)) X pays ∧ g' (40 + 7 * c) = Int32.ofNat X ∧ g' (39 + 7 * c) = g (39 + 7 * c) ∧ ∀ p, p < mm → g' (14 + p) = g (14 + p) + (if pays then g (18 + 4 * p + c) * (Int32.ofNat X / 10) else 0)) ∧
  (g (36 + 7 * c) - laid + keptV X pays < 5 * g (38 + 7 * c) → (g' 7 = g 7 ∧ g' (34 + 7 * c) = 1 ∧ g' (36 + 7 * c) = 0) ∨ (g' 7 = g 7 + 1 ∧ g' (34 + 7 * c) = 0))
theorem op_fine {g gt : Row} {mm c S X B home : Nat} {pays : Bool} {laid : Int32} (h : WF gt mm) (hM : MonW gt mm B) (hB : B ≤ 100000) (hc : c < 4) (ho : g (34 + 7 * c) = 1) (h3 : g 3 = 1) (hco : CoOk gt c home S) (hX : X ≤ 475) (hgt : ∀ i, i < 62 → i ≠ 6 → i ≠ 36 + 7 * c → gt i = g i) (hl : gt (36 + 7 * c) = g (36 + 7 * c) - laid) : OpFine g (rEarn gt mm c (Int32.ofNat X) pays) mm c laid X pays := by
  have hm := h.1.2.1
  obtain ⟨r1, -, r3, r4⟩ := op_row (pays := pays) h hM hB hc ((hgt _ (by omega) (by omega) (by omega)).trans ho) ((hgt 3 (by omega) (by omega) (by omega)).trans h3) hco hX
  rw [hgt 5 (by omega) (by omega) (by omega)] at r1
  rw [hl, hgt (38 + 7 * c) (by omega) (by omega) (by omega), hgt 7 (by omega) (by omega) (by omega)] at r3 r4
  rw [hgt (37 + 7 * c) (by omega) (by omega) (by omega), hgt (39 + 7 * c) (by omega) (by omega) (by omega)] at r3
  refine ⟨r1, fun q => ?_, r4⟩
  obtain ⟨a1, a2, a3, a4, a5, a6, a7⟩ := r3 q
  refine ⟨a1, a2, a3, ?_, a5, a6, fun p hp => ?_⟩
  · obtain ⟨s, hs, es⟩ : StOk g c := by
      obtain ⟨s, hs, es⟩ := (h.2.2.1 c hc).2.2.1
      exact ⟨s, hs, (hgt (37 + 7 * c) (by omega) (by omega) (by omega)).symm.trans es⟩
    rw [a4, es]
    unfold prV
    split
    · exact pr_rise s hs
    · exact pr_fall s hs
  · rw [a7 p hp, hgt (14 + p) (by omega) (by omega) (by omega), hgt (18 + 4 * p + c) (by omega) (by omega) (by omega)]
theorem sum_pay {g g' : Row} {mm c : Nat} {pays : Bool} {d : Int32} (h : ∀ p, p < mm → g' (14 + p) = g (14 + p) + (if pays then g (18 + 4 * p + c) * d else 0)) : ∀ i, i ≤ mm → zseq (fun p s => s + g' (14 + p)) 0 i = zseq (fun p s => s + g (14 + p)) 0 i + (if pays then zseq (fun p s => s + g (18 + 4 * p + c)) 0 i * d else 0)
  | 0, _ => by
    show (0 : Int32) = 0 + (if pays then 0 * d else 0)
    cases pays
    · exact (Int32.zero_add 0).symm
    · show (0 : Int32) = 0 + 0 * d
      grind
  | i + 1, hi => by
    show zseq (fun p s => s + g' (14 + p)) 0 i + g' (14 + i) = zseq (fun p s => s + g (14 + p)) 0 i + g (14 + i) + (if pays then (zseq (fun p s => s + g (18 + 4 * p + c)) 0 i + g (18 + 4 * i + c)) * d else 0)
    rw [sum_pay h i (by omega), h i (by omega)]
    cases pays
    · simp only [Bool.false_eq_true, if_false]
      grind
    · simp only [if_true]
      grind
theorem ph_eq {B : Nat} {g g' : Row} (h : Ph B g) (e : g' 5 = g 5) : Ph B g' := by
  obtain ⟨x, a, b⟩ := h
  exact ⟨x, a, e.trans b⟩
theorem ph_step {B : Nat} {g g' : Row} (h : Ph B g) (e : g' 5 = g 5 ∨ g' 5 = g 5 + 1) : Ph (B + 1) g' := by
  obtain ⟨x, a, b⟩ := h
  rcases e with e | e
  · exact ⟨x, by omega, e.trans b⟩
  · exact ⟨x + 1, by omega, by rw [e, b, i32_succ]⟩
theorem fine_5 {g g' : Row} {mm c X : Nat} {laid : Int32} {pays : Bool} (h : OpFine g g' mm c laid X pays) : g' 5 = g 5 ∨ g' 5 = g 5 + 1 := by
  rcases h.1 with ⟨-, e⟩ | ⟨-, e, -⟩
  · exact Or.inl e
  · exact Or.inr e
section P3
variable {st : Nat → Row} {k n mm B : Nat} {g : Row} {H : zH}
theorem op_told {c : Nat} {u v z : Int32} (hn : 50000 ≤ n) (hB : B ≤ 100000) (hI : Inv B mm g) (hS : SvI B k st) (hC : ST st k g H) (hc : c < 4) (hnc : nextC g = Int32.ofNat c) (ho : g (34 + 7 * c) = 1) (h3 : g 3 = 1) (huv : (u = -1 ∧ v = -1) ∨ ∃ a b, a < 8 ∧ b < 8 ∧ u = Int32.ofNat a ∧ v = Int32.ofNat b) :
    (∃ H', f_L_operates n 0 u v z H = some (-5000001, H') ∧ ST st k g H' ∧ u = v ∧ ¬ u < 0) ∨ (∃ H', f_L_operates n 0 u v z H = some (-5000002, H') ∧ ST st k g H' ∧ ¬ u < 0) ∨ (∃ H' X g' laid, X ≤ 475 ∧ f_L_operates n 0 u v z H = some (Int32.ofNat X, H') ∧ ST (pushSt st k g) (pushK k) g' H' ∧ Inv (B + 1) mm g' ∧ OpFine g g' mm c laid X (decide (z ≠ 0)) ∧ ((u = -1 ∧ v = -1 ∧ laid = 0 ∧ Int32.ofNat X = coD g c 7) ∨ (∃ a b, a < 8 ∧ b < 8 ∧ a ≠ b ∧ u = Int32.ofNat a ∧ v = Int32.ofNat b ∧ laid = 20 * (g (62 + 8 * a + b) + 1) ∧ Int32.ofNat X = wtV g c a b ∧ g' (62 + 8 * a + b) = g (62 + 8 * a + b) + 1))) := by
  obtain ⟨hw, ⟨hM, hZ⟩, hX, hP⟩ := hI
  obtain ⟨hco, h2⟩ := open_ok hw.2.2.1 hc ho
  have hL := hw.2.2.2
  have hm := hw.1.2.1
  rcases huv with ⟨rfl, rfl⟩ | ⟨a, b, ha, hb, rfl, rfl⟩
  · refine Or.inr (Or.inr ?_)
    obtain ⟨eI, lI⟩ := incS_eq hL (home := hmN g c) hco.2.2.2.1 hco.2.2.2.2
    obtain ⟨H', e, hC'⟩ := w_op_0 (z := z) hn hS.1 hw hC hc ho hnc
    rw [eI] at e hC'
    obtain ⟨wa, wb, wc⟩ := earn_wf (pays := decide (z ≠ 0)) hw hM hB h3 hc hnc hco lI hZ
    have hf := op_fine (pays := decide (z ≠ 0)) hw hM hB hc ho h3 hco lI (fun i _ _ _ => rfl) (Int32.sub_zero _).symm
    exact ⟨H', _, _, 0, lI, e, hC', ⟨wa, ⟨wb, wc⟩, x_earn hw hX hM hB hc ho hco lI, ph_step hP (fine_5 hf)⟩, hf, Or.inl ⟨rfl, rfl, rfl, by rw [ca_7 ho, eI]⟩⟩
  · have hna : ¬ Int32.ofNat a < 0 := i32_nlt (b := 0) (by omega) (by omega) (by omega)
    by_cases hab : a = b
    · subst hab
      exact Or.inl ⟨H, w_op_ar hC (in_of ha (by omega)), hC, rfl, hna⟩
    · by_cases hlay : layB g c (hmN g c) a b = true
      · refine Or.inr (Or.inr ?_)
        obtain ⟨lv, -, -⟩ := lay_lev hL ha hb hlay
        have hU : incS (rTrack g c a b) (hmN g c) (spN g c) = Int32.ofNat (rU g (hmN g c) (spN g c) a b) := by
          have e1 : incS (rTrack g c a b) (hmN g c) (spN g c) = incUp g (hmN g c) (spN g c) a b := inc_congr fun i h1 h2 => rCPay_ne (by omega) (by omega)
          rw [e1, (incUp_eq hL hco.2.2.2.1 hco.2.2.2.2 ha hb hab lv).1]
        have lU := (incUp_eq hL (home := hmN g c) hco.2.2.2.1 hco.2.2.2.2 ha hb hab lv).2
        obtain ⟨H', e, hC'⟩ := w_op_1 (z := z) hn hS.1 hw hC hc ho hnc ha hb hab hlay
        rw [hU] at e hC'
        obtain ⟨wt, mt⟩ := track_wf hw hM hc ha hb hB hlay
        have hgt : ∀ i, i < 62 → i ≠ 6 → i ≠ 36 + 7 * c → rTrack g c a b i = g i := fun i q1 q2 q3 => by
          unfold rTrack
          rw [rCPay_ne q3 q2, rLev_ne ha hb (Or.inl q1)]
        have hl : rTrack g c a b (36 + 7 * c) = g (36 + 7 * c) - 20 * (g (62 + 8 * a + b) + 1) := by
          unfold rTrack rCPay
          rw [upd_ne (by omega), upd_eq, rLev_ne ha hb (Or.inl (by omega))]
        have hot : rTrack g c a b (34 + 7 * c) = 1 := (hgt _ (by omega) (by omega) (by omega)).trans ho
        have h3t : rTrack g c a b 3 = 1 := (hgt 3 (by omega) (by omega) (by omega)).trans h3
        have hcot : CoOk (rTrack g c a b) c (hmN g c) (spN g c) := CoOk_congr (hgt _ (by omega) (by omega) (by omega)) (hgt _ (by omega) (by omega) (by omega)) hco
        have hnct : nextC (rTrack g c a b) = Int32.ofNat c := by
          rw [← hnc]
          obtain ⟨len, pl, o, hlen, -, -, e4, -, q⟩ := hw.2.1
          exact nextC_congr (hgt 3 (by omega) (by omega) (by omega)) (hgt 9 (by omega) (by omega) (by omega)) (hgt 4 (by omega) (by omega) (by omega)) (fun i hi => hgt _ (by omega) (by omega) (by omega)) ⟨pl, by have := (q h3).1; omega, e4⟩
        have zt : ZW (rTrack g c a b) := zw_track ho hc ha hb hZ
        have xt : XOk (rTrack g c a b) mm := x_track hw hX hc ha hb
        obtain ⟨wa, wb, wc⟩ := earn_wf (pays := decide (z ≠ 0)) wt mt hB h3t hc hnct hcot lU zt
        obtain ⟨-, hland, -⟩ := op_row (pays := decide (z ≠ 0)) wt mt hB hc hot h3t hcot lU
        have hf := op_fine (pays := decide (z ≠ 0)) wt mt hB hc ho h3 hcot lU hgt hl
        refine ⟨H', _, _, 20 * (g (62 + 8 * a + b) + 1), lU, e, hC', ⟨wa, ⟨wb, wc⟩, x_earn wt xt mt hB hc hot hcot lU, ph_step hP (fine_5 hf)⟩, hf, Or.inr ⟨a, b, ha, hb, hab, rfl, rfl, rfl, ?_, ?_⟩⟩
        · rw [wt_lo hL ho hco.2.2.2.1 hco.2.2.2.2 ha hb hab lv]
        · rw [hland _ (by omega)]
          unfold rTrack
          rw [rCPay_ne (by omega) (by omega), rLev_val ha hb ha hb, if_pos (Or.inl ⟨rfl, rfl⟩)]
      · obtain ⟨H', e, hC'⟩ := w_op_no (z := z) hn hw hC hc ho hnc ha hb hab hlay
        exact Or.inr (Or.inl ⟨H', e, hC', hna⟩)
end P3
