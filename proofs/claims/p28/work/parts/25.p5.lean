/-! A MOVE OF THE LAW's SCRIPT -/
theorem over_at {r : Row} : (rOver r 3 = r 3 ∧ rOver r 5 = r 5 ∨ rOver r 3 = 0 ∧ rOver r 5 = r 5 + 1) ∧ ∀ i, i ≠ 2 → i ≠ 3 → i ≠ 5 → rOver r i = r i := by
  unfold rOver
  split
  · exact ⟨Or.inl ⟨rfl, rfl⟩, fun i _ _ _ => rfl⟩
  · exact ⟨Or.inr ⟨by rw [upd_ne (by omega), upd_ne (by omega), upd_eq], by rw [upd_eq]⟩, fun i a b c => by rw [upd_ne c, upd_ne a, upd_ne b]⟩
theorem pass_at {g : Row} {mm : Nat} (hw : CoW g mm) (h3 : g 3 = 0) : rPass g 1 = nextT g ∧ (rPass g 3 = 0 ∨ rPass g 3 = 1) ∧ rPass g 6 = g 6 ∧ (rPass g 5 = g 5 ∨ rPass g 5 = g 5 + 1) := by
  unfold rPass
  split
  · have ne : ∀ i, i ≠ 1 → i ≠ 2 → upd (upd g 2 (g 2 + 1)) 1 (nextT g) i = g i := fun i a b => by rw [upd_ne a, upd_ne b]
    exact ⟨upd_eq, Or.inl ((ne 3 (by omega) (by omega)).trans h3), ne 6 (by omega) (by omega), Or.inl (ne 5 (by omega) (by omega))⟩
  · unfold rBegOp
    obtain ⟨op, s, hop, hst⟩ := row_ops hw
    have ne : ∀ i, i ≠ 1 → i ≠ 2 → i ≠ 3 → i ≠ 4 → i ≠ 8 → i ≠ 9 → upd (upd (upd (upd (upd (upd g 2 (g 2 + 1)) 1 (nextT g)) 3 1) 8 0) 4 0) 9 0 i = g i := fun i a1 a2 a3 a4 a8 a9 => by rw [upd_ne a9, upd_ne a4, upd_ne a8, upd_ne a3, upd_ne a1, upd_ne a2]
    have n1 : upd (upd (upd (upd (upd (upd g 2 (g 2 + 1)) 1 (nextT g)) 3 1) 8 0) 4 0) 9 0 1 = nextT g := by rw [upd_ne (by omega), upd_ne (by omega), upd_ne (by omega), upd_ne (by omega), upd_eq]
    have n3 : upd (upd (upd (upd (upd (upd g 2 (g 2 + 1)) 1 (nextT g)) 3 1) 8 0) 4 0) 9 0 3 = 1 := by rw [upd_ne (by omega), upd_ne (by omega), upd_ne (by omega), upd_eq]
    have n9 : upd (upd (upd (upd (upd (upd g 2 (g 2 + 1)) 1 (nextT g)) 3 1) 8 0) 4 0) 9 0 9 = 0 := upd_eq
    generalize upd (upd (upd (upd (upd (upd g 2 (g 2 + 1)) 1 (nextT g)) 3 1) 8 0) 4 0) 9 0 = r at ne n1 n3 n9 ⊢
    obtain ⟨-, fr⟩ := rOrder_inv (g := r) (op := op) (st := s) n9 (fun c hc => by
      rw [ne _ (by omega) (by omega) (by omega) (by omega) (by omega) (by omega)]
      rcases hop c hc with ⟨a, b⟩ | ⟨a, b⟩
      · rw [a, b]
        exact ⟨fun q => absurd q (by decide), fun q => by cases q⟩
      · rw [a, b]
        exact ⟨fun _ => rfl, fun _ => rfl⟩) (fun c hc => by
      rw [ne _ (by omega) (by omega) (by omega) (by omega) (by omega) (by omega)]
      exact ⟨(hst c hc).1, by have := (hst c hc).2; omega⟩)
    obtain ⟨o1, o2⟩ := over_at (r := rOrder r)
    have f := fun i (a : i ≠ 9) (b : i < 10) => fr i a (Or.inl b)
    rw [o2 1 (by omega) (by omega) (by omega), o2 6 (by omega) (by omega) (by omega), f 1 (by omega) (by omega), f 6 (by omega) (by omega), n1, ne 6 (by omega) (by omega) (by omega) (by omega) (by omega) (by omega)]
    rw [f 3 (by omega) (by omega), n3, f 5 (by omega) (by omega), ne 5 (by omega) (by omega) (by omega) (by omega) (by omega) (by omega)] at o1
    refine ⟨rfl, ?_, rfl, ?_⟩
    · rcases o1 with ⟨a, -⟩ | ⟨a, -⟩
      · exact Or.inr a
      · exact Or.inl a
    · rcases o1 with ⟨-, a⟩ | ⟨-, a⟩
      · exact Or.inl a
      · exact Or.inr a
theorem next_ne {g : Row} {mm : Nat} (hb : BaseW g mm) : nextT g ≠ g 1 := by
  obtain ⟨m2, m4, g0, ⟨t, ht, et⟩, -⟩ := hb
  unfold nextT
  rw [g0, et, i32_succ]
  split
  · rename_i q
    rw [i32_le_of (by omega) (by omega)] at q
    exact fun e => i32_ne (a := 0) (b := t) (by omega) (by omega) (by omega) e
  · exact i32_ne (by omega) (by omega) (by omega)
theorem end_1 {r g : Row} (h0 : r 0 = g 0) (h1 : r 1 = g 1) : rEnd r 1 = nextT g := by
  unfold rEnd
  rw [upd_eq]
  unfold nextT
  rw [h0, h1]
theorem merge_lo {g : Row} {mm x y i : Nat} (hm : mm ≤ 4) (hx : x < 4) (hi : i < 14) (h6 : i ≠ 6) : mergeC g mm x y i = g i := by
  have e : mergeA g mm x y i = g i := by
    unfold mergeA
    exact zseq_ok (N := mm) (P := fun k (r : Row) => r i = g i) (step := mstep x y _) rfl (fun k r hk hr => (mstep_ne (Or.inl hi) h6 (by omega) hx).trans hr) mm (Nat.le_refl mm)
  unfold mergeC
  rw [rPres_ne (by omega), rClose_ne (by omega) (fun p hp => by omega), upd_ne (by omega), e]
theorem nnz {a : Nat} (h : a < 2147483648) : 0 ≤ Int32.ofNat a := by
  rw [show (0 : Int32) = Int32.ofNat 0 from rfl, i32_le_b (by omega) h]
  omega
theorem mon_nn {g : Row} {mm B : Nat} (hM : MonW g mm B) (hB : B ≤ 200000) : (∀ p, p < mm → 0 ≤ g (14 + p)) ∧ ∀ c, c < 4 → 0 ≤ g (36 + 7 * c) := by
  refine ⟨fun p hp => ?_, fun c hc => ?_⟩
  · obtain ⟨x, hx, e⟩ := hM.1 p hp
    rw [e]
    exact nnz (by omega)
  · obtain ⟨y, y1, y2⟩ := hM.2
    have := mon_y hc y2
    rw [y1 c hc]
    exact nnz (by omega)
def Act (B : Nat) (st : Nat → Row) (k : Nat) (g : Row) (kd : Nat) (u : Int32 × zH) : Prop := (u.1 < 0 ∧ u.1 ≠ -7 ∧ ST st k g u.2) ∨ (0 ≤ u.1 ∧ ∃ st' k' g' mm', ST st' k' g' u.2 ∧ Inv (B + 5) mm' g' ∧ SvI (B + 5) k' st' ∧ (2 ≤ kd → kd ≤ 9 → (kd = 6 ↔ g' 1 = g 1)))
section P5
variable {st : Nat → Row} {k n mm B kd : Nat} {g : Row} {H : zH}
theorem a_no1 {o : Option (Int32 × zH)} (hC : ST st k g H) (e : o = some (-5000001, H)) : Gd (Act B st k g kd) o := ⟨_, e, Or.inl ⟨(by decide : (-5000001 : Int32) < 0), (by decide : (-5000001 : Int32) ≠ -7), hC⟩⟩
theorem a_no2 {o : Option (Int32 × zH)} (hC : ST st k g H) (e : o = some (-5000002, H)) : Gd (Act B st k g kd) o := ⟨_, e, Or.inl ⟨(by decide : (-5000002 : Int32) < 0), (by decide : (-5000002 : Int32) ≠ -7), hC⟩⟩
theorem a_yes {o : Option (Int32 × zH)} {v : Int32} {g' : Row} {st' : Nat → Row} {k' mm' : Nat} (h : ∃ H', o = some (v, H') ∧ ST st' k' g' H') (hv : 0 ≤ v) (hI : Inv (B + 5) mm' g') (hS : SvI (B + 5) k' st') (hk : 2 ≤ kd → kd ≤ 9 → (kd = 6 ↔ g' 1 = g 1)) : Gd (Act B st k g kd) o := by
  obtain ⟨H', e, hC'⟩ := h
  exact ⟨_, e, Or.inr ⟨hv, _, _, _, _, hC', hI, hS, hk⟩⟩
theorem a_begin {r : Nat} (hn : 50000 ≤ n) (hI : Inv B mm g) (hB : B ≤ 100000) (hS : SvI B k st) (hC : ST st k g H) (hr : r < 3) (hk : kd < 2) : Gd (Act B st k g kd) (f_L_begins n 0 (2 + Int32.ofNat r) H) := by
  obtain ⟨hw, hM, hX, hP⟩ := hI
  obtain ⟨x, hx, ex⟩ := hP
  rw [show (2 : Int32) = Int32.ofNat 2 from rfl, i32_addn]
  obtain ⟨wa, wb⟩ := reset_wf (g := g) (mm := 2 + r) (by omega) (by omega) hw.2.2.2.2.2.2 B
  refine a_yes (w_begin hn hS.1 hw hC (by omega) (by omega)) (by rw [ex]; exact nnz (by omega)) (inv_mono (B := B) ⟨wa, ⟨wb, zw_reset⟩, x_reset (by omega) (by omega) wa.2.2.1, ?_⟩ (by omega)) (svi_mono (svi_push hS ⟨hw, hM, hX, x, hx, ex⟩) (by omega)) (fun q => by omega)
  exact ⟨0, by omega, by rw [rReset_at.2.1 5 (by omega) (by omega)]; rfl⟩
theorem a_town {t v : Nat} (hn : 50000 ≤ n) (hI : Inv B mm g) (hS : SvI B k st) (hC : ST st k g H) (ht : t < 8) (hv : v < 91) (hk : kd < 2) : Gd (Act B st k g kd) (f_L_setsTown n 0 (Int32.ofNat t) (Int32.ofNat v) H) := by
  have hI0 := hI
  obtain ⟨hw, hM, hX, hP⟩ := hI
  obtain ⟨wa, wb⟩ := town_wf hw hM.1 ht (show v ≤ 90 by omega)
  obtain ⟨e, le⟩ := wo_eq hw.2.2.2 ht
  exact a_yes (w_town hn hS.1 hw hC ht hv) (by rw [e]; exact nnz (by omega)) (inv_mono (B := B) ⟨wa, ⟨wb, zw_town hM.2⟩, x_town hw hX, ph_eq hP (upd_ne (by omega))⟩ (by omega)) (svi_mono (svi_push hS hI0) (by omega)) (fun q => by omega)
theorem a_start {c home r : Nat} (hn : 50000 ≤ n) (hB : B ≤ 100000) (hI : Inv B mm g) (hS : SvI B k st) (hC : ST st k g H) (hc : c < 4) (hh : home < 8) (hr : r < 7) (hk : kd ≠ 6) : Gd (Act B st k g kd) (f_L_starts n 0 (Int32.ofNat c) (Int32.ofNat home) (2 + Int32.ofNat r) H) := by
  have hI0 := hI
  obtain ⟨hw, hM, hX, hP⟩ := hI
  obtain ⟨t, htm, ht, et⟩ := t_lt hw
  rw [show (2 : Int32) = Int32.ofNat 2 from rfl, i32_addn]
  by_cases hcb : cStart g t c (Int32.ofNat (2 + r))
  · obtain ⟨wa, wb⟩ := start_wf hw hM.1 hB hcb.1 et htm hc hcb.2.1 hh (show 2 + r ≤ 8 by omega) hcb.2.2
    have hne : ∀ i, i < 6 → startD g t c (Int32.ofNat home) (Int32.ofNat (2 + r)) i = g i := fun i hi => startD_ne (by omega) (by omega) (by omega) (by omega)
    have h1 : rStart g c (Int32.ofNat home) (Int32.ofNat (2 + r)) 1 = nextT g := by rw [rStart_eq et ht]; exact end_1 (hne 0 (by omega)) (hne 1 (by omega))
    have h5 : rStart g c (Int32.ofNat home) (Int32.ofNat (2 + r)) 5 = g 5 := by rw [rStart_eq et ht, rEnd_ne (by omega) (by omega)]; exact hne 5 (by omega)
    refine a_yes (w_start hn hS.1 hw hC hc hh (by omega) (by omega) et ht hcb) ((mon_nn wb (by omega)).2 c hc) (inv_mono (B := B + 1) ⟨wa, ⟨wb, zw_start et ht hc hM.2⟩, x_start hw hX hM.2 et htm hc hcb.2.1 wa.2.2.1, ph_step hP (Or.inl h5)⟩ (by omega)) (svi_mono (svi_push hS hI0) (by omega)) (fun _ _ => ⟨fun q => absurd q hk, fun q => absurd (h1.symm.trans q) (next_ne hw.1)⟩)
  · exact a_no2 hC (w_start_st hC hc hh (by omega) (by omega) et ht hcb)
theorem a_open {c : Nat} (hw : CoW g mm) (hc : c < 4) (h : ¬ g (34 + 7 * c) = 0) : g (34 + 7 * c) = 1 := (open_or hw hc).resolve_right h
theorem a_buy {c : Nat} (hn : 50000 ≤ n) (hB : B ≤ 100000) (hI : Inv B mm g) (hS : SvI B k st) (hC : ST st k g H) (hc : c < 4) (hk : kd ≠ 6) : Gd (Act B st k g kd) (f_L_buys n 0 (Int32.ofNat c) H) := by
  have hI0 := hI
  obtain ⟨hw, hM, hX, hP⟩ := hI
  obtain ⟨t, htm, ht, et⟩ := t_lt hw
  by_cases hcb : cBuy g t c
  · have oc := a_open hw.2.2.1 hc hcb.2.1
    obtain ⟨s, s1, s2, s3⟩ := (hw.2.2.1 c hc).1
    have hbk : s 0 + s 1 + s 2 + s 3 + 1 ≤ 10 := by
      have q := hcb.2.2.1
      rw [bank_eq (f := fun p => g (18 + 4 * p + c)) (s := s) s1 s2, show (0 : Int32) = Int32.ofNat 0 from rfl, i32_le_of (by omega) (by omega)] at q
      omega
    obtain ⟨wa, wb⟩ := buy_wf hw hM.1 hB et htm hc oc s1 hbk s3 hcb.2.2.2.2
    have hst := sh_lt s2 t ht
    have h1 : rBuy g c 1 = nextT g := by rw [rBuy_eq et ht]; exact end_1 (buyC_ne (by omega) (by omega) (by omega) (by omega)) (buyC_ne (by omega) (by omega) (by omega) (by omega))
    have h5 : rBuy g c 5 = g 5 := by rw [rBuy_eq et ht, rEnd_ne (by omega) (by omega)]; exact buyC_ne (by omega) (by omega) (by omega) (by omega)
    exact a_yes (w_buy hn hS.1 hw hC hc et ht hcb) (by rw [s1 t ht, i32_succ]; exact nnz (by omega)) (inv_mono (B := B) ⟨wa, ⟨wb, zw_buy et ht hc hM.2⟩, x_buy hw hX et htm hc wa.2.2.1, ph_eq hP h5⟩ (by omega)) (svi_mono (svi_push hS hI0) (by omega)) (fun _ _ => ⟨fun q => absurd q hk, fun q => absurd (h1.symm.trans q) (next_ne hw.1)⟩)
  · exact a_no2 hC (w_buy_st hn hC hc et ht hcb)
theorem a_sell {c r : Nat} (hn : 50000 ≤ n) (hB : B ≤ 100000) (hI : Inv B mm g) (hS : SvI B k st) (hC : ST st k g H) (hc : c < 4) (hr : r < 3) (hk : kd = 6) : Gd (Act B st k g kd) (f_L_sells n 0 (Int32.ofNat c) (1 + Int32.ofNat r) H) := by
  have hI0 := hI
  obtain ⟨hw, hM, hX, hP⟩ := hI
  obtain ⟨t, htm, ht, et⟩ := t_lt hw
  rw [show (1 : Int32) = Int32.ofNat 1 from rfl, i32_addn]
  by_cases hcb : cSell g t c (Int32.ofNat (1 + r))
  · have oc := a_open hw.2.2.1 hc hcb.2.1
    obtain ⟨s, s1, s2, s3⟩ := (hw.2.2.1 c hc).1
    have hst := sh_lt s2 t ht
    have hle : 1 + r ≤ s t := by
      have q := hcb.2.2
      rw [s1 t ht, i32_lt_of (by omega) (by omega)] at q
      omega
    obtain ⟨wa, wb⟩ := sell_wf hw hM.1 hB htm hc oc (s1 t ht) (by omega) hle (by omega)
    have hne : ∀ i, i < 6 → rSell g t c (Int32.ofNat (1 + r)) i = g i := fun i hi => rSell_ne (by omega) (by omega) (by omega) (by omega) (by omega)
    exact a_yes (w_sell hn hS.1 hw hC hc (by omega) (by omega) et ht hcb) ((mon_nn wb (by omega)).1 t htm) (inv_mono (B := B + 1) ⟨wa, ⟨wb, zw_sell ht hc hM.2⟩, x_sell hw hX htm hc wa.2.2.1, ph_step hP (Or.inl (hne 5 (by omega)))⟩ (by omega)) (svi_mono (svi_push hS hI0) (by omega)) (fun _ _ => ⟨fun _ => hne 1 (by omega), fun _ => hk⟩)
  · exact a_no2 hC (w_sell_st hC hc (by omega) (by omega) et ht hcb)
theorem a_merge {i j : Nat} (hn : 50000 ≤ n) (hB : B ≤ 100000) (hI : Inv B mm g) (hS : SvI B k st) (hC : ST st k g H) (hi : i < 4) (hj : j < 4) (hij : i ≠ j) (hk : kd ≠ 6) : Gd (Act B st k g kd) (f_L_merges n 0 (Int32.ofNat i) (Int32.ofNat j) H) := by
  have hI0 := hI
  obtain ⟨hw, hM, hX, hP⟩ := hI
  have hm := hw.1.2.1
  by_cases hcb : cMerge g i j
  · have oi := a_open hw.2.2.1 hi hcb.2.1
    obtain ⟨wa, wb⟩ := merge_wf hw hM.1 hB hcb.1 hi hj hij oi hcb.2.2.2.2.2
    have h1 : rMerge g mm i j 1 = nextT g := by rw [rMerge_eq]; exact end_1 (merge_lo hm hi (by omega) (by omega)) (merge_lo hm hi (by omega) (by omega))
    have h5 : rMerge g mm i j 5 = g 5 := by rw [rMerge_eq, rEnd_ne (by omega) (by omega)]; exact merge_lo hm hi (by omega) (by omega)
    exact a_yes (w_merge hn hS.1 hw hC hi hj hij hcb) ((mon_nn wb (by omega)).2 i hi) (inv_mono (B := B + 1) ⟨wa, ⟨wb, zw_merge hm hi hj hij oi hM.2⟩, x_merge hw hX hi hj hij hcb.2.2.2.2.2 wa.2.2.1, ph_step hP (Or.inl h5)⟩ (by omega)) (svi_mono (svi_push hS hI0) (by omega)) (fun _ _ => ⟨fun q => absurd q hk, fun q => absurd (h1.symm.trans q) (next_ne hw.1)⟩)
  · exact a_no2 hC (w_merge_st hn hC hi hj hij hcb)
theorem pass_inv (hI : Inv B mm g) (h3 : g 3 = 0) : Inv (B + 1) mm (rPass g) := by
  obtain ⟨hw, hM, hX, hP⟩ := hI
  obtain ⟨p1, p3, p6, p5⟩ := pass_at hw.2.2.1 h3
  obtain ⟨op, s, hop, hst⟩ := row_ops hw.2.2.1
  obtain ⟨len, pl, o, hlen, -, e9, -⟩ := hw.2.1
  obtain ⟨wa, -, wc⟩ := pass_all (m := g) hw h3 (AgW_of hlen e9 fun _ _ _ => rfl) hop hst
  exact ⟨wa, ⟨mon_mono (mon_14 hM.1 wc) (by omega), zw_14 hM.2 wc⟩, x_pass hw h3 hX wc p6, ph_step hP p5⟩
theorem a_pass (hn : 50000 ≤ n) (hI : Inv B mm g) (hS : SvI B k st) (hC : ST st k g H) (hk : kd ≠ 6) : Gd (Act B st k g kd) (f_L_passes n 0 H) := by
  have hw := hI.1
  by_cases h3 : g 3 = 0
  · obtain ⟨p1, p3, p6, p5⟩ := pass_at hw.2.2.1 h3
    refine a_yes (w_pass hn hS.1 hw hC h3 p3) ?_ (inv_mono (pass_inv hI h3) (by omega)) (svi_mono (svi_push hS hI) (by omega)) (fun _ _ => ⟨fun q => absurd q hk, fun q => absurd (p1.symm.trans q) (next_ne hw.1)⟩)
    rcases p3 with e | e
    · rw [e]; decide
    · rw [e]; decide
  · exact a_no2 hC (w_pass_st hC h3)
theorem a_undo (hn : 50000 ≤ n) (hS : SvI B k st) (hC : ST st k g H) (hk : 9 < kd) : Gd (Act B st k g kd) (f_L_undoes n 0 H) := by
  obtain ⟨k4, hs⟩ := hS
  cases k with
  | zero => exact a_no2 hC (w_undo_st hC)
  | succ j =>
    obtain ⟨m, hm⟩ := hs j (by omega)
    exact a_yes (w_undo hn (by omega) hm.1 hC) (nnz (by omega)) (inv_mono hm (by omega)) ⟨by omega, fun i hi => by
      obtain ⟨m, hm⟩ := hs i (by omega)
      exact ⟨m, inv_mono hm (by omega)⟩⟩ (fun _ q => by omega)
end P5
