theorem Lw_route {n : Nat} {x y : Int32} {H : zH} : f_L_route n 0 x y 131 H = Lw H (f_X5_route n 0 x y H) (fun e h1 => if e = 1 then some (1, h1) else none) := rfl
theorem u_isOpen' {n : Nat} {h : zH} {m pp tx w : Row} {hs : Int64} {mm c : Nat} (hw : CoW m mm) (hc : c < 4) : f_X6_isOpen n 123 (Int32.ofNat c) (mput h m pp tx w hs) = some (if m (34 + 7 * c) = 0 then 0 else 1) := by
  rw [u_isOpen hc, op_one hw hc]
theorem cell_co {H h' : zH} {g : Row} {c : Nat} (hput : H = put h' 5 g) (hc : c < 4) : zgR H 5 1 2 = some (5 + 12) ∧ zar H (5 + 12) 3 (Int32.ofNat c) = some (5 + 15 + 2 * c) ∧ zgI H (5 + 15 + 2 * c) 0 1 = some (g (34 + 7 * c)) ∧ ∀ {β : Type} (o : Option β), zrc H 5 1 o = o := by
  refine ⟨by rw [hput, gR_2], by rw [hput, gA_c (in_of hc (by omega)), nn_of (by omega)], by rw [hput, gC_1 hc], fun o => by rw [hput]; exact gK_0⟩
theorem call_route {n B : Nat} {x y : Int32} {H : zH} (hn : 50000 ≤ n) (hR : REL B H) : CallOk n (f_L_route n 0 x y 131 H) (f_X6_route n 123 x y) B := by
  obtain ⟨mm, k, L, g, m, pp, tx, w, st, hs, b, f, hb, hC, hR⟩ := hR
  obtain ⟨h', hH, h05⟩ := CS_H hC
  obtain ⟨h0, hcur, hcc⟩ := CS_cur hC
  have hWF := hR.1
  have hA := hR.2.2.1
  have hWm := WF_ag hA hWF
  have z1 : ¬ (1 : Int32) = 0 := by decide
  rw [Lw_route]
  by_cases hq : vp_in x 4 ∧ ¬ y < 0
  · obtain ⟨hx, hy⟩ := hq
    obtain ⟨c, hc, rfl⟩ := vp_ex hx
    obtain ⟨r1, r2, r3, r4⟩ := cell_co hH hc
    have cls : f_X5_route n 0 (Int32.ofNat c) y H = zb2 (f_X1_routeTown n 5 (5 + 15 + 2 * c) y H) (fun r33 h33 => some (.inr r33, h33)) := by
      unfold f_X5_route
      rw [company_y hx, Option.bind_some]
      simp only [zlet]
      rw [if_neg z1, if_pos (Int32.not_lt.mp hy), h05, Option.bind_some, Option.bind_some, r1, Option.bind_some, r2, Option.bind_some, r4]
    rcases (hWF.2.2.1 c hc).2.2.2 with ⟨ho, home, S, hco, _⟩ | ⟨ho, _⟩
    · have on : g (34 + 7 * c) ≠ 0 := by rw [ho]; decide
      obtain ⟨H', e1, hC1⟩ := p_routeTown (n := n) (i := y) (by omega) (by omega) hc hWF.2.2.2.1 hco on hcur
      refine call_okE (mm' := mm) (v := routeS g home S y) hb hC (hcc g H' hC1) (by rw [cls, e1]; rfl) (fun Hb => ?_)
      obtain ⟨len, hl, h9, hA'⟩ := hA
      have mo : m (34 + 7 * c) = 1 := by rw [← ag0 dead_ok hA' (by omega) (by omega), ho]
      have mco : CoOk m c home S := CoOk_congr (ag0 dead_ok hA' (by omega) (by omega)).symm (ag0 dead_ok hA' (by omega) (by omega)).symm hco
      obtain ⟨w', e, hm, hs'⟩ := u_findsRoute (h := Hb) (pp := pp) (tx := tx) (w := upd w 22 0) (hs := hs) hn hc mco hWm.2.2.2.2.2.2
      refine ⟨m, pp, w', hs, ?_, by rw [hs' 22 (by omega) (by omega) (by omega), upd_eq], Rel_sw (Rel_22 hR) hs'⟩
      unfold f_X6_route
      rw [u_company_y hx, Option.bind_some]
      simp only [zlet, if_neg z1, if_neg hy, mgK, u_ref0, zb2, Option.bind_some, if_true, u_isOpen hc, if_pos mo, e, mgI_10, hm.1]
      rw [route_congr (ag_land dead_ok hA')]
      unfold routeS
      rw [if_neg hy]
      by_cases c1 : Int32.ofNat (bestOf m home (S - 1)).1.length ≤ y
      · rw [if_pos c1, if_pos c1]
      · rw [if_neg c1, if_neg c1]
        have hl5 := hm.2.1
        have hvp : vp_in y (bestOf m home (S - 1)).1.length := Classical.byContradiction fun d => by
          rcases vp_no (by omega) d with d | d
          · exact hy d
          · exact c1 d
        obtain ⟨i, hi, rfl⟩ := vp_ex hvp
        rw [mgR_9, Option.bind_some, mW_130 (show i < 5 by omega), Option.bind_some, hm.2.2.1 i hi, nn_of (by omega)]
    · have on : g (34 + 7 * c) = 0 := ho
      refine call_ok (v := -1) (w' := upd w 22 0) (hs' := hs) hb hC hC (by rw [cls, p_routeTown0 hc on hcur]; rfl) (fun Hb => ?_) upd_eq (Rel_22 hR)
      obtain ⟨len, hl, h9, hA'⟩ := hA
      have mo : m (34 + 7 * c) = 0 := by rw [← ag0 dead_ok hA' (by omega) (by omega), ho]
      unfold f_X6_route
      rw [u_company_y hx, Option.bind_some]
      simp only [zlet, if_neg z1, if_neg hy, mgK, u_ref0, zb2, Option.bind_some, if_true, u_isOpen' hWm.2.2.1 hc, if_pos mo]
  · refine call_throw (e := 1) (code := 1) hb hC hR ?_ rfl (by decide) (fun Hb => ?_)
    · unfold f_X5_route
      by_cases hx : vp_in x 4
      · rw [company_y hx, Option.bind_some]
        simp only [zlet]
        rw [if_neg z1, if_neg (fun q => hq ⟨hx, Int32.not_lt.mpr q⟩)]
      · rw [company_n hx, Option.bind_some]
        simp only [zlet, if_true]
    · unfold f_X6_route
      by_cases hx : vp_in x 4
      · rw [u_company_y hx, Option.bind_some]
        have hy : y < 0 := Classical.byContradiction fun q => hq ⟨hx, q⟩
        simp only [zlet, if_neg z1, if_pos hy, mgK, u_refk (show ¬ (1 : Int32) ≤ 0 by decide), zb2, Option.bind_some]
      · rw [u_company_n hx, Option.bind_some]
        simp only [zlet, if_true, mgK, u_refk (show ¬ (1 : Int32) ≤ 0 by decide), zb2, Option.bind_some, if_neg z1]
theorem Lw_dividend {n : Nat} {x : Int32} {H : zH} : f_L_dividend n 0 x 131 H = Lw H (f_X5_dividend n 0 x H) (fun e h1 => if e = 1 then some (1, h1) else none) := rfl
theorem call_dividend {n B : Nat} {x : Int32} {H : zH} (hn : 50000 ≤ n) (hR : REL B H) : CallOk n (f_L_dividend n 0 x 131 H) (f_X6_dividend n 123 x) B := by
  obtain ⟨mm, k, L, g, m, pp, tx, w, st, hs, b, f, hb, hC, hR⟩ := hR
  obtain ⟨h', hH, h05⟩ := CS_H hC
  obtain ⟨h0, hcur, hcc⟩ := CS_cur hC
  have hWF := hR.1
  have hA := hR.2.2.1
  have hWm := WF_ag hA hWF
  have z1 : ¬ (1 : Int32) = 0 := by decide
  rw [Lw_dividend]
  by_cases hx : vp_in x 4
  · obtain ⟨c, hc, rfl⟩ := vp_ex hx
    obtain ⟨r1, r2, r3, r4⟩ := cell_co hH hc
    have cls : f_X5_dividend n 0 (Int32.ofNat c) H = if g (34 + 7 * c) = 0 then some (.inr 0, H) else zb2 (f_X1_incomeOf n 5 (5 + 15 + 2 * c) H) (fun r37 h37 => some (.inr (r37 / 10), h37)) := by
      unfold f_X5_dividend
      rw [company_y hx, Option.bind_some, if_neg z1, h05, Option.bind_some, r1, Option.bind_some, r2, Option.bind_some, r3, Option.bind_some, Option.bind_some, r4]
    rcases (hWF.2.2.1 c hc).2.2.2 with ⟨ho, home, S, hco, _⟩ | ⟨ho, _⟩
    · have on : ¬ g (34 + 7 * c) = 0 := by rw [ho]; decide
      obtain ⟨H', e1, hC1⟩ := p_incomeOf (n := n) (by omega) (by omega) hc hWF.2.2.2.1 hco hcur
      refine call_okE (mm' := mm) (v := incS g home S / 10) hb hC (hcc g H' hC1) (by rw [cls, if_neg on, e1]; rfl) (fun Hb => ?_)
      obtain ⟨len, hl, h9, hA'⟩ := hA
      have mo : m (34 + 7 * c) = 1 := by rw [← ag0 dead_ok hA' (by omega) (by omega), ho]
      have mco : CoOk m c home S := CoOk_congr (ag0 dead_ok hA' (by omega) (by omega)).symm (ag0 dead_ok hA' (by omega) (by omega)).symm hco
      obtain ⟨w', e, hs'⟩ := u_income (h := Hb) (pp := pp) (tx := tx) (w := upd w 22 0) (hs := hs) hn hc mco hWm.2.2.2.2.2.2
      refine ⟨m, pp, w', hs, ?_, by rw [hs' 22 (by omega) (by omega) (by omega), upd_eq], Rel_sw (Rel_22 hR) hs'⟩
      unfold f_X6_dividend
      rw [u_company_y hx, Option.bind_some]
      simp only [zlet, if_neg z1, mgK, u_ref0, zb2, Option.bind_some, if_true, u_isOpen hc, if_pos mo, e]
      rw [inc_congr (ag_land dead_ok hA')]
    · refine call_ok (v := 0) (w' := upd w 22 0) (hs' := hs) hb hC hC (by rw [cls, if_pos ho]) (fun Hb => ?_) upd_eq (Rel_22 hR)
      obtain ⟨len, hl, h9, hA'⟩ := hA
      have mo : m (34 + 7 * c) = 0 := by rw [← ag0 dead_ok hA' (by omega) (by omega), ho]
      unfold f_X6_dividend
      rw [u_company_y hx, Option.bind_some]
      simp only [zlet, if_neg z1, mgK, u_ref0, zb2, Option.bind_some, if_true, u_isOpen' hWm.2.2.1 hc, if_pos mo]
  · refine call_throw (e := 1) (code := 1) hb hC hR ?_ rfl (by decide) (fun Hb => ?_)
    · unfold f_X5_dividend
      rw [company_n hx, Option.bind_some, if_pos rfl]
    · unfold f_X6_dividend
      rw [u_company_n hx, Option.bind_some]
      simp only [zlet, if_true, mgK, u_refk (show ¬ (1 : Int32) ≤ 0 by decide), zb2, Option.bind_some, if_neg z1]
theorem Lw_incomeWith {n : Nat} {x y z : Int32} {H : zH} : f_L_incomeWith n 0 x y z 131 H = Lw H (f_X5_incomeWith n 0 x y z H) (fun e h1 => if e = 1 then some (1, h1) else if e = 0 then some (2, h1) else none) := rfl
theorem call_incomeWith {n B : Nat} {x y z : Int32} {H : zH} (hn : 50000 ≤ n) (hR : REL B H) : CallOk n (f_L_incomeWith n 0 x y z 131 H) (f_X6_incomeWith n 123 x y z) B := by
  obtain ⟨mm, k, L, g, m, pp, tx, w, st, hs, b, f, hb, hC, hR⟩ := hR
  obtain ⟨h', hH, h05⟩ := CS_H hC
  obtain ⟨h0, hcur, hcc⟩ := CS_cur hC
  have hWF := hR.1
  have hA := hR.2.2.1
  have hWm := WF_ag hA hWF
  have z1 : ¬ (1 : Int32) = 0 := by decide
  rw [Lw_incomeWith]
  by_cases hq : vp_in x 4 ∧ vp_in y 8 ∧ vp_in z 8
  · obtain ⟨hx, hy, hz⟩ := hq
    by_cases hyz : y = z
    · refine call_throw (e := 0) (code := 2) hb hC hR ?_ rfl (by decide) (fun Hb => ?_)
      · unfold f_X5_incomeWith
        rw [company_y hx, Option.bind_some]
        simp only [zlet]
        rw [if_neg z1, town_y hy, Option.bind_some, if_neg z1, town_y hz, Option.bind_some, if_neg z1, if_pos hyz]
      · unfold f_X6_incomeWith
        rw [u_company_y hx, Option.bind_some]
        simp only [zlet, if_neg z1, u_town_y hy, u_town_y hz, Option.bind_some, if_pos hyz, mgK, u_refk (show ¬ (2 : Int32) ≤ 0 by decide), zb2]
    · obtain ⟨c, hc, rfl⟩ := vp_ex hx
      obtain ⟨i, hi, rfl⟩ := vp_ex hy
      obtain ⟨j, hj, rfl⟩ := vp_ex hz
      obtain ⟨r1, r2, r3, r4⟩ := cell_co hH hc
      have l1 : zgR H 5 1 1 = some (5 + 1) := by rw [hH, gR_1]
      have l2 : zgR H (5 + 1) 2 1 = some (5 + 3) := by rw [hH, gL_1]
      have l3 : zar H (5 + 3) 2 (Int32.ofNat i) = some (5 + 4 + i) := by rw [hH, gA_r hy, nn_of (by omega)]
      have l4 : zai H (5 + 4 + i) (Int32.ofNat j) = some (g (62 + 8 * i + j)) := by rw [hH, gA_l hi hz, nn_of (by omega)]
      have cls : f_X5_incomeWith n 0 (Int32.ofNat c) (Int32.ofNat i) (Int32.ofNat j) H = if g (34 + 7 * c) = 0 then some (.inr (-1), H) else if g (62 + 8 * i + j) < 2 then zb2 (f_X1_incomeIfRaised n 5 (5 + 15 + 2 * c) (Int32.ofNat i) (Int32.ofNat j) H) (fun r89 h89 => some (.inr r89, h89)) else some (.inr (-1), H) := by
        unfold f_X5_incomeWith
        rw [company_y hx, Option.bind_some]
        simp only [zlet]
        rw [if_neg z1, town_y hy, Option.bind_some, if_neg z1, town_y hz, Option.bind_some, if_neg z1, if_neg hyz, h05, Option.bind_some, r1, Option.bind_some, r2, Option.bind_some, r3, Option.bind_some, Option.bind_some, l1, Option.bind_some, l2, Option.bind_some, l3, Option.bind_some, l4, Option.bind_some, Option.bind_some, r4]
      have mod : ∀ Hb, f_X6_incomeWith n 123 (Int32.ofNat c) (Int32.ofNat i) (Int32.ofNat j) (mput Hb m pp tx w hs) = if m (34 + 7 * c) = 0 then some (-1, mput Hb m pp tx (upd w 22 0) hs) else if 2 ≤ m (62 + 8 * i + j) then some (-1, mput Hb m pp tx (upd w 22 0) hs) else f_X6_incomeBy n 123 (Int32.ofNat c) (Int32.ofNat i) (Int32.ofNat j) (mput Hb m pp tx (upd w 22 0) hs) := by
        intro Hb
        unfold f_X6_incomeWith
        rw [u_company_y hx, Option.bind_some]
        simp only [zlet, if_neg z1, u_town_y hy, u_town_y hz, Option.bind_some, if_neg hyz, mgK, u_ref0, zb2, if_true, u_isOpen' hWm.2.2.1 hc, u_level hi hj]
        by_cases c1 : m (34 + 7 * c) = 0
        · simp only [if_pos c1, if_true]
        · rw [if_neg c1, if_neg c1, if_neg z1]
          by_cases c2 : 2 ≤ m (62 + 8 * i + j)
          · rw [if_pos c2, if_pos c2]
          · rw [if_neg c2, if_neg c2]
            cases f_X6_incomeBy n 123 (Int32.ofNat c) (Int32.ofNat i) (Int32.ofNat j) (mput Hb m pp tx (upd w 22 0) hs) with
            | none => rfl
            | some u => rfl
      obtain ⟨len, hl, h9, hA'⟩ := hA
      have mo : m (34 + 7 * c) = g (34 + 7 * c) := (ag0 dead_ok hA' (by omega) (by omega)).symm
      have ml : m (62 + 8 * i + j) = g (62 + 8 * i + j) := (ag0 dead_ok hA' (by omega) (by omega)).symm
      by_cases c1 : g (34 + 7 * c) = 0
      · exact call_ok (v := -1) (w' := upd w 22 0) (hs' := hs) hb hC hC (by rw [cls, if_pos c1]) (fun Hb => by rw [mod, mo, if_pos c1]) upd_eq (Rel_22 hR)
      · by_cases c2 : 2 ≤ g (62 + 8 * i + j)
        · exact call_ok (v := -1) (w' := upd w 22 0) (hs' := hs) hb hC hC (by rw [cls, if_neg c1, if_neg (Int32.not_lt.mpr c2)]) (fun Hb => by rw [mod, mo, if_neg c1, ml, if_pos c2]) upd_eq (Rel_22 hR)
        · rcases (hWF.2.2.1 c hc).2.2.2 with ⟨ho, home, S, hco, _⟩ | ⟨ho, _⟩
          · obtain ⟨H', e1, hC1⟩ := p_incomeIfRaised (n := n) (by omega) (by omega) hc hWF.2.2.2.1 hco hy hz hcur
            rw [nn_of (by omega), nn_of (by omega)] at e1
            refine call_okE (mm' := mm) (v := incUp g home S i j) hb hC (hcc g H' hC1) (by rw [cls, if_neg c1, if_pos (Int32.not_le.mp c2), e1]; rfl) (fun Hb => ?_)
            have mco : CoOk m c home S := CoOk_congr (ag0 dead_ok hA' (by omega) (by omega)).symm (ag0 dead_ok hA' (by omega) (by omega)).symm hco
            obtain ⟨w', e, hs'⟩ := u_incomeBy (h := Hb) (pp := pp) (tx := tx) (w := upd w 22 0) (hs := hs) hn hc mco hWm.2.2.2.1 hWm.2.2.2.2.2.2 hi hj
            exact ⟨m, pp, w', hs, by rw [mod, mo, if_neg c1, ml, if_neg c2, e, up_congr hi hj (ag_land dead_ok hA')], by rw [hs' 22 (by omega) (by omega) (by omega), upd_eq], Rel_sw (Rel_22 hR) hs'⟩
          · exact absurd ho c1
  · refine call_throw (e := 1) (code := 1) hb hC hR ?_ rfl (by decide) (fun Hb => ?_)
    · unfold f_X5_incomeWith
      by_cases hx : vp_in x 4
      · rw [company_y hx, Option.bind_some]
        simp only [zlet, if_neg z1]
        by_cases hy : vp_in y 8
        · rw [town_y hy, Option.bind_some, if_neg z1, town_n (fun hz => hq ⟨hx, hy, hz⟩), Option.bind_some, if_pos rfl]
        · rw [town_n hy, Option.bind_some, if_pos rfl]
      · rw [company_n hx, Option.bind_some]
        simp only [zlet, if_true]
    · unfold f_X6_incomeWith
      by_cases hx : vp_in x 4
      · rw [u_company_y hx, Option.bind_some]
        by_cases hy : vp_in y 8
        · simp only [zlet, if_neg z1, u_town_y hy, u_town_n (fun hz => hq ⟨hx, hy, hz⟩), Option.bind_some, if_true, mgK, u_refk (show ¬ (1 : Int32) ≤ 0 by decide), zb2]
        · simp only [zlet, if_neg z1, u_town_n hy, Option.bind_some, if_true, mgK, u_refk (show ¬ (1 : Int32) ≤ 0 by decide), zb2]
      · rw [u_company_n hx, Option.bind_some]
        simp only [zlet, if_true, mgK, u_refk (show ¬ (1 : Int32) ≤ 0 by decide), zb2, Option.bind_some, if_neg z1]
theorem u_btLoop {n : Nat} {h : zH} {m pp tx w : Row} {hs : Int64} {mm c home S : Nat} (hn : 50000 ≤ n) (hWF : WF m mm) (hc : c < 4) (ho : m (34 + 7 * c) = 1) (hco : CoOk m c home S) : ∃ w', L_X6_bestTrack_28 n 123 (Int32.ofNat c) (-1) 0 0 (mput h m pp tx w hs) = some (btS m c home S, mput h m pp tx w' hs) ∧ sameW w w' := by
  have z1 : ¬ (1 : Int32) = 0 := by decide
  have dv : ∀ k, k < 64 → Int32.ofNat k / 8 = Int32.ofNat (k / 8) ∧ zrem (Int32.ofNat k) 8 = Int32.ofNat (k % 8) := by decide
  have hv := hWF.2.2.2.2.2.2
  have neg : ∀ x : Nat, x ≤ 475 → ¬ Int32.ofNat x ≤ -1 := fun x hx => by
    rw [Int32.le_iff_toInt_le, Int32.toInt_ofNat_of_lt (by omega)]
    have : (-1 : Int32).toInt = -1 := rfl
    omega
  unfold L_X6_bestTrack_28
  refine zwh4 (Q := fun r => ∃ w', r = some (btS m c home S, mput h m pp tx w' hs) ∧ sameW w w') (fun j a2 a3 a4 h28 => ∃ k w'', k + j = 64 ∧ a4 = Int32.ofNat k ∧ h28 = mput h m pp tx w'' hs ∧ sameW w w'' ∧ a2 = (zseq (btStep m c home S) (-1, -1) k).1 ∧ (((zseq (btStep m c home S) (-1, -1) k).1 = -1 ∧ (zseq (btStep m c home S) (-1, -1) k).2 = -1 ∧ a3 = 0) ∨ ((zseq (btStep m c home S) (-1, -1) k).1 ≠ -1 ∧ ∃ x, x ≤ 475 ∧ (zseq (btStep m c home S) (-1, -1) k).2 = Int32.ofNat x ∧ a3 = Int32.ofNat x))) ?_ n 64 _ _ _ _ ⟨0, w, rfl, rfl, rfl, fun _ _ _ _ => rfl, rfl, Or.inl ⟨rfl, rfl, rfl⟩⟩ (by omega)
  intro j a2 a3 a4 h28 hP
  obtain ⟨k, w1, hk, rfl, rfl, hs1, rfl, hst⟩ := hP
  cases j with
  | zero =>
    refine Or.inl fun rec => ⟨w1, ?_, hs1⟩
    rw [show k = 64 by omega, if_pos (show (64 : Int32) ≤ Int32.ofNat 64 by decide)]
    rfl
  | succ j =>
    have hk64 : k < 64 := by omega
    have c64 : ¬ (64 : Int32) ≤ Int32.ofNat k := i32_ge (N := 64) hk64 (by omega)
    have step : zseq (btStep m c home S) (-1, -1) (k + 1) = btStep m c home S k (zseq (btStep m c home S) (-1, -1) k) := rfl
    refine Or.inr ?_
    generalize zseq (btStep m c home S) (-1, -1) k = s at hst step
    have hd8 : k / 8 < 8 := by omega
    have hm8 : k % 8 < 8 := by omega
    have lt : (Int32.ofNat (k % 8) ≤ Int32.ofNat (k / 8)) = (k % 8 ≤ k / 8) := i32_le_of (by omega) (by omega)
    by_cases c1 : k / 8 < k % 8
    · cases hlay : layB m c home (k / 8) (k % 8) with
      | true =>
        obtain ⟨w', e, hs'⟩ := u_incomeBy (h := h) (pp := pp) (tx := tx) (w := w1) (hs := hs) hn hc hco hWF.2.2.2.1 hv hd8 hm8
        obtain ⟨x, hx, ex⟩ := up_num (i := k / 8) (j := k % 8) hc hco hv hd8 hm8
        have hsw : sameW w w' := fun i a b d => by rw [hs' i a b d, hs1 i a b d]
        have st2 : btStep m c home S k s = if Int32.ofNat x ≤ s.2 then s else (10 * Int32.ofNat (k / 8) + Int32.ofNat (k % 8), Int32.ofNat x) := by
          unfold btStep
          rw [if_pos c1, hlay, if_pos rfl, ex]
        have t10 : (10 : Int32) * Int32.ofNat (k / 8) + Int32.ofNat (k % 8) = Int32.ofNat (10 * (k / 8) + k % 8) := by rw [show (10 : Int32) = Int32.ofNat 10 from rfl, i32_mulm, i32_addn]
        have nx : ¬ Int32.ofNat x = -1 := ofNat_ne_neg (by omega)
        rcases hst with ⟨s1, s2, rfl⟩ | ⟨s1, y, hy, s2, rfl⟩
        · have hst2 : btStep m c home S k s = (10 * Int32.ofNat (k / 8) + Int32.ofNat (k % 8), Int32.ofNat x) := by rw [st2, s2, if_neg (neg x hx)]
          refine ⟨j, 10 * Int32.ofNat (k / 8) + Int32.ofNat (k % 8), Int32.ofNat x, Int32.ofNat (k + 1), mput h m pp tx w' hs, by omega, ⟨k + 1, w', by omega, rfl, rfl, hsw, by rw [step, hst2], Or.inr ⟨by rw [step, hst2]; show ¬ 10 * Int32.ofNat (k / 8) + Int32.ofNat (k % 8) = -1; rw [t10]; exact ofNat_ne_neg (by omega), x, hx, by rw [step, hst2], rfl⟩⟩, fun rec => ?_⟩
          simp only [zlet, if_neg c64, mgK, u_isOpen hc, if_pos ho, if_neg z1, (dv k hk64).1, (dv k hk64).2, lt, if_neg (show ¬ k % 8 ≤ k / 8 by omega), u_canLay (show 600 ≤ n by omega) hc hco hd8 hm8, hlay, if_true, e, zb2, ex, if_neg nx, s1, Option.bind_some, i32_succ]
        · by_cases c2 : x ≤ y
          · have hle : Int32.ofNat x ≤ Int32.ofNat y := by rw [i32_le_of (by omega) (by omega)]; exact c2
            have hst2 : btStep m c home S k s = s := by rw [st2, s2, if_pos hle]
            refine ⟨j, s.1, Int32.ofNat y, Int32.ofNat (k + 1), mput h m pp tx w' hs, by omega, ⟨k + 1, w', by omega, rfl, rfl, hsw, by rw [step, hst2], Or.inr ⟨by rw [step, hst2]; exact s1, y, hy, by rw [step, hst2, s2], rfl⟩⟩, fun rec => ?_⟩
            simp only [zlet, if_neg c64, mgK, u_isOpen hc, if_pos ho, if_neg z1, (dv k hk64).1, (dv k hk64).2, lt, if_neg (show ¬ k % 8 ≤ k / 8 by omega), u_canLay (show 600 ≤ n by omega) hc hco hd8 hm8, hlay, if_true, e, zb2, ex, if_neg nx, if_neg s1, if_pos hle, Option.bind_some, i32_succ]
          · have hle : ¬ Int32.ofNat x ≤ Int32.ofNat y := by rw [i32_le_of (by omega) (by omega)]; exact c2
            have hst2 : btStep m c home S k s = (10 * Int32.ofNat (k / 8) + Int32.ofNat (k % 8), Int32.ofNat x) := by rw [st2, s2, if_neg hle]
            refine ⟨j, 10 * Int32.ofNat (k / 8) + Int32.ofNat (k % 8), Int32.ofNat x, Int32.ofNat (k + 1), mput h m pp tx w' hs, by omega, ⟨k + 1, w', by omega, rfl, rfl, hsw, by rw [step, hst2], Or.inr ⟨by rw [step, hst2]; show ¬ 10 * Int32.ofNat (k / 8) + Int32.ofNat (k % 8) = -1; rw [t10]; exact ofNat_ne_neg (by omega), x, hx, by rw [step, hst2], rfl⟩⟩, fun rec => ?_⟩
            simp only [zlet, if_neg c64, mgK, u_isOpen hc, if_pos ho, if_neg z1, (dv k hk64).1, (dv k hk64).2, lt, if_neg (show ¬ k % 8 ≤ k / 8 by omega), u_canLay (show 600 ≤ n by omega) hc hco hd8 hm8, hlay, if_true, e, zb2, ex, if_neg nx, if_neg s1, if_neg hle, Option.bind_some, i32_succ]
      | false =>
        have hst2 : btStep m c home S k s = s := by
          unfold btStep
          rw [if_pos c1, hlay]
          simp only [Bool.false_eq_true, if_false]
          have : (-1 : Int32) ≤ s.2 := by
            rcases hst with ⟨_, s2, _⟩ | ⟨_, y, hy, s2, _⟩
            · rw [s2]; exact Int32.le_refl _
            · rw [s2]
              exact Int32.not_lt.mp fun q => neg y hy (Int32.le_of_lt q)
          rw [if_pos this]
        refine ⟨j, s.1, a3, Int32.ofNat (k + 1), mput h m pp tx w1 hs, by omega, ⟨k + 1, w1, by omega, rfl, rfl, hs1, by rw [step, hst2], by rw [step, hst2]; exact hst⟩, fun rec => ?_⟩
        simp only [zlet, if_neg c64, mgK, u_isOpen hc, if_pos ho, if_neg z1, (dv k hk64).1, (dv k hk64).2, lt, if_neg (show ¬ k % 8 ≤ k / 8 by omega), u_canLay (show 600 ≤ n by omega) hc hco hd8 hm8, hlay, if_true, Option.bind_some, i32_succ]
        simp only [Bool.false_eq_true, if_false, if_true]
    · have hst2 : btStep m c home S k s = s := by
        unfold btStep
        rw [if_neg c1]
      refine ⟨j, s.1, a3, Int32.ofNat (k + 1), mput h m pp tx w1 hs, by omega, ⟨k + 1, w1, by omega, rfl, rfl, hs1, by rw [step, hst2], by rw [step, hst2]; exact hst⟩, fun rec => ?_⟩
      simp only [zlet, if_neg c64, mgK, u_isOpen hc, if_pos ho, if_neg z1, (dv k hk64).1, (dv k hk64).2, lt, if_pos (show k % 8 ≤ k / 8 by omega), if_true, Option.bind_some, i32_succ]
theorem bt_shut7 {n c : Nat} {H : zH} {y : Int32} (hn : 600 ≤ n) (hy : y = -1) (h : zgI H c 0 1 = some 0) : L_X1_bestTrackOf_7 n c 5 y y 0 H = some (y, H) := by
  unfold L_X1_bestTrackOf_7
  refine zfor4 0 (fun _ => y) (fun _ => y) (fun _ => 0) (fun _ => H) (fun k hk rec => absurd hk (by omega)) (fun rec => ?_) (by omega)
  rw [if_neg (show ¬ (8 : Int32) ≤ 0 by decide), h, Option.bind_some, if_pos rfl]
theorem bt_shut28 {n c mm : Nat} {h : zH} {m pp tx w : Row} {hs : Int64} {y : Int32} (hn : 600 ≤ n) (hw : CoW m mm) (hc : c < 4) (ho : m (34 + 7 * c) = 0) : L_X6_bestTrack_28 n 123 (Int32.ofNat c) y 0 0 (mput h m pp tx w hs) = some (y, mput h m pp tx w hs) := by
  unfold L_X6_bestTrack_28
  refine zfor4 0 (fun _ => y) (fun _ => 0) (fun _ => 0) (fun _ => mput h m pp tx w hs) (fun k hk rec => absurd hk (by omega)) (fun rec => ?_) (by omega)
  rw [if_neg (show ¬ (64 : Int32) ≤ 0 by decide), mgK, u_isOpen' hw hc, if_pos ho, Option.bind_some, if_pos rfl]
theorem ag_bt {D : Nat → Prop} {mm c home S : Nat} {g m : Row} (hD : DOk D mm) (hA : AgD D g m) (hc : c < 4) : btS g c home S = btS m c home S := by
  unfold btS
  rw [zseq_congr (f := btStep g c home S) (f' := btStep m c home S) 64 fun k x hk => ?_]
  unfold btStep
  rw [lay_congr (show k / 8 < 8 by omega) (show k % 8 < 8 by omega) (ag_land hD hA) (ag0 hD hA (by omega) (by omega)), up_congr (show k / 8 < 8 by omega) (show k % 8 < 8 by omega) (ag_land hD hA)]
theorem Lw_bestTrack {n : Nat} {x : Int32} {H : zH} : f_L_bestTrack n 0 x 131 H = Lw H (f_X5_bestTrack n 0 x H) (fun e h1 => if e = 1 then some (1, h1) else none) := rfl
theorem call_bestTrack {n B : Nat} {x : Int32} {H : zH} (hn : 50000 ≤ n) (hR : REL B H) : CallOk n (f_L_bestTrack n 0 x 131 H) (f_X6_bestTrack n 123 x) B := by
  obtain ⟨mm, k, L, g, m, pp, tx, w, st, hs, b, f, hb, hC, hR⟩ := hR
  obtain ⟨h', hH, h05⟩ := CS_H hC
  obtain ⟨h0, hcur, hcc⟩ := CS_cur hC
  have hWF := hR.1
  have hA := hR.2.2.1
  have hWm := WF_ag hA hWF
  have z1 : ¬ (1 : Int32) = 0 := by decide
  rw [Lw_bestTrack]
  by_cases hx : vp_in x 4
  · obtain ⟨c, hc, rfl⟩ := vp_ex hx
    obtain ⟨r1, r2, r3, r4⟩ := cell_co hH hc
    have cls : f_X5_bestTrack n 0 (Int32.ofNat c) H = zb2 (f_X1_bestTrackOf n 5 (5 + 15 + 2 * c) H) (fun r28 h28 => some (.inr r28, h28)) := by
      unfold f_X5_bestTrack
      rw [company_y hx, Option.bind_some, if_neg z1, h05, Option.bind_some, Option.bind_some, r1, Option.bind_some, r2, Option.bind_some, r4]
    have mod : ∀ Hb, f_X6_bestTrack n 123 (Int32.ofNat c) (mput Hb m pp tx w hs) = L_X6_bestTrack_28 n 123 (Int32.ofNat c) (-1) 0 0 (mput Hb m pp tx (upd w 22 0) hs) := by
      intro Hb
      rw [e_X6_bestTrack, u_company_y hx, Option.bind_some]
      simp only [zlet, if_neg z1, mgK, u_ref0, zb2, Option.bind_some, if_true]
    obtain ⟨len, hl, h9, hA'⟩ := hA
    rcases (hWF.2.2.1 c hc).2.2.2 with ⟨ho, home, S, hco, _⟩ | ⟨ho, _⟩
    · have on : g (34 + 7 * c) ≠ 0 := by rw [ho]; decide
      obtain ⟨H', e1, hC1⟩ := p_bestTrackOf (n := n) (by omega) (by omega) hc hWF.2.2.2.1 hco on hcur
      refine call_okE (mm' := mm) (v := btS g c home S) hb hC (hcc g H' hC1) (by rw [cls, e1]; unfold zb2; rw [Option.bind_some]) (fun Hb => ?_)
      have mo : m (34 + 7 * c) = 1 := by rw [← ag0 dead_ok hA' (by omega) (by omega), ho]
      have mco : CoOk m c home S := CoOk_congr (ag0 dead_ok hA' (by omega) (by omega)).symm (ag0 dead_ok hA' (by omega) (by omega)).symm hco
      obtain ⟨w', e, hs'⟩ := u_btLoop (h := Hb) (pp := pp) (tx := tx) (w := upd w 22 0) (hs := hs) hn hWm hc mo mco
      exact ⟨m, pp, w', hs, by rw [mod, e, ag_bt dead_ok hA' hc], by rw [hs' 22 (by omega) (by omega) (by omega), upd_eq], Rel_sw (Rel_22 hR) hs'⟩
    · have mo : m (34 + 7 * c) = 0 := by rw [← ag0 dead_ok hA' (by omega) (by omega), ho]
      refine call_ok (v := -1) (w' := upd w 22 0) (hs' := hs) hb hC hC ?_ (fun Hb => ?_) upd_eq (Rel_22 hR)
      · rw [cls, e_X1_bestTrackOf, bt_shut7 (by omega) rfl (by rw [r3, ho])]
        rfl
      · rw [mod, bt_shut28 (by omega) hWm.2.2.1 hc mo]
  · refine call_throw (e := 1) (code := 1) hb hC hR ?_ rfl (by decide) (fun Hb => ?_)
    · unfold f_X5_bestTrack
      rw [company_n hx, Option.bind_some, if_pos rfl]
    · rw [e_X6_bestTrack, u_company_n hx, Option.bind_some]
      simp only [zlet, if_true, mgK, u_refk (show ¬ (1 : Int32) ≤ 0 by decide), zb2, Option.bind_some, if_neg z1]
theorem CS_z {h : zH} {st : Nat → Row} {k : Nat} {len : Int32} {tx g : Row} {H : zH} (hC : CS h st k len tx g H) : (∀ {β : Type} (o : Option β), zrc H 0 5 o = o) ∧ (∀ {β : Type} (o : Option β), zrc H 5 1 o = o) ∧ zgR H 0 5 0 = some 5 := by
  obtain ⟨sg, p, _, _, l, q, rfl⟩ := hC
  exact ⟨fun o => ogK_5, fun o => gK_0, ogR_0⟩
theorem saves_ok {n B mm k L : Nat} {g m pp tx w : Row} {st : Nat → Row} {hs : Int64} (hn : 600 ≤ n) (hR : Rel B mm k L g m pp tx w st) (Hb : zH) : ∃ pp' w', f_X6_saves n 123 (mput Hb m pp tx (upd w 22 0) hs) = some (mput Hb m pp' tx w' hs) ∧ w' 22 = 0 ∧ w' 21 = Int32.ofNat L ∧ w' 20 = Int32.ofNat (pushK k) ∧ ∀ i, i < pushK k → SavedOk B (pushSt st k g i) (fun j => pp' (134 * i + j)) := by
  obtain ⟨a1, a2, a3, a4, a5, a6, a7, a8⟩ := hR
  obtain ⟨pp', w', e, e20, ew, hp⟩ := u_saves (h := Hb) (m := m) (pp := pp) (tx := tx) (w := upd w 22 0) (hs := hs) hn a4 (by rw [upd_ne (by omega), a5])
  exact ⟨pp', w', e, by rw [ew 22 (by omega), upd_eq], by rw [ew 21 (by omega), upd_ne (by omega), a7], e20, saved_push a4 a1 a2 a3 a8 hp⟩
theorem mkRel {B B' mm mm' k L : Nat} {g g' m m' pp pp' tx w w' w'' : Row} {st : Nat → Row} (hR : Rel B mm k L g m pp tx w st) (hB : B ≤ B') (h1 : WF g' mm') (h2 : MonZ g' mm' B') (h3 : AgW mm' g' m') (e21 : w' 21 = Int32.ofNat L) (e20 : w' 20 = Int32.ofNat (pushK k)) (hs : ∀ i, i < pushK k → SavedOk B (pushSt st k g i) (fun j => pp' (134 * i + j))) (f20 : w'' 20 = w' 20) (f21 : w'' 21 = w' 21) : Rel B' mm' (pushK k) L g' m' pp' tx w'' (pushSt st k g) := ⟨h1, h2, h3, pushK_le hR.2.2.2.1, by rw [f20, e20], hR.2.2.2.2.2.1, by rw [f21, e21], fun i hi => SavedOk_mono (hs i hi) hB⟩
theorem Lw_setTown {n : Nat} {x y : Int32} {H : zH} : f_L_setTown n 0 x y 131 H = Lw H (f_X5_setTown n 0 x y H) (fun e h1 => if e = 1 then some (1, h1) else if e = 0 then some (2, h1) else none) := rfl
theorem call_setTown {n B : Nat} {x y : Int32} {H : zH} (hn : 50000 ≤ n) (hR : REL B H) : CallOk n (f_L_setTown n 0 x y 131 H) (f_X6_setTown n 123 x y) B := by
  obtain ⟨mm, k, L, g, m, pp, tx, w, st, hs, b, f, hb, hC, hR⟩ := hR
  have hWF := hR.1
  have hA := hR.2.2.1
  have z1 : ¬ (1 : Int32) = 0 := by decide
  rw [Lw_setTown]
  by_cases hx : vp_in x 8
  · obtain ⟨t, ht, rfl⟩ := vp_ex hx
    by_cases hy : vp_in y 91
    · obtain ⟨v, hv, rfl⟩ := vp_ex hy
      obtain ⟨q1, q2⟩ := vp_lt_iff (by omega) hy
      obtain ⟨H1, e1, hC1⟩ := p_saveState (n := n) (by omega) hR.2.2.2.1 (WF_bools hWF) hC
      obtain ⟨h1', hH1, h105⟩ := CS_H hC1
      obtain ⟨h0, hcur, hcc⟩ := CS_cur hC1
      obtain ⟨h2, hput, hcu⟩ := Cur_mk hcur
      obtain ⟨nw, nm⟩ := town_wf hWF hR.2.1.1 ht (show v ≤ 90 by omega)
      refine call_okE (mm' := mm) (v := g (126 + t)) (H' := put h2 5 (upd g (126 + t) (Int32.ofNat v))) hb hC (hcc _ _ (hcu _)) ?_ (fun Hb => ?_)
      · unfold f_X5_setTown
        rw [town_y hx, Option.bind_some, if_neg z1]
        simp only [zlet]
        rw [if_neg q1, if_pos (show Int32.ofNat v ≤ (90 : Int32) from by rw [show (90 : Int32) = Int32.ofNat 90 from rfl, i32_le_of (by omega) (by omega)]; omega), (CS_z hC).1, e1, Option.bind_some, h105, Option.bind_some, hput, gR_1, Option.bind_some, gL_0, Option.bind_some, gA_w hx, nn_of (by omega), Option.bind_some, Option.bind_some, gR_1, Option.bind_some, gL_0, Option.bind_some, sA_w hx, nn_of (by omega), Option.bind_some]
      · obtain ⟨pp', w', es, w22, w21, w20, hsv⟩ := saves_ok (n := n) (hs := hs) (by omega) hR Hb
        obtain ⟨len, hl, h9, hA'⟩ := hA
        refine ⟨upd m (126 + t) (Int32.ofNat v), pp', w', hs, ?_, w22, mkRel hR (Nat.le_refl B) nw ⟨nm, zw_town hR.2.1.2⟩ (AgW_of hl (by rw [upd_ne (by omega), h9]) (ag_upd hA' rfl)) w21 w20 hsv rfl rfl⟩
        unfold f_X6_setTown
        rw [u_town_y hx, Option.bind_some]
        simp only [zlet, if_neg z1]
        rw [show (90 : Int32) = Int32.ofNat 90 from rfl, u_vp_y (by omega) hy, Option.bind_some]
        simp only [if_neg z1, mgK, u_ref0, zb2, Option.bind_some, if_true, es, mgR_0, ixt, mN (show 126 + t < 134 by omega), mNs (show 126 + t < 134 by omega)]
        rw [ag0 dead_ok hA' (by omega) (by omega)]
    · refine call_throw (e := 0) (code := 2) hb hC hR ?_ rfl (by decide) (fun Hb => ?_)
      · unfold f_X5_setTown
        rw [town_y hx, Option.bind_some, if_neg z1]
        simp only [zlet]
        rcases vp_no (by omega) hy with c | c
        · rw [if_pos c]
        · have : ¬ y ≤ (90 : Int32) := by
            rw [Int32.le_iff_toInt_le]
            rw [Int32.le_iff_toInt_le, Int32.toInt_ofNat_of_lt (by omega)] at c
            have : (90 : Int32).toInt = 90 := rfl
            omega
          rw [if_neg this]
          split <;> rfl
      · unfold f_X6_setTown
        rw [u_town_y hx, Option.bind_some]
        simp only [zlet, if_neg z1]
        rw [show (90 : Int32) = Int32.ofNat 90 from rfl, u_vp_n (by omega) hy, Option.bind_some]
        simp only [if_true, mgK, u_refk (show ¬ (2 : Int32) ≤ 0 by decide), zb2, Option.bind_some, if_neg z1]
  · refine call_throw (e := 1) (code := 1) hb hC hR ?_ rfl (by decide) (fun Hb => ?_)
    · unfold f_X5_setTown
      rw [town_n hx, Option.bind_some, if_pos rfl]
    · unfold f_X6_setTown
      rw [u_town_n hx, Option.bind_some]
      simp only [zlet, if_true, mgK, u_refk (show ¬ (1 : Int32) ≤ 0 by decide), zb2, Option.bind_some, if_neg z1]
theorem Lw_begin {n : Nat} {x : Int32} {H : zH} : f_L_begin n 0 x 131 H = Lw H (f_X5_begin n 0 x H) (fun e h1 => if e = 0 then some (1, h1) else none) := rfl
theorem in24 {x : Int32} : (¬ x < 2 ∧ ¬ 4 < x) → ∃ i, 2 ≤ i ∧ i ≤ 4 ∧ x = Int32.ofNat i := by
  rintro ⟨h1, h2⟩
  have hv : vp_in x 5 := by
    refine Classical.byContradiction fun q => ?_
    rcases vp_no (by omega) q with c | c
    · refine h1 ?_
      rw [Int32.lt_iff_toInt_lt] at c ⊢
      have e0 : (0 : Int32).toInt = 0 := rfl
      have e2 : (2 : Int32).toInt = 2 := rfl
      omega
    · refine h2 ?_
      rw [Int32.le_iff_toInt_le, Int32.toInt_ofNat_of_lt (by omega)] at c
      rw [Int32.lt_iff_toInt_lt]
      have e4 : (4 : Int32).toInt = 4 := rfl
      omega
  obtain ⟨i, hi, rfl⟩ := vp_ex hv
  refine ⟨i, ?_, by omega, rfl⟩
  refine Nat.le_of_not_lt fun q => h1 ?_
  rw [show (2 : Int32) = Int32.ofNat 2 from rfl, i32_lt_of (by omega) (by omega)]
  exact q
theorem call_begin {n B : Nat} {x : Int32} {H : zH} (hn : 50000 ≤ n) (hR : REL B H) : CallOk n (f_L_begin n 0 x 131 H) (f_X6_begin n 123 x) B := by
  obtain ⟨mm, k, L, g, m, pp, tx, w, st, hs, b, f, hb, hC, hR⟩ := hR
  have hWF := hR.1
  have hA := hR.2.2.1
  have z1 : ¬ (1 : Int32) = 0 := by decide
  rw [Lw_begin]
  by_cases hx : ¬ x < 2 ∧ ¬ 4 < x
  · have hx' := hx
    obtain ⟨p, hp2, hp4, rfl⟩ := in24 hx
    obtain ⟨H1, e1, hC1⟩ := p_saveState (n := n) (by omega) hR.2.2.2.1 (WF_bools hWF) hC
    obtain ⟨h1', hH1, h105⟩ := CS_H hC1
    obtain ⟨h0, hcur, hcc⟩ := CS_cur hC1
    obtain ⟨h2, hput, hcu⟩ := Cur_mk hcur
    obtain ⟨nw, nm⟩ := reset_wf (g := g) hp2 hp4 hWF.2.2.2.2.2.2 B
    refine call_okE (mm' := p) (v := g 5) (H' := put h2 5 (rReset g (Int32.ofNat p))) hb hC (hcc _ _ (hcu _)) ?_ (fun Hb => ?_)
    · unfold f_X5_begin
      simp only [zlet]
      rw [if_neg hx'.1, if_pos (Int32.not_lt.mp hx'.2), (CS_z hC).1, e1, Option.bind_some, h105, Option.bind_some, hput, gI_12, Option.bind_some, Option.bind_some, gK_0, p_reset (by omega), Option.bind_some]
    · obtain ⟨pp', w', es, w22, w21, w20, hsv⟩ := saves_ok (n := n) (hs := hs) (by omega) hR Hb
      obtain ⟨len, hl, h9, hA'⟩ := hA
      obtain ⟨m', eb, b0, b1, b2, b3, b4⟩ := u_begins (n := n) (h := Hb) (m := m) (pp := pp') (tx := tx) (w := w') (hs := hs) (by omega) hp4
      refine ⟨m', pp', w', hs, ?_, w22, mkRel hR (Nat.le_refl B) nw ⟨nm, zw_reset⟩ (begin_ag hp4 (fun i h1 h2 => ag0 dead_ok hA' h2 (by omega)) b0 b1 b2 b3 b4) w21 w20 hsv rfl rfl⟩
      unfold f_X6_begin
      rw [u_in, if_neg hx'.1, if_neg hx'.2, Option.bind_some]
      simp only [zlet, if_neg z1, mgK, u_ref0, zb2, Option.bind_some, if_true, es, mgR_0, mN_5, eb]
      rw [ag0 dead_ok hA' (by omega) (by omega)]
  · refine call_throw (e := 0) (code := 1) hb hC hR ?_ rfl (by decide) (fun Hb => ?_)
    · unfold f_X5_begin
      simp only [zlet]
      by_cases c : x < 2
      · rw [if_pos c]
      · rw [if_neg c, if_neg (fun q => hx ⟨c, Int32.not_lt.mpr q⟩)]
    · unfold f_X6_begin
      have e : (if x < 2 then (0 : Int32) else if 4 < x then 0 else 1) = 0 := by
        by_cases c : x < 2
        · rw [if_pos c]
        · have : 4 < x := Classical.byContradiction fun q => hx ⟨c, q⟩
          rw [if_neg c, if_pos this]
      rw [u_in, e, Option.bind_some]
      simp only [zlet, if_true, mgK, u_refk (show ¬ (1 : Int32) ≤ 0 by decide), zb2, Option.bind_some, if_neg z1]
theorem ag_cBuy {D : Nat → Prop} {mm t c : Nat} {g m : Row} (hD : DOk D mm) (hA : AgD D g m) (ht : t < mm) (hm : mm ≤ 4) (hc : c < 4) : cBuy g t c ↔ cBuy m t c := by
  unfold cBuy
  rw [ag_bank hD hA hc, ag0 hD hA (show 3 < 134 by omega) (by omega), ag0 hD hA (show 34 + 7 * c < 134 by omega) (by omega), ag0 hD hA (show 18 + 4 * t + c < 134 by omega) (by omega), ag14 hD hA ht hm, ag0 hD hA (show 37 + 7 * c < 134 by omega) (by omega)]
theorem ag_rBuy {D : Nat → Prop} {mm t c : Nat} {g m : Row} (hD : DOk D mm) (hA : AgD D g m) (e1 : g 1 = Int32.ofNat t) (ht : t < mm) (hm : mm ≤ 4) (hc : c < 4) (ho : PresOk g c) : AgD D (rBuy g c) (rBuy m c) := by
  have e1' : m 1 = Int32.ofNat t := by rw [← ag0 hD hA (by omega) (by omega), e1]
  rw [rBuy_eq e1 (by omega), rBuy_eq e1' (by omega)]
  refine ag_rEnd hD ?_
  unfold buyC
  refine ag_rPres hD (ag_upd (ag_rPay hD hA ht hm ?_) ?_) hc ?_
  · rw [ag0 hD hA (show 37 + 7 * c < 134 by omega) (by omega)]
  · rw [ag0 hD hA (show 18 + 4 * t + c < 134 by omega) (by omega)]
  · unfold PresOk
    rw [upd_ne (by omega), rPay_ne (by omega) (by omega)]
    exact ho
theorem Lw_buy {n : Nat} {x : Int32} {H : zH} : f_L_buy n 0 x 131 H = Lw H (f_X5_buy n 0 x H) (fun e h1 => if e = 1 then some (1, h1) else if e = 2 then some (2, h1) else none) := rfl
theorem p_canBuy' {n t c : Nat} {h : zH} {b : Nat} {g : Row} (hn : 600 ≤ n) (hc : c < 4) (e1 : g 1 = Int32.ofNat t) (ht : t < 4) : (cBuy g t c → f_X1_canBuy n b (Int32.ofNat c) (put h b g) = some 1) ∧ (¬ cBuy g t c → f_X1_canBuy n b (Int32.ofNat c) (put h b g) = some 0) := by
  have e := p_canBuy (n := n) (h := h) (b := b) (g := g) (c := Int32.ofNat c) hn (in_of hc (by omega)) (by rw [e1]; exact in_of ht (by omega))
  rw [nn_of (show c < 600 by omega), e1, nn_of (show t < 600 by omega)] at e
  unfold cBuy
  exact ⟨fun q => by rw [e, if_pos q], fun q => by rw [e, if_neg q]⟩
theorem rEnd9 {g : Row} : rEnd g 9 = g 9 := rEnd_ne (by omega) (by omega)
theorem call_buy {n B : Nat} {x : Int32} {H : zH} (hn : 50000 ≤ n) (hB : B ≤ 100000) (hR : REL B H) : CallOk n (f_L_buy n 0 x 131 H) (f_X6_buy n 123 x) B := by
  obtain ⟨mm, k, L, g, m, pp, tx, w, st, hs, b, f, hb, hC, hR⟩ := hR
  obtain ⟨h', hH, h05⟩ := CS_H hC
  have hWF := hR.1
  have hA := hR.2.2.1
  have hWm := WF_ag hA hWF
  have hm4 := hWF.1.2.1
  obtain ⟨t, ht, et⟩ := hWF.1.2.2.2.1
  have z1 : ¬ (1 : Int32) = 0 := by decide
  obtain ⟨len, hl, h9, hA'⟩ := hA
  have emt : m 1 = Int32.ofNat t := by rw [← ag0 dead_ok hA' (by omega) (by omega), et]
  rw [Lw_buy]
  by_cases hx : vp_in x 4
  · obtain ⟨c, hc, rfl⟩ := vp_ex hx
    have cb := p_canBuy' (n := n) (h := h') (b := 5) (g := g) (by omega) hc et (by omega)
    have ub := fun Hb => u_canBuy (n := n) (h := Hb) (m := m) (pp := pp) (tx := tx) (w := w) (hs := hs) (by omega) hWm.1.2.2.1 hm4 emt ht hc hWm.2.2.1
    have hag := ag_cBuy dead_ok hA' ht hm4 hc
    by_cases hcb : cBuy g t c
    · obtain ⟨H1, e1, hC1⟩ := p_saveState (n := n) (by omega) hR.2.2.2.1 (WF_bools hWF) hC
      obtain ⟨h1', hH1, h105⟩ := CS_H hC1
      obtain ⟨h0, hcur, hcc⟩ := CS_cur hC1
      obtain ⟨h2, hput, hcu⟩ := Cur_mk hcur
      have oc : g (34 + 7 * c) = 1 := by
        rcases (hWF.2.2.1 c hc).2.2.2 with ⟨q, _⟩ | ⟨q, _⟩
        · exact q
        · exact absurd q hcb.2.1
      obtain ⟨s, s1, s2, s3⟩ := (hWF.2.2.1 c hc).1
      have hbk : s 0 + s 1 + s 2 + s 3 + 1 ≤ 10 := by
        have q := hcb.2.2.1
        rw [bank_eq (f := fun p => g (18 + 4 * p + c)) (s := s) s1 s2, show (0 : Int32) = Int32.ofNat 0 from rfl, i32_le_of (by omega) (by omega)] at q
        omega
      obtain ⟨nw, nm⟩ := buy_wf hWF hR.2.1.1 hB et ht hc oc s1 hbk s3 hcb.2.2.2.2
      have bs := p_buyShare (n := n) (h := h2) (b := 5) (g := g) (c := Int32.ofNat c) (by omega) hx (by rw [et]; exact in_of (show t < 4 by omega) (by omega)) (by rw [nn_of (show c < 600 by omega)]; exact PrOk_pres hm4 (hWF.2.2.1 c hc).2.1)
      rw [nn_of (show c < 600 by omega), et, nn_of (show t < 600 by omega)] at bs
      refine call_okE (mm' := mm) (v := g (18 + 4 * t + c) + 1) (H' := put h2 5 (rBuy g c)) hb hC (hcc _ _ (hcu _)) ?_ (fun Hb => ?_)
      · unfold f_X5_buy
        rw [company_y hx, Option.bind_some, if_neg z1, h05, Option.bind_some, (CS_z hC).2.1, hH, cb.1 hcb, Option.bind_some, if_neg z1, ← hH, (CS_z hC).1, e1, Option.bind_some, h105, Option.bind_some, (CS_z hC1).2.1, hput, bs]
        rfl
      · obtain ⟨pp', w', es, w22, w21, w20, hsv⟩ := saves_ok (n := n) (hs := hs) (by omega) hR Hb
        refine ⟨rBuy m c, pp', w', hs, ?_, w22, mkRel hR (Nat.le_refl B) nw ⟨nm, zw_buy et (by omega) hc hR.2.1.2⟩ (AgW_of hl (by rw [rBuy_eq et (by omega), rEnd9, buyC_ne (by omega) (by omega) (by omega) (by omega), h9]) (ag_rBuy dead_ok hA' et ht hm4 hc (PrOk_pres hm4 (hWF.2.2.1 c hc).2.1))) w21 w20 hsv rfl rfl⟩
        unfold f_X6_buy
        rw [u_company_y hx, Option.bind_some]
        simp only [zlet, if_neg z1, mgK, (ub Hb).1 (hag.mp hcb), u_ref0, zb2, Option.bind_some, if_true, es, u_buys (B := B) (show 600 ≤ n by omega) hWm emt ht hc (hag.mp hcb)]
        rw [ag0 dead_ok hA' (show 18 + 4 * t + c < 134 by omega) (by omega)]
    · refine call_throw (e := 2) (code := 2) hb hC hR ?_ rfl (by decide) (fun Hb => ?_)
      · unfold f_X5_buy
        rw [company_y hx, Option.bind_some, if_neg z1, h05, Option.bind_some, (CS_z hC).2.1, hH, cb.2 hcb, Option.bind_some, if_pos rfl]
      · unfold f_X6_buy
        rw [u_company_y hx, Option.bind_some]
        simp only [zlet, if_neg z1, mgK, (ub Hb).2 (fun q => hcb (hag.mpr q)), Option.bind_some, if_true, u_refk (show ¬ (2 : Int32) ≤ 0 by decide), zb2]
  · refine call_throw (e := 1) (code := 1) hb hC hR ?_ rfl (by decide) (fun Hb => ?_)
    · unfold f_X5_buy
      rw [company_n hx, Option.bind_some, if_pos rfl]
    · unfold f_X6_buy
      rw [u_company_n hx, Option.bind_some]
      simp only [zlet, if_true, mgK, u_refk (show ¬ (1 : Int32) ≤ 0 by decide), zb2, Option.bind_some, if_neg z1]
theorem ag_cSell {D : Nat → Prop} {mm t c : Nat} {s : Int32} {g m : Row} (hD : DOk D mm) (hA : AgD D g m) (ht : t < 4) (hc : c < 4) : cSell g t c s ↔ cSell m t c s := by
  unfold cSell
  rw [ag0 hD hA (show 3 < 134 by omega) (by omega), ag0 hD hA (show 34 + 7 * c < 134 by omega) (by omega), ag0 hD hA (show 18 + 4 * t + c < 134 by omega) (by omega)]
theorem Lw_sell {n : Nat} {x y : Int32} {H : zH} : f_L_sell n 0 x y 131 H = Lw H (f_X5_sell n 0 x y H) (fun e h1 => if e = 1 then some (1, h1) else if e = 0 then some (2, h1) else if e = 2 then some (3, h1) else none) := rfl
theorem p_canSell' {n t c : Nat} {h : zH} {b : Nat} {g : Row} {s : Int32} (hc : c < 4) (e1 : g 1 = Int32.ofNat t) (ht : t < 4) : (cSell g t c s → f_X1_canSell n b (Int32.ofNat c) s (put h b g) = some 1) ∧ (¬ cSell g t c s → f_X1_canSell n b (Int32.ofNat c) s (put h b g) = some 0) := by
  have e := p_canSell (n := n) (h := h) (b := b) (g := g) (c := Int32.ofNat c) (s := s) (in_of hc (by omega)) (by rw [e1]; exact in_of ht (by omega))
  rw [nn_of (show c < 600 by omega), e1, nn_of (show t < 600 by omega)] at e
  unfold cSell
  exact ⟨fun q => by rw [e, if_pos q], fun q => by rw [e, if_neg q]⟩
theorem in110 {x : Int32} (h : ¬ x < 1 ∧ ¬ 10 < x) : ∃ i, 1 ≤ i ∧ i ≤ 10 ∧ x = Int32.ofNat i := by
  obtain ⟨h1, h2⟩ := h
  have hv : vp_in x 11 := by
    refine Classical.byContradiction fun q => ?_
    rcases vp_no (by omega) q with c | c
    · refine h1 ?_
      rw [Int32.lt_iff_toInt_lt] at c ⊢
      have e0 : (0 : Int32).toInt = 0 := rfl
      have e2 : (1 : Int32).toInt = 1 := rfl
      omega
    · refine h2 ?_
      rw [Int32.le_iff_toInt_le, Int32.toInt_ofNat_of_lt (by omega)] at c
      rw [Int32.lt_iff_toInt_lt]
      have e4 : (10 : Int32).toInt = 10 := rfl
      omega
  obtain ⟨i, hi, rfl⟩ := vp_ex hv
  refine ⟨i, ?_, by omega, rfl⟩
  refine Nat.le_of_not_lt fun q => h1 ?_
  rw [show (1 : Int32) = Int32.ofNat 1 from rfl, i32_lt_of (by omega) (by omega)]
  exact q
theorem call_sell {n B : Nat} {x y : Int32} {H : zH} (hn : 50000 ≤ n) (hB : B ≤ 100000) (hR : REL B H) : CallOk n (f_L_sell n 0 x y 131 H) (f_X6_sell n 123 x y) (B + 1) := by
  have hR0 := REL_mono hR (Nat.le_succ B)
  obtain ⟨mm, k, L, g, m, pp, tx, w, st, hs, b, f, hb, hC, hR⟩ := hR
  obtain ⟨h', hH, h05⟩ := CS_H hC
  have hWF := hR.1
  have hA := hR.2.2.1
  have hWm := WF_ag hA hWF
  have hm4 := hWF.1.2.1
  obtain ⟨t, ht, et⟩ := hWF.1.2.2.2.1
  have ht4 : t < 4 := by omega
  have z1 : ¬ (1 : Int32) = 0 := by decide
  obtain ⟨len, hl, h9, hA'⟩ := hA
  have emt : m 1 = Int32.ofNat t := by rw [← ag0 dead_ok hA' (by omega) (by omega), et]
  have hRs := Rel_mono hR (Nat.le_succ B)
  rw [Lw_sell]
  by_cases hx : vp_in x 4
  · obtain ⟨c, hc, rfl⟩ := vp_ex hx
    by_cases hy : ¬ y < 1 ∧ ¬ 10 < y
    · have hy' := hy
      obtain ⟨a, ha1, ha10, rfl⟩ := in110 hy
      have cb := p_canSell' (n := n) (h := h') (b := 5) (g := g) (s := Int32.ofNat a) hc et ht4
      have ub := fun Hb => u_canSell (n := n) (h := Hb) (m := m) (pp := pp) (tx := tx) (w := w) (hs := hs) (s := Int32.ofNat a) emt ht4 hc hWm.2.2.1
      have hag := ag_cSell (s := Int32.ofNat a) dead_ok hA' ht4 hc
      have clsStart : f_X5_sell n 0 (Int32.ofNat c) (Int32.ofNat a) H = ((f_X1_canSell n 5 (Int32.ofNat c) (Int32.ofNat a) H).bind fun (r40 : Int32) => if r40 = 0 then (some (.inl 2, H)) else ((f_X5_saveState n 0 H).bind fun (h55 : zH) => (zgR h55 0 5 0).bind fun (v59 : Nat) => (zgR h55 0 5 0).bind fun (v63 : Nat) => (zgI h55 v63 1 9).bind fun (v66 : Int32) => zrc h55 v59 1 <| (f_X1_sellShares n v59 v66 (Int32.ofNat c) (Int32.ofNat a) h55).bind fun (h71 : zH) => (zgR h71 0 5 0).bind fun (v75 : Nat) => (zgR h71 v75 1 3).bind fun (v78 : Nat) => (zgR h71 0 5 0).bind fun (v82 : Nat) => (zgI h71 v82 1 9).bind fun (v85 : Int32) => (zai h71 v78 v85).bind fun (v88 : Int32) => some (.inr v88, h71))) := by
        unfold f_X5_sell
        rw [company_y hx, Option.bind_some, if_neg z1]
        simp only [zlet]
        rw [if_neg hy'.1, if_pos (Int32.not_lt.mp hy'.2), h05, Option.bind_some, (CS_z hC).2.1, (CS_z hC).1]
      by_cases hcb : cSell g t c (Int32.ofNat a)
      · obtain ⟨H1, e1, hC1⟩ := p_saveState (n := n) (by omega) hR.2.2.2.1 (WF_bools hWF) hC
        obtain ⟨h1', hH1, h105⟩ := CS_H hC1
        obtain ⟨h0, hcur, hcc⟩ := CS_cur hC1
        obtain ⟨h2, hput, hcu⟩ := Cur_mk hcur
        have oc : g (34 + 7 * c) = 1 := by
          rcases (hWF.2.2.1 c hc).2.2.2 with ⟨q, _⟩ | ⟨q, _⟩
          · exact q
          · exact absurd q hcb.2.1
        obtain ⟨s, s1, s2, s3⟩ := (hWF.2.2.1 c hc).1
        have hst := sh_lt s2 t ht4
        have hle : a ≤ s t := by
          have q := hcb.2.2
          rw [s1 t ht4, i32_lt_of (by omega) (by omega)] at q
          omega
        obtain ⟨nw, nm⟩ := sell_wf hWF hR.2.1.1 hB ht hc oc (s1 t ht4) (by omega) hle ha10
        have po := PrOk_pres hm4 (hWF.2.2.1 c hc).2.1
        have bs := p_sellShares (n := n) (h := h2) (b := 5) (g := g) (p := Int32.ofNat t) (c := Int32.ofNat c) (s := Int32.ofNat a) (by omega) (in_of ht4 (by omega)) hx (by rw [nn_of (show c < 600 by omega)]; exact po)
        rw [nn_of (show c < 600 by omega), nn_of (show t < 600 by omega)] at bs
        have hC2 := hcc _ _ (hcu (rSell g t c (Int32.ofNat a)))
        have e9 : rSell g t c (Int32.ofNat a) 1 = Int32.ofNat t := by rw [rSell_ne (by omega) (by omega) (by omega) (by omega) (by omega), et]
        refine call_okE (mm' := mm) (v := rSell g t c (Int32.ofNat a) (14 + t)) (H' := put h2 5 (rSell g t c (Int32.ofNat a))) hb hC hC2 ?_ (fun Hb => ?_)
        · rw [clsStart]
          conv => lhs; rw [hH, cb.1 hcb, Option.bind_some, if_neg z1, ← hH]
          rw [e1, Option.bind_some, h105, Option.bind_some, Option.bind_some, hput, gI_9, et, Option.bind_some, gK_0, bs, Option.bind_some, (CS_z hC2).2.2, Option.bind_some, gR_3, Option.bind_some, Option.bind_some, gI_9, e9, Option.bind_some, gA_m (in_of ht4 (by omega)), nn_of (by omega), Option.bind_some]
        · obtain ⟨pp', w', es, w22, w21, w20, hsv⟩ := saves_ok (n := n) (hs := hs) (by omega) hR Hb
          have moc : m (34 + 7 * c) = 1 := by rw [← ag0 dead_ok hA' (by omega) (by omega), oc]
          have msh : m (18 + 4 * t + c) = Int32.ofNat (s t) := by rw [← ag0 dead_ok hA' (by omega) (by omega), s1 t ht4]
          have hag2 := ag_rSell (s := Int32.ofNat a) dead_ok hA' ht hm4 hc po
          refine ⟨rSell m t c (Int32.ofNat a), pp', w', hs, ?_, w22, mkRel hR (Nat.le_succ B) nw ⟨nm, zw_sell ht4 hc hR.2.1.2⟩ (AgW_of hl (by rw [rSell_ne (by omega) (by omega) (by omega) (by omega) (by omega), h9]) hag2) w21 w20 hsv rfl rfl⟩
          unfold f_X6_sell
          rw [u_company_y hx, Option.bind_some]
          simp only [zlet, if_neg z1, u_in, if_neg hy'.1, if_neg hy'.2, mgK, (ub Hb).1 (hag.mp hcb), u_ref0, zb2, Option.bind_some, if_true, es, u_sells (show 600 ≤ n by omega) hWm emt ht hc moc rfl msh (show s t < 600 by omega) hle]
          rw [ag14 dead_ok hag2 ht hm4]
      · refine call_throw (e := 2) (code := 3) hb hC hRs ?_ rfl (by decide) (fun Hb => ?_)
        · rw [clsStart]
          conv => lhs; rw [hH, cb.2 hcb, Option.bind_some, if_pos rfl, ← hH]
        · unfold f_X6_sell
          rw [u_company_y hx, Option.bind_some]
          simp only [zlet, if_neg z1, u_in, if_neg hy'.1, if_neg hy'.2, mgK, (ub Hb).2 (fun q => hcb (hag.mpr q)), Option.bind_some, if_true, u_refk (show ¬ (3 : Int32) ≤ 0 by decide), zb2]
    · refine call_throw (e := 0) (code := 2) hb hC hRs ?_ rfl (by decide) (fun Hb => ?_)
      · unfold f_X5_sell
        rw [company_y hx, Option.bind_some, if_neg z1]
        simp only [zlet]
        by_cases c : y < 1
        · rw [if_pos c]
        · rw [if_neg c, if_neg (fun q => hy ⟨c, Int32.not_lt.mpr q⟩)]
      · unfold f_X6_sell
        have e : (if y < 1 then (0 : Int32) else if 10 < y then 0 else 1) = 0 := by
          by_cases c : y < 1
          · rw [if_pos c]
          · have : 10 < y := Classical.byContradiction fun q => hy ⟨c, q⟩
            rw [if_neg c, if_pos this]
        rw [u_company_y hx, Option.bind_some]
        simp only [zlet, if_neg z1, u_in, e, Option.bind_some, if_true, mgK, u_refk (show ¬ (2 : Int32) ≤ 0 by decide), zb2]
  · refine call_throw (e := 1) (code := 1) hb hC hRs ?_ rfl (by decide) (fun Hb => ?_)
    · unfold f_X5_sell
      rw [company_n hx, Option.bind_some, if_pos rfl]
    · unfold f_X6_sell
      rw [u_company_n hx, Option.bind_some]
      simp only [zlet, if_true, mgK, u_refk (show ¬ (1 : Int32) ≤ 0 by decide), zb2, Option.bind_some, if_neg z1]
theorem Lw_pass {n : Nat} {H : zH} : f_L_pass n 0 131 H = Lw H (f_X5_pass n 0 H) (fun e h1 => if e = 2 then some (1, h1) else none) := rfl
theorem mon_14 {g g' : Row} {mm B : Nat} (h : MonW g mm B) (hn : ∀ i, 14 ≤ i → g' i = g i) : MonW g' mm B := mon_cash h (Nat.le_refl B) (fun c hc => hn _ (by omega)) fun p hp => by rw [hn _ (by omega)]; exact h.1 p hp
theorem u_passes' {n mm : Nat} {h : zH} {g m pp tx w : Row} {hs : Int64} (hn : 600 ≤ n) (hWF : WF g mm) (h3 : g 3 = 0) (hA : AgW mm g m) : ∃ m', f_X6_passes n 123 (mput h m pp tx w hs) = some (m' 3, mput h m' pp tx w hs) ∧ WF (rPass g) mm ∧ AgW mm (rPass g) m' ∧ ∀ i, 14 ≤ i → rPass g i = g i := by
  have hWm := WF_ag hA hWF
  obtain ⟨op, st, hop, hst⟩ := row_ops hWF.2.2.1
  obtain ⟨len, hl, h9, hA'⟩ := id hA
  have hopm : ∀ c, c < 4 → (op c = true ∧ m (34 + 7 * c) = 1) ∨ (op c = false ∧ m (34 + 7 * c) = 0) := fun c hc => by rw [← ag0 dead_ok hA' (by omega) (by omega)]; exact hop c hc
  have hstm : ∀ c, c < 4 → m (37 + 7 * c) = Int32.ofNat (st c) ∧ st c ≤ 11 := fun c hc => by rw [← ag0 dead_ok hA' (by omega) (by omega)]; exact hst c hc
  obtain ⟨a, b, c⟩ := pass_all hWF h3 hA hop hst
  refine ⟨mPass op st m, ?_, a, b, c⟩
  refine u_passes hn hWm.1 hopm hstm (fun m1 hm1 => ?_)
  obtain ⟨⟨len1, hinv⟩, _⟩ := rOrder_inv (g := upd m1 9 0) (op := op) (st := st) upd_eq (fun c hc => by
    rw [upd_ne (by omega), hm1 _ (by omega)]
    rcases hopm c hc with ⟨x, y⟩ | ⟨x, y⟩
    · rw [x, y]
      exact ⟨fun q => absurd q (by decide), fun q => absurd q (by decide)⟩
    · rw [x, y]
      exact ⟨fun _ => rfl, fun _ => rfl⟩) (fun c hc => by
    rw [upd_ne (by omega), hm1 _ (by omega)]
    exact ⟨(hstm c hc).1, by have := (hstm c hc).2; omega⟩)
  have ms := mOrd_spec (m := m1) hinv
  obtain ⟨i1, i2, i3, i4, i5, i6⟩ := hinv
  refine ⟨len1, i2, ms.1, fun q => ?_⟩
  obtain ⟨c, hc, oc, ec⟩ := i6 0 q
  have e := (i3 c hc oc).2
  rw [ec] at e
  refine ⟨c, hc, ?_, oc⟩
  have e2 := ms.2 0 q
  rw [show 10 + 0 = 10 by omega] at e2 e
  rw [e2, e]
theorem call_pass {n B : Nat} {H : zH} (hn : 50000 ≤ n) (hR : REL B H) : CallOk n (f_L_pass n 0 131 H) (f_X6_pass n 123) B := by
  obtain ⟨mm, k, L, g, m, pp, tx, w, st, hs, b, f, hb, hC, hR⟩ := hR
  obtain ⟨h', hH, h05⟩ := CS_H hC
  have hWF := hR.1
  have hA := hR.2.2.1
  have hWm := WF_ag hA hWF
  have z1 : ¬ (1 : Int32) = 0 := by decide
  obtain ⟨len, hl, h9, hA'⟩ := id hA
  have e3 : m 3 = g 3 := (ag0 dead_ok hA' (by omega) (by omega)).symm
  have r11 : zgI H 5 1 11 = some (g 3) := by rw [hH, gI_11]
  rw [Lw_pass]
  by_cases h3 : g 3 = 0
  · obtain ⟨H1, e1, hC1⟩ := p_saveState (n := n) (by omega) hR.2.2.2.1 (WF_bools hWF) hC
    obtain ⟨h1', hH1, h105⟩ := CS_H hC1
    obtain ⟨h0, hcur, hcc⟩ := CS_cur hC1
    obtain ⟨h2, hput, hcu⟩ := Cur_mk hcur
    have hC2 := hcc _ _ (hcu (rPass g))
    obtain ⟨m0, _, nw, ag, n14⟩ := u_passes' (n := n) (h := H) (pp := pp) (tx := tx) (w := w) (hs := hs) (by omega) hWF h3 hA
    have p3 := nw.1.2.2.2.2.1
    refine call_okE (mm' := mm) (v := rPass g 3) (H' := put h2 5 (rPass g)) hb hC hC2 ?_ (fun Hb => ?_)
    · unfold f_X5_pass
      rw [h05, Option.bind_some, r11, Option.bind_some, if_pos h3, (CS_z hC).1, e1, Option.bind_some, h105, Option.bind_some, (CS_z hC1).2.1, hput, p_passTurn (by omega), Option.bind_some, (CS_z hC2).2.2, Option.bind_some, gI_11, Option.bind_some]
      rcases p3 with q | q
      · rw [if_pos q, q]
      · rw [if_neg (by rw [q]; decide), q]
    · obtain ⟨pp', w', es, w22, w21, w20, hsv⟩ := saves_ok (n := n) (hs := hs) (by omega) hR Hb
      obtain ⟨m', em, nw', ag', n14'⟩ := u_passes' (n := n) (h := Hb) (pp := pp') (tx := tx) (w := w') (hs := hs) (by omega) hWF h3 hA
      refine ⟨m', pp', w', hs, ?_, w22, mkRel hR (Nat.le_refl B) nw' ⟨mon_14 hR.2.1.1 n14', zw_14 hR.2.1.2 n14'⟩ ag' w21 w20 hsv rfl rfl⟩
      obtain ⟨len2, hl2, h92, hA2⟩ := ag'
      unfold f_X6_pass
      rw [mgK, u_isStock, if_pos (e3.trans h3), Option.bind_some]
      simp only [zlet, if_neg z1, mgK, u_ref0, zb2, Option.bind_some, if_true, es, em]
      rw [ag0 dead_ok hA2 (by omega) (by omega)]
  · refine call_throw (e := 2) (code := 1) hb hC hR ?_ rfl (by decide) (fun Hb => ?_)
    · unfold f_X5_pass
      rw [h05, Option.bind_some, r11, Option.bind_some, if_neg h3]
    · unfold f_X6_pass
      rw [mgK, u_isStock, if_neg (fun q => h3 (e3.symm.trans q)), Option.bind_some]
      simp only [zlet, if_true, mgK, u_refk (show ¬ (1 : Int32) ≤ 0 by decide), zb2, Option.bind_some, if_neg z1]
def cStart (g : Row) (t c : Nat) (s : Int32) : Prop := g 3 = 0 ∧ g (34 + 7 * c) = 0 ∧ ¬ g (14 + t) < 2 * (20 + 10 * s)
theorem p_canStart' {n t c : Nat} {h : zH} {b : Nat} {g : Row} {s : Int32} (hc : c < 4) (e1 : g 1 = Int32.ofNat t) (ht : t < 4) : (cStart g t c s → f_X1_canStart n b (Int32.ofNat c) s (put h b g) = some 1) ∧ (¬ cStart g t c s → f_X1_canStart n b (Int32.ofNat c) s (put h b g) = some 0) := by
  have e := p_canStart (n := n) (h := h) (b := b) (g := g) (c := Int32.ofNat c) (s := s) (in_of hc (by omega)) (by rw [e1]; exact in_of ht (by omega))
  rw [nn_of (show c < 600 by omega), e1, nn_of (show t < 600 by omega)] at e
  unfold cStart
  exact ⟨fun q => by rw [e, if_pos q], fun q => by rw [e, if_neg q]⟩
theorem in28 {x : Int32} (h : ¬ x < 2 ∧ ¬ 8 < x) : ∃ i, 2 ≤ i ∧ i ≤ 8 ∧ x = Int32.ofNat i := by
  obtain ⟨h1, h2⟩ := h
  have hv : vp_in x 9 := by
    refine Classical.byContradiction fun q => ?_
    rcases vp_no (by omega) q with c | c
    · refine h1 ?_
      rw [Int32.lt_iff_toInt_lt] at c ⊢
      have e0 : (0 : Int32).toInt = 0 := rfl
      have e2 : (2 : Int32).toInt = 2 := rfl
      omega
    · refine h2 ?_
      rw [Int32.le_iff_toInt_le, Int32.toInt_ofNat_of_lt (by omega)] at c
      rw [Int32.lt_iff_toInt_lt]
      have e4 : (8 : Int32).toInt = 8 := rfl
      omega
  obtain ⟨i, hi, rfl⟩ := vp_ex hv
  refine ⟨i, ?_, by omega, rfl⟩
  refine Nat.le_of_not_lt fun q => h1 ?_
  rw [show (2 : Int32) = Int32.ofNat 2 from rfl, i32_lt_of (by omega) (by omega)]
  exact q
theorem Lw_start {n : Nat} {x y z : Int32} {H : zH} : f_L_start n 0 x y z 131 H = Lw H (f_X5_start n 0 x y z H) (fun e h1 => if e = 1 then some (1, h1) else if e = 0 then some (2, h1) else if e = 2 then some (3, h1) else none) := rfl
def stBody (n : Nat) (p0 p1 p2 : Int32) (h : zH) : Option (Int32 × zH) := zrc h 123 6 <| (f_X6_saves n 123 h).bind fun (h91 : zH) => zlet (((34 : Int32) + ((7 : Int32) * p0))) fun (x101 : Int32) => (zgR h91 123 6 0).bind fun (v104 : Nat) => (zsi h91 v104 (x101 + (0 : Int32)) (1 : Int32)).bind fun (h112 : zH) => (zgR h112 123 6 0).bind fun (v114 : Nat) => (zsi h112 v114 (x101 + (1 : Int32)) p1).bind fun (h122 : zH) => (zgR h122 123 6 0).bind fun (v124 : Nat) => (zsi h122 v124 (x101 + (3 : Int32)) p2).bind fun (h132 : zH) => (zgR h132 123 6 0).bind fun (v134 : Nat) => (zsi h132 v134 (x101 + (4 : Int32)) (2 : Int32)).bind fun (h142 : zH) => (zgR h142 123 6 0).bind fun (v145 : Nat) => (zai h142 v145 (1 : Int32)).bind fun (v149 : Int32) => zrc h142 123 6 <| (f_X6_price n 123 p0 h142).bind fun (r153 : Int32) => zrc h142 123 6 <| (f_X6_pays n 123 v149 ((2 : Int32) * r153) h142).bind fun (h157 : zH) => (zgR h157 123 6 0).bind fun (v162 : Nat) => (zai h157 v162 (1 : Int32)).bind fun (v166 : Int32) => zrc h157 123 6 <| (f_X6_holds n 123 v166 p0 (2 : Int32) h157).bind fun (h169 : zH) => zrc h169 123 6 <| (f_X6_price n 123 p0 h169).bind fun (r177 : Int32) => zrc h169 123 6 <| (f_X6_earns n 123 p0 ((5 : Int32) * r177) h169).bind fun (h181 : zH) => zrc h181 123 6 <| (f_X6_ends n 123 h181).bind fun (h185 : zH) => zrc h185 123 6 <| (f_X6_of n 123 p0 (2 : Int32) h185).bind fun (r191 : Int32) => some (r191, h185)
def stK (n : Nat) (p0 p1 p2 : Int32) (h : zH) (s0_82 : Int32) : Option (Int32 × zH) := zrc h 123 6 <| zb2 (f_X6_refused n 123 s0_82 h) fun (r82 : Int32) (h82 : zH) => if r82 = 0 then stBody n p0 p1 p2 h82 else (some ((0 : Int32), h82))
theorem e_start {n : Nat} {p0 p1 p2 : Int32} {h : zH} : f_X6_start n 123 p0 p1 p2 h = ((f_X6_isCompany n p0 h).bind fun (r1 : Int32) => zlet (fun (s0_33 : Int32) => if s0_33 ≤ 0 then (zrc h 123 6 <| (f_X6_isStock n 123 h).bind fun (r47 : Int32) => if r47 = 0 then (stK n p0 p1 p2 h 3) else (zrc h 123 6 <| (f_X6_isOpen n 123 p0 h).bind fun (r55 : Int32) => if r55 = 0 then (zrc h 123 6 <| (f_X6_purse n 123 h).bind fun (r62 : Int32) => if ((2 : Int32) * ((20 : Int32) + ((10 : Int32) * p2))) ≤ r62 then (stK n p0 p1 p2 h 0) else (stK n p0 p1 p2 h 3)) else (stK n p0 p1 p2 h 3))) else (stK n p0 p1 p2 h s0_33)) fun K33 => if r1 = 0 then (K33 1) else ((f_X6_isTown n p1 h).bind fun (r8 : Int32) => if r8 = 0 then (K33 1) else ((f_X6_in n p2 (2 : Int32) (8 : Int32) h).bind fun (r22 : Int32) => if r22 = 0 then (K33 (2 : Int32)) else (K33 (0 : Int32))))) := rfl
theorem u_stBody {n : Nat} {Hb : zH} {m pp pp' tx w w' : Row} {hs : Int64} {mm t c home s : Nat} (hn : 600 ≤ n) (hWF : WF m mm) (hz : ZW m) (e1 : m 1 = Int32.ofNat t) (ht : t < mm) (hc : c < 4) (hh : home < 8) (ho : m (34 + 7 * c) = 0) (es : f_X6_saves n 123 (mput Hb m pp tx w hs) = some (mput Hb m pp' tx w' hs)) : stBody n (Int32.ofNat c) (Int32.ofNat home) (Int32.ofNat s) (mput Hb m pp tx w hs) = some (rStart m c (Int32.ofNat home) (Int32.ofNat s) (36 + 7 * c), mput Hb (rStart m c (Int32.ofNat home) (Int32.ofNat s)) pp' tx w' hs) := by
  obtain ⟨⟨b1, b2, h0, _⟩, _, hw, _⟩ := hWF
  have ht4 : t < 4 := by omega
  have h0c := hw c hc
  have hz4 : ∀ p, p < 4 → m (18 + 4 * p + c) = Int32.ofNat 0 := by
    rcases h0c.2.2.2 with ⟨q, _⟩ | ⟨_, _, _, q⟩
    · rw [ho] at q
      exact absurd q (by decide)
    · exact q
  have hat := rOpen_at (g := m) (c := c) (x := Int32.ofNat home) (y := Int32.ofNat s)
  have on : ∀ i, i ≠ 34 + 7 * c → i ≠ 35 + 7 * c → i ≠ 37 + 7 * c → i ≠ 38 + 7 * c → rOpen m c (Int32.ofNat home) (Int32.ofNat s) i = m i := fun i a b d e => rOpen_ne a b d e
  have sh1 : ShOk (upd (rPay (rOpen m c (Int32.ofNat home) (Int32.ofNat s)) t (2 * (20 + 10 * Int32.ofNat s))) (18 + 4 * t + c) 2) mm c := ShOk_inc (s := fun _ => 0) (v := 2) ht b2 (fun p hp => by rw [rPay_ne (by omega) (by omega), on _ (by omega) (by omega) (by omega) (by omega), hz4 p hp]) (by omega) (fun _ _ _ => rfl)
  have pr1 : PrOk (rPay (rOpen m c (Int32.ofNat home) (Int32.ofNat s)) t (2 * (20 + 10 * Int32.ofNat s))) mm c := PrOk_congr (by rw [rPay_ne (by omega) (by omega), on _ (by omega) (by omega) (by omega) (by omega)]) h0c.2.1
  have e2 : rPay (rOpen m c (Int32.ofNat home) (Int32.ofNat s)) t (2 * (20 + 10 * Int32.ofNat s)) (18 + 4 * t + c) + 2 = 2 := by
    rw [rPay_ne (by omega) (by omega), on _ (by omega) (by omega) (by omega) (by omega), hz4 t ht4]
    rfl
  unfold stBody
  rw [mgK, es, Option.bind_some]
  simp only [zlet]
  rw [mgR_0, Option.bind_some, ixc_0, mNs (show 34 + 7 * c < 134 by omega), Option.bind_some, mgR_0, Option.bind_some, ixc_1, mNs (show 35 + 7 * c < 134 by omega), Option.bind_some, mgR_0, Option.bind_some, ixc_3, mNs (show 37 + 7 * c < 134 by omega), Option.bind_some, mgR_0, Option.bind_some, ixc_4, mNs (show 38 + 7 * c < 134 by omega), Option.bind_some]
  rw [show upd (upd (upd (upd m (34 + 7 * c) 1) (35 + 7 * c) (Int32.ofNat home)) (37 + 7 * c) (Int32.ofNat s)) (38 + 7 * c) 2 = rOpen m c (Int32.ofNat home) (Int32.ofNat s) from rfl]
  have q1 : rOpen m c (Int32.ofNat home) (Int32.ofNat s) 1 = Int32.ofNat t := by rw [on _ (by omega) (by omega) (by omega) (by omega), e1]
  rw [mgR_0, Option.bind_some, mN_1, Option.bind_some, q1, mgK, u_price hc, Option.bind_some, mgK, hat.2.2.1, u_pays ht4, Option.bind_some, mgR_0, Option.bind_some, mN_1, Option.bind_some, rPay_ne (show 1 ≠ 14 + t by omega) (show 1 ≠ 6 by omega), q1, mgK]
  rw [u_holds (mm := mm) hn (by rw [rPay_ne (by omega) (by omega), on _ (by omega) (by omega) (by omega) (by omega), h0]) b2 ht4 hc (by rw [e2]; exact sh1) pr1, e2, Option.bind_some, mgK]
  rw [show rPres (upd (rPay (rOpen m c (Int32.ofNat home) (Int32.ofNat s)) t (2 * (20 + 10 * Int32.ofNat s))) (18 + 4 * t + c) 2) c = startC m t c (Int32.ofNat home) (Int32.ofNat s) from rfl]
  have p37 : startC m t c (Int32.ofNat home) (Int32.ofNat s) (37 + 7 * c) = Int32.ofNat s := by
    unfold startC
    rw [rPres_ne (by omega), upd_ne (by omega), rPay_ne (by omega) (by omega), hat.2.2.1]
  have p36 : startC m t c (Int32.ofNat home) (Int32.ofNat s) (36 + 7 * c) = 0 := by rw [startC_ne (by omega) (by omega) (by omega) (by omega) (by omega) (by omega) (by omega) (by omega), hz c hc ho]
  rw [u_price hc, p37, Option.bind_some, mgK, u_earns hc, Option.bind_some, mgK]
  have eD : rCPay (startC m t c (Int32.ofNat home) (Int32.ofNat s)) c (-(5 * (20 + 10 * Int32.ofNat s))) = startD m t c (Int32.ofNat home) (Int32.ofNat s) := by
    unfold rCPay startD
    rw [p36, Int32.sub_neg, Int32.zero_add, ← Int32.sub_eq_add_neg]
  rw [eD, u_ends (mm := mm) (t := t) (by rw [startD_ne (by omega) (by omega) (by omega) (by omega), h0]) (by omega) ht (by rw [startD_ne (by omega) (by omega) (by omega) (by omega), e1]), Option.bind_some, mgK, u_of_2 hc, Option.bind_some, rStart_eq e1 ht4]
theorem ag_rStart {D : Nat → Prop} {mm t c : Nat} {x y : Int32} {g m : Row} (hD : DOk D mm) (hA : AgD D g m) (e1 : g 1 = Int32.ofNat t) (ht : t < mm) (hm : mm ≤ 4) (hc : c < 4) (ho : PresOk g c) : AgD D (rStart g c x y) (rStart m c x y) := by
  have e1' : m 1 = Int32.ofNat t := by rw [← ag0 hD hA (by omega) (by omega), e1]
  rw [rStart_eq e1 (by omega), rStart_eq e1' (by omega)]
  refine ag_rEnd hD ?_
  have hC : AgD D (startC g t c x y) (startC m t c x y) := by
    unfold startC
    refine ag_rPres hD (ag_upd (ag_rPay hD ?_ ht hm rfl) rfl) hc ?_
    · unfold rOpen
      exact ag_upd (ag_upd (ag_upd (ag_upd hA rfl) rfl) rfl) rfl
    · unfold PresOk
      rw [upd_ne (by omega), rPay_ne (by omega) (by omega), rOpen_ne (by omega) (by omega) (by omega) (by omega)]
      exact ho
  unfold startD
  exact ag_upd (ag_upd hC rfl) (by rw [ag0 hD hC (by omega) (by omega)])
theorem call_start {n B : Nat} {x y z : Int32} {H : zH} (hn : 50000 ≤ n) (hB : B ≤ 100000) (hR : REL B H) : CallOk n (f_L_start n 0 x y z 131 H) (f_X6_start n 123 x y z) (B + 1) := by
  obtain ⟨mm, k, L, g, m, pp, tx, w, st, hs, b, f, hb, hC, hR⟩ := hR
  obtain ⟨h', hH, h05⟩ := CS_H hC
  have hWF := hR.1
  have hA := hR.2.2.1
  have hWm := WF_ag hA hWF
  have hm4 := hWF.1.2.1
  obtain ⟨t, ht, et⟩ := hWF.1.2.2.2.1
  have ht4 : t < 4 := by omega
  have z1 : ¬ (1 : Int32) = 0 := by decide
  obtain ⟨len, hl, h9, hA'⟩ := hA
  have emt : m 1 = Int32.ofNat t := by rw [← ag0 dead_ok hA' (by omega) (by omega), et]
  have hRs := Rel_mono hR (Nat.le_succ B)
  rw [Lw_start]
  by_cases hxy : vp_in x 4 ∧ vp_in y 8
  · obtain ⟨hx, hy⟩ := hxy
    obtain ⟨c, hc, rfl⟩ := vp_ex hx
    obtain ⟨home, hh, rfl⟩ := vp_ex hy
    by_cases hz : ¬ z < 2 ∧ ¬ 8 < z
    · have hz' := hz
      obtain ⟨s, hs2, hs8, rfl⟩ := in28 hz
      have cb := p_canStart' (n := n) (h := h') (b := 5) (g := g) (s := Int32.ofNat s) hc et ht4
      have clsStart : f_X5_start n 0 (Int32.ofNat c) (Int32.ofNat home) (Int32.ofNat s) H = ((f_X1_canStart n 5 (Int32.ofNat c) (Int32.ofNat s) H).bind fun (r47 : Int32) => if r47 = 0 then (some (.inl 2, H)) else ((f_X5_saveState n 0 H).bind fun (h62 : zH) => (zgR h62 0 5 0).bind fun (v66 : Nat) => zrc h62 v66 1 <| (f_X1_startCompany n v66 (Int32.ofNat c) (Int32.ofNat home) (Int32.ofNat s) h62).bind fun (h72 : zH) => (zgR h72 0 5 0).bind fun (v76 : Nat) => (zgR h72 v76 1 2).bind fun (v79 : Nat) => (zar h72 v79 3 (Int32.ofNat c)).bind fun (v83 : Nat) => (zgI h72 v83 0 3).bind fun (v84 : Int32) => some (.inr v84, h72))) := by
        unfold f_X5_start
        rw [company_y hx, Option.bind_some]
        simp only [zlet]
        rw [if_neg z1, town_y hy, Option.bind_some, if_neg z1, if_neg hz'.1, if_pos (Int32.not_lt.mp hz'.2), h05, Option.bind_some, (CS_z hC).2.1, (CS_z hC).1]
      have mstart : ∀ Hb, f_X6_start n 123 (Int32.ofNat c) (Int32.ofNat home) (Int32.ofNat s) (mput Hb m pp tx w hs) = if m 3 = 0 then (if m (34 + 7 * c) = 0 then (if 2 * (20 + 10 * Int32.ofNat s) ≤ m (14 + t) then stK n (Int32.ofNat c) (Int32.ofNat home) (Int32.ofNat s) (mput Hb m pp tx w hs) 0 else stK n (Int32.ofNat c) (Int32.ofNat home) (Int32.ofNat s) (mput Hb m pp tx w hs) 3) else stK n (Int32.ofNat c) (Int32.ofNat home) (Int32.ofNat s) (mput Hb m pp tx w hs) 3) else stK n (Int32.ofNat c) (Int32.ofNat home) (Int32.ofNat s) (mput Hb m pp tx w hs) 3 := by
        intro Hb
        rw [e_start, u_company_y hx, Option.bind_some]
        simp only [zlet]
        rw [if_neg z1, u_town_y hy, Option.bind_some, if_neg z1, u_in, if_neg hz'.1, if_neg hz'.2, Option.bind_some, if_neg z1, if_pos (show (0 : Int32) ≤ 0 by decide), mgK, u_isStock, Option.bind_some]
        by_cases c1 : m 3 = 0
        · rw [if_pos c1, if_pos c1, if_neg z1, mgK, u_isOpen' hWm.2.2.1 hc, Option.bind_some]
          by_cases c2 : m (34 + 7 * c) = 0
          · rw [if_pos c2, if_pos c2, if_pos rfl, mgK, u_purse ht4 emt, Option.bind_some]
          · rw [if_neg c2, if_neg c2, if_neg z1]
        · rw [if_neg c1, if_neg c1, if_pos rfl]
      have a3 : g 3 = m 3 := ag0 dead_ok hA' (by omega) (by omega)
      have a34 : g (34 + 7 * c) = m (34 + 7 * c) := ag0 dead_ok hA' (by omega) (by omega)
      have a14 : g (14 + t) = m (14 + t) := ag14 dead_ok hA' ht hm4
      by_cases hcb : cStart g t c (Int32.ofNat s)
      · obtain ⟨H1, e1, hC1⟩ := p_saveState (n := n) (by omega) hR.2.2.2.1 (WF_bools hWF) hC
        obtain ⟨h1', hH1, h105⟩ := CS_H hC1
        obtain ⟨h0, hcur, hcc⟩ := CS_cur hC1
        obtain ⟨h2, hput, hcu⟩ := Cur_mk hcur
        have po := PrOk_pres hm4 (hWF.2.2.1 c hc).2.1
        obtain ⟨nw, nm⟩ := start_wf hWF hR.2.1.1 hB hcb.1 et ht hc hcb.2.1 hh hs8 hcb.2.2
        have bs := p_startCompany (n := n) (h := h2) (b := 5) (g := g) (c := Int32.ofNat c) (x := Int32.ofNat home) (y := Int32.ofNat s) (by omega) hx (by rw [et]; exact in_of ht4 (by omega)) (by rw [nn_of (show c < 600 by omega)]; exact po)
        rw [nn_of (show c < 600 by omega)] at bs
        have hC2 := hcc _ _ (hcu (rStart g c (Int32.ofNat home) (Int32.ofNat s)))
        have hag2 := ag_rStart (x := Int32.ofNat home) (y := Int32.ofNat s) dead_ok hA' et ht hm4 hc po
        refine call_okE (mm' := mm) (v := rStart g c (Int32.ofNat home) (Int32.ofNat s) (36 + 7 * c)) (H' := put h2 5 (rStart g c (Int32.ofNat home) (Int32.ofNat s))) hb hC hC2 ?_ (fun Hb => ?_)
        · rw [clsStart]
          conv => lhs; rw [hH, cb.1 hcb, Option.bind_some, if_neg z1, ← hH]
          rw [e1, Option.bind_some, h105, Option.bind_some, hput, gK_0, bs, Option.bind_some, (CS_z hC2).2.2, Option.bind_some, gR_2, Option.bind_some, gA_c hx, nn_of (by omega), Option.bind_some, gC_3 hc, Option.bind_some]
        · obtain ⟨pp', w', es, w22, w21, w20, hsv⟩ := saves_ok (n := n) (hs := hs) (by omega) hR Hb
          refine ⟨rStart m c (Int32.ofNat home) (Int32.ofNat s), pp', w', hs, ?_, w22, mkRel hR (Nat.le_succ B) nw ⟨nm, zw_start et ht4 hc hR.2.1.2⟩ (AgW_of hl (by rw [rStart_eq et ht4, rEnd9, startD_ne (by omega) (by omega) (by omega) (by omega), h9]) hag2) w21 w20 hsv rfl rfl⟩
          have zm : ZW m := zw_congr hR.2.1.2 (fun d hd => (ag0 dead_ok hA' (by omega) (by omega)).symm) (fun d hd => (ag0 dead_ok hA' (by omega) (by omega)).symm)
          rw [mstart, if_pos (a3 ▸ hcb.1), if_pos (a34 ▸ hcb.2.1), if_pos (by rw [← a14]; exact Int32.not_lt.mp hcb.2.2)]
          unfold stK
          rw [mgK, u_ref0]
          show stBody n (Int32.ofNat c) (Int32.ofNat home) (Int32.ofNat s) (mput Hb m pp tx (upd w 22 0) hs) = _
          rw [u_stBody (by omega) hWm zm emt ht hc hh (a34 ▸ hcb.2.1) es, ag0 dead_ok hag2 (show 36 + 7 * c < 134 by omega) (by omega)]
      · have k3 : ∀ Hb, stK n (Int32.ofNat c) (Int32.ofNat home) (Int32.ofNat s) (mput Hb m pp tx w hs) 3 = some (0, mput Hb m pp tx (upd w 22 3) hs) := fun Hb => by
          unfold stK
          rw [mgK, u_refk (show ¬ (3 : Int32) ≤ 0 by decide)]
          simp only [zb2, Option.bind_some, if_neg z1]
        refine call_throw (e := 2) (code := 3) hb hC hRs ?_ rfl (by decide) (fun Hb => ?_)
        · rw [clsStart]
          conv => lhs; rw [hH, cb.2 hcb, Option.bind_some, if_pos rfl, ← hH]
        · rw [mstart, k3]
          by_cases c1 : m 3 = 0
          · rw [if_pos c1]
            by_cases c2 : m (34 + 7 * c) = 0
            · rw [if_pos c2, if_neg (fun q => hcb ⟨a3.trans c1, a34.trans c2, by rw [a14]; exact Int32.not_lt.mpr q⟩)]
            · rw [if_neg c2]
          · rw [if_neg c1]
    · refine call_throw (e := 0) (code := 2) hb hC hRs ?_ rfl (by decide) (fun Hb => ?_)
      · unfold f_X5_start
        rw [company_y hx, Option.bind_some]
        simp only [zlet]
        rw [if_neg z1, town_y hy, Option.bind_some, if_neg z1]
        by_cases c : z < 2
        · rw [if_pos c]
        · rw [if_neg c, if_neg (fun q => hz ⟨c, Int32.not_lt.mpr q⟩)]
      · have e : (if z < 2 then (0 : Int32) else if 8 < z then 0 else 1) = 0 := by
          by_cases c : z < 2
          · rw [if_pos c]
          · have : 8 < z := Classical.byContradiction fun q => hz ⟨c, q⟩
            rw [if_neg c, if_pos this]
        rw [e_start, u_company_y hx, Option.bind_some]
        simp only [zlet]
        rw [if_neg z1, u_town_y hy, Option.bind_some, if_neg z1, u_in, e, Option.bind_some, if_pos rfl, if_neg (show ¬ (2 : Int32) ≤ 0 by decide)]
        unfold stK
        rw [mgK, u_refk (show ¬ (2 : Int32) ≤ 0 by decide)]
        simp only [zb2, Option.bind_some, if_neg z1]
  · refine call_throw (e := 1) (code := 1) hb hC hRs ?_ rfl (by decide) (fun Hb => ?_)
    · unfold f_X5_start
      by_cases hx : vp_in x 4
      · rw [company_y hx, Option.bind_some]
        simp only [zlet]
        rw [if_neg z1, town_n (fun q => hxy ⟨hx, q⟩), Option.bind_some, if_pos rfl]
      · rw [company_n hx, Option.bind_some]
        simp only [zlet, if_true]
    · have k1 : stK n x y z (mput Hb m pp tx w hs) 1 = some (0, mput Hb m pp tx (upd w 22 1) hs) := by
        unfold stK
        rw [mgK, u_refk (show ¬ (1 : Int32) ≤ 0 by decide)]
        simp only [zb2, Option.bind_some, if_neg z1]
      by_cases hx : vp_in x 4
      · rw [e_start, u_company_y hx, Option.bind_some]
        simp only [zlet]
        rw [if_neg z1, u_town_n (fun q => hxy ⟨hx, q⟩), Option.bind_some, if_pos rfl, if_neg (show ¬ (1 : Int32) ≤ 0 by decide), k1]
      · rw [e_start, u_company_n hx, Option.bind_some]
        simp only [zlet, if_true]
        rw [if_neg (show ¬ (1 : Int32) ≤ 0 by decide), k1]
theorem mergeA_sh {g : Row} {mm x y : Nat} (hm : mm ≤ 4) (hx : x < 4) (hy : y < 4) (hxy : x ≠ y) (hw : CoW g mm) (hbk : ¬ bank (fun p => g (18 + 4 * p + x)) < exch (fun p => g (18 + 4 * p + y))) : ShOk (mergeA g mm x y) mm x ∧ (∀ i, i ≠ 6 → ¬ (14 ≤ i ∧ i < 18) → (∀ p, p < 4 → i ≠ 18 + 4 * p + x) → mergeA g mm x y i = g i) := by
  obtain ⟨sx, sx1, sx2, sx3⟩ := (hw x hx).1
  obtain ⟨sy, sy1, sy2, sy3⟩ := (hw y hy).1
  have hsum : sx 0 + sx 1 + sx 2 + sx 3 + (sy 0 / 2 + sy 1 / 2 + sy 2 / 2 + sy 3 / 2) ≤ 10 := by
    rw [bank_eq (f := fun p => g (18 + 4 * p + x)) (s := sx) sx1 sx2, exch_eq (f := fun p => g (18 + 4 * p + y)) (s := sy) sy1 (fun p hp => sh_lt sy2 p hp), i32_lt_of (by omega) (by omega)] at hbk
    omega
  unfold mergeA
  have key := zseq_ok (N := mm) (P := fun k (r : Row) => (∀ p, p < k → r (18 + 4 * p + x) = Int32.ofNat (sx p + sy p / 2)) ∧ (∀ p, k ≤ p → p < 4 → r (18 + 4 * p + x) = Int32.ofNat (sx p)) ∧ ∀ i, i ≠ 6 → ¬ (14 ≤ i ∧ i < 18) → (∀ p, p < 4 → i ≠ 18 + 4 * p + x) → r i = g i) (step := mstep x y ((20 + 10 * g (37 + 7 * y)) / 2)) (s := g) ⟨fun p hp => by omega, fun p _ hp => sx1 p hp, fun _ _ _ _ => rfl⟩ (fun k r hk hr => by
    obtain ⟨r1, r2, r3⟩ := hr
    have ex : r (18 + 4 * k + x) = Int32.ofNat (sx k) := r2 k (Nat.le_refl k) (by omega)
    have ey : r (18 + 4 * k + y) = Int32.ofNat (sy k) := by rw [r3 _ (by omega) (by omega) (fun p hp => by omega), sy1 k (by omega)]
    have z := zrem_2 (sy k) (sh_lt sy2 k (by omega))
    have hne : ∀ i, i ≠ 6 → i ≠ 18 + 4 * k + x → i ≠ 14 + k → mstep x y ((20 + 10 * g (37 + 7 * y)) / 2) k r i = r i := fun i a b c => by
      unfold mstep
      rw [rPay_ne c a, upd_ne b]
    refine ⟨fun p hp => ?_, fun p h1 h2 => by rw [hne _ (by omega) (by omega) (by omega)]; exact r2 p (by omega) h2, fun i a b c => by rw [hne i a (c k (by omega)) (by omega)]; exact r3 i a b c⟩
    by_cases e : p = k
    · subst e
      unfold mstep
      rw [rPay_ne (by omega) (by omega), upd_eq, ex, ey, z.2, i32_addn]
    · rw [hne _ (by omega) (by omega) (by omega)]
      exact r1 p (by omega)) mm (Nat.le_refl mm)
  obtain ⟨k1, k2, k3⟩ := key
  refine ⟨⟨fun p => sx p + sy p / 2, fun p hp => ?_, (by show sx 0 + sy 0 / 2 + (sx 1 + sy 1 / 2) + (sx 2 + sy 2 / 2) + (sx 3 + sy 3 / 2) ≤ 10; omega), fun p h1 h2 => ?_⟩, k3⟩
  · by_cases q : p < mm
    · exact k1 p q
    · have e := sy3 p (by omega) hp
      rw [k2 p (by omega) hp]
      exact congrArg Int32.ofNat (by show sx p = sx p + sy p / 2; omega)
  · show sx p + sy p / 2 = 0
    rw [sx3 p h1 h2, sy3 p h1 h2]
theorem u_merging {n : Nat} {h : zH} {m pp tx w : Row} {hs : Int64} {mm t x y : Nat} (hn : 600 ≤ n) (hWF : WF m mm) (e1 : m 1 = Int32.ofNat t) (ht : t < mm) (hx : x < 4) (hy : y < 4) (hxy : x ≠ y) (hbk : ¬ bank (fun p => m (18 + 4 * p + x)) < exch (fun p => m (18 + 4 * p + y))) : L_X6_merge_65 n 123 (Int32.ofNat x) (Int32.ofNat y) ((20 + 10 * m (37 + 7 * y)) / 2) 0 (mput h m pp tx w hs) = some (rMerge m mm x y (36 + 7 * x), mput h (rMerge m mm x y) pp tx w hs) := by
  obtain ⟨⟨b1, b2, h0, _⟩, _, hw, _⟩ := hWF
  obtain ⟨sh, an⟩ := mergeA_sh b2 hx hy hxy hw hbk
  obtain ⟨sy, sy1, sy2, sy3⟩ := (hw y hy).1
  unfold L_X6_merge_65
  have hz : ∀ k, k ≤ mm → ∀ i, (i < 14 ∨ 34 ≤ i) → i ≠ 6 → zseq (mstep x y ((20 + 10 * m (37 + 7 * y)) / 2)) m k i = m i := fun k hk i hi h6 => zseq_lt (P := fun r : Row => r i = m i) (N := mm) rfl (fun k s hk hs => by rw [mstep_ne hi h6 (by omega) hx, hs]) k hk
  have hzy : ∀ k, k ≤ mm → ∀ p, p < 4 → zseq (mstep x y ((20 + 10 * m (37 + 7 * y)) / 2)) m k (18 + 4 * p + y) = m (18 + 4 * p + y) := fun k hk p hp => zseq_lt (P := fun r : Row => r (18 + 4 * p + y) = m (18 + 4 * p + y)) (N := mm) rfl (fun k s hk hs => by
    show mstep x y _ k s (18 + 4 * p + y) = _
    unfold mstep
    rw [rPay_ne (by omega) (by omega), upd_ne (by omega), hs]) k hk
  refine zfor2 mm (fun k => Int32.ofNat k) (fun k => mput h (zseq (mstep x y ((20 + 10 * m (37 + 7 * y)) / 2)) m k) pp tx w hs) (fun k hk rec => ?_) (fun rec => ?_) (by omega)
  · show _ = rec _ (mput h (mstep x y ((20 + 10 * m (37 + 7 * y)) / 2) k (zseq (mstep x y ((20 + 10 * m (37 + 7 * y)) / 2)) m k)) pp tx w hs)
    have q0 := hz k (by omega) 0 (by omega) (by omega)
    have qy := hzy k (by omega) k (by omega)
    have hk4 : k < 4 := by omega
    generalize zseq (mstep x y ((20 + 10 * m (37 + 7 * y)) / 2)) m k = r at q0 qy ⊢
    rw [sy1 k hk4] at qy
    have z := zrem_2 (sy k) (sh_lt sy2 k hk4)
    have qyu : ∀ v, upd r (18 + 4 * k + x) v (18 + 4 * k + y) = Int32.ofNat (sy k) := fun v => by rw [upd_ne (by omega), qy]
    have zz : (Int32.ofNat (sy k % 2) = 0) = (sy k % 2 = 0) := i32_eq_of (b := 0) (by omega) (by omega)
    rw [mgR_0, Option.bind_some, mN_0, Option.bind_some, q0, h0, if_neg (i32_ge hk (show mm < 600 by omega)), Option.bind_some, ixs, mN (show 18 + 4 * k + x < 134 by omega), Option.bind_some, mgK, u_shares hk4 hy, qy, Option.bind_some, mNs (show 18 + 4 * k + x < 134 by omega), Option.bind_some, mgK, u_shares hk4 hy, qyu, Option.bind_some]
    unfold mstep
    rw [qy, z.1]
    simp only [zlet, mgK, u_pays hk4, Option.bind_some, i32_succ, zz]
    by_cases c : sy k % 2 = 0
    · rw [if_pos c, c, show -Int32.ofNat 0 = (0 : Int32) from by decide, Int32.zero_mul]
    · rw [if_neg c, show sy k % 2 = 1 by omega, show (Int32.ofNat 1) = (1 : Int32) from rfl, Int32.neg_mul, Int32.one_mul]
  · rw [show zseq (mstep x y ((20 + 10 * m (37 + 7 * y)) / 2)) m mm = mergeA m mm x y from rfl]
    have q0 : mergeA m mm x y 0 = Int32.ofNat mm := by rw [an 0 (by omega) (by omega) (fun p hp => by omega), h0]
    have pr : PrOk (mergeA m mm x y) mm x := PrOk_congr (an _ (by omega) (by omega) (fun p hp => by omega)) (hw x hx).2.1
    rw [mgR_0, Option.bind_some, mN_0, Option.bind_some, q0, if_pos (Int32.le_refl _), mgK, u_presides' hn q0 b2 hx sh pr, Option.bind_some, mgR_0, Option.bind_some, ixc_2, mN (show 36 + 7 * x < 134 by omega), Option.bind_some, mgK, u_of_2 hy, Option.bind_some, mNs (show 36 + 7 * x < 134 by omega), Option.bind_some, mgK, rPres_ne (show 36 + 7 * x ≠ 39 + 7 * x by omega), rPres_ne (show 36 + 7 * y ≠ 39 + 7 * x by omega)]
    have zy : ∀ p, mm ≤ p → p < 4 → upd (rPres (mergeA m mm x y) x) (36 + 7 * x) (mergeA m mm x y (36 + 7 * x) + mergeA m mm x y (36 + 7 * y)) (18 + 4 * p + y) = 0 := fun p h1 h2 => by
      rw [upd_ne (by omega), rPres_ne (by omega), an _ (by omega) (by omega) (fun q hq => by omega), sy1 p h2, sy3 p h1 h2]
      rfl
    rw [u_closes hn (by rw [upd_ne (by omega), rPres_ne (by omega), q0]) b2 hy zy, Option.bind_some, mgK]
    have comm : ∀ k, k < 134 → rClose (upd (rPres (mergeA m mm x y) x) (36 + 7 * x) (mergeA m mm x y (36 + 7 * x) + mergeA m mm x y (36 + 7 * y))) y k = mergeC m mm x y k := by
      have hD : AgD (fun i => i = 39 + 7 * x) (rClose (upd (rPres (mergeA m mm x y) x) (36 + 7 * x) (mergeA m mm x y (36 + 7 * x) + mergeA m mm x y (36 + 7 * y))) y) (rClose (upd (mergeA m mm x y) (36 + 7 * x) (mergeA m mm x y (36 + 7 * x) + mergeA m mm x y (36 + 7 * y))) y) := ag_rClose (ag_upd (fun i _ hi => rPres_ne hi) rfl)
      intro k hk
      unfold mergeC
      by_cases e : k = 39 + 7 * x
      · subst e
        rw [rClose_ne (by omega) (fun p hp => by omega), upd_ne (by omega)]
        unfold rPres
        rw [upd_eq, upd_eq, rClose_ne (show ¬ (34 + 7 * y ≤ 39 + 7 * x ∧ 39 + 7 * x < 41 + 7 * y) by omega) (fun p hp => by omega), upd_ne (show 39 + 7 * x ≠ 36 + 7 * x by omega)]
        refine pres_congr (fun p hp => ?_) (PrOk_pres b2 pr)
        rw [rClose_ne (by omega) (fun q hq => by omega), upd_ne (by omega)]
      · rw [rPres_ne e]
        exact hD k hk e
    rw [mput_congr comm]
    have e0 : mergeC m mm x y 0 = Int32.ofNat mm := by rw [← comm 0 (by omega), rClose_ne (by omega) (fun p hp => by omega), upd_ne (by omega), rPres_ne (by omega), q0]
    have e1' : mergeC m mm x y 1 = Int32.ofNat t := by rw [← comm 1 (by omega), rClose_ne (by omega) (fun p hp => by omega), upd_ne (by omega), rPres_ne (by omega), an 1 (by omega) (by omega) (fun p hp => by omega), e1]
    rw [u_ends (mm := mm) (t := t) e0 (by omega) ht e1', Option.bind_some, mgK, u_of_2 hx, Option.bind_some, rMerge_eq]
