theorem ag_cMerge {D : Nat → Prop} {mm x y : Nat} {g m : Row} (hD : DOk D mm) (hA : AgD D g m) (hx : x < 4) (hy : y < 4) : cMerge g x y ↔ cMerge m x y := by
  unfold cMerge
  rw [ag_bank hD hA hx, ag_exch hD hA hy, ag0 hD hA (show 3 < 134 by omega) (by omega), ag0 hD hA (show 1 < 134 by omega) (by omega), ag0 hD hA (show 34 + 7 * x < 134 by omega) (by omega), ag0 hD hA (show 34 + 7 * y < 134 by omega) (by omega), ag0 hD hA (show 39 + 7 * x < 134 by omega) (by omega), ag0 hD hA (show 39 + 7 * y < 134 by omega) (by omega)]
theorem ag_rMerge {D : Nat → Prop} {mm x y : Nat} {g m : Row} (hD : DOk D mm) (hA : AgD D g m) (hm : mm ≤ 4) (hx : x < 4) (hy : y < 4) (hxy : x ≠ y) (ho : PresOk g x) : AgD D (rMerge g mm x y) (rMerge m mm x y) := by
  rw [rMerge_eq, rMerge_eq]
  refine ag_rEnd hD ?_
  have hAA : AgD D (mergeA g mm x y) (mergeA m mm x y) := by
    unfold mergeA
    rw [ag0 hD hA (show 37 + 7 * y < 134 by omega) (by omega)]
    have : ∀ k, k ≤ mm → AgD D (zseq (mstep x y ((20 + 10 * m (37 + 7 * y)) / 2)) g k) (zseq (mstep x y ((20 + 10 * m (37 + 7 * y)) / 2)) m k) := by
      intro k
      induction k with
      | zero => intro _; exact hA
      | succ k ih =>
        intro hk
        have i := ih (by omega)
        show AgD D (mstep x y _ k (zseq _ g k)) (mstep x y _ k (zseq _ m k))
        generalize zseq (mstep x y ((20 + 10 * m (37 + 7 * y)) / 2)) g k = r1 at i ⊢
        generalize zseq (mstep x y ((20 + 10 * m (37 + 7 * y)) / 2)) m k = r2 at i ⊢
        unfold mstep
        rw [ag0 hD i (show 18 + 4 * k + y < 134 by omega) (by omega)]
        exact ag_rPay hD (ag_upd i (by rw [ag0 hD i (show 18 + 4 * k + x < 134 by omega) (by omega)])) (by omega) hm rfl
    exact this mm (Nat.le_refl mm)
  have an : ∀ i, 34 ≤ i → mergeA g mm x y i = g i := by
    intro i hi
    unfold mergeA
    exact zseq_lt (P := fun r : Row => r i = g i) (N := mm) rfl (fun k s hk hs => by rw [mstep_ne (Or.inr hi) (by omega) (by omega) hx, hs]) mm (Nat.le_refl mm)
  unfold mergeC
  refine ag_rPres hD (ag_rClose (ag_upd hAA ?_)) hx ?_
  · rw [ag0 hD hAA (show 36 + 7 * x < 134 by omega) (by omega), ag0 hD hAA (show 36 + 7 * y < 134 by omega) (by omega)]
  · unfold PresOk
    rw [rClose_ne (by omega) (fun p hp => by omega), upd_ne (by omega), an _ (by omega)]
    exact ho
theorem Lw_merge {n : Nat} {x y : Int32} {H : zH} : f_L_merge n 0 x y 131 H = Lw H (f_X5_merge n 0 x y H) (fun e h1 => if e = 1 then some (1, h1) else if e = 0 then some (2, h1) else if e = 2 then some (3, h1) else none) := rfl
theorem p_canMerge' {n x y : Nat} {h : zH} {b : Nat} {g : Row} (hn : 600 ≤ n) (hx : x < 4) (hy : y < 4) : (cMerge g x y → f_X1_canMerge n b (Int32.ofNat x) (Int32.ofNat y) (put h b g) = some 1) ∧ (¬ cMerge g x y → f_X1_canMerge n b (Int32.ofNat x) (Int32.ofNat y) (put h b g) = some 0) := by
  have e := p_canMerge (n := n) (h := h) (b := b) (g := g) (x := Int32.ofNat x) (y := Int32.ofNat y) hn (in_of hx (by omega)) (in_of hy (by omega))
  rw [nn_of (show x < 600 by omega), nn_of (show y < 600 by omega)] at e
  unfold cMerge
  exact ⟨fun q => by rw [e, if_pos q], fun q => by rw [e, if_neg q]⟩
theorem call_merge {n B : Nat} {x y : Int32} {H : zH} (hn : 50000 ≤ n) (hB : B ≤ 100000) (hR : REL B H) : CallOk n (f_L_merge n 0 x y 131 H) (f_X6_merge n 123 x y) (B + 1) := by
  obtain ⟨mm, k, L, g, m, pp, tx, w, st, hs, b, f, hb, hC, hR⟩ := hR
  obtain ⟨h', hH, h05⟩ := CS_H hC
  have hWF := hR.1
  have hA := hR.2.2.1
  have hWm := WF_ag hA hWF
  have hm4 := hWF.1.2.1
  obtain ⟨t, ht, et⟩ := hWF.1.2.2.2.1
  have z1 : ¬ (1 : Int32) = 0 := by decide
  obtain ⟨len, hl, h9, hA'⟩ := hA
  have emt : m 1 = Int32.ofNat t := by rw [← ag0 dead_ok hA' (by omega) (by omega), et]
  have hRs := Rel_mono hR (Nat.le_succ B)
  rw [Lw_merge]
  by_cases hxy : vp_in x 4 ∧ vp_in y 4
  · obtain ⟨hx, hy⟩ := hxy
    by_cases he : x = y
    · refine call_throw (e := 0) (code := 2) hb hC hRs ?_ rfl (by decide) (fun Hb => ?_)
      · unfold f_X5_merge
        rw [company_y hx, Option.bind_some]
        simp only [zlet]
        rw [if_neg z1, company_y hy, Option.bind_some, if_neg z1, if_pos he]
      · rw [e_X6_merge, u_company_y hx, Option.bind_some]
        simp only [zlet, if_neg z1, u_company_y hy, Option.bind_some, if_pos he, mgK, u_refk (show ¬ (2 : Int32) ≤ 0 by decide), zb2]
    · obtain ⟨i, hi, rfl⟩ := vp_ex hx
      obtain ⟨j, hj, rfl⟩ := vp_ex hy
      have hij : i ≠ j := fun q => he (by rw [q])
      have cb := p_canMerge' (n := n) (h := h') (b := 5) (g := g) (by omega) hi hj
      have ub := fun Hb => u_canMerge (n := n) (h := Hb) (m := m) (pp := pp) (tx := tx) (w := w) (hs := hs) (by omega) hWm.1.2.2.1 hm4 hi hj hWm.2.2.1
      have hag := ag_cMerge dead_ok hA' hi hj
      have clsStart : f_X5_merge n 0 (Int32.ofNat i) (Int32.ofNat j) H = ((f_X1_canMerge n 5 (Int32.ofNat i) (Int32.ofNat j) H).bind fun (r41 : Int32) => if r41 = 0 then (some (.inl 2, H)) else ((f_X5_saveState n 0 H).bind fun (h56 : zH) => (zgR h56 0 5 0).bind fun (v60 : Nat) => zrc h56 v60 1 <| (f_X1_mergeCompanies n v60 (Int32.ofNat i) (Int32.ofNat j) h56).bind fun (h65 : zH) => (zgR h65 0 5 0).bind fun (v69 : Nat) => (zgR h65 v69 1 2).bind fun (v72 : Nat) => (zar h65 v72 3 (Int32.ofNat i)).bind fun (v76 : Nat) => (zgI h65 v76 0 3).bind fun (v77 : Int32) => some (.inr v77, h65))) := by
        unfold f_X5_merge
        rw [company_y hx, Option.bind_some]
        simp only [zlet]
        rw [if_neg z1, company_y hy, Option.bind_some, if_neg z1, if_neg he, h05, Option.bind_some, (CS_z hC).2.1, (CS_z hC).1]
      by_cases hcb : cMerge g i j
      · obtain ⟨H1, e1, hC1⟩ := p_saveState (n := n) (by omega) hR.2.2.2.1 (WF_bools hWF) hC
        obtain ⟨h1', hH1, h105⟩ := CS_H hC1
        obtain ⟨h0, hcur, hcc⟩ := CS_cur hC1
        obtain ⟨h2, hput, hcu⟩ := Cur_mk hcur
        have oi : g (34 + 7 * i) = 1 := by
          rcases (hWF.2.2.1 i hi).2.2.2 with ⟨q, _⟩ | ⟨q, _⟩
          · exact q
          · exact absurd q hcb.2.1
        obtain ⟨nw, nm⟩ := merge_wf hWF hR.2.1.1 hB hcb.1 hi hj hij oi hcb.2.2.2.2.2
        have po := PrOk_pres hm4 (hWF.2.2.1 i hi).2.1
        have bs := p_mergeCompanies (n := n) (h := h2) (b := 5) (g := g) (m := mm) (x := Int32.ofNat i) (y := Int32.ofNat j) (by omega) hx hy hWF.1.2.2.1 hm4 (by rw [nn_of (show i < 600 by omega), nn_of (show j < 600 by omega)]; exact hij) (by rw [nn_of (show i < 600 by omega)]; exact po)
        rw [nn_of (show i < 600 by omega), nn_of (show j < 600 by omega)] at bs
        have hC2 := hcc _ _ (hcu (rMerge g mm i j))
        have hag2 := ag_rMerge dead_ok hA' hm4 hi hj hij po
        refine call_okE (mm' := mm) (v := rMerge g mm i j (36 + 7 * i)) (H' := put h2 5 (rMerge g mm i j)) hb hC hC2 ?_ (fun Hb => ?_)
        · rw [clsStart]
          conv => lhs; rw [hH, cb.1 hcb, Option.bind_some, if_neg z1, ← hH]
          rw [e1, Option.bind_some, h105, Option.bind_some, hput, gK_0, bs, Option.bind_some, (CS_z hC2).2.2, Option.bind_some, gR_2, Option.bind_some, gA_c hx, nn_of (by omega), Option.bind_some, gC_3 hi, Option.bind_some]
        · obtain ⟨pp', w', es, w22, w21, w20, hsv⟩ := saves_ok (n := n) (hs := hs) (by omega) hR Hb
          have hcm := hag.mp hcb
          have e9' : rMerge g mm i j 9 = g 9 := by
            rw [rMerge_eq, rEnd9]
            unfold mergeC
            rw [rPres_ne (by omega), rClose_ne (by omega) (fun p hp => by omega), upd_ne (by omega)]
            unfold mergeA
            exact zseq_lt (P := fun r : Row => r 9 = g 9) (N := mm) rfl (fun k s hk hs => by rw [mstep_ne (by omega) (by omega) (by omega) hi, hs]) mm (Nat.le_refl mm)
          refine ⟨rMerge m mm i j, pp', w', hs, ?_, w22, mkRel hR (Nat.le_succ B) nw ⟨nm, zw_merge hm4 hi hj hij oi hR.2.1.2⟩ (AgW_of hl (by rw [e9', h9]) hag2) w21 w20 hsv rfl rfl⟩
          rw [e_X6_merge, u_company_y hx, Option.bind_some]
          simp only [zlet, if_neg z1, u_company_y hy, Option.bind_some, if_neg he, mgK, (ub Hb).1 hcm, u_ref0, zb2, if_true, es, u_price hj]
          rw [u_merging (by omega) hWm emt ht hi hj hij hcm.2.2.2.2.2, ag0 dead_ok hag2 (show 36 + 7 * i < 134 by omega) (by omega)]
      · refine call_throw (e := 2) (code := 3) hb hC hRs ?_ rfl (by decide) (fun Hb => ?_)
        · rw [clsStart]
          conv => lhs; rw [hH, cb.2 hcb, Option.bind_some, if_pos rfl, ← hH]
        · rw [e_X6_merge, u_company_y hx, Option.bind_some]
          simp only [zlet, if_neg z1, u_company_y hy, Option.bind_some, if_neg he, mgK, (ub Hb).2 (fun q => hcb (hag.mpr q)), if_true, u_refk (show ¬ (3 : Int32) ≤ 0 by decide), zb2]
  · refine call_throw (e := 1) (code := 1) hb hC hRs ?_ rfl (by decide) (fun Hb => ?_)
    · unfold f_X5_merge
      by_cases hx : vp_in x 4
      · rw [company_y hx, Option.bind_some]
        simp only [zlet]
        rw [if_neg z1, company_n (fun q => hxy ⟨hx, q⟩), Option.bind_some, if_pos rfl]
      · rw [company_n hx, Option.bind_some]
        simp only [zlet, if_true]
    · by_cases hx : vp_in x 4
      · rw [e_X6_merge, u_company_y hx, Option.bind_some]
        simp only [zlet, if_neg z1, u_company_n (fun q => hxy ⟨hx, q⟩), Option.bind_some, if_true, mgK, u_refk (show ¬ (1 : Int32) ≤ 0 by decide), zb2]
      · rw [e_X6_merge, u_company_n hx, Option.bind_some]
        simp only [zlet, if_true, mgK, u_refk (show ¬ (1 : Int32) ≤ 0 by decide), zb2, Option.bind_some, if_neg z1]
theorem next_co {g : Row} {mm : Nat} (h : WF g mm) : (g 3 = 0 ∧ nextC g = -1) ∨ (g 3 = 1 ∧ ∃ c home S, c < 4 ∧ nextC g = Int32.ofNat c ∧ g (34 + 7 * c) = 1 ∧ CoOk g c home S ∧ 2 ≤ S) := by
  obtain ⟨hb, ⟨len, pl, o, hl, hpl, e9, e4, ho, hop⟩, hw, hL⟩ := h
  rcases hb.2.2.2.2.1 with h3 | h3
  · refine Or.inl ⟨h3, ?_⟩
    unfold nextC
    rw [if_pos h3]
  · obtain ⟨q1, q2, q3⟩ := hop h3
    have hc := ho pl q1
    have oc := q2 pl (Nat.le_refl _) q1
    rcases (hw (o pl) hc.1).2.2.2 with ⟨_, home, S, hco, h2⟩ | ⟨a, _⟩
    · refine Or.inr ⟨h3, o pl, home, S, hc.1, ?_, oc, hco, h2⟩
      unfold nextC
      rw [if_neg (by rw [h3]; decide), e9, e4, if_neg (i32_ge q1 (by omega)), nn_of (by omega), hc.2]
    · rw [oc] at a
      exact absurd a (by decide)
theorem Lw_extend {n : Nat} {H : zH} : f_L_extend n 0 131 H = Lw H (f_X5_extend n 0 H) (fun e h1 => if e = 2 then some (1, h1) else none) := rfl
theorem ag_extC {D : Nat → Prop} {mm c : Nat} {g m : Row} (hD : DOk D mm) (hA : AgD D g m) (hc : c < 4) : AgD D (extC g c) (extC m c) := by
  unfold extC
  exact ag_upd (ag_upd (ag_rCPay hD hA hc rfl) (by rw [ag0 hD hA (show 38 + 7 * c < 134 by omega) (by omega)])) rfl
theorem call_extend {n B : Nat} {H : zH} (hn : 50000 ≤ n) (hB : B ≤ 100000) (hR : REL B H) : CallOk n (f_L_extend n 0 131 H) (f_X6_extend n 123) B := by
  obtain ⟨mm, k, L, g, m, pp, tx, w, st, hs, b, f, hb, hC, hR⟩ := hR
  obtain ⟨h', hH, h05⟩ := CS_H hC
  have hWF := hR.1
  have hA := hR.2.2.1
  have hWm := WF_ag hA hWF
  have z1 : ¬ (1 : Int32) = 0 := by decide
  have enc := ag_nextC hWF hA
  have nok := NextOk_of hWF
  obtain ⟨len, hl, h9, hA'⟩ := id hA
  have ce := p_canExtend (n := n) (h := h') (b := 5) nok
  have cls : f_X5_extend n 0 H = ((f_X1_canExtend n 5 H).bind fun (r4 : Int32) => if r4 = 0 then (some (.inl 2, H)) else ((f_X5_saveState n 0 H).bind fun (h19 : zH) => (zgR h19 0 5 0).bind fun (v23 : Nat) => zrc h19 v23 1 <| zb2 (f_X1_extendNext n v23 h19) fun (r26 : Int32) (h26 : zH) => some (.inr r26, h26))) := by
    unfold f_X5_extend
    rw [h05, Option.bind_some, (CS_z hC).2.1, (CS_z hC).1]
  rw [Lw_extend]
  have refuse : ¬ (nextC g ≠ -1 ∧ g 8 = 0 ∧ ¬ 5 ≤ g (38 + 7 * (nextC g).toNatClampNeg) ∧ ¬ g (36 + 7 * (nextC g).toNatClampNeg) < 60) → (∀ Hb, f_X6_extend n 123 (mput Hb m pp tx w hs) = some (0, mput Hb m pp tx (upd w 22 1) hs)) → CallOk n (Lw H (f_X5_extend n 0 H) (fun e h1 => if e = 2 then some (1, h1) else none)) (f_X6_extend n 123) B := fun hno hmo => by
    refine call_throw (e := 2) (code := 1) hb hC hR ?_ rfl (by decide) hmo
    rw [cls]
    conv => lhs; rw [hH, ce, if_neg hno, Option.bind_some, if_pos rfl, ← hH]
  rcases next_co hWF with ⟨h3, hnc⟩ | ⟨h3, c, home, S, hc, hnc, oc, hco, hS2⟩
  · refine refuse (fun q => q.1 hnc) (fun Hb => ?_)
    unfold f_X6_extend
    rw [mgK, u_next hWm.2.1 hWm.1.2.2.2.2.1, ← enc, hnc, Option.bind_some]
    simp only [zlet, if_true, mgK, u_refk (show ¬ (1 : Int32) ≤ 0 by decide), zb2, Option.bind_some, if_neg z1]
  · have hne := ofNat_ne_neg (show c < 599 by omega)
    have mco : CoOk m c home S := CoOk_congr (ag0 dead_ok hA' (by omega) (by omega)).symm (ag0 dead_ok hA' (by omega) (by omega)).symm hco
    have hS5 := hco.2.2.2.2
    have e5 : (m (38 + 7 * c) = 5) = (S = 5) := by rw [mco.2.1]; exact i32_eq_of (b := 5) (by omega) (by omega)
    have g5 : (5 ≤ g (38 + 7 * c)) = (5 ≤ S) := by rw [hco.2.1]; exact i32_le_of (a := 5) (by omega) (by omega)
    have a8 : m 8 = g 8 := (ag0 dead_ok hA' (by omega) (by omega)).symm
    have a36 : m (36 + 7 * c) = g (36 + 7 * c) := (ag0 dead_ok hA' (by omega) (by omega)).symm
    have g8 := hWF.1.2.2.2.2.2.1
    rw [hnc, nn_of (show c < 600 by omega)] at ce refuse
    have mod : ∀ (Hb : zH), f_X6_extend n 123 (mput Hb m pp tx w hs) = if S = 5 then some (0, mput Hb m pp tx (upd w 22 1) hs) else if g 8 = 1 then some (0, mput Hb m pp tx (upd w 22 1) hs) else if 60 ≤ g (36 + 7 * c) then ((f_X6_saves n 123 (mput Hb m pp tx (upd w 22 0) hs)).bind fun (h57 : zH) => zrc h57 123 6 <| (f_X6_earns n 123 (Int32.ofNat c) (-60 : Int32) h57).bind fun (h64 : zH) => (zgR h64 123 6 0).bind fun (v68 : Nat) => (zai h64 v68 (((34 : Int32) + ((7 : Int32) * Int32.ofNat c)) + (4 : Int32))).bind fun (v81 : Int32) => (zsi h64 v68 (((34 : Int32) + ((7 : Int32) * Int32.ofNat c)) + (4 : Int32)) (v81 + (1 : Int32))).bind fun (h84 : zH) => (zgR h84 123 6 0).bind fun (v86 : Nat) => (zsi h84 v86 (8 : Int32) (1 : Int32)).bind fun (h92 : zH) => zrc h92 123 6 <| (f_X6_of n 123 (Int32.ofNat c) (4 : Int32) h92).bind fun (r96 : Int32) => some (r96, h92)) else some (0, mput Hb m pp tx (upd w 22 1) hs) := by
      intro Hb
      unfold f_X6_extend
      rw [mgK, u_next hWm.2.1 hWm.1.2.2.2.2.1, ← enc, hnc, Option.bind_some]
      simp only [zlet, if_neg hne, mgK, u_of_4 hc, e5, u_of_2 hc, mgR_0, mN_8, a8, a36, Option.bind_some, u_refk (show ¬ (1 : Int32) ≤ 0 by decide), u_ref0, zb2, if_neg z1, if_true]
    by_cases c1 : S = 5
    · exact refuse (fun q => q.2.2.1 (by rw [g5]; omega)) (fun Hb => by rw [mod, if_pos c1])
    · by_cases c2 : g 8 = 1
      · exact refuse (fun q => by rw [c2] at q; exact absurd q.2.1 (by decide)) (fun Hb => by rw [mod, if_neg c1, if_pos c2])
      · by_cases c3 : 60 ≤ g (36 + 7 * c)
        · have g80 := g8.resolve_right c2
          obtain ⟨nw, nm⟩ := ext_wf hWF hR.2.1.1 hB hc oc hco hS2 (show S < 5 by omega) (Int32.not_lt.mpr c3)
          obtain ⟨H1, e1, hC1⟩ := p_saveState (n := n) (by omega) hR.2.2.2.1 (WF_bools hWF) hC
          obtain ⟨h1', hH1, h105⟩ := CS_H hC1
          obtain ⟨h0, hcur, hcc⟩ := CS_cur hC1
          obtain ⟨h2, hput, hcu⟩ := Cur_mk hcur
          have bs := p_extendNext (n := n) (h := h2) (b := 5) nok (by rw [hnc]; exact hne)
          rw [rExtend_eq hnc hc, hnc, nn_of (show c < 600 by omega)] at bs
          have hag2 := ag_extC dead_ok hA' hc
          refine call_okE (mm' := mm) (v := g (38 + 7 * c) + 1) (H' := put h2 5 (extC g c)) hb hC (hcc _ _ (hcu _)) ?_ (fun Hb => ?_)
          · rw [cls]
            conv => lhs; rw [hH, ce, if_pos ⟨hne, g80, by rw [g5]; omega, Int32.not_lt.mpr c3⟩, Option.bind_some, if_neg z1, ← hH]
            rw [e1, Option.bind_some, h105, Option.bind_some, hput, gK_0, bs]
            rfl
          · obtain ⟨pp', w', es, w22, w21, w20, hsv⟩ := saves_ok (n := n) (hs := hs) (by omega) hR Hb
            refine ⟨extC m c, pp', w', hs, ?_, w22, mkRel hR (Nat.le_refl B) nw ⟨nm, zw_ext oc hc hR.2.1.2⟩ (AgW_of hl (by rw [extC_ne (by omega) (by omega) (by omega) (by omega), h9]) hag2) w21 w20 hsv rfl rfl⟩
            rw [mod, if_neg c1, if_neg c2, if_pos c3, es, Option.bind_some, mgK, u_earns hc, Option.bind_some, mgR_0, Option.bind_some, ixc_4, mN (show 38 + 7 * c < 134 by omega), Option.bind_some, mNs (show 38 + 7 * c < 134 by omega), Option.bind_some, mgR_0, Option.bind_some, mNs_8, Option.bind_some, mgK, u_of_4 hc, Option.bind_some]
            rw [show -(-60 : Int32) = 60 from by decide, rCPay_ne (by omega) (by omega)]
            rw [show upd (upd (rCPay m c 60) (38 + 7 * c) (m (38 + 7 * c) + 1)) 8 1 = extC m c from rfl]
            have e38 : extC m c (38 + 7 * c) = m (38 + 7 * c) + 1 := by
              unfold extC
              rw [upd_ne (by omega), upd_eq]
            rw [e38, ag0 dead_ok hA' (show 38 + 7 * c < 134 by omega) (by omega)]
        · exact refuse (fun q => q.2.2.2 (Int32.not_le.mp c3)) (fun Hb => by rw [mod, if_neg c1, if_neg c2, if_neg c3])
theorem zb2_s {α β γ : Type} {a : α} {b : β} {F : α → β → Option γ} : zb2 (some (a, b)) F = F a b := rfl
theorem call_throwE {n B mm k L e : Nat} {g m pp tx w : Row} {st : Nat → Row} {hs : Int64} {b H H' : zH} {f : Nat → Int64} {o : Option zO2} {X : Nat → zH → Option (Int32 × zH)} {mf : zH → Option (Int32 × zH)} {code : Int32} (hb : Bout b f) (hC : CS (mput b m pp tx w hs) st k (Int32.ofNat L) tx g H) (hC' : CS (mput b m pp tx w hs) st k (Int32.ofNat L) tx g H') (hR : Rel B mm k L g m pp tx w st) (ho : o = some (.inl e, H')) (hX : X e H' = some (code, H')) (hc : code ≠ 0) (hm : ∀ Hb, mf (mput Hb m pp tx w hs) = some (0, mput Hb m pp tx (upd w 22 code) hs)) : CallOk n (Lw H o X) mf B := by
  have e : Lw H o X = Lw H' o X := by
    unfold Lw
    rw [(CS_z hC).1, (CS_z hC').1]
  rw [e]
  exact call_throw hb hC' hR ho hX hc hm
theorem ag_rEarn {D : Nat → Prop} {mm c home S X B : Nat} {g m : Row} {pays : Bool} (hD : DOk D mm) (hA : AgD D g m) (h : WF g mm) (hM : MonW g mm B) (hB : B ≤ 100000) (hc : c < 4) (ho : g (34 + 7 * c) = 1) (hco : CoOk g c home S) (hX : X ≤ 475) : AgD D (rEarn g mm c (Int32.ofNat X) pays) (rEarn m mm c (Int32.ofNat X) pays) ∧ rEarn g mm c (Int32.ofNat X) pays 9 = g 9 := by
  have hm := h.1.2.1
  obtain ⟨w1, m1, f1, c1, o1⟩ := earnA_spec (pays := pays) hm hc h.2.2.1 ho hco hX hM hB
  obtain ⟨w2, m2, f2, z2⟩ := upkeep_spec o1 hm hc c1 w1 m1 (by omega)
  have f := Fr_trans f1 f2
  rw [rEarn_eq, rEarn_eq]
  have a1 : AgD D (earnA g mm c (Int32.ofNat X) pays) (earnA m mm c (Int32.ofNat X) pays) := by
    unfold earnA
    split
    · exact ag_rPaid hD (ag_upd hA rfl) hm hc
    · exact ag_rFall hD (ag_rCPay hD (ag_upd hA rfl) hc rfl) hc
  have a2 := ag_rUpkeep hD a1 hm hc (CoW_pa hm w1) (w1 c hc).2.1
  refine ⟨ag_rOver hD (ag_upd (ag_upd a2 rfl) (by rw [ag0 hD a2 (by omega) (by omega)])), ?_⟩
  have e9 := f.1 9 (by omega) (by omega) (by omega)
  unfold rOver
  split
  · rw [upd_ne (by omega), upd_ne (by omega), e9]
  · rw [upd_ne (by omega), upd_ne (by omega), upd_ne (by omega), upd_ne (by omega), upd_ne (by omega), e9]
theorem Lw_operate {n : Nat} {x y z : Int32} {H : zH} : f_L_operate n 0 x y z 131 H = Lw H (f_X5_operate n 0 x y z H) (fun e h1 => if e = 1 then some (1, h1) else if e = 0 then some (2, h1) else if e = 2 then some (3, h1) else none) := rfl
def opE (n : Nat) (x y z : Int32) (h68 : zH) : Option zO2 := zrc h68 0 5 <| (f_X5_saveState n 0 h68).bind fun (h83 : zH) => (zgR h83 0 5 0).bind fun (v87 : Nat) => zrc h83 v87 1 <| zb2 (f_X1_operateNext n v87 x y z h83) fun (r93 : Int32) (h93 : zH) => some (.inr r93, h93)
def opK (n : Nat) (x y z : Int32) (H : zH) : Option zO2 := (zgR H 0 5 0).bind fun (v63 : Nat) => zrc H v63 1 <| zb2 (f_X1_canOperate n v63 x y H) fun (r68 : Int32) (h68 : zH) => if r68 = 0 then (some (.inl 2, h68)) else opE n x y z h68
def opR (n : Nat) (x y z : Int32) (h69 : zH) : Option (Int32 × zH) := zrc h69 123 6 <| (f_X6_saves n 123 h69).bind fun (h78 : zH) => zrc h78 123 6 <| zb2 (f_X6_operates n 123 x y z h78) fun (r85 : Int32) (h85 : zH) => some (r85, h85)
def opM (n : Nat) (x y z s : Int32) (h : zH) : Option (Int32 × zH) := zrc h 123 6 <| zb2 (f_X6_refused n 123 s h) fun (r69 : Int32) (h69 : zH) => if r69 = 0 then opR n x y z h69 else (some ((0 : Int32), h69))
def opC (n : Nat) (x y z : Int32) (h : zH) : Option (Int32 × zH) := zrc h 123 6 <| (f_X6_canOperate n 123 x y h).bind fun (r58 : Int32) => if r58 = 0 then opM n x y z 3 h else opM n x y z 0 h
theorem e_op5 {n : Nat} {x y z : Int32} {H : zH} : f_X5_operate n 0 x y z H = zlet (fun (s0_15 : Int32) => zlet (zlet (opK n x y z H) fun K62 => if s0_15 = 0 then (K62) else (if x = y then (some (.inl 0, H)) else (K62))) fun K44 => if s0_15 = 0 then (K44) else ((f_X5_isTown n x H).bind fun (r23 : Int32) => zlet (some (.inl 1, H)) fun K36 => if r23 = 0 then (K36) else ((f_X5_isTown n y H).bind fun (r30 : Int32) => if r30 = 0 then (K36) else (K44)))) fun K15 => zlet (K15 (1 : Int32)) fun K10 => if x = (-1 : Int32) then (if y = (-1 : Int32) then (K15 (0 : Int32)) else (K10)) else (K10) := rfl
theorem e_op6 {n : Nat} {x y z : Int32} {h : zH} : f_X6_operate n 123 x y z h = zlet (fun (s0_15 : Int32) => zlet (zlet (opC n x y z h) fun K55 => if s0_15 = 0 then (if x = y then (opM n x y z 2 h) else (K55)) else (K55)) fun K41 => if s0_15 = 0 then ((f_X6_isTown n x h).bind fun (r24 : Int32) => zlet (opM n x y z 1 h) fun K37 => if r24 = 0 then (K37) else ((f_X6_isTown n y h).bind fun (r31 : Int32) => if r31 = 0 then (K37) else (K41))) else (K41)) fun K15 => zlet (K15 (0 : Int32)) fun K14 => if x = (-1 : Int32) then (if y = (-1 : Int32) then (K15 (1 : Int32)) else (K14)) else (K14) := rfl
theorem opM_0 {n : Nat} {x y z : Int32} {Hb : zH} {m pp tx w : Row} {hs : Int64} : opM n x y z 0 (mput Hb m pp tx w hs) = opR n x y z (mput Hb m pp tx (upd w 22 0) hs) := by
  unfold opM zb2
  rw [mgK, u_ref0, Option.bind_some]
  exact if_pos rfl
theorem opM_k {n : Nat} {x y z s : Int32} {Hb : zH} {m pp tx w : Row} {hs : Int64} (h : ¬ s ≤ 0) : opM n x y z s (mput Hb m pp tx w hs) = some (0, mput Hb m pp tx (upd w 22 s) hs) := by
  unfold opM zb2
  rw [mgK, u_refk h, Option.bind_some]
  exact if_neg (show ¬ (1 : Int32) = 0 by decide)
theorem op_fin {n B mm k L : Nat} {g g' m m' pp tx w : Row} {st : Nat → Row} {hs : Int64} {b H H2 : zH} {f : Nat → Int64} {x y z v : Int32} {X : Nat → zH → Option (Int32 × zH)} (hn : 50000 ≤ n) (hb : Bout b f) (hC : CS (mput b m pp tx w hs) st k (Int32.ofNat L) tx g H) (hC2 : CS (mput b m pp tx w hs) st k (Int32.ofNat L) tx g H2) (hR : Rel B mm k L g m pp tx w st) (hcls : f_X5_operate n 0 x y z H = opE n x y z H2) (hop : ∀ h0 H3, Cur h0 5 g H3 → ∃ H4, f_X1_operateNext n 5 x y z H3 = some (v, H4) ∧ Cur h0 5 g' H4) (hmod : ∀ Hb, f_X6_operate n 123 x y z (mput Hb m pp tx w hs) = opR n x y z (mput Hb m pp tx (upd w 22 0) hs)) (hm : ∀ h pp w, ∃ w', f_X6_operates n 123 x y z (mput h m pp tx w hs) = some (v, mput h m' pp tx w' hs) ∧ sameW w w') (hW : WF g' mm) (hZ : MonZ g' mm (B + 1)) (hG : AgW mm g' m') : CallOk n (Lw H (f_X5_operate n 0 x y z H) X) (f_X6_operate n 123 x y z) (B + 1) := by
  obtain ⟨H3, e1, hC3⟩ := p_saveState (n := n) (by omega) hR.2.2.2.1 (WF_bools hR.1) hC2
  obtain ⟨h0, hcur, hcc⟩ := CS_cur hC3
  obtain ⟨H4, e2, hcu⟩ := hop h0 H3 hcur
  refine call_okE (mm' := mm) (v := v) (H' := H4) hb hC (hcc _ _ hcu) ?_ (fun Hb => ?_)
  · rw [hcls]
    unfold opE zb2
    rw [(CS_z hC2).1, e1, Option.bind_some, (CS_z hC3).2.2, Option.bind_some, (CS_z hC3).2.1, e2, Option.bind_some]
  · obtain ⟨pp', w', es, w22, w21, w20, hsv⟩ := saves_ok (n := n) (hs := hs) (by omega) hR Hb
    obtain ⟨w'', eo, hk⟩ := hm Hb pp' w'
    refine ⟨m', pp', w'', hs, ?_, by rw [hk 22 (by omega) (by omega) (by omega), w22], mkRel hR (Nat.le_succ B) hW hZ hG w21 w20 hsv (hk 20 (by omega) (by omega) (by omega)) (hk 21 (by omega) (by omega) (by omega))⟩
    rw [hmod]
    unfold opR zb2
    rw [mgK, es, Option.bind_some, mgK, eo, Option.bind_some]
theorem p_canOp {n x1 : Nat} {H : zH} {g : Row} {h0 : zH} {i j : Nat} (hn : 600 ≤ n) (hno : NextOk g) (hi : i < 8) (hj : j < 8) (hcur : Cur h0 5 g H) : (nextC g = -1 → f_X1_canOperate n 5 (Int32.ofNat i) (Int32.ofNat j) H = some (0, H)) ∧ ∀ c home S, c < 4 → nextC g = Int32.ofNat c → CoOk g c home S → ∃ H', Cur h0 5 g H' ∧ f_X1_canOperate n 5 (Int32.ofNat i) (Int32.ofNat j) H = some (if layB g c home i j = true then 1 else 0, H') := by
  have z1 : ¬ (1 : Int32) = 0 := by decide
  obtain ⟨h', hput, hcu⟩ := Cur_mk hcur
  refine ⟨fun q => ?_, fun c home S hc hnc hco => ?_⟩
  · unfold f_X1_canOperate
    rw [hput, gK_0, p_nextCompany hno.1, q, Option.bind_some, if_pos rfl]
  · obtain ⟨H', r, e, hC', hr⟩ := p_canLay (x := Int32.ofNat i) (y := Int32.ofNat j) hn (Nat.le_refl 5) hc hco hcur
    obtain ⟨h'', hput', _⟩ := Cur_mk hC'
    refine ⟨H', hC', ?_⟩
    have l1 : layI g c home (Int32.ofNat i) (Int32.ofNat j) ↔ layB g c home i j = true := by
      unfold layI
      rw [nn_of (show i < 600 by omega), nn_of (show j < 600 by omega), layB_iff]
      exact ⟨fun q => q.2.2, fun q => ⟨in_of hi (by omega), in_of hj (by omega), q⟩⟩
    unfold f_X1_canOperate
    rw [hput, gK_0, p_nextCompany hno.1, hnc, Option.bind_some, if_neg (ofNat_ne_neg (by omega))]
    simp only [zlet, if_neg (ofNat_ne_neg (show i < 599 by omega)), if_neg z1, gR_2, gA_c (in_of hc (show 4 < 600 by omega)), nn_of (show c < 600 by omega), Option.bind_some, gK_0]
    rw [← hput]
    rw [e, zb2_s]
    rcases hr with ⟨rfl, hl⟩ | ⟨rfl, hl⟩
    · rw [if_neg z1, if_pos (l1.mp hl)]
    · rw [if_pos rfl, if_neg (fun q => hl (l1.mpr q))]
theorem call_operate {n B : Nat} {x y z : Int32} {H : zH} (hn : 50000 ≤ n) (hB : B ≤ 100000) (hR : REL B H) : CallOk n (f_L_operate n 0 x y z 131 H) (f_X6_operate n 123 x y z) (B + 1) := by
  obtain ⟨mm, k, L, g, m, pp, tx, w, st, hs, b, f, hb, hC, hR⟩ := hR
  obtain ⟨h0, hcur, hcc⟩ := CS_cur hC
  have hWF := hR.1
  have hA := hR.2.2.1
  have hWm := WF_ag hA hWF
  have hm4 := hWF.1.2.1
  have z1 : ¬ (1 : Int32) = 0 := by decide
  have enc := ag_nextC hWF hA
  have nok := NextOk_of hWF
  have hRs := Rel_mono hR (Nat.le_succ B)
  obtain ⟨len, hl, h9, hA'⟩ := id hA
  have hpa := CoW_pa hm4 hWF.2.2.1
  have hMm : MonW m mm B := MonW_ag hm4 hA hR.2.1.1
  have hL := ag_land dead_ok hA'
  have a3 : m 3 = g 3 := (ag0 dead_ok hA' (by omega) (by omega)).symm
  rw [Lw_operate]
  by_cases hxy : x = -1 ∧ y = -1
  · obtain ⟨hx, hy⟩ := hxy
    have cls : f_X5_operate n 0 x y z H = opK n x y z H := by
      rw [e_op5]
      simp only [zlet, if_pos hx, if_pos hy, if_true]
    have mod : ∀ Hb, f_X6_operate n 123 x y z (mput Hb m pp tx w hs) = opC n x y z (mput Hb m pp tx w hs) := fun Hb => by
      rw [e_op6]
      simp only [zlet, if_pos hx, if_pos hy, if_neg z1]
    obtain ⟨h', hput, hcu⟩ := Cur_mk hcur
    rcases next_co hWF with ⟨h3, hnc⟩ | ⟨h3, c, home, S, hc, hnc, oc, hco, hS2⟩
    · refine call_throw (e := 2) (code := 3) hb hC hRs ?_ rfl (by decide) (fun Hb => ?_)
      · rw [cls]
        unfold opK
        rw [(CS_z hC).2.2, Option.bind_some, (CS_z hC).2.1]
        unfold f_X1_canOperate
        rw [(CS_z hC).2.1]
        have e := p_nextCompany (n := n) (h := h') (b := 5) nok.1
        rw [← hput] at e
        rw [e, hnc, Option.bind_some, if_pos rfl]
        rw [zb2_s, if_pos rfl]
      · rw [mod]
        unfold opC
        rw [mgK, u_canOperate0 hx, a3, if_pos h3, Option.bind_some, if_pos rfl, opM_k (by decide)]
    · have mco : CoOk m c home S := CoOk_congr (ag0 dead_ok hA' (by omega) (by omega)).symm (ag0 dead_ok hA' (by omega) (by omega)).symm hco
      have h3n : ¬ g 3 = 0 := by rw [h3]; decide
      have m3 : m 3 = 1 := by rw [a3, h3]
      have mnc : nextC m = Int32.ofNat c := by rw [← enc, hnc]
      obtain ⟨X, hX, eX⟩ := inc_num hc hco hWF.2.2.2.2.2.2
      have eX' : incS m home S = Int32.ofNat X := by rw [← inc_congr hL, eX]
      obtain ⟨a1, a2⟩ := ag_rEarn (pays := decide (z ≠ 0)) dead_ok hA' hWF hR.2.1.1 hB hc oc hco hX
      obtain ⟨q1, q2, q3⟩ := earn_wf (pays := decide (z ≠ 0)) hWF hR.2.1.1 hB h3 hc hnc hco hX hR.2.1.2
      refine op_fin (v := incS g home S) (g' := rEarn g mm c (Int32.ofNat X) (decide (z ≠ 0))) (m' := rEarn m mm c (Int32.ofNat X) (decide (z ≠ 0))) hn hb hC hC hR ?_ (fun h1 H3 hcu3 => ?_) (fun Hb => ?_) (fun h1 pp' w1 => ?_) q1 ⟨q2, q3⟩ (AgW_of hl (by rw [a2, h9]) a1)
      · rw [cls]
        unfold opK
        rw [(CS_z hC).2.2, Option.bind_some, (CS_z hC).2.1]
        unfold f_X1_canOperate
        rw [(CS_z hC).2.1]
        have e := p_nextCompany (n := n) (h := h') (b := 5) nok.1
        rw [← hput] at e
        rw [e, hnc, Option.bind_some, if_neg (ofNat_ne_neg (by omega))]
        simp only [zlet, if_pos hx, if_pos hy, if_true]
        rw [zb2_s, if_neg z1]
      · rw [hx, hy, ← eX]
        exact p_operateNext0 (by omega) (Nat.le_refl 5) hc hWF.2.2.2.1 hco hpa hWF.1.2.2.1 hm4 nok hnc hcu3
      · rw [mod]
        unfold opC
        rw [mgK, u_canOperate0 hx, a3, if_neg h3n, Option.bind_some, if_neg z1, opM_0]
      · rw [eX, ← eX']
        exact u_operates0 hx hn hWm hMm hB m3 hc mnc mco
  · have cls0 : ∀ {r}, (zlet (zlet (opK n x y z H) fun K62 => if (1 : Int32) = 0 then (K62) else (if x = y then (some (.inl 0, H)) else (K62))) fun K44 => if (1 : Int32) = 0 then (K44) else ((f_X5_isTown n x H).bind fun (r23 : Int32) => zlet (some (.inl 1, H)) fun K36 => if r23 = 0 then (K36) else ((f_X5_isTown n y H).bind fun (r30 : Int32) => if r30 = 0 then (K36) else (K44)))) = r → f_X5_operate n 0 x y z H = r := fun {r} q => by
      rw [e_op5]
      simp only [zlet] at q ⊢
      by_cases c1 : x = -1
      · rw [if_pos c1, if_neg (fun c2 => hxy ⟨c1, c2⟩), q]
      · rw [if_neg c1, q]
    have mod0 : ∀ {Hb r}, (zlet (zlet (opC n x y z (mput Hb m pp tx w hs)) fun K55 => if (0 : Int32) = 0 then (if x = y then (opM n x y z 2 (mput Hb m pp tx w hs)) else (K55)) else (K55)) fun K41 => if (0 : Int32) = 0 then ((f_X6_isTown n x (mput Hb m pp tx w hs)).bind fun (r24 : Int32) => zlet (opM n x y z 1 (mput Hb m pp tx w hs)) fun K37 => if r24 = 0 then (K37) else ((f_X6_isTown n y (mput Hb m pp tx w hs)).bind fun (r31 : Int32) => if r31 = 0 then (K37) else (K41))) else (K41)) = r → f_X6_operate n 123 x y z (mput Hb m pp tx w hs) = r := fun {Hb r} q => by
      rw [e_op6]
      simp only [zlet] at q ⊢
      by_cases c1 : x = -1
      · rw [if_pos c1, if_neg (fun c2 => hxy ⟨c1, c2⟩), q]
      · rw [if_neg c1, q]
    by_cases hq : vp_in x 8 ∧ vp_in y 8
    · obtain ⟨hx, hy⟩ := hq
      by_cases he : x = y
      · refine call_throw (e := 0) (code := 2) hb hC hRs ?_ rfl (by decide) (fun Hb => ?_)
        · refine cls0 ?_
          simp only [zlet, if_neg z1, town_y hx, town_y hy, Option.bind_some, if_pos he]
        · refine mod0 ?_
          simp only [zlet, if_true, u_town_y hx, u_town_y hy, Option.bind_some, if_pos he, if_neg z1]
          exact opM_k (by decide)
      · have cls : f_X5_operate n 0 x y z H = opK n x y z H := cls0 (by
          simp only [zlet, if_neg z1, town_y hx, town_y hy, Option.bind_some, if_neg he])
        have mod : ∀ Hb, f_X6_operate n 123 x y z (mput Hb m pp tx w hs) = opC n x y z (mput Hb m pp tx w hs) := fun Hb => mod0 (by
          simp only [zlet, if_true, u_town_y hx, u_town_y hy, Option.bind_some, if_neg he, if_neg z1])
        obtain ⟨i, hi, rfl⟩ := vp_ex hx
        obtain ⟨j, hj, rfl⟩ := vp_ex hy
        obtain ⟨k1, k2⟩ := p_canOp (n := n) (x1 := 0) (by omega) nok hi hj hcur
        rcases next_co hWF with ⟨h3, hnc⟩ | ⟨h3, c, home, S, hc, hnc, oc, hco, hS2⟩
        · refine call_throw (e := 2) (code := 3) hb hC hRs ?_ rfl (by decide) (fun Hb => ?_)
          · rw [cls]
            unfold opK
            rw [(CS_z hC).2.2, Option.bind_some, (CS_z hC).2.1, k1 hnc]
            rw [zb2_s, if_pos rfl]
          · rw [mod]
            unfold opC
            rw [mgK, u_canOperate_stock (by rw [a3, h3]), Option.bind_some, if_pos rfl, opM_k (by decide)]
        · have mco : CoOk m c home S := CoOk_congr (ag0 dead_ok hA' (by omega) (by omega)).symm (ag0 dead_ok hA' (by omega) (by omega)).symm hco
          have m3 : m 3 = 1 := by rw [a3, h3]
          have mnc : nextC m = Int32.ofNat c := by rw [← enc, hnc]
          have lc := lay_congr (c := c) (home := home) hi hj hL (ag0 dead_ok hA' (show 36 + 7 * c < 134 by omega) (by omega))
          have ucan := fun Hb => u_canOperate1 (n := n) (h := Hb) (pp := pp) (tx := tx) (w := w) (hs := hs) (by omega) hWm.2.1 m3 hc mnc mco hi hj
          rw [← lc] at ucan
          obtain ⟨H2, hcu2, e2⟩ := k2 c home S hc hnc hco
          have hC2 := hcc _ _ hcu2
          by_cases hlay : layB g c home i j = true
          · rw [if_pos hlay] at e2 ucan
            obtain ⟨tw, tm⟩ := track_wf hWF hR.2.1.1 hc hi hj hB hlay
            have tz := zw_track oc hc hi hj hR.2.1.2
            have at' := ag_rTrack dead_ok hA' hc hi hj
            have ne : ∀ k, k ≠ 6 → k ≠ 36 + 7 * c → k < 62 → rTrack g c i j k = g k := fun k a b d => by
              unfold rTrack
              rw [rCPay_ne b a, rLev_ne hi hj (Or.inl d)]
            have t3 : rTrack g c i j 3 = 1 := by rw [ne 3 (by omega) (by omega) (by omega), h3]
            have hpl : ∃ pl, pl < 4 ∧ g 4 = Int32.ofNat pl := by
              obtain ⟨_, ⟨len, pl, o, hl, hpl, e9, e4, ho, hop⟩, _⟩ := hWF
              exact ⟨pl, by have := (hop h3).1; omega, e4⟩
            have tnc : nextC (rTrack g c i j) = Int32.ofNat c := by
              rw [nextC_congr (ne 3 (by omega) (by omega) (by omega)) (ne 9 (by omega) (by omega) (by omega)) (ne 4 (by omega) (by omega) (by omega)) (fun k hk => ne _ (by omega) (by omega) (by omega)) hpl, hnc]
            have tco : CoOk (rTrack g c i j) c home S := CoOk_congr (ne _ (by omega) (by omega) (by omega)) (ne _ (by omega) (by omega) (by omega)) hco
            have toc : rTrack g c i j (34 + 7 * c) = 1 := by rw [ne _ (by omega) (by omega) (by omega), oc]
            obtain ⟨X, hX, eX⟩ := inc_num hc tco tw.2.2.2.2.2.2
            have eX' : incS (rTrack m c i j) home S = Int32.ofNat X := by rw [← inc_congr (ag_land dead_ok at'), eX]
            obtain ⟨a1, a2⟩ := ag_rEarn (pays := decide (z ≠ 0)) dead_ok at' tw tm hB hc toc tco hX
            obtain ⟨q1, q2, q3⟩ := earn_wf (pays := decide (z ≠ 0)) tw tm hB t3 hc tnc tco hX tz
            refine op_fin (v := incS (rTrack g c i j) home S) (g' := rEarn (rTrack g c i j) mm c (Int32.ofNat X) (decide (z ≠ 0))) (m' := rEarn (rTrack m c i j) mm c (Int32.ofNat X) (decide (z ≠ 0))) hn hb hC hC2 hR ?_ (fun h1 H3 hcu3 => ?_) (fun Hb => ?_) (fun h1 pp' w1 => ?_) q1 ⟨q2, q3⟩ (AgW_of hl (by rw [a2, ne 9 (by omega) (by omega) (by omega), h9]) a1)
            · rw [cls]
              unfold opK
              rw [(CS_z hC).2.2, Option.bind_some, (CS_z hC).2.1, e2]
              rw [zb2_s, if_neg z1]
            · rw [← eX]
              exact p_operateNext1 (by omega) (Nat.le_refl 5) hc hi hj hWF.2.2.2.1 hco hpa hWF.1.2.2.1 hm4 nok hnc hcu3
            · rw [mod]
              unfold opC
              rw [mgK, ucan, Option.bind_some, if_neg z1, opM_0]
            · rw [eX, ← eX']
              exact u_operates1 hn hWm hMm hB m3 hc hi hj mnc mco (by rw [← lc]; exact hlay)
          · rw [if_neg hlay] at e2 ucan
            refine call_throwE (e := 2) (code := 3) hb hC hC2 hRs ?_ rfl (by decide) (fun Hb => ?_)
            · rw [cls]
              unfold opK
              rw [(CS_z hC).2.2, Option.bind_some, (CS_z hC).2.1, e2]
              rw [zb2_s, if_pos rfl]
            · rw [mod]
              unfold opC
              rw [mgK, ucan, Option.bind_some, if_pos rfl, opM_k (by decide)]
    · refine call_throw (e := 1) (code := 1) hb hC hRs ?_ rfl (by decide) (fun Hb => ?_)
      · refine cls0 ?_
        by_cases hx : vp_in x 8
        · simp only [zlet, if_neg z1, town_y hx, town_n (fun hy => hq ⟨hx, hy⟩), Option.bind_some, if_true]
        · simp only [zlet, if_neg z1, town_n hx, Option.bind_some, if_true]
      · refine mod0 ?_
        by_cases hx : vp_in x 8
        · simp only [zlet, if_true, u_town_y hx, u_town_n (fun hy => hq ⟨hx, hy⟩), Option.bind_some, if_neg z1]
          exact opM_k (by decide)
        · simp only [zlet, if_true, u_town_n hx, Option.bind_some]
          exact opM_k (by decide)
theorem Lw_undo {n : Nat} {H : zH} : f_L_undo n 0 131 H = Lw H (f_X5_undo n 0 H) (fun e h1 => if e = 2 then some (1, h1) else none) := rfl
theorem call_undo {n B : Nat} {H : zH} (hn : 50000 ≤ n) (hR : REL B H) : CallOk n (f_L_undo n 0 131 H) (f_X6_undo n 123) B := by
  obtain ⟨mm, k, L, g, m, pp, tx, w, st, hs, b, f, hb, hC, hR⟩ := hR
  have z1 : ¬ (1 : Int32) = 0 := by decide
  have hk := hR.2.2.2.1
  have w20 := hR.2.2.2.2.1
  have e0 : (Int32.ofNat k = 0) = (k = 0) := i32_eq_of (b := 0) (by omega) (by omega)
  have l0 : ((0 : Int32) < Int32.ofNat k) = (0 < k) := i32_lt_of (a := 0) (by omega) (by omega)
  rw [Lw_undo]
  obtain ⟨sg, p, hp, hst, l, q, hH⟩ := id hC
  by_cases hk0 : k = 0
  · refine call_throw (e := 2) (code := 1) hb hC hR ?_ rfl (by decide) (fun Hb => ?_)
    · unfold f_X5_undo
      conv => lhs; rw [hH, ogI_2, Option.bind_some, if_neg (by rw [l0]; omega), ← hH]
    · rw [e_X6_undo, mgI_2, Option.bind_some, w20]
      simp only [zlet]
      rw [if_pos (by rw [e0]; exact hk0), mgK, u_refk (by decide), zb2_s, if_neg z1]
  · obtain ⟨j, rfl⟩ : ∃ j, k = j + 1 := ⟨k - 1, by omega⟩
    obtain ⟨mm', sw, sz, sa⟩ := hR.2.2.2.2.2.2.2 j (by omega)
    have hC' : CS (mput b m pp tx w hs) st j (Int32.ofNat L) tx (st j) (put (sput (oput (sgs (mput b m pp tx w hs) sg) (fun i => 29 + 23 * p i) (Int32.ofNat j) (Int32.ofNat L) tx) l q) 5 (st j)) := ⟨sg, p, hp, hst, l, q, rfl⟩
    refine call_okE (mm' := mm') (v := Int32.ofNat j) hb hC hC' ?_ (fun Hb => ?_)
    · unfold f_X5_undo
      have es : st j = sg (p j) := hst j (by omega)
      rw [hH, ogI_2, Option.bind_some, if_pos (by rw [l0]; omega), Option.bind_some, i32_pred, osI_2, Option.bind_some, ogR_0, Option.bind_some, ogR_1, Option.bind_some, ogI_2, Option.bind_some, oga_s (in_of (show j < 4 by omega) (by omega)), Option.bind_some, nn_of (show j < 600 by omega)]
      rw [show ∀ (h : zH) (o : Option zO2), zrc (put h 5 g) 5 1 o = o from fun h o => gK_0, copy_undo (by omega) (hp.1 j (by omega)) (by rw [← es]; exact WF_bools sw), Option.bind_some, ogI_2, Option.bind_some, es]
    · refine ⟨fun i => pp (134 * j + i), pp, upd (upd w 22 0) 20 (Int32.ofNat j), hs, ?_, by rw [upd_ne (by omega), upd_eq], ⟨sw, sz, sa, by omega, by rw [upd_eq], hR.2.2.2.2.2.1, by rw [upd_ne (by omega), upd_ne (by omega), hR.2.2.2.2.2.2.1], fun i hi => hR.2.2.2.2.2.2.2 i (by omega)⟩⟩
      rw [e_X6_undo, mgI_2, Option.bind_some, w20]
      simp only [zlet]
      rw [if_neg (by rw [e0]; omega), mgK, u_ref0, zb2_s, if_pos rfl, mgI_2, Option.bind_some, upd_ne (show 20 ≠ 22 by omega), w20, i32_pred, msI_2, Option.bind_some, u_undoes (by omega) (by omega) upd_eq]
theorem Lw_append {n : Nat} {x : Int32} {H : zH} : f_L_append n 0 x 131 H = Lw H (f_X5_append n 0 x H) (fun e h1 => if e = 0 then some (1, h1) else if e = 2 then some (2, h1) else none) := rfl
theorem call_append {n B : Nat} {x : Int32} {H : zH} (hR : REL B H) : CallOk n (f_L_append n 0 x 131 H) (f_X6_append n 123 x) B := by
  obtain ⟨mm, k, L, g, m, pp, tx, w, st, hs, b, f, hb, hC, hR⟩ := hR
  have z1 : ¬ (1 : Int32) = 0 := by decide
  have hL := hR.2.2.2.2.2.1
  have w21 := hR.2.2.2.2.2.2.1
  have e90 : (Int32.ofNat L = 90) = (L = 90) := i32_eq_of (b := 90) (by omega) (by omega)
  have l90 : (Int32.ofNat L < 90) = (L < 90) := i32_lt_of (b := 90) (by omega) (by omega)
  have le90 : ((90 : Int32) ≤ Int32.ofNat L) = (90 ≤ L) := i32_le_of (a := 90) (by omega) (by omega)
  rw [Lw_append]
  obtain ⟨sg, p, hp, hst, l, q, hH⟩ := id hC
  by_cases hx : ¬ x < 0 ∧ x ≤ 127
  · have cls : f_X5_append n 0 x H = ((zgR H 0 5 3).bind fun (v19 : Nat) => (zgI H v19 4 1).bind fun (v22 : Int32) => if v22 < (90 : Int32) then ((zgR H 0 5 3).bind fun (v39 : Nat) => zrc H v39 4 <| (f_X4_add n v39 x H).bind fun (h43 : zH) => (zgR h43 0 5 3).bind fun (v47 : Nat) => (zgI h43 v47 4 1).bind fun (v50 : Int32) => some (.inr v50, h43)) else (some (.inl 2, H))) := by
      unfold f_X5_append
      simp only [zlet, if_neg hx.1, if_pos hx.2]
    have mod : ∀ Hb, f_X6_append n 123 x (mput Hb m pp tx w hs) = (zlet (fun (s0_29 : Int32) => zrc (mput Hb m pp tx w hs) 123 6 <| zb2 (f_X6_refused n 123 s0_29 (mput Hb m pp tx w hs)) fun (r29 : Int32) (h29 : zH) => if r29 = 0 then ((zgR h29 123 6 3).bind fun (v38 : Nat) => (zgI h29 123 6 4).bind fun (v42 : Int32) => (zsi h29 v38 v42 x).bind fun (h46 : zH) => (zgI h46 123 6 4).bind fun (v49 : Int32) => (zp h46 123 6 4 (.int (v49 + (1 : Int32)))).bind fun (h54 : zH) => (zgI h54 123 6 4).bind fun (v58 : Int32) => some (v58, h54)) else (some ((0 : Int32), h29))) fun K29 => if Int32.ofNat L = 90 then (K29 (2 : Int32)) else (K29 (0 : Int32))) := fun Hb => by
      unfold f_X6_append
      rw [u_in, if_neg hx.1, if_neg (Int32.not_lt.mpr hx.2), Option.bind_some]
      simp only [zlet]
      rw [if_neg z1, mgI_4, Option.bind_some, w21]
    by_cases h90 : L = 90
    · refine call_throw (e := 2) (code := 2) hb hC hR ?_ rfl (by decide) (fun Hb => ?_)
      · rw [cls]
        conv => lhs; rw [hH, ogR_3, Option.bind_some, ogI_s, Option.bind_some, if_neg (by rw [l90]; omega), ← hH]
      · rw [mod]
        simp only [zlet]
        rw [if_pos (by rw [e90]; exact h90), mgK, u_refk (by decide), zb2_s, if_neg z1]
    · have hC' : CS (mput b m pp tx w hs) st k (Int32.ofNat (L + 1)) (upd tx L x) g (put (sput (oput (sgs (mput b m pp tx w hs) sg) (fun i => 29 + 23 * p i) (Int32.ofNat k) (Int32.ofNat (L + 1)) (upd tx L x)) l q) 5 g) := ⟨sg, p, hp, hst, l, q, rfl⟩
      refine call_okE (mm' := mm) (v := Int32.ofNat (L + 1)) hb hC hC' ?_ (fun Hb => ?_)
      · rw [cls, hH, ogR_3, Option.bind_some, ogI_s, Option.bind_some, if_pos (by rw [l90]; omega), Option.bind_some, ogK_4]
        unfold f_X4_add
        rw [ogI_s, Option.bind_some, if_neg (by rw [le90]; omega), ogR_s, Option.bind_some, Option.bind_some, osa_t (in_of (show L < 90 by omega) (by omega)), nn_of (show L < 600 by omega), Option.bind_some, ogI_s, Option.bind_some, osI_s, Option.bind_some, Option.bind_some, i32_succ, ogR_3, Option.bind_some, ogI_s, Option.bind_some]
      · refine ⟨m, pp, upd (upd w 22 0) 21 (Int32.ofNat (L + 1)), hs, ?_, by rw [upd_ne (by omega), upd_eq], ⟨hR.1, hR.2.1, hR.2.2.1, hR.2.2.2.1, by rw [upd_ne (by omega), upd_ne (by omega), hR.2.2.2.2.1], by omega, by rw [upd_eq], hR.2.2.2.2.2.2.2⟩⟩
        rw [mod]
        simp only [zlet]
        rw [if_neg (by rw [e90]; exact h90), mgK, u_ref0, zb2_s, if_pos rfl, mgR_3, Option.bind_some, mgI_4, Option.bind_some, upd_ne (show 21 ≠ 22 by omega), w21, mTs (show L < 90 by omega), Option.bind_some, mgI_4, Option.bind_some, upd_ne (show 21 ≠ 22 by omega), w21, i32_succ, msI_4, Option.bind_some, mgI_4, Option.bind_some, upd_eq]
  · refine call_throw (e := 0) (code := 1) hb hC hR ?_ rfl (by decide) (fun Hb => ?_)
    · unfold f_X5_append
      simp only [zlet]
      by_cases c1 : x < 0
      · rw [if_pos c1]
      · rw [if_neg c1, if_neg (fun c2 => hx ⟨c1, c2⟩)]
    · unfold f_X6_append
      rw [u_in]
      have e : (if x < 0 then (0 : Int32) else if 127 < x then 0 else 1) = 0 := by
        by_cases c1 : x < 0
        · rw [if_pos c1]
        · rw [if_neg c1, if_pos (Int32.not_le.mp fun c2 => hx ⟨c1, c2⟩)]
      rw [e, Option.bind_some]
      simp only [zlet, if_true]
      rw [mgK, u_refk (by decide), zb2_s, if_neg z1]
theorem REL_z {B : Nat} {H : zH} (hR : REL B H) : (∀ {β : Type} (o : Option β), zrc H 0 5 o = o) ∧ ∀ {β : Type} (o : Option β), zrc H 123 6 o = o := by
  obtain ⟨mm, k, L, g, m, pp, tx, w, st, hs, b, f, hb, hC, hR⟩ := hR
  obtain ⟨Hb, hH, hCC⟩ := CS_split hC
  exact ⟨(CS_z hC).1, fun o => by rw [hH]; exact mgK⟩
theorem call_clear {n B : Nat} {H : zH} (hR : REL B H) : ∃ v H1 H2, f_X5_clearText n 0 H = some (v, H1) ∧ (∀ {β : Type} (o : Option β), zrc H1 123 6 o = o) ∧ f_X6_clearText n 123 H1 = some (v, H2) ∧ REL B H2 := by
  obtain ⟨mm, k, L, g, m, pp, tx, w, st, hs, b, f, hb, hC, hR⟩ := hR
  obtain ⟨sg, p, hp, hst, l, q, hH⟩ := id hC
  have hC' : CS (mput b m pp tx w hs) st k (Int32.ofNat 0) tx g (put (sput (oput (sgs (mput b m pp tx w hs) sg) (fun i => 29 + 23 * p i) (Int32.ofNat k) (Int32.ofNat 0) tx) l q) 5 g) := ⟨sg, p, hp, hst, l, q, rfl⟩
  obtain ⟨Hb, hH1, hCC⟩ := CS_split hC'
  refine ⟨Int32.ofNat L, mput Hb m pp tx w hs, mput Hb m pp tx (upd (upd w 22 0) 21 (Int32.ofNat 0)) hs, ?_, fun o => mgK, ?_, ⟨mm, k, 0, g, m, pp, tx, upd (upd w 22 0) 21 (Int32.ofNat 0), st, hs, b, f, hb, hCC _ _ _ _ _, hR.1, hR.2.1, hR.2.2.1, hR.2.2.2.1, by rw [upd_ne (by omega), upd_ne (by omega), hR.2.2.2.2.1], by omega, by rw [upd_eq], hR.2.2.2.2.2.2.2⟩⟩
  · unfold f_X5_clearText
    rw [hH, ogR_3, Option.bind_some, ogI_s, Option.bind_some, Option.bind_some, osI_s, Option.bind_some, ← hH1]
    rfl
  · unfold f_X6_clearText
    rw [msI_5, Option.bind_some, mgI_4, Option.bind_some, upd_ne (show 21 ≠ 22 by omega), hR.2.2.2.2.2.2.1, msI_4, Option.bind_some]
    rfl
def leadS (g : Row) : Nat → Int32
  | 0 => 0
  | k + 1 => if worthS g (k + 1) ≤ worthS g (leadS g k).toNatClampNeg then leadS g k else Int32.ofNat (k + 1)
theorem lead_in {g : Row} : ∀ k, ∃ i, i ≤ k ∧ leadS g k = Int32.ofNat i
  | 0 => ⟨0, Nat.le_refl 0, rfl⟩
  | k + 1 => by
    obtain ⟨i, hi, e⟩ := lead_in (g := g) k
    unfold leadS
    split
    · exact ⟨i, by omega, e⟩
    · exact ⟨k + 1, Nat.le_refl _, rfl⟩
theorem lead_ag {D : Nat → Prop} {mm : Nat} {g m : Row} (hD : DOk D mm) (hA : AgD D g m) (hm : mm ≤ 4) : ∀ k, k < mm → leadS g k = leadS m k
  | 0, _ => rfl
  | k + 1, hk => by
    have e := lead_ag hD hA hm k (by omega)
    obtain ⟨i, hi, ei⟩ := lead_in (g := m) k
    unfold leadS
    rw [e, ei, nn_of (by omega), ag_worth hD hA hk hm, ag_worth hD hA (show i < mm by omega) hm]
theorem call_leader {n B : Nat} {H : zH} (hn : 50000 ≤ n) (hR : REL B H) : ∃ v H2, f_X5_leader n 0 H = some v ∧ f_X6_leader n 123 H = some (v, H2) ∧ REL B H2 := by
  obtain ⟨mm, k, L, g, m, pp, tx, w, st, hs, b, f, hb, hC, hR⟩ := hR
  obtain ⟨h', hH, h05⟩ := CS_H hC
  obtain ⟨Hb, hHb, hCC⟩ := CS_split hC
  have hWF := hR.1
  have hA := hR.2.2.1
  have hWm := WF_ag hA hWF
  obtain ⟨len, hl, h9, hA'⟩ := id hA
  obtain ⟨m1, m4, g0, t, ht, et⟩ := hWF.1
  have hlt : ∀ j, j < mm - 1 → ¬ Int32.ofNat mm ≤ Int32.ofNat (j + 1) := fun j hj => i32_ge (by omega) (by omega)
  refine ⟨leadS g (mm - 1), mput Hb m pp tx (upd w 22 0) hs, ?_, ?_, ⟨mm, k, L, g, m, pp, tx, upd w 22 0, st, hs, b, f, hb, hCC _ _ _ _ _, Rel_22 hR⟩⟩
  · unfold f_X5_leader
    refine zfor2 (mm - 1) (fun j => leadS g j) (fun j => Int32.ofNat (j + 1)) (fun j hj rec => ?_) (fun rec => ?_) (by omega)
    · obtain ⟨i, hi, ei⟩ := lead_in (g := g) j
      have ew : ∀ {x : Int32}, vp_in x 4 → f_X1_worthOf n 5 x H = some (worthS g x.toNatClampNeg) := fun hx => by
        rw [hH]
        exact p_worthOf (by omega) hx
      rw [h05, Option.bind_some]
      conv => lhs; rw [hH, gI_8, ← hH]
      rw [g0, Option.bind_some, if_neg (hlt j hj), Option.bind_some, (CS_z hC).2.1, ew (in_of (show j + 1 < 4 by omega) (by omega)), nn_of (show j + 1 < 600 by omega), Option.bind_some, Option.bind_some, (CS_z hC).2.1, ei, ew (in_of (show i < 4 by omega) (by omega)), Option.bind_some]
      simp only [zlet]
      rw [show leadS g (j + 1) = if worthS g (j + 1) ≤ worthS g (leadS g j).toNatClampNeg then leadS g j else Int32.ofNat (j + 1) from rfl, ei]
      split
      · rw [i32_succ]
      · rw [i32_succ]
    · rw [h05, Option.bind_some]
      conv => lhs; rw [hH, gI_8, ← hH]
      rw [g0, Option.bind_some, show mm - 1 + 1 = mm by omega, if_pos (Int32.le_refl _)]
  · rw [lead_ag dead_ok hA' m4 (mm - 1) (by omega)]
    have m0 := hWm.1.2.2.1
    rw [hHb]
    unfold f_X6_leader
    rw [msI_5, Option.bind_some]
    refine zfor2 (mm - 1) (fun j => leadS m j) (fun j => Int32.ofNat (j + 1)) (fun j hj rec => ?_) (fun rec => ?_) (by omega)
    · obtain ⟨i, hi, ei⟩ := lead_in (g := m) j
      rw [mgR_0, Option.bind_some, mN_0, m0, Option.bind_some, if_neg (hlt j hj), mgK, u_worth (by omega) (show j + 1 < 4 by omega), Option.bind_some, mgK, ei, u_worth (by omega) (show i < 4 by omega), Option.bind_some]
      simp only [zlet]
      rw [show leadS m (j + 1) = if worthS m (j + 1) ≤ worthS m (leadS m j).toNatClampNeg then leadS m j else Int32.ofNat (j + 1) from rfl, ei, nn_of (show i < 600 by omega)]
      split
      · rw [i32_succ]
      · rw [i32_succ]
    · rw [mgR_0, Option.bind_some, mN_0, m0, Option.bind_some, show mm - 1 + 1 = mm by omega, if_pos (Int32.le_refl _)]
theorem zdd_ok : ∀ a : Fin 41, ∀ b : Fin 4, zdd (FP.i2d (Int32.ofNat a.1)) (FP.i2d ((10 : Int32) * Int32.ofNat (b.1 + 1))) = some (FP.ddiv (FP.i2d (Int32.ofNat a.1)) (FP.i2d ((10 : Int32) * Int32.ofNat (b.1 + 1)))) := by decide +kernel
theorem openS_num {g : Row} {mm : Nat} (hw : CoW g mm) : ∀ k, k ≤ 4 → ∃ a, a ≤ k ∧ zseq (fun k s => s + (if g (34 + 7 * k) = 0 then 0 else 1)) (0 : Int32) k = Int32.ofNat a
  | 0, _ => ⟨0, Nat.le_refl 0, rfl⟩
  | k + 1, hk => by
    obtain ⟨a, ha, e⟩ := openS_num hw k (by omega)
    show ∃ a, a ≤ k + 1 ∧ zseq (fun k s => s + (if g (34 + 7 * k) = 0 then 0 else 1)) (0 : Int32) k + (if g (34 + 7 * k) = 0 then 0 else 1) = Int32.ofNat a
    rw [e]
    split
    · exact ⟨a, by omega, Int32.add_zero _⟩
    · exact ⟨a + 1, by omega, i32_succ a⟩
theorem bank_num {g : Row} {mm c : Nat} (h : ShOk g mm c) : ∃ a, a ≤ 10 ∧ bank (fun p => g (18 + 4 * p + c)) = Int32.ofNat a := by
  obtain ⟨s, h1, h2, _⟩ := h
  exact ⟨10 - (s 0 + s 1 + s 2 + s 3), by omega, bank_eq h1 h2⟩
def unF (g : Row) (k : Nat) (s : Int32) : Int32 := s + (if g (34 + 7 * k) = 0 then 0 else bank (fun p => g (18 + 4 * p + k)))
theorem unsoldS_eq {g : Row} : unsoldS g = zseq (unF g) 0 4 := rfl
theorem unsold_num {g : Row} {mm : Nat} (hw : CoW g mm) : ∀ k, k ≤ 4 → ∃ a, a ≤ 10 * k ∧ zseq (unF g) (0 : Int32) k = Int32.ofNat a
  | 0, _ => ⟨0, Nat.le_refl 0, rfl⟩
  | k + 1, hk => by
    obtain ⟨a, ha, e⟩ := unsold_num hw k (by omega)
    obtain ⟨c, hc, ec⟩ := bank_num (hw k (by omega)).1
    show ∃ a, a ≤ 10 * (k + 1) ∧ unF g k (zseq (unF g) (0 : Int32) k) = Int32.ofNat a
    unfold unF
    rw [show (fun k s => s + if g (34 + 7 * k) = 0 then 0 else bank fun p => g (18 + 4 * p + k)) = unF g from rfl, e]
    split
    · exact ⟨a, by omega, Int32.add_zero _⟩
    · exact ⟨a + c, by omega, by rw [ec, Int32.ofNat_add]⟩
theorem unsold_ag {D : Nat → Prop} {mm : Nat} {g m : Row} (hD : DOk D mm) (hA : AgD D g m) : ∀ k, k ≤ 4 → zseq (unF g) (0 : Int32) k = zseq (unF m) (0 : Int32) k
  | 0, _ => rfl
  | k + 1, hk => by
    show unF g k (zseq (unF g) (0 : Int32) k) = unF m k (zseq (unF m) (0 : Int32) k)
    rw [unsold_ag hD hA k (by omega)]
    unfold unF
    rw [ag_bank hD hA (show k < 4 by omega), ag0 hD hA (show 34 + 7 * k < 134 by omega) (by omega)]
theorem open_ag {D : Nat → Prop} {mm : Nat} {g m : Row} (hD : DOk D mm) (hA : AgD D g m) : openS g = openS m := by
  unfold openS
  have : ∀ k, k ≤ 4 → zseq (fun k s => s + (if g (34 + 7 * k) = 0 then 0 else 1)) (0 : Int32) k = zseq (fun k s => s + (if m (34 + 7 * k) = 0 then 0 else 1)) (0 : Int32) k := by
    intro k
    induction k with
    | zero => intro _; rfl
    | succ k ih =>
      intro hk
      show zseq _ _ k + (if g (34 + 7 * k) = 0 then 0 else 1) = zseq _ _ k + (if m (34 + 7 * k) = 0 then 0 else 1)
      rw [ih (by omega), ag0 hD hA (show 34 + 7 * k < 134 by omega) (by omega)]
  exact this 4 (Nat.le_refl 4)
theorem call_unsold {n B : Nat} {H : zH} (hn : 50000 ≤ n) (hR : REL B H) : ∃ v H2, f_X5_unsold n 0 H = some v ∧ f_X6_unsold n 123 H = some (v, H2) ∧ REL B H2 := by
  obtain ⟨mm, k, L, g, m, pp, tx, w, st, hs, b, f, hb, hC, hR⟩ := hR
  obtain ⟨h', hH, h05⟩ := CS_H hC
  obtain ⟨Hb, hHb, hCC⟩ := CS_split hC
  have hWF := hR.1
  have hA := hR.2.2.1
  have hWm := WF_ag hA hWF
  obtain ⟨len, hl, h9, hA'⟩ := id hA
  have m0 := hWm.1.2.2.1
  have m4 := hWm.1.2.1
  have hop := open_ag dead_ok hA'
  have hun : unsoldS g = unsoldS m := unsold_ag dead_ok hA' 4 (Nat.le_refl 4)
  obtain ⟨a, ha, ea⟩ := unsold_num hWm.2.2.1 4 (Nat.le_refl 4)
  obtain ⟨d, hd, ed⟩ := openS_num hWm.2.2.1 4 (Nat.le_refl 4)
  have ea' : unsoldS m = Int32.ofNat a := ea
  have ed' : openS m = Int32.ofNat d := ed
  have d0 : (Int32.ofNat d = 0) = (d = 0) := i32_eq_of (b := 0) (by omega) (by omega)
  have d10 : (10 : Int32) * Int32.ofNat d = Int32.ofNat (10 * d) := (Int32.ofNat_mul 10 d).symm
  have d1 : (Int32.ofNat (10 * d) = 0) = (10 * d = 0) := i32_eq_of (b := 0) (by omega) (by omega)
  have cls : f_X5_unsold n 0 H = if d = 0 then some FP.dconst0 else (zdd (FP.i2d (Int32.ofNat a)) (FP.i2d (Int32.ofNat (10 * d)))).bind fun v => some v := by
    unfold f_X5_unsold
    have e1 := p_openCompanies (n := n) (h := h') (b := 5) (g := g) (by omega)
    have e2 := p_unsoldShares (n := n) (h := h') (b := 5) (g := g) (by omega)
    rw [← hH, hop, ed'] at e1
    rw [← hH, hun, ea'] at e2
    rw [h05, Option.bind_some, (CS_z hC).2.1, e1, Option.bind_some]
    by_cases c : d = 0
    · rw [if_pos c, if_pos (by rw [d0]; exact c)]
    · rw [if_neg c, if_neg (by rw [d0]; exact c), Option.bind_some, (CS_z hC).2.1, e2, Option.bind_some, d10]
  have mod : f_X6_unsold n 123 H = if d = 0 then some (FP.dconst0, mput Hb m pp tx (upd w 22 0) hs) else (zdd (FP.i2d (Int32.ofNat a)) (FP.i2d (Int32.ofNat (10 * d)))).bind fun v => some (v, mput Hb m pp tx (upd w 22 0) hs) := by
    rw [hHb, e_X6_unsold, msI_5, Option.bind_some]
    unfold L_X6_unsold_9
    refine zfor2 4 (fun k => zseq (unF m) 0 k) (fun k => Int32.ofNat k) (fun k hk rec => ?_) (fun rec => ?_) (by omega)
    · obtain ⟨s, q1, q2, q3⟩ := (hWm.2.2.1 k hk).1
      rw [show zseq (unF m) 0 (k + 1) = unF m k (zseq (unF m) 0 k) from rfl]
      simp only [zlet, if_neg (of_eq_false (ge4 hk)), mgK, u_isOpen' hWm.2.2.1 hk, Option.bind_some, i32_succ, u_rest (n := n) (by omega) m0 m4 hk (fun p h1 h2 => by rw [q1 p h2, q3 p h1 h2]; rfl)]
      unfold unF
      by_cases c : m (34 + 7 * k) = 0
      · simp only [if_pos c, if_true]
      · simp only [if_neg c, if_neg (show ¬ (1 : Int32) = 0 by decide)]
    · rw [if_pos (by decide), mgK, u_openOnes (by omega) hWm.2.2.1, Option.bind_some, ed', d10]
      simp only [zlet]
      by_cases c : d = 0
      · rw [if_pos c, if_pos (by rw [d1, c])]
      · rw [if_neg c, if_neg (by rw [d1]; omega), ea]
  have hRel : REL B (mput Hb m pp tx (upd w 22 0) hs) := ⟨mm, k, L, g, m, pp, tx, upd w 22 0, st, hs, b, f, hb, hCC _ _ _ _ _, Rel_22 hR⟩
  by_cases c : d = 0
  · exact ⟨FP.dconst0, _, by rw [cls, if_pos c], by rw [mod, if_pos c], hRel⟩
  · obtain ⟨e, rfl⟩ : ∃ e, d = e + 1 := ⟨d - 1, by omega⟩
    have z := zdd_ok ⟨a, by omega⟩ ⟨e, by omega⟩
    rw [d10] at z
    exact ⟨_, _, by rw [cls, if_neg c, z, Option.bind_some], by rw [mod, if_neg c, z, Option.bind_some], hRel⟩
theorem p_playerQ {n mm p k : Nat} {H h' : zH} {g : Row} (hn : 600 ≤ n) (hH : H = put h' 5 g) (h05 : zgR H 0 5 0 = some 5) (hg0 : g 0 = Int32.ofNat mm) (hm : mm ≤ 4) (hp : p < mm) (hk : k < 7) : f_X5_player' n 0 (Int32.ofNat p) (Int32.ofNat k) H = some (playerS g p k) := by
  unfold f_X5_player' playerS
  have e0 : (Int32.ofNat k = 0) = (k = 0) := i32_eq_of (b := 0) (by omega) (by omega)
  have e4 : ((4 : Int32) < Int32.ofNat k) = (4 < k) := i32_lt_of (a := 4) (by omega) (by omega)
  have e5 : (Int32.ofNat k = 5) = (k = 5) := i32_eq_of (b := 5) (by omega) (by omega)
  have hp4 : vp_in (Int32.ofNat p) 4 := in_of (by omega) (by omega)
  simp only [zlet]
  rw [if_neg (fun q => hp4 (Or.inl q)), h05, Option.bind_some]
  have e8 : zgI H 5 1 8 = some (Int32.ofNat mm) := by rw [hH, gI_8, hg0]
  rw [e8, Option.bind_some, if_pos (by rw [i32_lt_of (by omega) (by omega)]; omega), if_neg (fun q => in_of (show k < 7 by omega) (show 7 < 600 by omega) (Or.inl q)), if_pos (show Int32.ofNat k < (7 : Int32) from by rw [show (7 : Int32) = Int32.ofNat 7 from rfl, i32_lt_of (by omega) (by omega)]; omega)]
  simp only [e0, e4, e5]
  by_cases c0 : k = 0
  · rw [if_pos c0, if_pos c0, Option.bind_some, hH, gR_3, Option.bind_some, gA_m hp4, nn_of (by omega), Option.bind_some]
  · rw [if_neg c0, if_neg c0]
    by_cases c4 : 4 < k
    · rw [if_pos c4, if_neg (show ¬ k ≤ 4 by omega)]
      by_cases c5 : k = 5
      · rw [if_pos c5, if_pos c5, Option.bind_some, hH, gK_0, p_worthOf hn hp4, nn_of (by omega), Option.bind_some]
      · rw [if_neg c5, if_neg c5, Option.bind_some, hH, gK_0, p_presidenciesOf hn, Option.bind_some]
    · rw [if_neg c4, if_pos (show k ≤ 4 by omega)]
      obtain ⟨j, rfl⟩ : ∃ j, k = j + 1 := ⟨k - 1, by omega⟩
      rw [Option.bind_some, hH, gR_2, Option.bind_some, i32_pred, gA_c (in_of (show j < 4 by omega) (by omega)), nn_of (by omega), Option.bind_some, gC_0 (show j < 4 by omega), Option.bind_some, gA_h (show j < 4 by omega) hp4, nn_of (by omega), Option.bind_some]
      rfl
theorem p_companyQ {n mm c home S k : Nat} {h0 H : zH} {g : Row} (hn : 600 ≤ n) (hH : Cur h0 5 g H) (h05 : zgR H 0 5 0 = some 5) (hL : SymL g) (hc : c < 4) (hk : k < 9) (hw : CoW g mm) (ho : g (34 + 7 * c) = 1 → CoOk g c home S) : ∃ H', f_X5_company' n 0 (Int32.ofNat c) (Int32.ofNat k) H = some (companyS g c home S k, H') ∧ Cur h0 5 g H' := by
  obtain ⟨h', hput, hCu⟩ := Cur_mk hH
  have z1 : ¬ (1 : Int32) = 0 := by decide
  have e0 : (Int32.ofNat k = 0) = (k = 0) := i32_eq_of (b := 0) (by omega) (by omega)
  have e7 : (Int32.ofNat k = 7) = (k = 7) := i32_eq_of (b := 7) (by omega) (by omega)
  have hc4 : vp_in (Int32.ofNat c) 4 := in_of hc (by omega)
  have start : f_X5_company' n 0 (Int32.ofNat c) (Int32.ofNat k) H = if k = 0 then (if g (34 + 7 * c) = 0 then some (0, H) else some (1, H)) else if g (34 + 7 * c) = 0 then some (-1, H) else if k = 7 then ((zgR H 0 5 0).bind fun v76 => zrc H v76 1 <| zb2 (f_X1_incomeOf n v76 (5 + 15 + 2 * c) H) fun r80 h80 => some (r80, h80)) else (zrc H (5 + 15 + 2 * c) 0 <| (f_X0_number n (5 + 15 + 2 * c) (Int32.ofNat k) H).bind fun r88 => some (r88, H)) := by
    unfold f_X5_company'
    rw [company_y hc4, Option.bind_some, if_neg z1]
    simp only [zlet]
    rw [if_neg (fun q => in_of hk (show 9 < 600 by omega) (Or.inl q)), if_pos (show Int32.ofNat k < (9 : Int32) from by rw [show (9 : Int32) = Int32.ofNat 9 from rfl, i32_lt_of (by omega) (by omega)]; omega), h05, Option.bind_some]
    have r1 : zgR H 5 1 2 = some (5 + 12) := by rw [hput, gR_2]
    have r2 : zar H (5 + 12) 3 (Int32.ofNat c) = some (5 + 15 + 2 * c) := by rw [hput, gA_c hc4, nn_of (by omega)]
    have r3 : zgI H (5 + 15 + 2 * c) 0 1 = some (g (34 + 7 * c)) := by rw [hput, gC_1 hc]
    rw [r1, Option.bind_some, r2, Option.bind_some, r3]
    simp only [e0, e7, Option.bind_some]
  rw [start]
  unfold companyS
  by_cases c0 : k = 0
  · rw [if_pos c0, if_pos c0]
    refine ⟨H, ?_, hH⟩
    split <;> rfl
  · rw [if_neg c0, if_neg c0]
    rcases (hw c hc).2.2.2 with ⟨a, _⟩ | ⟨a, _⟩
    · have on : ¬ g (34 + 7 * c) = 0 := by rw [a]; decide
      rw [if_neg on, if_neg on]
      by_cases c7 : k = 7
      · obtain ⟨H', e, hC'⟩ := p_incomeOf (n := n) hn (by omega) hc hL (ho a) hH
        refine ⟨H', ?_, hC'⟩
        rw [if_pos c7, if_pos c7, h05, Option.bind_some, e]
        rw [hput, gK_0]
        rfl
      · refine ⟨H, ?_, hH⟩
        rw [if_neg c7, if_neg c7, hput, gK_2 hc, p_cnumber hn hc, Option.bind_some]
    · refine ⟨H, ?_, hH⟩
      rw [if_pos a, if_pos a]
def mx (s : Int64) (v : Int32) : Int64 := (31 : Int64) * s + Int32.toInt64 v
def coD (g : Row) (c k : Nat) : Int32 := companyS g c (g (35 + 7 * c)).toNatClampNeg (g (38 + 7 * c)).toNatClampNeg k
theorem coD_eq {g : Row} {mm c home S k : Nat} (hw : CoW g mm) (hc : c < 4) (h : g (34 + 7 * c) = 1 → CoOk g c home S) : companyS g c home S k = coD g c k := by
  unfold coD
  rcases (hw c hc).2.2.2 with ⟨a, _⟩ | ⟨a, _⟩
  · obtain ⟨a1, a2, a3, a4, a5⟩ := h a
    rw [a1, a2, nn_of (by omega), nn_of (by omega)]
  · unfold companyS
    by_cases c0 : k = 0
    · rw [if_pos c0, if_pos c0]
    · rw [if_neg c0, if_neg c0, if_pos a, if_pos a]
def dTown (g : Row) (s : Int64) : Int64 := zseq (fun t s => mx s (g (126 + t))) s 8
def tmStep (g : Row) (k : Nat) (s : Int64) : Int64 := if k / 8 < k % 8 then mx s (g (62 + k)) else s
theorem tm_y {g : Row} {k : Nat} {s : Int64} (h : k / 8 < k % 8) : tmStep g k s = mx s (g (62 + k)) := if_pos h
theorem tm_n {g : Row} {k : Nat} {s : Int64} (h : ¬ k / 8 < k % 8) : tmStep g k s = s := if_neg h
def dTr (g : Row) (s : Int64) : Int64 := zseq (tmStep g) s 64
def dCo1 (g : Row) (c : Nat) (s : Int64) : Int64 := zseq (fun k s => mx s (coD g c k)) s 9
def dCo (g : Row) (s : Int64) : Int64 := zseq (dCo1 g) s 4
def dPl1 (g : Row) (p : Nat) (s : Int64) : Int64 := zseq (fun k s => mx s (playerS g p k)) s 7
def dPl (g : Row) (mm : Nat) (s : Int64) : Int64 := zseq (dPl1 g) s mm
def dVal (g : Row) (s : Int64) : Int64 := zseq (fun k s => mx s (numS g (Int32.ofNat k))) s 10
def digS (g : Row) (mm k : Nat) (s : Int64) : Int64 := mx (dTown g (dTr g (dCo g (dPl g mm (dVal g s))))) (Int32.ofNat k)
theorem ag_coD {D : Nat → Prop} {mm c k : Nat} {g m : Row} (hD : DOk D mm) (hA : AgD D g m) (hc : c < 4) : coD g c k = coD m c k := by
  unfold coD
  rw [ag_company hD hA hc, ag0 hD hA (show 35 + 7 * c < 134 by omega) (by omega), ag0 hD hA (show 38 + 7 * c < 134 by omega) (by omega)]
theorem dig_ag {g m : Row} {mm k : Nat} {s : Int64} (hWF : WF g mm) (hA : AgW mm g m) : digS g mm k s = digS m mm k s := by
  have hm := hWF.1.2.1
  have hn := fun v => ag_num (v := v) hWF hA
  obtain ⟨len, hl, h9, hA⟩ := hA
  have e1 : ∀ s, dTown g s = dTown m s := fun s => zseq_congr 8 fun j x hj => by
    show mx x (g (126 + j)) = mx x (m (126 + j))
    rw [ag0 dead_ok hA (by omega) (by omega)]
  have e2 : ∀ s, dTr g s = dTr m s := fun s => zseq_congr 64 fun j x hj => by
    unfold tmStep
    rw [ag0 dead_ok hA (by omega) (by omega)]
  have e3 : ∀ s, dCo g s = dCo m s := fun s => zseq_congr 4 fun j x hj => zseq_congr 9 fun i y hi => by
    show mx y (coD g j i) = mx y (coD m j i)
    rw [ag_coD dead_ok hA hj]
  have e4 : ∀ s, dPl g mm s = dPl m mm s := fun s => zseq_congr mm fun j x hj => zseq_congr 7 fun i y hi => by
    show mx y (playerS g j i) = mx y (playerS m j i)
    rw [ag_player dead_ok hA hj hm]
  have e5 : ∀ s, dVal g s = dVal m s := fun s => zseq_congr 10 fun j x hj => by
    show mx x (numS g (Int32.ofNat j)) = mx x (numS m (Int32.ofNat j))
    rw [hn]
  unfold digS
  rw [e5, e4, e3, e2, e1]
theorem c_town {n t : Nat} {H h' : zH} {g : Row} (hH : H = put h' 5 g) (h05 : zgR H 0 5 0 = some 5) (ht : t < 8) : f_X5_town' n 0 (Int32.ofNat t) H = some (g (126 + t)) := by
  have hx : vp_in (Int32.ofNat t) 8 := in_of ht (by omega)
  unfold f_X5_town'
  rw [town_y hx, Option.bind_some, if_neg (by decide), h05, Option.bind_some, hH, gR_1, Option.bind_some, gL_0, Option.bind_some, gA_w hx, nn_of (by omega), Option.bind_some]
theorem c_track {n i j : Nat} {H h' : zH} {g : Row} (hH : H = put h' 5 g) (h05 : zgR H 0 5 0 = some 5) (hi : i < 8) (hj : j < 8) : f_X5_track' n 0 (Int32.ofNat i) (Int32.ofNat j) H = some (g (62 + 8 * i + j)) := by
  have hx : vp_in (Int32.ofNat i) 8 := in_of hi (by omega)
  have hy : vp_in (Int32.ofNat j) 8 := in_of hj (by omega)
  have z1 : ¬ (1 : Int32) = 0 := by decide
  unfold f_X5_track'
  rw [town_y hx, Option.bind_some]
  simp only [zlet, if_neg z1, town_y hy, Option.bind_some]
  rw [h05, Option.bind_some, hH, gR_1, Option.bind_some, gL_1, Option.bind_some, gA_r hx, nn_of (by omega), Option.bind_some, gA_l hi hy, nn_of (by omega), Option.bind_some]
theorem c_value {n k : Nat} {H h' : zH} {g : Row} (hn : 600 ≤ n) (hH : H = put h' 5 g) (h05 : zgR H 0 5 0 = some 5) (hno : NextOk g) (hk : k < 10) : f_X5_value' n 0 (Int32.ofNat k) H = some (numS g (Int32.ofNat k)) := by
  obtain ⟨q1, q2⟩ := vp_lt_iff (show 10 < 600 by omega) (in_of hk (by omega))
  unfold f_X5_value'
  simp only [zlet, if_neg q1, if_pos (show Int32.ofNat k < (10 : Int32) from q2)]
  rw [h05, Option.bind_some, hH, gK_0, p_number (by omega) hno, Option.bind_some]
theorem c_d183 {n k : Nat} {H h' : zH} {g : Row} {s : Int64} (hn : 600 ≤ n) (hH : H = put h' 5 g) (h05 : zgR H 0 5 0 = some 5) (hz : ∀ {β : Type} (o : Option β), zrc H 0 5 o = o) (hk : zgI H 0 5 2 = some (Int32.ofNat k)) : L_X5_digest_183 n H 0 s 0 = some (mx (dTown g s) (Int32.ofNat k), H) := by
  unfold L_X5_digest_183 dTown
  refine zfor2 8 (fun t => zseq (fun t s => mx s (g (126 + t))) s t) (fun t => Int32.ofNat t) (fun t ht rec => ?_) (fun rec => ?_) (by omega)
  · rw [if_neg (of_eq_false (ge8 ht)), hz, c_town hH h05 ht, Option.bind_some]
    simp only [zlet]
    rw [i32_succ]
    rfl
  · rw [if_pos (by decide), hk, Option.bind_some]
    rfl
theorem tm_skip {g : Row} {a : Nat} {s : Int64} : ∀ i, i ≤ a + 1 → a < 8 → zseq (tmStep g) s (8 * a + i) = zseq (tmStep g) s (8 * a)
  | 0, _, _ => rfl
  | i + 1, h, ha => by
    show tmStep g (8 * a + i) (zseq (tmStep g) s (8 * a + i)) = _
    unfold tmStep
    rw [if_neg (by omega)]
    exact tm_skip i (by omega) ha
theorem c_d136 {n k : Nat} {H h' : zH} {g : Row} {s : Int64} (hn : 600 ≤ n) (hH : H = put h' 5 g) (h05 : zgR H 0 5 0 = some 5) (hz : ∀ {β : Type} (o : Option β), zrc H 0 5 o = o) (hk : zgI H 0 5 2 = some (Int32.ofNat k)) : L_X5_digest_136 n H 0 s 0 = some (mx (dTown g (dTr g s)) (Int32.ofNat k), H) := by
  unfold L_X5_digest_136 dTr
  refine zfor2 8 (fun a => zseq (tmStep g) s (8 * a)) (fun a => Int32.ofNat a) (fun a ha rec => ?_) (fun rec => ?_) (by omega)
  · rw [if_neg (of_eq_false (ge8 ha))]
    simp only [zlet]
    rw [i32_succ]
    unfold L_X5_digest_147
    have e0 : zseq (tmStep g) s (8 * a) = zseq (tmStep g) s (8 * a + (a + 1 + 0)) := (tm_skip (a + 1) (Nat.le_refl _) ha).symm
    rw [e0]
    refine zfor2 (7 - a) (fun i => zseq (tmStep g) s (8 * a + (a + 1 + i))) (fun i => Int32.ofNat (a + 1 + i)) (fun i hi rec' => ?_) (fun rec' => ?_) (by omega)
    · rw [if_neg (of_eq_false (ge8 (show a + 1 + i < 8 by omega))), hz, c_track hH h05 ha (show a + 1 + i < 8 by omega), Option.bind_some]
      simp only [zlet]
      rw [i32_succ]
      rw [show zseq (tmStep g) s (8 * a + (a + 1 + (i + 1))) = tmStep g (8 * a + (a + 1 + i)) (zseq (tmStep g) s (8 * a + (a + 1 + i))) from rfl]
      unfold tmStep
      rw [if_pos (by omega), show 62 + 8 * a + (a + 1 + i) = 62 + (8 * a + (a + 1 + i)) by omega]
      rfl
    · rw [show a + 1 + (7 - a) = 8 by omega, if_pos (by decide)]
      simp only [zlet]
      rw [i32_succ]
      rfl
  · rw [if_pos (by decide)]
    exact c_d183 hn hH h05 hz hk
theorem CS_2 {h : zH} {st : Nat → Row} {k : Nat} {len : Int32} {tx g : Row} {H : zH} (hC : CS h st k len tx g H) : zgI H 0 5 2 = some (Int32.ofNat k) ∧ zgR H 0 5 3 = some 121 ∧ zgI H 121 4 1 = some len := by
  obtain ⟨sg, p, _, _, l, q, rfl⟩ := hC
  exact ⟨ogI_2, ogR_3, ogI_s⟩
theorem c_d92 {h : zH} {st : Nat → Row} {n k mm : Nat} {len : Int32} {tx g : Row} {H : zH} {s : Int64} (hn : 600 ≤ n) (hC : CS h st k len tx g H) (hWF : WF g mm) : ∃ H', L_X5_digest_92 n 0 s 0 H = some (mx (dTown g (dTr g (dCo g s))) (Int32.ofNat k), H') ∧ CS h st k len tx g H' := by
  unfold L_X5_digest_92 dCo
  refine zwh3 (Q := fun r => ∃ H', r = some (mx (dTown g (dTr g (zseq (dCo1 g) s 4))) (Int32.ofNat k), H') ∧ CS h st k len tx g H') (fun j a1 a2 a3 => ∃ c, c + j = 4 ∧ a2 = Int32.ofNat c ∧ a1 = zseq (dCo1 g) s c ∧ CS h st k len tx g a3) ?_ n 4 _ _ _ ⟨0, rfl, rfl, rfl, hC⟩ (by omega)
  rintro j a1 a2 a3 ⟨c, hj, rfl, rfl, hC3⟩
  cases j with
  | zero =>
    refine Or.inl fun rec => ⟨a3, ?_, hC3⟩
    obtain ⟨h', hH, h05⟩ := CS_H hC3
    rw [show c = 4 by omega, if_pos (by decide)]
    exact c_d136 hn hH h05 (CS_z hC3).1 (CS_2 hC3).1
  | succ j =>
    have hc : c < 4 := by omega
    obtain ⟨home, S, hco⟩ := open_co hWF.2.2.1 hc
    have inner : ∃ o : zH, CS h st k len tx g o ∧ ∀ rec, L_X5_digest_100 n (Int32.ofNat c) rec 0 (zseq (dCo1 g) s c) 0 a3 = rec (zseq (dCo1 g) s (c + 1)) (Int32.ofNat c + 1) o := by
      unfold L_X5_digest_100
      refine zrun3 (G := fun (rec : Int64 → Int32 → zH → Option (Int64 × zH)) (o : zH) => rec (zseq (dCo1 g) s (c + 1)) (Int32.ofNat c + 1) o) (Q := fun o : zH => CS h st k len tx g o) (fun j b1 b2 b3 => ∃ i, i + j = 9 ∧ b2 = Int32.ofNat i ∧ b1 = zseq (fun k s => mx s (coD g c k)) (zseq (dCo1 g) s c) i ∧ CS h st k len tx g b3) ?_ n 9 _ _ _ ⟨0, rfl, rfl, rfl, hC3⟩ (by omega)
      rintro j b1 b2 b3 ⟨i, hij, rfl, rfl, hC4⟩
      cases j with
      | zero =>
        refine Or.inl ⟨b3, hC4, fun r rec => ?_⟩
        rw [show i = 9 by omega, if_pos (by decide)]
        rfl
      | succ j =>
        have hi : i < 9 := by omega
        obtain ⟨h0, hcur, hcc⟩ := CS_cur hC4
        obtain ⟨H', e, hcu⟩ := p_companyQ (n := n) (k := i) hn hcur (CS_z hC4).2.2 hWF.2.2.2.1 hc hi hWF.2.2.1 hco
        refine Or.inr ⟨j, _, _, _, by omega, ⟨i + 1, by omega, rfl, rfl, hcc g H' hcu⟩, fun r rec => ?_⟩
        rw [if_neg (show ¬ (9 : Int32) ≤ Int32.ofNat _ from i32_ge (N := 9) hi (by omega)), (CS_z hC4).1, e, zb2_s, coD_eq hWF.2.2.1 hc hco]
        simp only [zlet]
        rw [i32_succ]
        rfl
    obtain ⟨o, ho, e⟩ := inner
    refine Or.inr ⟨j, _, _, o, by omega, ⟨c + 1, by omega, rfl, rfl, ho⟩, fun rec => ?_⟩
    rw [if_neg (of_eq_false (ge4 hc)), e, i32_succ]
theorem c_digest {h : zH} {st : Nat → Row} {n k mm L : Nat} {tx g : Row} {H : zH} (hn : 600 ≤ n) (hC : CS h st k (Int32.ofNat L) tx g H) (hWF : WF g mm) : ∃ H', f_X5_digest n 0 H = some (digS g mm k (111073 + Int32.toInt64 (Int32.ofNat L)), H') ∧ CS h st k (Int32.ofNat L) tx g H' := by
  obtain ⟨h', hH, h05⟩ := CS_H hC
  have hm4 := hWF.1.2.1
  have g0 := hWF.1.2.2.1
  obtain ⟨H', e, hC'⟩ := c_d92 (s := dPl g mm (dVal g (111073 + Int32.toInt64 (Int32.ofNat L)))) hn hC hWF
  refine ⟨H', ?_, hC'⟩
  rw [e_X5_digest, (CS_2 hC).2.1, Option.bind_some, (CS_2 hC).2.2, Option.bind_some]
  simp only [zlet]
  generalize (111073 + Int32.toInt64 (Int32.ofNat L) : Int64) = s at e ⊢
  have e8 : zgI H 5 1 8 = some (Int32.ofNat mm) := by rw [hH, gI_8, g0]
  have d42 : L_X5_digest_42 n H 0 (dVal g s) 0 = some (digS g mm k s, H') := by
    unfold digS
    rw [← e]
    unfold L_X5_digest_42
    refine zfor2 mm (fun p => zseq (dPl1 g) (dVal g s) p) (fun p => Int32.ofNat p) (fun p hp rec => ?_) (fun rec => ?_) (by omega)
    · rw [h05, Option.bind_some, e8, Option.bind_some, if_neg (i32_ge hp (by omega))]
      unfold L_X5_digest_56
      rw [show zseq (dPl1 g) (dVal g s) p = zseq (fun k s => mx s (playerS g p k)) (zseq (dPl1 g) (dVal g s) p) 0 from rfl]
      refine zfor2 7 (fun i => zseq (fun k s => mx s (playerS g p k)) (zseq (dPl1 g) (dVal g s) p) i) (fun i => Int32.ofNat i) (fun i hi rec' => ?_) (fun rec' => ?_) (by omega)
      · rw [if_neg (show ¬ (7 : Int32) ≤ Int32.ofNat _ from i32_ge (N := 7) hi (by omega)), (CS_z hC).1, p_playerQ hn hH h05 g0 hm4 hp hi, Option.bind_some]
        simp only [zlet]
        rw [i32_succ]
        rfl
      · rw [if_pos (by decide)]
        simp only [zlet]
        rw [i32_succ]
        rfl
    · rw [h05, Option.bind_some, e8, Option.bind_some, if_pos (Int32.le_refl _)]
      rfl
  rw [← d42]
  unfold L_X5_digest_15
  refine zfor2 10 (fun i => zseq (fun k s => mx s (numS g (Int32.ofNat k))) s i) (fun i => Int32.ofNat i) (fun i hi rec => ?_) (fun rec => ?_) (by omega)
  · rw [if_neg (show ¬ (10 : Int32) ≤ Int32.ofNat _ from i32_ge (N := 10) hi (by omega)), (CS_z hC).1, c_value hn hH h05 (NextOk_of hWF) hi, Option.bind_some]
    simp only [zlet]
    rw [i32_succ]
    rfl
  · rw [if_pos (by decide)]
    rfl
theorem u_mix {n : Nat} {h : zH} {m pp tx w : Row} {hs : Int64} {v : Int32} : f_X6_mix n 123 v (mput h m pp tx w hs) = some (mput h m pp tx w (mx hs v)) := by
  unfold f_X6_mix
  rw [mgL, Option.bind_some, msL, Option.bind_some]
  rfl
theorem u_d162 {n : Nat} {h : zH} {m pp tx w : Row} {hs : Int64} (hn : 600 ≤ n) : L_X6_digest_162 n 123 0 (mput h m pp tx w hs) = some (mx (dTown m hs) (w 20), mput h m pp tx w (mx (dTown m hs) (w 20))) := by
  unfold L_X6_digest_162
  refine zfor2 8 (fun t => Int32.ofNat t) (fun t => mput h m pp tx w (zseq (fun t s => mx s (m (126 + t))) hs t)) (fun t ht rec => ?_) (fun rec => ?_) (by omega)
  · rw [if_neg (of_eq_false (ge8 ht)), mgR_0, Option.bind_some, ixt, mN (show 126 + t < 134 by omega), Option.bind_some, mgK, u_mix, Option.bind_some]
    simp only [zlet]
    rw [i32_succ]
    rfl
  · rw [if_pos (by decide), mgI_2, Option.bind_some, mgK, u_mix, Option.bind_some, mgL, Option.bind_some]
    rfl
theorem u_d124 {n : Nat} {h : zH} {m pp tx w : Row} {hs : Int64} (hn : 600 ≤ n) : L_X6_digest_124 n 123 0 (mput h m pp tx w hs) = some (mx (dTown m (dTr m hs)) (w 20), mput h m pp tx w (mx (dTown m (dTr m hs)) (w 20))) := by
  have dv : ∀ k, k < 64 → Int32.ofNat k / 8 = Int32.ofNat (k / 8) ∧ zrem (Int32.ofNat k) 8 = Int32.ofNat (k % 8) := by decide
  unfold L_X6_digest_124
  refine zfor2 64 (fun t => Int32.ofNat t) (fun t => mput h m pp tx w (zseq (tmStep m) hs t)) (fun t ht rec => ?_) (fun rec => ?_) (by omega)
  · rw [if_neg (show ¬ (64 : Int32) ≤ Int32.ofNat _ from i32_ge (N := 64) ht (by omega)), (dv t ht).1, (dv t ht).2]
    simp only [zlet]
    rw [show zseq (tmStep m) hs (t + 1) = tmStep m t (zseq (tmStep m) hs t) from rfl]
    have e : (Int32.ofNat (t % 8) ≤ Int32.ofNat (t / 8)) = (t % 8 ≤ t / 8) := i32_le_of (by omega) (by omega)
    by_cases c : t / 8 < t % 8
    · rw [if_neg (by rw [e]; omega), tm_y c, mgR_0, Option.bind_some, show (62 : Int32) + Int32.ofNat t = Int32.ofNat (62 + t) from (Int32.ofNat_add 62 t).symm, mN (show 62 + t < 134 by omega), Option.bind_some, mgK, u_mix, Option.bind_some, i32_succ]
    · rw [if_pos (by rw [e]; omega), tm_n c, i32_succ]
  · rw [if_pos (by decide)]
    exact u_d162 hn
theorem u_digest {n mm k L : Nat} {h : zH} {m pp tx w : Row} {hs : Int64} (hn : 50000 ≤ n) (hWF : WF m mm) (w20 : w 20 = Int32.ofNat k) (w21 : w 21 = Int32.ofNat L) : ∃ w', f_X6_digest n 123 (mput h m pp tx w hs) = some (digS m mm k (111073 + Int32.toInt64 (Int32.ofNat L)), mput h m pp tx w' (digS m mm k (111073 + Int32.toInt64 (Int32.ofNat L)))) ∧ w' 20 = w 20 ∧ w' 21 = w 21 := by
  have hm4 := hWF.1.2.1
  have m0 := hWF.1.2.2.1
  have es : mx 3583 (Int32.ofNat L) = 111073 + Int32.toInt64 (Int32.ofNat L) := by
    unfold mx
    rw [show (31 : Int64) * 3583 = 111073 from by decide]
  rw [e_X6_digest, msI_5, Option.bind_some, msL, Option.bind_some, mgI_4, Option.bind_some, upd_ne (show 21 ≠ 22 by omega), w21, mgK, u_mix, Option.bind_some, es]
  generalize (111073 + Int32.toInt64 (Int32.ofNat L) : Int64) = s
  have d87 : ∀ s (w : Row), w 20 = Int32.ofNat k → ∃ w', L_X6_digest_87 n 123 0 (mput h m pp tx w s) = some (mx (dTown m (dTr m (dCo m s))) (Int32.ofNat k), mput h m pp tx w' (mx (dTown m (dTr m (dCo m s))) (Int32.ofNat k))) ∧ sameW w w' := by
    intro s w w20
    unfold L_X6_digest_87 dCo
    refine zwh2 (Q := fun r => ∃ w', r = some (mx (dTown m (dTr m (zseq (dCo1 m) s 4))) (Int32.ofNat k), mput h m pp tx w' (mx (dTown m (dTr m (zseq (dCo1 m) s 4))) (Int32.ofNat k))) ∧ sameW w w') (fun j a1 a2 => ∃ c w', c + j = 4 ∧ a1 = Int32.ofNat c ∧ a2 = mput h m pp tx w' (zseq (dCo1 m) s c) ∧ sameW w w') ?_ n 4 _ _ ⟨0, w, rfl, rfl, rfl, fun _ _ _ _ => rfl⟩ (by omega)
    rintro j a1 a2 ⟨c, w1, hj, rfl, rfl, hw1⟩
    cases j with
    | zero =>
      refine Or.inl fun rec => ⟨w1, ?_, hw1⟩
      rw [show c = 4 by omega, if_pos (by decide), u_d124 (by omega), hw1 20 (by omega) (by omega) (by omega), w20]
    | succ j =>
      have hc : c < 4 := by omega
      have inner : ∃ w2 : Row, sameW w w2 ∧ ∀ rec, L_X6_digest_94 n (Int32.ofNat c) rec 123 0 (mput h m pp tx w1 (zseq (dCo1 m) s c)) = rec (Int32.ofNat c + 1) (mput h m pp tx w2 (zseq (dCo1 m) s (c + 1))) := by
        unfold L_X6_digest_94
        refine zrun2 (G := fun (rec : Int32 → zH → Option (Int64 × zH)) (w2 : Row) => rec (Int32.ofNat c + 1) (mput h m pp tx w2 (zseq (dCo1 m) s (c + 1)))) (Q := fun w2 : Row => sameW w w2) (fun j b1 b2 => ∃ i w2, i + j = 9 ∧ b1 = Int32.ofNat i ∧ b2 = mput h m pp tx w2 (zseq (fun k s => mx s (coD m c k)) (zseq (dCo1 m) s c) i) ∧ sameW w w2) ?_ n 9 _ _ ⟨0, w1, rfl, rfl, rfl, hw1⟩ (by omega)
        rintro j b1 b2 ⟨i, w2, hij, rfl, rfl, hw2⟩
        have e8 : ((8 : Int32) < Int32.ofNat i) = (8 < i) := i32_lt_of (a := 8) (by omega) (by omega)
        cases j with
        | zero =>
          refine Or.inl ⟨w2, hw2, fun r rec => ?_⟩
          rw [if_pos (by rw [e8]; omega), show i = 9 by omega]
          rfl
        | succ j =>
          have hi : i < 9 := by omega
          obtain ⟨home, S, w3, e, hw3, hco⟩ := u_tellCompany (h := h) (pp := pp) (tx := tx) (w := w2) (hs := zseq (fun k s => mx s (coD m c k)) (zseq (dCo1 m) s c) i) (n := n) (k := i) hn hWF hc hi
          refine Or.inr ⟨j, _, _, by omega, ⟨i + 1, w3, by omega, rfl, rfl, fun a b d e => by rw [hw3 a b d e, hw2 a b d e]⟩, fun r rec => ?_⟩
          rw [if_neg (by rw [e8]; omega), mgK, e, zb2_s, mgK, u_mix, Option.bind_some, coD_eq hWF.2.2.1 hc hco]
          simp only [zlet]
          rw [i32_succ]
          rfl
      obtain ⟨w2, hw2, e⟩ := inner
      refine Or.inr ⟨j, _, _, by omega, ⟨c + 1, w2, by omega, rfl, rfl, hw2⟩, fun rec => ?_⟩
      rw [if_neg (of_eq_false (ge4 hc)), e, i32_succ]
  obtain ⟨w', e, hw'⟩ := d87 (dPl m mm (dVal m s)) (upd w 22 0) (by rw [upd_ne (by omega), w20])
  refine ⟨w', ?_, by rw [hw' 20 (by omega) (by omega) (by omega), upd_ne (by omega)], by rw [hw' 21 (by omega) (by omega) (by omega), upd_ne (by omega), w21]⟩
  have d45 : L_X6_digest_45 n 123 0 (mput h m pp tx (upd w 22 0) (dVal m s)) = some (digS m mm k s, mput h m pp tx w' (digS m mm k s)) := by
    unfold digS
    rw [← e]
    unfold L_X6_digest_45
    refine zfor2 mm (fun p => Int32.ofNat p) (fun p => mput h m pp tx (upd w 22 0) (zseq (dPl1 m) (dVal m s) p)) (fun p hp rec => ?_) (fun rec => ?_) (by omega)
    · rw [mgR_0, Option.bind_some, mN_0, m0, Option.bind_some, if_neg (i32_ge hp (by omega))]
      unfold L_X6_digest_57
      rw [show zseq (dPl1 m) (dVal m s) p = zseq (fun k s => mx s (playerS m p k)) (zseq (dPl1 m) (dVal m s) p) 0 from rfl]
      refine zfor2 7 (fun i => Int32.ofNat i) (fun i => mput h m pp tx (upd w 22 0) (zseq (fun k s => mx s (playerS m p k)) (zseq (dPl1 m) (dVal m s) p) i)) (fun i hi rec' => ?_) (fun rec' => ?_) (by omega)
      · have e6 : ((6 : Int32) < Int32.ofNat i) = (6 < i) := i32_lt_of (a := 6) (by omega) (by omega)
        rw [if_neg (by rw [e6]; omega), mgK, u_tellPlayer (by omega) (show p < 4 by omega) hi, Option.bind_some, mgK, u_mix, Option.bind_some]
        simp only [zlet]
        rw [i32_succ]
        rfl
      · rw [if_pos (by decide)]
        simp only [zlet]
        rw [i32_succ]
        rfl
    · rw [mgR_0, Option.bind_some, mN_0, m0, Option.bind_some, if_pos (Int32.le_refl _)]
      rfl
  rw [← d45]
  unfold L_X6_digest_22
  refine zfor2 10 (fun i => Int32.ofNat i) (fun i => mput h m pp tx (upd w 22 0) (zseq (fun k s => mx s (numS m (Int32.ofNat k))) s i)) (fun i hi rec => ?_) (fun rec => ?_) (by omega)
  · have e9 : ((9 : Int32) < Int32.ofNat i) = (9 < i) := i32_lt_of (a := 9) (by omega) (by omega)
    rw [if_neg (by rw [e9]; omega), mgK, u_tellValue (by omega) hWF, Option.bind_some, mgK, u_mix, Option.bind_some]
    simp only [zlet]
    rw [i32_succ]
    rfl
  · rw [if_pos (by decide)]
    rfl
theorem call_digest {n B : Nat} {H : zH} (hn : 50000 ≤ n) (hR : REL B H) : ∃ v H1 H2, f_X5_digest n 0 H = some (v, H1) ∧ (∀ {β : Type} (o : Option β), zrc H1 123 6 o = o) ∧ f_X6_digest n 123 H1 = some (v, H2) ∧ REL B H2 := by
  obtain ⟨mm, k, L, g, m, pp, tx, w, st, hs, b, f, hb, hC, hR⟩ := hR
  obtain ⟨H1, e1, hC1⟩ := c_digest (n := n) (by omega) hC hR.1
  obtain ⟨Hb, hH1, hCC⟩ := CS_split hC1
  obtain ⟨w', e2, w20, w21⟩ := u_digest (n := n) (h := Hb) (pp := pp) (tx := tx) (hs := hs) hn (WF_ag hR.2.2.1 hR.1) hR.2.2.2.2.1 hR.2.2.2.2.2.2.1
  refine ⟨_, H1, _, e1, fun o => by rw [hH1]; exact mgK, by rw [dig_ag hR.1 hR.2.2.1, hH1]; exact e2, ⟨mm, k, L, g, m, pp, tx, w', st, _, b, f, hb, hCC _ _ _ _ _, Rel_w hR w20 w21⟩⟩
