/-! THE LAW's WRAPPERS that only ask -/
def hmN (g : Row) (c : Nat) : Nat := (g (35 + 7 * c)).toNatClampNeg
def spN (g : Row) (c : Nat) : Nat := (g (38 + 7 * c)).toNatClampNeg
theorem open_ok {g : Row} {mm c : Nat} (hw : CoW g mm) (hc : c < 4) (ho : g (34 + 7 * c) = 1) : CoOk g c (hmN g c) (spN g c) ∧ 2 ≤ spN g c := by
  rcases (hw c hc).2.2.2 with ⟨-, home, S, hco, h2⟩ | ⟨a, -⟩
  · have e1 : hmN g c = home := by
      unfold hmN
      rw [hco.1, nn_of (by have := hco.2.2.1; omega)]
    have e2 : spN g c = S := by
      unfold spN
      rw [hco.2.1, nn_of (by have := hco.2.2.2.2; omega)]
    rw [e1, e2]
    exact ⟨hco, h2⟩
  · rw [ho] at a
    exact absurd a (by decide)
theorem open_or {g : Row} {mm c : Nat} (hw : CoW g mm) (hc : c < 4) : g (34 + 7 * c) = 1 ∨ g (34 + 7 * c) = 0 := by
  rcases (hw c hc).2.2.2 with ⟨a, -⟩ | ⟨a, -⟩
  · exact Or.inl a
  · exact Or.inr a
def roV (g : Row) (c : Nat) (i : Int32) : Int32 := if g (34 + 7 * c) = 0 then -1 else routeS g (hmN g c) (spN g c) i
def wtV (g : Row) (c i j : Nat) : Int32 := if g (34 + 7 * c) = 0 then -1 else if g (62 + 8 * i + j) < 2 then incUp g (hmN g c) (spN g c) i j else -1
def btV (g : Row) (c : Nat) : Int32 := if g (34 + 7 * c) = 0 then -1 else btS g c (hmN g c) (spN g c)
def diV (g : Row) (c : Nat) : Int32 := if g (34 + 7 * c) = 0 then 0 else incS g (hmN g c) (spN g c) / 10
section N2
variable {st : Nat → Row} {k n mm : Nat} {g : Row} {H : zH}
theorem r_va {j : Nat} (hn : 50000 ≤ n) (hw : WF g mm) (hC : ST st k g H) (hj : j < 10) : f_L_values' n 0 (Int32.ofNat j) H = some (numS g (Int32.ofNat j)) := by
  obtain ⟨h', hH, h05⟩ := CS_H hC
  unfold f_L_values'
  rw [(CS_z hC).1, c_value (by omega) hH h05 (NextOk_of hw) hj]
  rfl
theorem r_pl {p j : Nat} (hn : 50000 ≤ n) (hw : WF g mm) (hC : ST st k g H) (hp : p < mm) (hj : j < 7) : f_L_players' n 0 (Int32.ofNat p) (Int32.ofNat j) H = some (playerS g p j) := by
  obtain ⟨h', hH, h05⟩ := CS_H hC
  unfold f_L_players'
  rw [(CS_z hC).1, p_playerQ (by omega) hH h05 hw.1.2.2.1 hw.1.2.1 hp hj]
  rfl
theorem r_co {c j : Nat} (hn : 50000 ≤ n) (hw : WF g mm) (hC : ST st k g H) (hc : c < 4) (hj : j < 9) : ∃ H', f_L_companies' n 0 (Int32.ofNat c) (Int32.ofNat j) H = some (coD g c j, H') ∧ ST st k g H' := by
  obtain ⟨h', hH, h05⟩ := CS_H hC
  obtain ⟨h0, hcur, hcc⟩ := CS_cur hC
  obtain ⟨home, S, ho⟩ := open_co hw.2.2.1 hc
  obtain ⟨H', e, hC'⟩ := p_companyQ (n := n) (by omega) hcur h05 hw.2.2.2.1 hc hj hw.2.2.1 ho
  refine ⟨H', ?_, hcc _ _ hC'⟩
  unfold f_L_companies'
  rw [(CS_z hC).1, e, coD_eq hw.2.2.1 hc ho]
  rfl
theorem r_tr {i j : Nat} (hC : ST st k g H) (hi : i < 8) (hj : j < 8) : f_L_tracks' n 0 (Int32.ofNat i) (Int32.ofNat j) H = some (g (62 + 8 * i + j)) := by
  obtain ⟨h', hH, h05⟩ := CS_H hC
  unfold f_L_tracks'
  rw [(CS_z hC).1, c_track hH h05 hi hj]
  rfl
theorem r_to {t : Nat} (hC : ST st k g H) (ht : t < 8) : f_L_towns' n 0 (Int32.ofNat t) H = some (g (126 + t)) := by
  obtain ⟨h', hH, h05⟩ := CS_H hC
  unfold f_L_towns'
  rw [(CS_z hC).1, c_town hH h05 ht]
  rfl
theorem r_ro {c i : Nat} (hn : 50000 ≤ n) (hw : WF g mm) (hC : ST st k g H) (hc : c < 4) (hi : i < 600) : ∃ H', f_L_routes' n 0 (Int32.ofNat c) (Int32.ofNat i) H = some (roV g c (Int32.ofNat i), H') ∧ ST st k g H' := by
  obtain ⟨h', hH, h05⟩ := CS_H hC
  obtain ⟨h0, hcur, hcc⟩ := CS_cur hC
  obtain ⟨r1, r2, r3, r4⟩ := cell_co hH hc
  have hy : (0 : Int32) ≤ Int32.ofNat i := by
    rw [show (0 : Int32) = Int32.ofNat 0 from rfl, i32_le_of (by omega) hi]
    omega
  have cls : f_X5_route' n 0 (Int32.ofNat c) (Int32.ofNat i) H = zb2 (f_X1_routeTown n 5 (5 + 15 + 2 * c) (Int32.ofNat i) H) (fun r33 h33 => some (r33, h33)) := by
    unfold f_X5_route'
    rw [company_y (in_of hc (by omega)), Option.bind_some]
    simp only [zlet]
    rw [if_neg (show ¬ (1 : Int32) = 0 by decide), if_pos hy, h05, Option.bind_some, Option.bind_some, r1, Option.bind_some, r2, Option.bind_some, r4]
  unfold f_L_routes' roV
  rw [(CS_z hC).1, cls]
  rcases open_or hw.2.2.1 hc with ho | ho
  · obtain ⟨H', e1, hC1⟩ := p_routeTown (n := n) (i := Int32.ofNat i) (by omega) (by omega) hc hw.2.2.2.1 (open_ok hw.2.2.1 hc ho).1 (by rw [ho]; decide) hcur
    exact ⟨H', by rw [e1, if_neg (by rw [ho]; decide)]; rfl, hcc _ _ hC1⟩
  · exact ⟨H, by rw [p_routeTown0 hc ho hcur, if_pos ho]; rfl, hC⟩
theorem r_wt {c i j : Nat} (hn : 50000 ≤ n) (hw : WF g mm) (hC : ST st k g H) (hc : c < 4) (hi : i < 8) (hj : j < 8) (hij : i ≠ j) : ∃ H', f_L_withTrack' n 0 (Int32.ofNat c) (Int32.ofNat i) (Int32.ofNat j) H = some (wtV g c i j, H') ∧ ST st k g H' := by
  obtain ⟨h', hH, h05⟩ := CS_H hC
  obtain ⟨h0, hcur, hcc⟩ := CS_cur hC
  obtain ⟨r1, r2, r3, r4⟩ := cell_co hH hc
  have z1 : ¬ (1 : Int32) = 0 := by decide
  have hy := in_of hi (show 8 < 600 by omega)
  have hz := in_of hj (show 8 < 600 by omega)
  have hyz : ¬ Int32.ofNat i = Int32.ofNat j := fun q => hij (ofNat_inj (by omega) (by omega) q)
  have l1 : zgR H 5 1 1 = some (5 + 1) := by rw [hH, gR_1]
  have l2 : zgR H (5 + 1) 2 1 = some (5 + 3) := by rw [hH, gL_1]
  have l3 : zar H (5 + 3) 2 (Int32.ofNat i) = some (5 + 4 + i) := by rw [hH, gA_r hy, nn_of (by omega)]
  have l4 : zai H (5 + 4 + i) (Int32.ofNat j) = some (g (62 + 8 * i + j)) := by rw [hH, gA_l hi hz, nn_of (by omega)]
  have cls : f_X5_incomeWith' n 0 (Int32.ofNat c) (Int32.ofNat i) (Int32.ofNat j) H = if g (34 + 7 * c) = 0 then some (-1, H) else if g (62 + 8 * i + j) < 2 then zb2 (f_X1_incomeIfRaised n 5 (5 + 15 + 2 * c) (Int32.ofNat i) (Int32.ofNat j) H) (fun r89 h89 => some (r89, h89)) else some (-1, H) := by
    unfold f_X5_incomeWith'
    rw [company_y (in_of hc (by omega)), Option.bind_some]
    simp only [zlet]
    rw [if_neg z1, town_y hy, Option.bind_some, if_neg z1, town_y hz, Option.bind_some, if_neg z1, if_neg hyz, h05, Option.bind_some, r1, Option.bind_some, r2, Option.bind_some, r3, Option.bind_some, Option.bind_some, l1, Option.bind_some, l2, Option.bind_some, l3, Option.bind_some, l4, Option.bind_some, Option.bind_some, r4]
  unfold f_L_withTrack' wtV
  rw [(CS_z hC).1, cls]
  rcases open_or hw.2.2.1 hc with ho | ho
  · have on : ¬ g (34 + 7 * c) = 0 := by rw [ho]; decide
    rw [if_neg on, if_neg on]
    by_cases c2 : g (62 + 8 * i + j) < 2
    · obtain ⟨H', e1, hC1⟩ := p_incomeIfRaised (n := n) (by omega) (by omega) hc hw.2.2.2.1 (open_ok hw.2.2.1 hc ho).1 hy hz hcur
      rw [nn_of (by omega), nn_of (by omega)] at e1
      exact ⟨H', by rw [if_pos c2, if_pos c2, e1]; rfl, hcc _ _ hC1⟩
    · exact ⟨H, by rw [if_neg c2, if_neg c2]; rfl, hC⟩
  · exact ⟨H, by rw [if_pos ho, if_pos ho]; rfl, hC⟩
theorem r_bt {c : Nat} (hn : 50000 ≤ n) (hw : WF g mm) (hC : ST st k g H) (hc : c < 4) : ∃ H', f_L_bestOf' n 0 (Int32.ofNat c) H = some (btV g c, H') ∧ ST st k g H' := by
  obtain ⟨h', hH, h05⟩ := CS_H hC
  obtain ⟨h0, hcur, hcc⟩ := CS_cur hC
  obtain ⟨r1, r2, r3, r4⟩ := cell_co hH hc
  have cls : f_X5_bestTrack' n 0 (Int32.ofNat c) H = zb2 (f_X1_bestTrackOf n 5 (5 + 15 + 2 * c) H) (fun r28 h28 => some (r28, h28)) := by
    unfold f_X5_bestTrack'
    rw [company_y (in_of hc (by omega)), Option.bind_some, if_neg (show ¬ (1 : Int32) = 0 by decide), h05, Option.bind_some, Option.bind_some, r1, Option.bind_some, r2, Option.bind_some, r4]
  unfold f_L_bestOf' btV
  rw [(CS_z hC).1, cls]
  rcases open_or hw.2.2.1 hc with ho | ho
  · have on : ¬ g (34 + 7 * c) = 0 := by rw [ho]; decide
    obtain ⟨H', e1, hC1⟩ := p_bestTrackOf (n := n) (by omega) (by omega) hc hw.2.2.2.1 (open_ok hw.2.2.1 hc ho).1 on hcur
    exact ⟨H', by rw [e1, if_neg on, zb2_s, zb2_s], hcc _ _ hC1⟩
  · refine ⟨H, ?_, hC⟩
    rw [e_X1_bestTrackOf, bt_shut7 (by omega) rfl (by rw [r3, ho]), if_pos ho]
    rfl
theorem r_di {c : Nat} (hn : 50000 ≤ n) (hw : WF g mm) (hC : ST st k g H) (hc : c < 4) : ∃ H', f_L_dividends' n 0 (Int32.ofNat c) H = some (diV g c, H') ∧ ST st k g H' := by
  obtain ⟨h', hH, h05⟩ := CS_H hC
  obtain ⟨h0, hcur, hcc⟩ := CS_cur hC
  obtain ⟨r1, r2, r3, r4⟩ := cell_co hH hc
  have cls : f_X5_dividend' n 0 (Int32.ofNat c) H = if g (34 + 7 * c) = 0 then some (0, H) else zb2 (f_X1_incomeOf n 5 (5 + 15 + 2 * c) H) (fun r37 h37 => some (r37 / 10, h37)) := by
    unfold f_X5_dividend'
    rw [company_y (in_of hc (by omega)), Option.bind_some, if_neg (show ¬ (1 : Int32) = 0 by decide), h05, Option.bind_some, r1, Option.bind_some, r2, Option.bind_some, r3, Option.bind_some, Option.bind_some, r4]
  unfold f_L_dividends' diV
  rw [(CS_z hC).1, cls]
  rcases open_or hw.2.2.1 hc with ho | ho
  · have on : ¬ g (34 + 7 * c) = 0 := by rw [ho]; decide
    obtain ⟨H', e1, hC1⟩ := p_incomeOf (n := n) (by omega) (by omega) hc hw.2.2.2.1 (open_ok hw.2.2.1 hc ho).1 hcur
    exact ⟨H', by rw [if_neg on, if_neg on, e1]; rfl, hcc _ _ hC1⟩
  · exact ⟨H, by rw [if_pos ho, if_pos ho]; rfl, hC⟩
theorem r_dig (hn : 50000 ≤ n) (hw : WF g mm) (st : Nat → Row) (k : Nat) : ∃ D, ∀ H, ST st k g H → ∃ H', f_X5_digest n 0 H = some (D, H') ∧ ST st k g H' := ⟨_, fun _ hC => c_digest (by omega) hC hw⟩
theorem r_lead (hn : 50000 ≤ n) (hw : WF g mm) (hC : ST st k g H) : f_X5_leader n 0 H = some (leadS g (mm - 1)) := by
  obtain ⟨h', hH, h05⟩ := CS_H hC
  obtain ⟨m1, m4, g0, t, ht, et⟩ := hw.1
  have hlt : ∀ j, j < mm - 1 → ¬ Int32.ofNat mm ≤ Int32.ofNat (j + 1) := fun j hj => i32_ge (by omega) (by omega)
  unfold f_X5_leader
  refine zfor2 (mm - 1) (fun j => leadS g j) (fun j => Int32.ofNat (j + 1)) (fun j hj rec => ?_) (fun rec => ?_) (by omega)
  · obtain ⟨i, hi, ei⟩ := lead_in (g := g) j
    have ew : ∀ {x : Int32}, vp_in x 4 → f_X1_worthOf n 5 x H = some (worthS g x.toNatClampNeg) := fun hx => by
      rw [hH]
      exact p_worthOf (by omega) hx
    rw [h05, Option.bind_some]
    conv => lhs; rw [hH, gI_8, ← hH]
    rw [g0, Option.bind_some, if_neg (hlt j hj), Option.bind_some, (CS_z hC).2.1, ew (in_of (show j + 1 < 4 by omega) (by omega)), nn_of (show j + 1 < 600 by omega), Option.bind_some, Option.bind_some, (CS_z hC).2.1, ei, ew (in_of (show i < 4 by omega) (by omega)), Option.bind_some]
    simp only [zlet]
    rw [show leadS g (j + 1) = if worthS g (j + 1) ≤ worthS g (leadS g j).toNatClampNeg then leadS g j else Int32.ofNat (j + 1) from rfl, ei]
    split
    · rw [i32_succ]
    · rw [i32_succ]
  · rw [h05, Option.bind_some]
    conv => lhs; rw [hH, gI_8, ← hH]
    rw [g0, Option.bind_some, show mm - 1 + 1 = mm by omega, if_pos (Int32.le_refl _)]
/-- the unsold part: of a shares of d open companies -/
theorem r_uns {a d : Nat} (hn : 50000 ≤ n) (hw : WF g mm) (hC : ST st k g H) (ea : unsoldS g = Int32.ofNat a) (ed : openS g = Int32.ofNat d) (hd : d ≤ 4) : f_X5_unsold n 0 H = if d = 0 then some FP.dconst0 else (zdd (FP.i2d (Int32.ofNat a)) (FP.i2d (Int32.ofNat (10 * d)))).bind fun v => some v := by
  obtain ⟨h', hH, h05⟩ := CS_H hC
  have d0 : (Int32.ofNat d = 0) = (d = 0) := i32_eq_of (b := 0) (by omega) (by omega)
  have d10 : (10 : Int32) * Int32.ofNat d = Int32.ofNat (10 * d) := (Int32.ofNat_mul 10 d).symm
  unfold f_X5_unsold
  have e1 := p_openCompanies (n := n) (h := h') (b := 5) (g := g) (by omega)
  have e2 := p_unsoldShares (n := n) (h := h') (b := 5) (g := g) (by omega)
  rw [← hH, ed] at e1
  rw [← hH, ea] at e2
  rw [h05, Option.bind_some, (CS_z hC).2.1, e1, Option.bind_some]
  by_cases c : d = 0
  · rw [if_pos c, if_pos (by rw [d0]; exact c)]
  · rw [if_neg c, if_neg (by rw [d0]; exact c), Option.bind_some, (CS_z hC).2.1, e2, Option.bind_some, d10]
/-! operate -/
theorem cls_op1 {x y z : Int32} {r : Option zO2} (hxy : ¬ (x = -1 ∧ y = -1)) (q : (zlet (zlet (opK n x y z H) fun K62 => if (1 : Int32) = 0 then (K62) else (if x = y then (some (.inl 0, H)) else (K62))) fun K44 => if (1 : Int32) = 0 then (K44) else ((f_X5_isTown n x H).bind fun (r23 : Int32) => zlet (some (.inl 1, H)) fun K36 => if r23 = 0 then (K36) else ((f_X5_isTown n y H).bind fun (r30 : Int32) => if r30 = 0 then (K36) else (K44)))) = r) : f_X5_operate n 0 x y z H = r := by
  rw [e_op5]
  simp only [zlet] at q ⊢
  by_cases c1 : x = -1
  · rw [if_pos c1, if_neg (fun c2 => hxy ⟨c1, c2⟩), q]
  · rw [if_neg c1, q]
theorem w_op_ix {x y z : Int32} (hC : ST st k g H) (hxy : ¬ (x = -1 ∧ y = -1)) (hq : ¬ (vp_in x 8 ∧ vp_in y 8)) : f_L_operates n 0 x y z H = some (-5000003, H) := by
  have z1 : ¬ (1 : Int32) = 0 := by decide
  have e : f_X5_operate n 0 x y z H = some (.inl 1, H) := by
    refine cls_op1 hxy ?_
    by_cases hx : vp_in x 8
    · simp only [zlet, if_neg z1, town_y hx, town_n (fun hy => hq ⟨hx, hy⟩), Option.bind_some, if_true]
    · simp only [zlet, if_neg z1, town_n hx, Option.bind_some, if_true]
  unfold f_L_operates
  rw [(CS_z hC).1, e]
  rfl
theorem w_op_ar {x z : Int32} (hC : ST st k g H) (hx : vp_in x 8) : f_L_operates n 0 x x z H = some (-5000001, H) := by
  have z1 : ¬ (1 : Int32) = 0 := by decide
  have hxy : ¬ (x = -1 ∧ x = -1) := fun q => by
    have := q.1
    subst this
    exact hx (Or.inl (by decide))
  have e : f_X5_operate n 0 x x z H = some (.inl 0, H) := by
    refine cls_op1 hxy ?_
    simp only [zlet, if_neg z1, town_y hx, Option.bind_some, if_true]
  unfold f_L_operates
  rw [(CS_z hC).1, e]
  rfl
theorem cls_op0 {z : Int32} : f_X5_operate n 0 (-1) (-1) z H = opK n (-1) (-1) z H := by
  rw [e_op5]
  generalize hx : (-1 : Int32) = x
  simp only [zlet, if_true]
theorem cls_op2 {i j : Nat} {z : Int32} (hi : i < 8) (hj : j < 8) (hij : i ≠ j) : f_X5_operate n 0 (Int32.ofNat i) (Int32.ofNat j) z H = opK n (Int32.ofNat i) (Int32.ofNat j) z H := by
  have z1 : ¬ (1 : Int32) = 0 := by decide
  have he : ¬ Int32.ofNat i = Int32.ofNat j := fun q => hij (ofNat_inj (by omega) (by omega) q)
  refine cls_op1 (fun q => ofNat_ne_neg (by omega) q.1) ?_
  simp only [zlet, if_neg z1, town_y (in_of hi (show 8 < 600 by omega)), town_y (in_of hj (show 8 < 600 by omega)), Option.bind_some, if_neg he]
theorem can_op0 (hn : 50000 ≤ n) (hw : WF g mm) (hC : ST st k g H) : f_X1_canOperate n 5 (-1) (-1) H = some (if nextC g = -1 then 0 else 1, H) := by
  obtain ⟨h0, hcur, hcc⟩ := CS_cur hC
  obtain ⟨h', hput, hcu⟩ := Cur_mk hcur
  have nok := NextOk_of hw
  unfold f_X1_canOperate
  rw [(CS_z hC).2.1]
  have e := p_nextCompany (n := n) (h := h') (b := 5) nok.1
  rw [← hput] at e
  rw [e, Option.bind_some]
  generalize hx : (-1 : Int32) = x
  by_cases c : nextC g = x
  · rw [if_pos c, if_pos c]
  · rw [if_neg c, if_neg c]
    simp only [zlet, if_true]
theorem w_op_st0 {z : Int32} (hn : 50000 ≤ n) (hw : WF g mm) (hC : ST st k g H) (hnc : nextC g = -1) : f_L_operates n 0 (-1) (-1) z H = some (-5000002, H) := by
  have e : f_X5_operate n 0 (-1) (-1) z H = some (.inl 2, H) := by
    rw [cls_op0]
    unfold opK
    rw [(CS_z hC).2.2, Option.bind_some, (CS_z hC).2.1, can_op0 hn hw hC, if_pos hnc]
    rfl
  unfold f_L_operates
  rw [(CS_z hC).1, e]
  rfl
theorem w_op_st1 {i j : Nat} {z : Int32} (hn : 50000 ≤ n) (hw : WF g mm) (hC : ST st k g H) (hi : i < 8) (hj : j < 8) (hij : i ≠ j) (hnc : nextC g = -1) : f_L_operates n 0 (Int32.ofNat i) (Int32.ofNat j) z H = some (-5000002, H) := by
  obtain ⟨h0, hcur, hcc⟩ := CS_cur hC
  obtain ⟨k1, k2⟩ := p_canOp (n := n) (x1 := 0) (by omega) (NextOk_of hw) hi hj hcur
  have e : f_X5_operate n 0 (Int32.ofNat i) (Int32.ofNat j) z H = some (.inl 2, H) := by
    rw [cls_op2 hi hj hij]
    unfold opK
    rw [(CS_z hC).2.2, Option.bind_some, (CS_z hC).2.1, k1 hnc]
    rfl
  unfold f_L_operates
  rw [(CS_z hC).1, e]
  rfl
theorem op_end {H2 : zH} {x y z v : Int32} {g' : Row} (hn : 50000 ≤ n) (hk : k ≤ 4) (hw : WF g mm) (hC : ST st k g H) (hC2 : ST st k g H2) (hcls : f_X5_operate n 0 x y z H = opE n x y z H2) (hop : ∀ h0 H3, Cur h0 5 g H3 → ∃ H4, f_X1_operateNext n 5 x y z H3 = some (v, H4) ∧ Cur h0 5 g' H4) : ∃ H', f_L_operates n 0 x y z H = some (v, H') ∧ ST (pushSt st k g) (pushK k) g' H' := by
  obtain ⟨H3, e1, hC3⟩ := p_saveState (n := n) (by omega) hk (WF_bools hw) hC2
  obtain ⟨h0, hcur, hcc⟩ := CS_cur hC3
  obtain ⟨H4, e2, hcu⟩ := hop h0 H3 hcur
  refine ⟨H4, ?_, hcc _ _ hcu⟩
  have e : f_X5_operate n 0 x y z H = some (.inr v, H4) := by
    rw [hcls]
    unfold opE zb2
    rw [(CS_z hC2).1, e1, Option.bind_some, (CS_z hC3).2.2, Option.bind_some, (CS_z hC3).2.1, e2, Option.bind_some]
  unfold f_L_operates
  rw [(CS_z hC).1, e]
  rfl
theorem w_op_0 {c : Nat} {z : Int32} (hn : 50000 ≤ n) (hk : k ≤ 4) (hw : WF g mm) (hC : ST st k g H) (hc : c < 4) (ho : g (34 + 7 * c) = 1) (hnc : nextC g = Int32.ofNat c) : ∃ H', f_L_operates n 0 (-1) (-1) z H = some (incS g (hmN g c) (spN g c), H') ∧ ST (pushSt st k g) (pushK k) (rEarn g mm c (incS g (hmN g c) (spN g c)) (decide (z ≠ 0))) H' := by
  have hco := (open_ok hw.2.2.1 hc ho).1
  refine op_end hn hk hw hC hC ?_ (fun h1 H3 hcu3 => ?_)
  · rw [cls_op0]
    unfold opK
    rw [(CS_z hC).2.2, Option.bind_some, (CS_z hC).2.1, can_op0 hn hw hC, if_neg (by rw [hnc]; exact ofNat_ne_neg (by omega))]
    rfl
  · exact p_operateNext0 (by omega) (Nat.le_refl 5) hc hw.2.2.2.1 hco (CoW_pa hw.1.2.1 hw.2.2.1) hw.1.2.2.1 hw.1.2.1 (NextOk_of hw) hnc hcu3
theorem w_op_1 {c i j : Nat} {z : Int32} (hn : 50000 ≤ n) (hk : k ≤ 4) (hw : WF g mm) (hC : ST st k g H) (hc : c < 4) (ho : g (34 + 7 * c) = 1) (hnc : nextC g = Int32.ofNat c) (hi : i < 8) (hj : j < 8) (hij : i ≠ j) (hlay : layB g c (hmN g c) i j = true) : ∃ H', f_L_operates n 0 (Int32.ofNat i) (Int32.ofNat j) z H = some (incS (rTrack g c i j) (hmN g c) (spN g c), H') ∧ ST (pushSt st k g) (pushK k) (rEarn (rTrack g c i j) mm c (incS (rTrack g c i j) (hmN g c) (spN g c)) (decide (z ≠ 0))) H' := by
  have hco := (open_ok hw.2.2.1 hc ho).1
  obtain ⟨h0, hcur, hcc⟩ := CS_cur hC
  obtain ⟨k1, k2⟩ := p_canOp (n := n) (x1 := 0) (by omega) (NextOk_of hw) hi hj hcur
  obtain ⟨H2, hcu2, e2⟩ := k2 c _ _ hc hnc hco
  rw [if_pos hlay] at e2
  refine op_end hn hk hw hC (hcc _ _ hcu2) ?_ (fun h1 H3 hcu3 => ?_)
  · rw [cls_op2 hi hj hij]
    unfold opK
    rw [(CS_z hC).2.2, Option.bind_some, (CS_z hC).2.1, e2]
    rfl
  · exact p_operateNext1 (by omega) (Nat.le_refl 5) hc hi hj hw.2.2.2.1 hco (CoW_pa hw.1.2.1 hw.2.2.1) hw.1.2.2.1 hw.1.2.1 (NextOk_of hw) hnc hcu3
theorem w_op_no {c i j : Nat} {z : Int32} (hn : 50000 ≤ n) (hw : WF g mm) (hC : ST st k g H) (hc : c < 4) (ho : g (34 + 7 * c) = 1) (hnc : nextC g = Int32.ofNat c) (hi : i < 8) (hj : j < 8) (hij : i ≠ j) (hlay : ¬ layB g c (hmN g c) i j = true) : ∃ H', f_L_operates n 0 (Int32.ofNat i) (Int32.ofNat j) z H = some (-5000002, H') ∧ ST st k g H' := by
  have hco := (open_ok hw.2.2.1 hc ho).1
  obtain ⟨h0, hcur, hcc⟩ := CS_cur hC
  obtain ⟨k1, k2⟩ := p_canOp (n := n) (x1 := 0) (by omega) (NextOk_of hw) hi hj hcur
  obtain ⟨H2, hcu2, e2⟩ := k2 c _ _ hc hnc hco
  rw [if_neg hlay] at e2
  refine ⟨H2, ?_, hcc _ _ hcu2⟩
  have e : f_X5_operate n 0 (Int32.ofNat i) (Int32.ofNat j) z H = some (.inl 2, H2) := by
    rw [cls_op2 hi hj hij]
    unfold opK
    rw [(CS_z hC).2.2, Option.bind_some, (CS_z hC).2.1, e2]
    rfl
  unfold f_L_operates
  rw [(CS_z hC).1, e]
  rfl
end N2
