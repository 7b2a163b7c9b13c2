def f_J7_fill_53178 (n : Nat) (p0 : Nat) (p1 : Int32) (h : zH) : Option (zH) := (zlen h p0).bind fun (v3 : Int32) => zfix2 (fun rec5 (a2_5 : Int32) (h5 : zH) => if v3 ≤ a2_5 then (some h5) else ((zsi h5 p0 a2_5 p1).bind fun (h13 : zH) => zlet (a2_5 + 1) fun (x14 : Int32) => rec5 x14 h13)) n (0 : Int32) h
theorem zn_J7_fill_53178 : zNm yJ7_fill_53178 2 := ⟨by decide +kernel, by decide +kernel⟩
set_option maxRecDepth 100000 in
set_option maxHeartbeats 4000000 in
theorem c_J7_fill_53178 (l : Launch) (B : Nat) (D : va_G) (cA : Nat → ClassId) (n : Nat) (p0 : Nat) (p1 : Int32) (h : zH) : ∀ u, f_J7_fill_53178 n p0 p1 h = some u → zM l B D cA yJ7_fill_53178 cJ7_fill_53178 4 none 1 0 0 none [.ref (B + p0), .int p1] h ((fun h1 : zH => ((none : Option Value), h1)) u).1 ((fun h1 : zH => ((none : Option Value), h1)) u).2 := by
  unfold f_J7_fill_53178
  refine z_met (own := RJ7) (fun h1 : zH => ((none : Option Value), h1)) rfl (by decide) rfl (fun Z C hr _ _ => ?_)
  have hz0 : (z00 Z).1 ≤ 0 ∧ (z00 Z).2.1 ≤ 0 := ⟨Nat.le_refl 0, Nat.le_refl 0⟩
  refine z_iconst (pc := 0) (v := 0) C (zD D_J7_fill_53178_0 0 rfl) (by decide) ?_
  refine z_istore_n (pc := 1) (lv' := [(2, .int (0 : Int32)), (0, .ref (B + p0)), (1, .int p1)]) C (zD D_J7_fill_53178_0 1 rfl) rfl (by decide) rfl ?_
  refine z_aload_n (pc := 2) C (zD D_J7_fill_53178_0 2 rfl) rfl 1 rfl ?_
  refine z_alen (pc := 3) C (zD D_J7_fill_53178_0 3 rfl) (fun v3 => ?_)
  refine z_istore_n (pc := 4) (lv' := [(3, .int v3), (2, .int (0 : Int32)), (0, .ref (B + p0)), (1, .int p1)]) C (zD D_J7_fill_53178_0 4 rfl) rfl (by decide) rfl ?_
  refine z_sub [2, 3, 1, 0] (lv' := [(0, .ref (B + p0)), (1, .int p1), (2, .int (0 : Int32)), (3, .int v3)]) rfl ?_
  refine z_fix2 (fun g5 => ∀ (a2_5 : Int32) (h5 : zH), zJ B Z (zEnd B Z (fun h1 : zH => ((none : Option Value), h1)) 0 0) (g5 a2_5 h5) 5 [(0, .ref (B + p0)), (1, .int p1), (2, .int a2_5), (3, .int v3)] [] h5 (z00 Z)) (fun _ _ => z_none) (fun rec5 hrec5 a2_5 h5 => ?_) n (0 : Int32) h
  refine z_iload_n (pc := 5) C (zD D_J7_fill_53178_0 5 rfl) rfl 2 rfl ?_
  refine z_iload_n (pc := 6) C (zD D_J7_fill_53178_0 6 rfl) rfl 3 rfl ?_
  refine z_icmp_ge (pc := 7) C (zD D_J7_fill_53178_0 7 rfl) (tgt := 20) (by decide) (fun _ => ?_) (fun _ => ?_)
  · exact z_vret (pc := 20) C hr rfl (zD D_J7_fill_53178_0 14 rfl)
  · refine z_aload_n (pc := 10) C (zD D_J7_fill_53178_0 8 rfl) rfl 0 rfl ?_
    refine z_iload_n (pc := 11) C (zD D_J7_fill_53178_0 9 rfl) rfl 2 rfl ?_
    refine z_iload_n (pc := 12) C (zD D_J7_fill_53178_0 10 rfl) rfl 1 rfl ?_
    refine z_aistore (pc := 13) C (zD D_J7_fill_53178_0 11 rfl) (fun h13 => ?_)
    refine z_iincL (pc := 14) (lv' := fun x14 => [(2, .int x14), (0, .ref (B + p0)), (1, .int p1), (3, .int v3)]) C (zD D_J7_fill_53178_0 12 rfl) 2 rfl (v := a2_5 + 1) rfl (by decide) (fun _ => rfl) (fun x14 => ?_)
    refine z_goto (pc := 17) C (zD D_J7_fill_53178_0 13 rfl) (tgt := 5) (by decide) ?_
    refine z_sub [1, 2, 0, 3] (lv' := [(0, .ref (B + p0)), (1, .int p1), (2, .int x14), (3, .int v3)]) rfl ?_
    exact hrec5 x14 h13
def f_X5_isCompany (n : Nat) (p0 : Int32) (h : zH) : Option (Int32) := zlet (some (0 : Int32)) fun K13 => if p0 < 0 then (K13) else (if (4 : Int32) ≤ p0 then (K13) else (some (1 : Int32)))
theorem zn_X5_isCompany : zNm yX5_isCompany 1 := ⟨by decide +kernel, by decide +kernel⟩
set_option maxRecDepth 100000 in
set_option maxHeartbeats 4000000 in
theorem c_X5_isCompany (l : Launch) (B : Nat) (D : va_G) (cA : Nat → ClassId) (n : Nat) (p0 : Int32) (h : zH) : ∀ u, f_X5_isCompany n p0 h = some u → zM l B D cA yX5_isCompany cX5_isCompany 1 (some .boolean) 1 0 0 none [.int p0] h ((fun r : Int32 => (some (Value.int r), h)) u).1 ((fun r : Int32 => (some (Value.int r), h)) u).2 := by
  unfold f_X5_isCompany
  refine z_met (own := RX5) (fun r : Int32 => (some (Value.int r), h)) rfl (by decide) rfl (fun Z C hr _ _ => ?_)
  have hz0 : (z00 Z).1 ≤ 0 ∧ (z00 Z).2.1 ≤ 0 := ⟨Nat.le_refl 0, Nat.le_refl 0⟩
  refine z_iload_n (pc := 0) C (zD D_X5_isCompany_0 0 rfl) rfl 0 rfl ?_
  refine z_letg (fun K13 => zJ B Z (zEnd B Z (fun r : Int32 => (some (Value.int r), h)) 0 0) (K13) 13 [] [] h (z00 Z)) ?_ (fun K13 hK13 => ?_)
  · refine z_iconst (pc := 13) (v := 0) C (zD D_X5_isCompany_0 7 rfl) (by decide) ?_
    exact z_zret (pc := 14) C hr (by decide) rfl (zD D_X5_isCompany_0 8 rfl)
  refine z_if_lt (pc := 1) C (zD D_X5_isCompany_0 1 rfl) (tgt := 13) (by decide) (fun _ => ?_) (fun _ => ?_)
  · refine z_sub [] (lv' := []) rfl ?_
    exact hK13
  · refine z_iload_n (pc := 4) C (zD D_X5_isCompany_0 2 rfl) rfl 0 rfl ?_
    refine z_iconst (pc := 5) (v := 4) C (zD D_X5_isCompany_0 3 rfl) (by decide) ?_
    refine z_icmp_ge (pc := 6) C (zD D_X5_isCompany_0 4 rfl) (tgt := 13) (by decide) (fun _ => ?_) (fun _ => ?_)
    · refine z_sub [] (lv' := []) rfl ?_
      exact hK13
    · refine z_iconst (pc := 9) (v := 1) C (zD D_X5_isCompany_0 5 rfl) (by decide) ?_
      refine z_goto (pc := 10) C (zD D_X5_isCompany_0 6 rfl) (tgt := 14) (by decide) ?_
      exact z_zret (pc := 14) C hr (by decide) rfl (zD D_X5_isCompany_0 8 rfl)
def f_X5_isTown (n : Nat) (p0 : Int32) (h : zH) : Option (Int32) := zlet (some (0 : Int32)) fun K14 => if p0 < 0 then (K14) else (if (8 : Int32) ≤ p0 then (K14) else (some (1 : Int32)))
theorem zn_X5_isTown : zNm yX5_isTown 1 := ⟨by decide +kernel, by decide +kernel⟩
set_option maxRecDepth 100000 in
set_option maxHeartbeats 4000000 in
theorem c_X5_isTown (l : Launch) (B : Nat) (D : va_G) (cA : Nat → ClassId) (n : Nat) (p0 : Int32) (h : zH) : ∀ u, f_X5_isTown n p0 h = some u → zM l B D cA yX5_isTown cX5_isTown 1 (some .boolean) 1 0 0 none [.int p0] h ((fun r : Int32 => (some (Value.int r), h)) u).1 ((fun r : Int32 => (some (Value.int r), h)) u).2 := by
  unfold f_X5_isTown
  refine z_met (own := RX5) (fun r : Int32 => (some (Value.int r), h)) rfl (by decide) rfl (fun Z C hr _ _ => ?_)
  have hz0 : (z00 Z).1 ≤ 0 ∧ (z00 Z).2.1 ≤ 0 := ⟨Nat.le_refl 0, Nat.le_refl 0⟩
  refine z_iload_n (pc := 0) C (zD D_X5_isTown_0 0 rfl) rfl 0 rfl ?_
  refine z_letg (fun K14 => zJ B Z (zEnd B Z (fun r : Int32 => (some (Value.int r), h)) 0 0) (K14) 14 [] [] h (z00 Z)) ?_ (fun K14 hK14 => ?_)
  · refine z_iconst (pc := 14) (v := 0) C (zD D_X5_isTown_0 7 rfl) (by decide) ?_
    exact z_zret (pc := 15) C hr (by decide) rfl (zD D_X5_isTown_0 8 rfl)
  refine z_if_lt (pc := 1) C (zD D_X5_isTown_0 1 rfl) (tgt := 14) (by decide) (fun _ => ?_) (fun _ => ?_)
  · refine z_sub [] (lv' := []) rfl ?_
    exact hK14
  · refine z_iload_n (pc := 4) C (zD D_X5_isTown_0 2 rfl) rfl 0 rfl ?_
    refine z_bipush (pc := 5) (v := 8) C (zD D_X5_isTown_0 3 rfl) (by decide) ?_
    refine z_icmp_ge (pc := 7) C (zD D_X5_isTown_0 4 rfl) (tgt := 14) (by decide) (fun _ => ?_) (fun _ => ?_)
    · refine z_sub [] (lv' := []) rfl ?_
      exact hK14
    · refine z_iconst (pc := 10) (v := 1) C (zD D_X5_isTown_0 5 rfl) (by decide) ?_
      refine z_goto (pc := 11) C (zD D_X5_isTown_0 6 rfl) (tgt := 15) (by decide) ?_
      exact z_zret (pc := 15) C hr (by decide) rfl (zD D_X5_isTown_0 8 rfl)
