def f_X6_begins (n : Nat) (this : Nat) (p0 : Int32) (h : zH) : Option (zH) := zfix2 (fun rec2 (a2_2 : Int32) (h2 : zH) => if (126 : Int32) ≤ a2_2 then ((zgR h2 this 6 0).bind fun (v22 : Nat) => (zsi h2 v22 (0 : Int32) p0).bind fun (h27 : zH) => zfix2 (fun rec30 (a2_30 : Int32) (h30 : zH) => if p0 ≤ a2_30 then (zfix2 (fun rec55 (a2_55 : Int32) (h55 : zH) => if (4 : Int32) ≤ a2_55 then (some h55) else ((zgR h55 this 6 0).bind fun (v61 : Nat) => (zsi h55 v61 (((34 : Int32) + ((7 : Int32) * a2_55)) + (5 : Int32)) (-1 : Int32)).bind fun (h74 : zH) => zlet (a2_55 + 1) fun (x75 : Int32) => rec55 x75 h74)) n (0 : Int32) h30) else ((zgR h30 this 6 0).bind fun (v36 : Nat) => (zsi h30 v36 ((14 : Int32) + a2_30) (500 : Int32)).bind fun (h46 : zH) => zlet (a2_30 + 1) fun (x47 : Int32) => rec30 x47 h46)) n (0 : Int32) h27) else ((zgR h2 this 6 0).bind fun (v9 : Nat) => (zsi h2 v9 a2_2 (0 : Int32)).bind fun (h14 : zH) => zlet (a2_2 + 1) fun (x15 : Int32) => rec2 x15 h14)) n (0 : Int32) h
theorem zn_X6_begins : zNm yX6_begins 1 := ⟨by decide +kernel, by decide +kernel⟩
set_option maxRecDepth 100000 in
set_option maxHeartbeats 4000000 in
theorem c_X6_begins (l : Launch) (B : Nat) (D : va_G) (cA : Nat → ClassId) (n : Nat) (this : Nat) (p0 : Int32) (h : zH) : ∀ u, f_X6_begins n this p0 h = some u → zM l B D cA yX6_begins cX6_begins 3 none 1 0 0 none [.ref (B + this), .int p0] h ((fun h1 : zH => ((none : Option Value), h1)) u).1 ((fun h1 : zH => ((none : Option Value), h1)) u).2 := by
  unfold f_X6_begins
  refine z_met (own := RX6) (fun h1 : zH => ((none : Option Value), h1)) rfl (by decide) rfl (fun Z C hr _ _ => ?_)
  have hz0 : (z00 Z).1 ≤ 0 ∧ (z00 Z).2.1 ≤ 0 := ⟨Nat.le_refl 0, Nat.le_refl 0⟩
  refine z_iconst (pc := 0) (v := 0) C (zD D_X6_begins_0 0 rfl) (by decide) ?_
  refine z_istore_n (pc := 1) (lv' := [(2, .int (0 : Int32)), (0, .ref (B + this)), (1, .int p0)]) C (zD D_X6_begins_0 1 rfl) rfl (by decide) rfl ?_
  refine z_sub [1, 2, 0] (lv' := [(0, .ref (B + this)), (1, .int p0), (2, .int (0 : Int32))]) rfl ?_
  refine z_fix2 (fun g2 => ∀ (a2_2 : Int32) (h2 : zH), zJ B Z (zEnd B Z (fun h1 : zH => ((none : Option Value), h1)) 0 0) (g2 a2_2 h2) 2 [(0, .ref (B + this)), (1, .int p0), (2, .int a2_2)] [] h2 (z00 Z)) (fun _ _ => z_none) (fun rec2 hrec2 a2_2 h2 => ?_) n (0 : Int32) h
  refine z_iload_n (pc := 2) C (zD D_X6_begins_0 2 rfl) rfl 2 rfl ?_
  refine z_bipush (pc := 3) (v := 126) C (zD D_X6_begins_0 3 rfl) (by decide) ?_
  refine z_icmp_ge (pc := 5) C (zD D_X6_begins_0 4 rfl) (tgt := 21) (by decide) (fun _ => ?_) (fun _ => ?_)
  · refine z_aload_n (pc := 21) C (zD D_X6_begins_0 12 rfl) rfl 0 rfl ?_
    refine z_getR (pc := 22) C zc6 0 (by decide) q_102 (zD D_X6_begins_0 13 rfl) (fun v22 => ?_)
    refine z_iconst (pc := 25) (v := 0) C (zD D_X6_begins_0 14 rfl) (by decide) ?_
    refine z_iload_n (pc := 26) C (zD D_X6_begins_0 15 rfl) rfl 1 rfl ?_
    refine z_aistore (pc := 27) C (zD D_X6_begins_0 16 rfl) (fun h27 => ?_)
    refine z_iconst (pc := 28) (v := 0) C (zD D_X6_begins_0 17 rfl) (by decide) ?_
    refine z_istore_n (pc := 29) (lv' := [(2, .int (0 : Int32)), (0, .ref (B + this)), (1, .int p0)]) C (zD D_X6_begins_0 18 rfl) rfl (by decide) rfl ?_
    refine z_sub [1, 2, 0] (lv' := [(0, .ref (B + this)), (1, .int p0), (2, .int (0 : Int32))]) rfl ?_
    refine z_fix2 (fun g30 => ∀ (a2_30 : Int32) (h30 : zH), zJ B Z (zEnd B Z (fun h1 : zH => ((none : Option Value), h1)) 0 0) (g30 a2_30 h30) 30 [(0, .ref (B + this)), (1, .int p0), (2, .int a2_30)] [] h30 (z00 Z)) (fun _ _ => z_none) (fun rec30 hrec30 a2_30 h30 => ?_) n (0 : Int32) h27
    refine z_iload_n (pc := 30) C (zD D_X6_begins_0 19 rfl) rfl 2 rfl ?_
    refine z_iload_n (pc := 31) C (zD D_X6_begins_0 20 rfl) rfl 1 rfl ?_
    refine z_icmp_ge (pc := 32) C (zD D_X6_begins_0 21 rfl) (tgt := 53) (by decide) (fun _ => ?_) (fun _ => ?_)
    · refine z_iconst (pc := 53) (v := 0) C (zD D_X6_begins_0 31 rfl) (by decide) ?_
      refine z_istore_n (pc := 54) (lv' := [(2, .int (0 : Int32)), (0, .ref (B + this)), (1, .int p0)]) C (zD D_X6_begins_0 32 rfl) rfl (by decide) rfl ?_
      refine z_sub [1, 0] (lv' := [(0, .ref (B + this)), (2, .int (0 : Int32))]) rfl ?_
      refine z_fix2 (fun g55 => ∀ (a2_55 : Int32) (h55 : zH), zJ B Z (zEnd B Z (fun h1 : zH => ((none : Option Value), h1)) 0 0) (g55 a2_55 h55) 55 [(0, .ref (B + this)), (2, .int a2_55)] [] h55 (z00 Z)) (fun _ _ => z_none) (fun rec55 hrec55 a2_55 h55 => ?_) n (0 : Int32) h30
      refine z_iload_n (pc := 55) C (zD D_X6_begins_0 33 rfl) rfl 1 rfl ?_
      refine z_iconst (pc := 56) (v := 4) C (zD D_X6_begins_0 34 rfl) (by decide) ?_
      refine z_icmp_ge (pc := 57) C (zD D_X6_begins_0 35 rfl) (tgt := 81) (by decide) (fun _ => ?_) (fun _ => ?_)
      · exact z_vret (pc := 81) C hr rfl (zD D_X6_begins_0 49 rfl)
      · refine z_aload_n (pc := 60) C (zD D_X6_begins_0 36 rfl) rfl 0 rfl ?_
        refine z_getR (pc := 61) C zc6 0 (by decide) q_102 (zD D_X6_begins_0 37 rfl) (fun v61 => ?_)
        refine z_bipush (pc := 64) (v := 34) C (zD D_X6_begins_0 38 rfl) (by decide) ?_
        refine z_bipush (pc := 66) (v := 7) C (zD D_X6_begins_0 39 rfl) (by decide) ?_
        refine z_iload_n (pc := 68) C (zD D_X6_begins_0 40 rfl) rfl 1 rfl ?_
        refine z_imul (pc := 69) C (zD D_X6_begins_0 41 rfl) ?_
        refine z_iadd (pc := 70) C (zD D_X6_begins_0 42 rfl) ?_
        refine z_iconst (pc := 71) (v := 5) C (zD D_X6_begins_0 43 rfl) (by decide) ?_
        refine z_iadd (pc := 72) C (zD D_X6_begins_0 44 rfl) ?_
        refine z_iconst (pc := 73) (v := -1) C (zD D_X6_begins_0 45 rfl) (by decide) ?_
        refine z_aistore (pc := 74) C (zD D_X6_begins_0 46 rfl) (fun h74 => ?_)
        refine z_iincL (pc := 75) (lv' := fun x75 => [(2, .int x75), (0, .ref (B + this))]) C (zD D_X6_begins_0 47 rfl) 1 rfl (v := a2_55 + 1) rfl (by decide) (fun _ => rfl) (fun x75 => ?_)
        refine z_goto (pc := 78) C (zD D_X6_begins_0 48 rfl) (tgt := 55) (by decide) ?_
        refine z_sub [1, 0] (lv' := [(0, .ref (B + this)), (2, .int x75)]) rfl ?_
        exact hrec55 x75 h74
    · refine z_aload_n (pc := 35) C (zD D_X6_begins_0 22 rfl) rfl 0 rfl ?_
      refine z_getR (pc := 36) C zc6 0 (by decide) q_102 (zD D_X6_begins_0 23 rfl) (fun v36 => ?_)
      refine z_bipush (pc := 39) (v := 14) C (zD D_X6_begins_0 24 rfl) (by decide) ?_
      refine z_iload_n (pc := 41) C (zD D_X6_begins_0 25 rfl) rfl 2 rfl ?_
      refine z_iadd (pc := 42) C (zD D_X6_begins_0 26 rfl) ?_
      refine z_sipush (pc := 43) (v := 500) C (zD D_X6_begins_0 27 rfl) (by decide) ?_
      refine z_aistore (pc := 46) C (zD D_X6_begins_0 28 rfl) (fun h46 => ?_)
      refine z_iincL (pc := 47) (lv' := fun x47 => [(2, .int x47), (0, .ref (B + this)), (1, .int p0)]) C (zD D_X6_begins_0 29 rfl) 2 rfl (v := a2_30 + 1) rfl (by decide) (fun _ => rfl) (fun x47 => ?_)
      refine z_goto (pc := 50) C (zD D_X6_begins_0 30 rfl) (tgt := 30) (by decide) ?_
      refine z_sub [1, 2, 0] (lv' := [(0, .ref (B + this)), (1, .int p0), (2, .int x47)]) rfl ?_
      exact hrec30 x47 h46
  · refine z_aload_n (pc := 8) C (zD D_X6_begins_0 5 rfl) rfl 0 rfl ?_
    refine z_getR (pc := 9) C zc6 0 (by decide) q_102 (zD D_X6_begins_0 6 rfl) (fun v9 => ?_)
    refine z_iload_n (pc := 12) C (zD D_X6_begins_0 7 rfl) rfl 2 rfl ?_
    refine z_iconst (pc := 13) (v := 0) C (zD D_X6_begins_0 8 rfl) (by decide) ?_
    refine z_aistore (pc := 14) C (zD D_X6_begins_0 9 rfl) (fun h14 => ?_)
    refine z_iincL (pc := 15) (lv' := fun x15 => [(2, .int x15), (0, .ref (B + this)), (1, .int p0)]) C (zD D_X6_begins_0 10 rfl) 2 rfl (v := a2_2 + 1) rfl (by decide) (fun _ => rfl) (fun x15 => ?_)
    refine z_goto (pc := 18) C (zD D_X6_begins_0 11 rfl) (tgt := 2) (by decide) ?_
    refine z_sub [1, 2, 0] (lv' := [(0, .ref (B + this)), (1, .int p0), (2, .int x15)]) rfl ?_
    exact hrec2 x15 h14
def f_X6_clearText (n : Nat) (this : Nat) (h : zH) : Option (Int32 × zH) := (zp h this 6 5 (.int (0 : Int32))).bind fun (h2 : zH) => (zgI h2 this 6 4).bind fun (v6 : Int32) => (zp h2 this 6 4 (.int (0 : Int32))).bind fun (h12 : zH) => some (v6, h12)
theorem zn_X6_clearText : zNm yX6_clearText 0 := ⟨by decide +kernel, by decide +kernel⟩
set_option maxRecDepth 100000 in
set_option maxHeartbeats 4000000 in
theorem c_X6_clearText (l : Launch) (B : Nat) (D : va_G) (cA : Nat → ClassId) (n : Nat) (this : Nat) (h : zH) : ∀ u, f_X6_clearText n this h = some u → zM l B D cA yX6_clearText cX6_clearText 2 (some .int) 1 0 0 none [.ref (B + this)] h ((fun u : Int32 × zH => (some (Value.int u.1), u.2)) u).1 ((fun u : Int32 × zH => (some (Value.int u.1), u.2)) u).2 := by
  unfold f_X6_clearText
  refine z_met (own := RX6) (fun u : Int32 × zH => (some (Value.int u.1), u.2)) rfl (by decide) rfl (fun Z C hr _ _ => ?_)
  have hz0 : (z00 Z).1 ≤ 0 ∧ (z00 Z).2.1 ≤ 0 := ⟨Nat.le_refl 0, Nat.le_refl 0⟩
  refine z_aload_n (pc := 0) C (zD D_X6_clearText_0 0 rfl) rfl 0 rfl ?_
  refine z_iconst (pc := 1) (v := 0) C (zD D_X6_clearText_0 1 rfl) (by decide) ?_
  refine z_putI (pc := 2) C zc6 5 (by decide) q_159 rfl rfl (zD D_X6_clearText_0 2 rfl) (fun h2 => ?_)
  refine z_aload_n (pc := 5) C (zD D_X6_clearText_0 3 rfl) rfl 0 rfl ?_
  refine z_getI (pc := 6) C zc6 4 (by decide) q_863 (zD D_X6_clearText_0 4 rfl) (fun v6 => ?_)
  refine z_istore_n (pc := 9) (lv' := [(1, .int v6), (0, .ref (B + this))]) C (zD D_X6_clearText_0 5 rfl) rfl (by decide) rfl ?_
  refine z_aload_n (pc := 10) C (zD D_X6_clearText_0 6 rfl) rfl 1 rfl ?_
  refine z_iconst (pc := 11) (v := 0) C (zD D_X6_clearText_0 7 rfl) (by decide) ?_
  refine z_putI (pc := 12) C zc6 4 (by decide) q_863 rfl rfl (zD D_X6_clearText_0 8 rfl) (fun h12 => ?_)
  refine z_iload_n (pc := 15) C (zD D_X6_clearText_0 9 rfl) rfl 0 rfl ?_
  exact z_iret (pc := 16) C hr rfl (zD D_X6_clearText_0 10 rfl)
def f_X6_closes (n : Nat) (this : Nat) (p0 : Int32) (h : zH) : Option (zH) := zfix2 (fun rec2 (a2_2 : Int32) (h2 : zH) => if (7 : Int32) ≤ a2_2 then (zfix2 (fun rec40 (a2_40 : Int32) (h40 : zH) => (zgR h40 this 6 0).bind fun (v42 : Nat) => (zai h40 v42 (0 : Int32)).bind fun (v46 : Int32) => if v46 ≤ a2_40 then (some h40) else ((zgR h40 this 6 0).bind fun (v51 : Nat) => (zsi h40 v51 (((18 : Int32) + ((4 : Int32) * a2_40)) + p0) (0 : Int32)).bind fun (h63 : zH) => zlet (a2_40 + 1) fun (x64 : Int32) => rec40 x64 h63)) n (0 : Int32) h2) else ((zgR h2 this 6 0).bind fun (v9 : Nat) => zlet (fun (s0_31 : Int32) => (zsi h2 v9 (((34 : Int32) + ((7 : Int32) * p0)) + a2_2) s0_31).bind fun (h31 : zH) => zlet (a2_2 + 1) fun (x32 : Int32) => rec2 x32 h31) fun K31 => if a2_2 = (5 : Int32) then (K31 (-1 : Int32)) else (K31 (0 : Int32)))) n (0 : Int32) h
theorem zn_X6_closes : zNm yX6_closes 1 := ⟨by decide +kernel, by decide +kernel⟩
set_option maxRecDepth 100000 in
set_option maxHeartbeats 4000000 in
theorem c_X6_closes (l : Launch) (B : Nat) (D : va_G) (cA : Nat → ClassId) (n : Nat) (this : Nat) (p0 : Int32) (h : zH) : ∀ u, f_X6_closes n this p0 h = some u → zM l B D cA yX6_closes cX6_closes 3 none 1 0 0 none [.ref (B + this), .int p0] h ((fun h1 : zH => ((none : Option Value), h1)) u).1 ((fun h1 : zH => ((none : Option Value), h1)) u).2 := by
  unfold f_X6_closes
  refine z_met (own := RX6) (fun h1 : zH => ((none : Option Value), h1)) rfl (by decide) rfl (fun Z C hr _ _ => ?_)
  have hz0 : (z00 Z).1 ≤ 0 ∧ (z00 Z).2.1 ≤ 0 := ⟨Nat.le_refl 0, Nat.le_refl 0⟩
  refine z_iconst (pc := 0) (v := 0) C (zD D_X6_closes_0 0 rfl) (by decide) ?_
  refine z_istore_n (pc := 1) (lv' := [(2, .int (0 : Int32)), (0, .ref (B + this)), (1, .int p0)]) C (zD D_X6_closes_0 1 rfl) rfl (by decide) rfl ?_
  refine z_sub [1, 2, 0] (lv' := [(0, .ref (B + this)), (1, .int p0), (2, .int (0 : Int32))]) rfl ?_
  refine z_fix2 (fun g2 => ∀ (a2_2 : Int32) (h2 : zH), zJ B Z (zEnd B Z (fun h1 : zH => ((none : Option Value), h1)) 0 0) (g2 a2_2 h2) 2 [(0, .ref (B + this)), (1, .int p0), (2, .int a2_2)] [] h2 (z00 Z)) (fun _ _ => z_none) (fun rec2 hrec2 a2_2 h2 => ?_) n (0 : Int32) h
  refine z_iload_n (pc := 2) C (zD D_X6_closes_0 2 rfl) rfl 2 rfl ?_
  refine z_bipush (pc := 3) (v := 7) C (zD D_X6_closes_0 3 rfl) (by decide) ?_
  refine z_icmp_ge (pc := 5) C (zD D_X6_closes_0 4 rfl) (tgt := 38) (by decide) (fun _ => ?_) (fun _ => ?_)
  · refine z_iconst (pc := 38) (v := 0) C (zD D_X6_closes_0 23 rfl) (by decide) ?_
    refine z_istore_n (pc := 39) (lv' := [(2, .int (0 : Int32)), (0, .ref (B + this)), (1, .int p0)]) C (zD D_X6_closes_0 24 rfl) rfl (by decide) rfl ?_
    refine z_sub [1, 2, 0] (lv' := [(0, .ref (B + this)), (1, .int p0), (2, .int (0 : Int32))]) rfl ?_
    refine z_fix2 (fun g40 => ∀ (a2_40 : Int32) (h40 : zH), zJ B Z (zEnd B Z (fun h1 : zH => ((none : Option Value), h1)) 0 0) (g40 a2_40 h40) 40 [(0, .ref (B + this)), (1, .int p0), (2, .int a2_40)] [] h40 (z00 Z)) (fun _ _ => z_none) (fun rec40 hrec40 a2_40 h40 => ?_) n (0 : Int32) h2
    refine z_iload_n (pc := 40) C (zD D_X6_closes_0 25 rfl) rfl 2 rfl ?_
    refine z_aload_n (pc := 41) C (zD D_X6_closes_0 26 rfl) rfl 0 rfl ?_
    refine z_getR (pc := 42) C zc6 0 (by decide) q_102 (zD D_X6_closes_0 27 rfl) (fun v42 => ?_)
    refine z_iconst (pc := 45) (v := 0) C (zD D_X6_closes_0 28 rfl) (by decide) ?_
    refine z_aiload (pc := 46) C (zD D_X6_closes_0 29 rfl) (fun v46 => ?_)
    refine z_icmp_ge (pc := 47) C (zD D_X6_closes_0 30 rfl) (tgt := 70) (by decide) (fun _ => ?_) (fun _ => ?_)
    · exact z_vret (pc := 70) C hr rfl (zD D_X6_closes_0 44 rfl)
    · refine z_aload_n (pc := 50) C (zD D_X6_closes_0 31 rfl) rfl 0 rfl ?_
      refine z_getR (pc := 51) C zc6 0 (by decide) q_102 (zD D_X6_closes_0 32 rfl) (fun v51 => ?_)
      refine z_bipush (pc := 54) (v := 18) C (zD D_X6_closes_0 33 rfl) (by decide) ?_
      refine z_iconst (pc := 56) (v := 4) C (zD D_X6_closes_0 34 rfl) (by decide) ?_
      refine z_iload_n (pc := 57) C (zD D_X6_closes_0 35 rfl) rfl 2 rfl ?_
      refine z_imul (pc := 58) C (zD D_X6_closes_0 36 rfl) ?_
      refine z_iadd (pc := 59) C (zD D_X6_closes_0 37 rfl) ?_
      refine z_iload_n (pc := 60) C (zD D_X6_closes_0 38 rfl) rfl 1 rfl ?_
      refine z_iadd (pc := 61) C (zD D_X6_closes_0 39 rfl) ?_
      refine z_iconst (pc := 62) (v := 0) C (zD D_X6_closes_0 40 rfl) (by decide) ?_
      refine z_aistore (pc := 63) C (zD D_X6_closes_0 41 rfl) (fun h63 => ?_)
      refine z_iincL (pc := 64) (lv' := fun x64 => [(2, .int x64), (0, .ref (B + this)), (1, .int p0)]) C (zD D_X6_closes_0 42 rfl) 2 rfl (v := a2_40 + 1) rfl (by decide) (fun _ => rfl) (fun x64 => ?_)
      refine z_goto (pc := 67) C (zD D_X6_closes_0 43 rfl) (tgt := 40) (by decide) ?_
      refine z_sub [1, 2, 0] (lv' := [(0, .ref (B + this)), (1, .int p0), (2, .int x64)]) rfl ?_
      exact hrec40 x64 h63
  · refine z_aload_n (pc := 8) C (zD D_X6_closes_0 5 rfl) rfl 0 rfl ?_
    refine z_getR (pc := 9) C zc6 0 (by decide) q_102 (zD D_X6_closes_0 6 rfl) (fun v9 => ?_)
    refine z_bipush (pc := 12) (v := 34) C (zD D_X6_closes_0 7 rfl) (by decide) ?_
    refine z_bipush (pc := 14) (v := 7) C (zD D_X6_closes_0 8 rfl) (by decide) ?_
    refine z_iload_n (pc := 16) C (zD D_X6_closes_0 9 rfl) rfl 1 rfl ?_
    refine z_imul (pc := 17) C (zD D_X6_closes_0 10 rfl) ?_
    refine z_iadd (pc := 18) C (zD D_X6_closes_0 11 rfl) ?_
    refine z_iload_n (pc := 19) C (zD D_X6_closes_0 12 rfl) rfl 2 rfl ?_
    refine z_iadd (pc := 20) C (zD D_X6_closes_0 13 rfl) ?_
    refine z_iload_n (pc := 21) C (zD D_X6_closes_0 14 rfl) rfl 2 rfl ?_
    refine z_iconst (pc := 22) (v := 5) C (zD D_X6_closes_0 15 rfl) (by decide) ?_
    refine z_letg (fun K31 => ∀ (s0_31 : Int32), zJ B Z (zEnd B Z (fun h1 : zH => ((none : Option Value), h1)) 0 0) (K31 s0_31) 31 [(0, .ref (B + this)), (1, .int p0), (2, .int a2_2)] [.int s0_31, .int (((34 : Int32) + ((7 : Int32) * p0)) + a2_2), .ref (B + v9)] h2 (z00 Z)) (fun s0_31 => ?_) (fun K31 hK31 => ?_)
    · refine z_aistore (pc := 31) C (zD D_X6_closes_0 20 rfl) (fun h31 => ?_)
      refine z_iincL (pc := 32) (lv' := fun x32 => [(2, .int x32), (0, .ref (B + this)), (1, .int p0)]) C (zD D_X6_closes_0 21 rfl) 2 rfl (v := a2_2 + 1) rfl (by decide) (fun _ => rfl) (fun x32 => ?_)
      refine z_goto (pc := 35) C (zD D_X6_closes_0 22 rfl) (tgt := 2) (by decide) ?_
      refine z_sub [1, 2, 0] (lv' := [(0, .ref (B + this)), (1, .int p0), (2, .int x32)]) rfl ?_
      exact hrec2 x32 h31
    refine z_icmp_ne (pc := 23) C (zD D_X6_closes_0 16 rfl) (tgt := 30) (by decide) (fun _ => ?_) (fun _ => ?_)
    · refine z_iconst (pc := 30) (v := 0) C (zD D_X6_closes_0 19 rfl) (by decide) ?_
      exact hK31 (0 : Int32)
    · refine z_iconst (pc := 26) (v := -1) C (zD D_X6_closes_0 17 rfl) (by decide) ?_
      refine z_goto (pc := 27) C (zD D_X6_closes_0 18 rfl) (tgt := 31) (by decide) ?_
      exact hK31 (-1 : Int32)
def f_X6_digit (n : Nat) (this : Nat) (h : zH) : Option (Int32 × zH) := (zgR h this 6 3).bind fun (v1 : Nat) => (zgI h this 6 12).bind fun (v5 : Int32) => (zai h v1 v5).bind fun (v8 : Int32) => zlet ((v8 - (48 : Int32))) fun (x12 : Int32) => (zgI h this 6 12).bind fun (v15 : Int32) => (zp h this 6 12 (.int (v15 + (1 : Int32)))).bind fun (h20 : zH) => some (x12, h20)
theorem zn_X6_digit : zNm yX6_digit 0 := ⟨by decide +kernel, by decide +kernel⟩
set_option maxRecDepth 100000 in
set_option maxHeartbeats 4000000 in
theorem c_X6_digit (l : Launch) (B : Nat) (D : va_G) (cA : Nat → ClassId) (n : Nat) (this : Nat) (h : zH) : ∀ u, f_X6_digit n this h = some u → zM l B D cA yX6_digit cX6_digit 2 (some .int) 1 0 0 none [.ref (B + this)] h ((fun u : Int32 × zH => (some (Value.int u.1), u.2)) u).1 ((fun u : Int32 × zH => (some (Value.int u.1), u.2)) u).2 := by
  unfold f_X6_digit
  refine z_met (own := RX6) (fun u : Int32 × zH => (some (Value.int u.1), u.2)) rfl (by decide) rfl (fun Z C hr _ _ => ?_)
  have hz0 : (z00 Z).1 ≤ 0 ∧ (z00 Z).2.1 ≤ 0 := ⟨Nat.le_refl 0, Nat.le_refl 0⟩
  refine z_aload_n (pc := 0) C (zD D_X6_digit_0 0 rfl) rfl 0 rfl ?_
  refine z_getR (pc := 1) C zc6 3 (by decide) q_104 (zD D_X6_digit_0 1 rfl) (fun v1 => ?_)
  refine z_aload_n (pc := 4) C (zD D_X6_digit_0 2 rfl) rfl 0 rfl ?_
  refine z_getI (pc := 5) C zc6 12 (by decide) q_910 (zD D_X6_digit_0 3 rfl) (fun v5 => ?_)
  refine z_aiload (pc := 8) C (zD D_X6_digit_0 4 rfl) (fun v8 => ?_)
  refine z_bipush (pc := 9) (v := 48) C (zD D_X6_digit_0 5 rfl) (by decide) ?_
  refine z_isub (pc := 11) C (zD D_X6_digit_0 6 rfl) ?_
  refine z_istore_nL (pc := 12) (lv' := fun x12 => [(1, .int x12), (0, .ref (B + this))]) C (zD D_X6_digit_0 7 rfl) rfl (by decide) (fun _ => rfl) (fun x12 => ?_)
  refine z_aload_n (pc := 13) C (zD D_X6_digit_0 8 rfl) rfl 1 rfl ?_
  refine z_dup (pc := 14) C (zD D_X6_digit_0 9 rfl) rfl ?_
  refine z_getI (pc := 15) C zc6 12 (by decide) q_910 (zD D_X6_digit_0 10 rfl) (fun v15 => ?_)
  refine z_iconst (pc := 18) (v := 1) C (zD D_X6_digit_0 11 rfl) (by decide) ?_
  refine z_iadd (pc := 19) C (zD D_X6_digit_0 12 rfl) ?_
  refine z_putI (pc := 20) C zc6 12 (by decide) q_910 rfl rfl (zD D_X6_digit_0 13 rfl) (fun h20 => ?_)
  refine z_iload_n (pc := 23) C (zD D_X6_digit_0 14 rfl) rfl 0 rfl ?_
  exact z_iret (pc := 24) C hr rfl (zD D_X6_digit_0 15 rfl)
def f_X6_earns (n : Nat) (this : Nat) (p0 : Int32) (p1 : Int32) (h : zH) : Option (zH) := (zgR h this 6 0).bind fun (v1 : Nat) => (zai h v1 (((34 : Int32) + ((7 : Int32) * p0)) + (2 : Int32))).bind fun (v14 : Int32) => (zsi h v1 (((34 : Int32) + ((7 : Int32) * p0)) + (2 : Int32)) (v14 + p1)).bind fun (h17 : zH) => (zgR h17 this 6 0).bind fun (v19 : Nat) => (zai h17 v19 (6 : Int32)).bind fun (v25 : Int32) => (zsi h17 v19 (6 : Int32) (v25 - p1)).bind fun (h28 : zH) => some h28
theorem zn_X6_earns : zNm yX6_earns 2 := ⟨by decide +kernel, by decide +kernel⟩
set_option maxRecDepth 100000 in
set_option maxHeartbeats 4000000 in
theorem c_X6_earns (l : Launch) (B : Nat) (D : va_G) (cA : Nat → ClassId) (n : Nat) (this : Nat) (p0 : Int32) (p1 : Int32) (h : zH) : ∀ u, f_X6_earns n this p0 p1 h = some u → zM l B D cA yX6_earns cX6_earns 3 none 1 0 0 none [.ref (B + this), .int p0, .int p1] h ((fun h1 : zH => ((none : Option Value), h1)) u).1 ((fun h1 : zH => ((none : Option Value), h1)) u).2 := by
  unfold f_X6_earns
  refine z_met (own := RX6) (fun h1 : zH => ((none : Option Value), h1)) rfl (by decide) rfl (fun Z C hr _ _ => ?_)
  have hz0 : (z00 Z).1 ≤ 0 ∧ (z00 Z).2.1 ≤ 0 := ⟨Nat.le_refl 0, Nat.le_refl 0⟩
  refine z_aload_n (pc := 0) C (zD D_X6_earns_0 0 rfl) rfl 0 rfl ?_
  refine z_getR (pc := 1) C zc6 0 (by decide) q_102 (zD D_X6_earns_0 1 rfl) (fun v1 => ?_)
  refine z_bipush (pc := 4) (v := 34) C (zD D_X6_earns_0 2 rfl) (by decide) ?_
  refine z_bipush (pc := 6) (v := 7) C (zD D_X6_earns_0 3 rfl) (by decide) ?_
  refine z_iload_n (pc := 8) C (zD D_X6_earns_0 4 rfl) rfl 1 rfl ?_
  refine z_imul (pc := 9) C (zD D_X6_earns_0 5 rfl) ?_
  refine z_iadd (pc := 10) C (zD D_X6_earns_0 6 rfl) ?_
  refine z_iconst (pc := 11) (v := 2) C (zD D_X6_earns_0 7 rfl) (by decide) ?_
  refine z_iadd (pc := 12) C (zD D_X6_earns_0 8 rfl) ?_
  refine z_dup2 (pc := 13) C (zD D_X6_earns_0 9 rfl) rfl rfl ?_
  refine z_aiload (pc := 14) C (zD D_X6_earns_0 10 rfl) (fun v14 => ?_)
  refine z_iload_n (pc := 15) C (zD D_X6_earns_0 11 rfl) rfl 2 rfl ?_
  refine z_iadd (pc := 16) C (zD D_X6_earns_0 12 rfl) ?_
  refine z_aistore (pc := 17) C (zD D_X6_earns_0 13 rfl) (fun h17 => ?_)
  refine z_aload_n (pc := 18) C (zD D_X6_earns_0 14 rfl) rfl 0 rfl ?_
  refine z_getR (pc := 19) C zc6 0 (by decide) q_102 (zD D_X6_earns_0 15 rfl) (fun v19 => ?_)
  refine z_bipush (pc := 22) (v := 6) C (zD D_X6_earns_0 16 rfl) (by decide) ?_
  refine z_dup2 (pc := 24) C (zD D_X6_earns_0 17 rfl) rfl rfl ?_
  refine z_aiload (pc := 25) C (zD D_X6_earns_0 18 rfl) (fun v25 => ?_)
  refine z_iload_n (pc := 26) C (zD D_X6_earns_0 19 rfl) rfl 2 rfl ?_
  refine z_isub (pc := 27) C (zD D_X6_earns_0 20 rfl) ?_
  refine z_aistore (pc := 28) C (zD D_X6_earns_0 21 rfl) (fun h28 => ?_)
  exact z_vret (pc := 29) C hr rfl (zD D_X6_earns_0 22 rfl)
def f_X6_has (n : Nat) (p0 : Int32) (p1 : Int32) (h : zH) : Option (Int32) := if ((p0 >>> (p1 &&& 31)) &&& (1 : Int32)) = (1 : Int32) then (some (1 : Int32)) else (some (0 : Int32))
theorem zn_X6_has : zNm yX6_has 2 := ⟨by decide +kernel, by decide +kernel⟩
set_option maxRecDepth 100000 in
set_option maxHeartbeats 4000000 in
theorem c_X6_has (l : Launch) (B : Nat) (D : va_G) (cA : Nat → ClassId) (n : Nat) (p0 : Int32) (p1 : Int32) (h : zH) : ∀ u, f_X6_has n p0 p1 h = some u → zM l B D cA yX6_has cX6_has 2 (some .boolean) 1 0 0 none [.int p0, .int p1] h ((fun r : Int32 => (some (Value.int r), h)) u).1 ((fun r : Int32 => (some (Value.int r), h)) u).2 := by
  unfold f_X6_has
  refine z_met (own := RX6) (fun r : Int32 => (some (Value.int r), h)) rfl (by decide) rfl (fun Z C hr _ _ => ?_)
  have hz0 : (z00 Z).1 ≤ 0 ∧ (z00 Z).2.1 ≤ 0 := ⟨Nat.le_refl 0, Nat.le_refl 0⟩
  refine z_iload_n (pc := 0) C (zD D_X6_has_0 0 rfl) rfl 0 rfl ?_
  refine z_iload_n (pc := 1) C (zD D_X6_has_0 1 rfl) rfl 1 rfl ?_
  refine z_ishr (pc := 2) C (zD D_X6_has_0 2 rfl) ?_
  refine z_iconst (pc := 3) (v := 1) C (zD D_X6_has_0 3 rfl) (by decide) ?_
  refine z_iand (pc := 4) C (zD D_X6_has_0 4 rfl) ?_
  refine z_iconst (pc := 5) (v := 1) C (zD D_X6_has_0 5 rfl) (by decide) ?_
  refine z_icmp_ne (pc := 6) C (zD D_X6_has_0 6 rfl) (tgt := 13) (by decide) (fun _ => ?_) (fun _ => ?_)
  · refine z_iconst (pc := 13) (v := 0) C (zD D_X6_has_0 9 rfl) (by decide) ?_
    exact z_zret (pc := 14) C hr (by decide) rfl (zD D_X6_has_0 10 rfl)
  · refine z_iconst (pc := 9) (v := 1) C (zD D_X6_has_0 7 rfl) (by decide) ?_
    refine z_goto (pc := 10) C (zD D_X6_has_0 8 rfl) (tgt := 14) (by decide) ?_
    exact z_zret (pc := 14) C hr (by decide) rfl (zD D_X6_has_0 10 rfl)
def f_X6_in (n : Nat) (p0 : Int32) (p1 : Int32) (p2 : Int32) (h : zH) : Option (Int32) := zlet (some (0 : Int32)) fun K14 => if p0 < p1 then (K14) else (if p2 < p0 then (K14) else (some (1 : Int32)))
theorem zn_X6_in : zNm yX6_in 3 := ⟨by decide +kernel, by decide +kernel⟩
set_option maxRecDepth 100000 in
set_option maxHeartbeats 4000000 in
theorem c_X6_in (l : Launch) (B : Nat) (D : va_G) (cA : Nat → ClassId) (n : Nat) (p0 : Int32) (p1 : Int32) (p2 : Int32) (h : zH) : ∀ u, f_X6_in n p0 p1 p2 h = some u → zM l B D cA yX6_in cX6_in 3 (some .boolean) 1 0 0 none [.int p0, .int p1, .int p2] h ((fun r : Int32 => (some (Value.int r), h)) u).1 ((fun r : Int32 => (some (Value.int r), h)) u).2 := by
  unfold f_X6_in
  refine z_met (own := RX6) (fun r : Int32 => (some (Value.int r), h)) rfl (by decide) rfl (fun Z C hr _ _ => ?_)
  have hz0 : (z00 Z).1 ≤ 0 ∧ (z00 Z).2.1 ≤ 0 := ⟨Nat.le_refl 0, Nat.le_refl 0⟩
  refine z_iload_n (pc := 0) C (zD D_X6_in_0 0 rfl) rfl 0 rfl ?_
  refine z_iload_n (pc := 1) C (zD D_X6_in_0 1 rfl) rfl 1 rfl ?_
  refine z_letg (fun K14 => zJ B Z (zEnd B Z (fun r : Int32 => (some (Value.int r), h)) 0 0) (K14) 14 [] [] h (z00 Z)) ?_ (fun K14 hK14 => ?_)
  · refine z_iconst (pc := 14) (v := 0) C (zD D_X6_in_0 8 rfl) (by decide) ?_
    exact z_zret (pc := 15) C hr (by decide) rfl (zD D_X6_in_0 9 rfl)
  refine z_icmp_lt (pc := 2) C (zD D_X6_in_0 2 rfl) (tgt := 14) (by decide) (fun _ => ?_) (fun _ => ?_)
  · refine z_sub [] (lv' := []) rfl ?_
    exact hK14
  · refine z_iload_n (pc := 5) C (zD D_X6_in_0 3 rfl) rfl 0 rfl ?_
    refine z_iload_n (pc := 6) C (zD D_X6_in_0 4 rfl) rfl 2 rfl ?_
    refine z_icmp_gt (pc := 7) C (zD D_X6_in_0 5 rfl) (tgt := 14) (by decide) (fun _ => ?_) (fun _ => ?_)
    · refine z_sub [] (lv' := []) rfl ?_
      exact hK14
    · refine z_iconst (pc := 10) (v := 1) C (zD D_X6_in_0 6 rfl) (by decide) ?_
      refine z_goto (pc := 11) C (zD D_X6_in_0 7 rfl) (tgt := 15) (by decide) ?_
      exact z_zret (pc := 15) C hr (by decide) rfl (zD D_X6_in_0 9 rfl)
def f_X6_isStock (n : Nat) (this : Nat) (h : zH) : Option (Int32) := (zgR h this 6 0).bind fun (v1 : Nat) => (zai h v1 (3 : Int32)).bind fun (v5 : Int32) => if v5 = 0 then (some (1 : Int32)) else (some (0 : Int32))
theorem zn_X6_isStock : zNm yX6_isStock 0 := ⟨by decide +kernel, by decide +kernel⟩
set_option maxRecDepth 100000 in
set_option maxHeartbeats 4000000 in
theorem c_X6_isStock (l : Launch) (B : Nat) (D : va_G) (cA : Nat → ClassId) (n : Nat) (this : Nat) (h : zH) : ∀ u, f_X6_isStock n this h = some u → zM l B D cA yX6_isStock cX6_isStock 1 (some .boolean) 1 0 0 none [.ref (B + this)] h ((fun r : Int32 => (some (Value.int r), h)) u).1 ((fun r : Int32 => (some (Value.int r), h)) u).2 := by
  unfold f_X6_isStock
  refine z_met (own := RX6) (fun r : Int32 => (some (Value.int r), h)) rfl (by decide) rfl (fun Z C hr _ _ => ?_)
  have hz0 : (z00 Z).1 ≤ 0 ∧ (z00 Z).2.1 ≤ 0 := ⟨Nat.le_refl 0, Nat.le_refl 0⟩
  refine z_aload_n (pc := 0) C (zD D_X6_isStock_0 0 rfl) rfl 0 rfl ?_
  refine z_getR (pc := 1) C zc6 0 (by decide) q_102 (zD D_X6_isStock_0 1 rfl) (fun v1 => ?_)
  refine z_iconst (pc := 4) (v := 3) C (zD D_X6_isStock_0 2 rfl) (by decide) ?_
  refine z_aiload (pc := 5) C (zD D_X6_isStock_0 3 rfl) (fun v5 => ?_)
  refine z_if_ne (pc := 6) C (zD D_X6_isStock_0 4 rfl) (tgt := 13) (by decide) (fun _ => ?_) (fun _ => ?_)
  · refine z_iconst (pc := 13) (v := 0) C (zD D_X6_isStock_0 7 rfl) (by decide) ?_
    exact z_zret (pc := 14) C hr (by decide) rfl (zD D_X6_isStock_0 8 rfl)
  · refine z_iconst (pc := 9) (v := 1) C (zD D_X6_isStock_0 5 rfl) (by decide) ?_
    refine z_goto (pc := 10) C (zD D_X6_isStock_0 6 rfl) (tgt := 14) (by decide) ?_
    exact z_zret (pc := 14) C hr (by decide) rfl (zD D_X6_isStock_0 8 rfl)
def f_X6_keepsBest (n : Nat) (this : Nat) (p0 : Int32) (h : zH) : Option (zH) := (zgR h this 6 7).bind fun (v2 : Nat) => (zai h v2 p0).bind fun (v6 : Int32) => (zp h this 6 11 (.int v6)).bind fun (h7 : zH) => (zp h7 this 6 10 (.int (p0 + (1 : Int32)))).bind fun (h14 : zH) => zfix2 (fun rec19 (a2_19 : Int32) (h19 : zH) => if p0 < a2_19 then (some h19) else ((zgR h19 this 6 9).bind fun (v25 : Nat) => (zgR h19 this 6 6).bind fun (v30 : Nat) => (zai h19 v30 a2_19).bind fun (v34 : Int32) => (zsi h19 v25 a2_19 v34).bind fun (h35 : zH) => zlet (a2_19 + 1) fun (x36 : Int32) => rec19 x36 h35)) n (0 : Int32) h14
theorem zn_X6_keepsBest : zNm yX6_keepsBest 1 := ⟨by decide +kernel, by decide +kernel⟩
set_option maxRecDepth 100000 in
set_option maxHeartbeats 4000000 in
theorem c_X6_keepsBest (l : Launch) (B : Nat) (D : va_G) (cA : Nat → ClassId) (n : Nat) (this : Nat) (p0 : Int32) (h : zH) : ∀ u, f_X6_keepsBest n this p0 h = some u → zM l B D cA yX6_keepsBest cX6_keepsBest 3 none 1 0 0 none [.ref (B + this), .int p0] h ((fun h1 : zH => ((none : Option Value), h1)) u).1 ((fun h1 : zH => ((none : Option Value), h1)) u).2 := by
  unfold f_X6_keepsBest
  refine z_met (own := RX6) (fun h1 : zH => ((none : Option Value), h1)) rfl (by decide) rfl (fun Z C hr _ _ => ?_)
  have hz0 : (z00 Z).1 ≤ 0 ∧ (z00 Z).2.1 ≤ 0 := ⟨Nat.le_refl 0, Nat.le_refl 0⟩
  refine z_aload_n (pc := 0) C (zD D_X6_keepsBest_0 0 rfl) rfl 0 rfl ?_
  refine z_aload_n (pc := 1) C (zD D_X6_keepsBest_0 1 rfl) rfl 0 rfl ?_
  refine z_getR (pc := 2) C zc6 7 (by decide) q_106 (zD D_X6_keepsBest_0 2 rfl) (fun v2 => ?_)
  refine z_iload_n (pc := 5) C (zD D_X6_keepsBest_0 3 rfl) rfl 1 rfl ?_
  refine z_aiload (pc := 6) C (zD D_X6_keepsBest_0 4 rfl) (fun v6 => ?_)
  refine z_putI (pc := 7) C zc6 11 (by decide) q_616 rfl rfl (zD D_X6_keepsBest_0 5 rfl) (fun h7 => ?_)
  refine z_aload_n (pc := 10) C (zD D_X6_keepsBest_0 6 rfl) rfl 0 rfl ?_
  refine z_iload_n (pc := 11) C (zD D_X6_keepsBest_0 7 rfl) rfl 1 rfl ?_
  refine z_iconst (pc := 12) (v := 1) C (zD D_X6_keepsBest_0 8 rfl) (by decide) ?_
  refine z_iadd (pc := 13) C (zD D_X6_keepsBest_0 9 rfl) ?_
  refine z_putI (pc := 14) C zc6 10 (by decide) q_621 rfl rfl (zD D_X6_keepsBest_0 10 rfl) (fun h14 => ?_)
  refine z_iconst (pc := 17) (v := 0) C (zD D_X6_keepsBest_0 11 rfl) (by decide) ?_
  refine z_istore_n (pc := 18) (lv' := [(2, .int (0 : Int32)), (0, .ref (B + this)), (1, .int p0)]) C (zD D_X6_keepsBest_0 12 rfl) rfl (by decide) rfl ?_
  refine z_sub [1, 2, 0] (lv' := [(0, .ref (B + this)), (1, .int p0), (2, .int (0 : Int32))]) rfl ?_
  refine z_fix2 (fun g19 => ∀ (a2_19 : Int32) (h19 : zH), zJ B Z (zEnd B Z (fun h1 : zH => ((none : Option Value), h1)) 0 0) (g19 a2_19 h19) 19 [(0, .ref (B + this)), (1, .int p0), (2, .int a2_19)] [] h19 (z00 Z)) (fun _ _ => z_none) (fun rec19 hrec19 a2_19 h19 => ?_) n (0 : Int32) h14
  refine z_iload_n (pc := 19) C (zD D_X6_keepsBest_0 13 rfl) rfl 2 rfl ?_
  refine z_iload_n (pc := 20) C (zD D_X6_keepsBest_0 14 rfl) rfl 1 rfl ?_
  refine z_icmp_gt (pc := 21) C (zD D_X6_keepsBest_0 15 rfl) (tgt := 42) (by decide) (fun _ => ?_) (fun _ => ?_)
  · exact z_vret (pc := 42) C hr rfl (zD D_X6_keepsBest_0 26 rfl)
  · refine z_aload_n (pc := 24) C (zD D_X6_keepsBest_0 16 rfl) rfl 0 rfl ?_
    refine z_getR (pc := 25) C zc6 9 (by decide) q_108 (zD D_X6_keepsBest_0 17 rfl) (fun v25 => ?_)
    refine z_iload_n (pc := 28) C (zD D_X6_keepsBest_0 18 rfl) rfl 2 rfl ?_
    refine z_aload_n (pc := 29) C (zD D_X6_keepsBest_0 19 rfl) rfl 0 rfl ?_
    refine z_getR (pc := 30) C zc6 6 (by decide) q_105 (zD D_X6_keepsBest_0 20 rfl) (fun v30 => ?_)
    refine z_iload_n (pc := 33) C (zD D_X6_keepsBest_0 21 rfl) rfl 2 rfl ?_
    refine z_aiload (pc := 34) C (zD D_X6_keepsBest_0 22 rfl) (fun v34 => ?_)
    refine z_aistore (pc := 35) C (zD D_X6_keepsBest_0 23 rfl) (fun h35 => ?_)
    refine z_iincL (pc := 36) (lv' := fun x36 => [(2, .int x36), (0, .ref (B + this)), (1, .int p0)]) C (zD D_X6_keepsBest_0 24 rfl) 2 rfl (v := a2_19 + 1) rfl (by decide) (fun _ => rfl) (fun x36 => ?_)
    refine z_goto (pc := 39) C (zD D_X6_keepsBest_0 25 rfl) (tgt := 19) (by decide) ?_
    refine z_sub [1, 2, 0] (lv' := [(0, .ref (B + this)), (1, .int p0), (2, .int x36)]) rfl ?_
    exact hrec19 x36 h35
def f_X6_level (n : Nat) (this : Nat) (p0 : Int32) (p1 : Int32) (h : zH) : Option (Int32) := (zgR h this 6 0).bind fun (v1 : Nat) => (zai h v1 (((62 : Int32) + ((8 : Int32) * p0)) + p1)).bind fun (v13 : Int32) => some v13
theorem zn_X6_level : zNm yX6_level 2 := ⟨by decide +kernel, by decide +kernel⟩
set_option maxRecDepth 100000 in
set_option maxHeartbeats 4000000 in
theorem c_X6_level (l : Launch) (B : Nat) (D : va_G) (cA : Nat → ClassId) (n : Nat) (this : Nat) (p0 : Int32) (p1 : Int32) (h : zH) : ∀ u, f_X6_level n this p0 p1 h = some u → zM l B D cA yX6_level cX6_level 3 (some .int) 1 0 0 none [.ref (B + this), .int p0, .int p1] h ((fun r : Int32 => (some (Value.int r), h)) u).1 ((fun r : Int32 => (some (Value.int r), h)) u).2 := by
  unfold f_X6_level
  refine z_met (own := RX6) (fun r : Int32 => (some (Value.int r), h)) rfl (by decide) rfl (fun Z C hr _ _ => ?_)
  have hz0 : (z00 Z).1 ≤ 0 ∧ (z00 Z).2.1 ≤ 0 := ⟨Nat.le_refl 0, Nat.le_refl 0⟩
  refine z_aload_n (pc := 0) C (zD D_X6_level_0 0 rfl) rfl 0 rfl ?_
  refine z_getR (pc := 1) C zc6 0 (by decide) q_102 (zD D_X6_level_0 1 rfl) (fun v1 => ?_)
  refine z_bipush (pc := 4) (v := 62) C (zD D_X6_level_0 2 rfl) (by decide) ?_
  refine z_bipush (pc := 6) (v := 8) C (zD D_X6_level_0 3 rfl) (by decide) ?_
  refine z_iload_n (pc := 8) C (zD D_X6_level_0 4 rfl) rfl 1 rfl ?_
  refine z_imul (pc := 9) C (zD D_X6_level_0 5 rfl) ?_
  refine z_iadd (pc := 10) C (zD D_X6_level_0 6 rfl) ?_
  refine z_iload_n (pc := 11) C (zD D_X6_level_0 7 rfl) rfl 2 rfl ?_
  refine z_iadd (pc := 12) C (zD D_X6_level_0 8 rfl) ?_
  refine z_aiload (pc := 13) C (zD D_X6_level_0 9 rfl) (fun v13 => ?_)
  exact z_iret (pc := 14) C hr rfl (zD D_X6_level_0 10 rfl)
def f_X6_levels (n : Nat) (this : Nat) (p0 : Int32) (p1 : Int32) (p2 : Int32) (h : zH) : Option (zH) := (zgR h this 6 0).bind fun (v1 : Nat) => (zsi h v1 (((62 : Int32) + ((8 : Int32) * p0)) + p1) p2).bind fun (h14 : zH) => (zgR h14 this 6 0).bind fun (v16 : Nat) => (zsi h14 v16 (((62 : Int32) + ((8 : Int32) * p1)) + p0) p2).bind fun (h29 : zH) => some h29
theorem zn_X6_levels : zNm yX6_levels 3 := ⟨by decide +kernel, by decide +kernel⟩
set_option maxRecDepth 100000 in
set_option maxHeartbeats 4000000 in
theorem c_X6_levels (l : Launch) (B : Nat) (D : va_G) (cA : Nat → ClassId) (n : Nat) (this : Nat) (p0 : Int32) (p1 : Int32) (p2 : Int32) (h : zH) : ∀ u, f_X6_levels n this p0 p1 p2 h = some u → zM l B D cA yX6_levels cX6_levels 4 none 1 0 0 none [.ref (B + this), .int p0, .int p1, .int p2] h ((fun h1 : zH => ((none : Option Value), h1)) u).1 ((fun h1 : zH => ((none : Option Value), h1)) u).2 := by
  unfold f_X6_levels
  refine z_met (own := RX6) (fun h1 : zH => ((none : Option Value), h1)) rfl (by decide) rfl (fun Z C hr _ _ => ?_)
  have hz0 : (z00 Z).1 ≤ 0 ∧ (z00 Z).2.1 ≤ 0 := ⟨Nat.le_refl 0, Nat.le_refl 0⟩
  refine z_aload_n (pc := 0) C (zD D_X6_levels_0 0 rfl) rfl 0 rfl ?_
  refine z_getR (pc := 1) C zc6 0 (by decide) q_102 (zD D_X6_levels_0 1 rfl) (fun v1 => ?_)
  refine z_bipush (pc := 4) (v := 62) C (zD D_X6_levels_0 2 rfl) (by decide) ?_
  refine z_bipush (pc := 6) (v := 8) C (zD D_X6_levels_0 3 rfl) (by decide) ?_
  refine z_iload_n (pc := 8) C (zD D_X6_levels_0 4 rfl) rfl 1 rfl ?_
  refine z_imul (pc := 9) C (zD D_X6_levels_0 5 rfl) ?_
  refine z_iadd (pc := 10) C (zD D_X6_levels_0 6 rfl) ?_
  refine z_iload_n (pc := 11) C (zD D_X6_levels_0 7 rfl) rfl 2 rfl ?_
  refine z_iadd (pc := 12) C (zD D_X6_levels_0 8 rfl) ?_
  refine z_iload_n (pc := 13) C (zD D_X6_levels_0 9 rfl) rfl 3 rfl ?_
  refine z_aistore (pc := 14) C (zD D_X6_levels_0 10 rfl) (fun h14 => ?_)
  refine z_aload_n (pc := 15) C (zD D_X6_levels_0 11 rfl) rfl 0 rfl ?_
  refine z_getR (pc := 16) C zc6 0 (by decide) q_102 (zD D_X6_levels_0 12 rfl) (fun v16 => ?_)
  refine z_bipush (pc := 19) (v := 62) C (zD D_X6_levels_0 13 rfl) (by decide) ?_
  refine z_bipush (pc := 21) (v := 8) C (zD D_X6_levels_0 14 rfl) (by decide) ?_
  refine z_iload_n (pc := 23) C (zD D_X6_levels_0 15 rfl) rfl 2 rfl ?_
  refine z_imul (pc := 24) C (zD D_X6_levels_0 16 rfl) ?_
  refine z_iadd (pc := 25) C (zD D_X6_levels_0 17 rfl) ?_
  refine z_iload_n (pc := 26) C (zD D_X6_levels_0 18 rfl) rfl 1 rfl ?_
  refine z_iadd (pc := 27) C (zD D_X6_levels_0 19 rfl) ?_
  refine z_iload_n (pc := 28) C (zD D_X6_levels_0 20 rfl) rfl 3 rfl ?_
  refine z_aistore (pc := 29) C (zD D_X6_levels_0 21 rfl) (fun h29 => ?_)
  exact z_vret (pc := 30) C hr rfl (zD D_X6_levels_0 22 rfl)
def f_X6_mix (n : Nat) (this : Nat) (p0 : Int32) (h : zH) : Option (zH) := (zgL h this 6 16).bind fun (v5 : Int64) => (zp h this 6 16 (.long (((31 : Int64) * v5) + (Int32.toInt64 p0)))).bind fun (h12 : zH) => some h12
theorem zn_X6_mix : zNm yX6_mix 1 := ⟨by decide +kernel, by decide +kernel⟩
set_option maxRecDepth 100000 in
set_option maxHeartbeats 4000000 in
theorem c_X6_mix (l : Launch) (B : Nat) (D : va_G) (cA : Nat → ClassId) (n : Nat) (this : Nat) (p0 : Int32) (h : zH) : ∀ u, f_X6_mix n this p0 h = some u → zM l B D cA yX6_mix cX6_mix 2 none 1 0 0 none [.ref (B + this), .int p0] h ((fun h1 : zH => ((none : Option Value), h1)) u).1 ((fun h1 : zH => ((none : Option Value), h1)) u).2 := by
  unfold f_X6_mix
  refine z_met (own := RX6) (fun h1 : zH => ((none : Option Value), h1)) rfl (by decide) rfl (fun Z C hr _ _ => ?_)
  have hz0 : (z00 Z).1 ≤ 0 ∧ (z00 Z).2.1 ≤ 0 := ⟨Nat.le_refl 0, Nat.le_refl 0⟩
  refine z_aload_n (pc := 0) C (zD D_X6_mix_0 0 rfl) rfl 0 rfl ?_
  refine z_ldc2 (pc := 1) (v := 31) C q_966 (zD D_X6_mix_0 1 rfl) ?_
  refine z_aload_n (pc := 4) C (zD D_X6_mix_0 2 rfl) rfl 0 rfl ?_
  refine z_getL (pc := 5) C zc6 16 (by decide) q_961 (zD D_X6_mix_0 3 rfl) (fun v5 => ?_)
  refine z_lmul (pc := 8) C (zD D_X6_mix_0 4 rfl) ?_
  refine z_iload_n (pc := 9) C (zD D_X6_mix_0 5 rfl) rfl 1 rfl ?_
  refine z_i2l (pc := 10) C (zD D_X6_mix_0 6 rfl) ?_
  refine z_ladd (pc := 11) C (zD D_X6_mix_0 7 rfl) ?_
  refine z_putL (pc := 12) C zc6 16 (by decide) q_961 rfl rfl (zD D_X6_mix_0 8 rfl) (fun h12 => ?_)
  exact z_vret (pc := 15) C hr rfl (zD D_X6_mix_0 9 rfl)
def f_X6_of (n : Nat) (this : Nat) (p0 : Int32) (p1 : Int32) (h : zH) : Option (Int32) := (zgR h this 6 0).bind fun (v1 : Nat) => (zai h v1 (((34 : Int32) + ((7 : Int32) * p0)) + p1)).bind fun (v13 : Int32) => some v13
theorem zn_X6_of : zNm yX6_of 2 := ⟨by decide +kernel, by decide +kernel⟩
set_option maxRecDepth 100000 in
set_option maxHeartbeats 4000000 in
theorem c_X6_of (l : Launch) (B : Nat) (D : va_G) (cA : Nat → ClassId) (n : Nat) (this : Nat) (p0 : Int32) (p1 : Int32) (h : zH) : ∀ u, f_X6_of n this p0 p1 h = some u → zM l B D cA yX6_of cX6_of 3 (some .int) 1 0 0 none [.ref (B + this), .int p0, .int p1] h ((fun r : Int32 => (some (Value.int r), h)) u).1 ((fun r : Int32 => (some (Value.int r), h)) u).2 := by
  unfold f_X6_of
  refine z_met (own := RX6) (fun r : Int32 => (some (Value.int r), h)) rfl (by decide) rfl (fun Z C hr _ _ => ?_)
  have hz0 : (z00 Z).1 ≤ 0 ∧ (z00 Z).2.1 ≤ 0 := ⟨Nat.le_refl 0, Nat.le_refl 0⟩
  refine z_aload_n (pc := 0) C (zD D_X6_of_0 0 rfl) rfl 0 rfl ?_
  refine z_getR (pc := 1) C zc6 0 (by decide) q_102 (zD D_X6_of_0 1 rfl) (fun v1 => ?_)
  refine z_bipush (pc := 4) (v := 34) C (zD D_X6_of_0 2 rfl) (by decide) ?_
  refine z_bipush (pc := 6) (v := 7) C (zD D_X6_of_0 3 rfl) (by decide) ?_
  refine z_iload_n (pc := 8) C (zD D_X6_of_0 4 rfl) rfl 1 rfl ?_
  refine z_imul (pc := 9) C (zD D_X6_of_0 5 rfl) ?_
  refine z_iadd (pc := 10) C (zD D_X6_of_0 6 rfl) ?_
  refine z_iload_n (pc := 11) C (zD D_X6_of_0 7 rfl) rfl 2 rfl ?_
  refine z_iadd (pc := 12) C (zD D_X6_of_0 8 rfl) ?_
  refine z_aiload (pc := 13) C (zD D_X6_of_0 9 rfl) (fun v13 => ?_)
  exact z_iret (pc := 14) C hr rfl (zD D_X6_of_0 10 rfl)
def f_X6_pays (n : Nat) (this : Nat) (p0 : Int32) (p1 : Int32) (h : zH) : Option (zH) := (zgR h this 6 0).bind fun (v1 : Nat) => (zai h v1 ((14 : Int32) + p0)).bind fun (v9 : Int32) => (zsi h v1 ((14 : Int32) + p0) (v9 - p1)).bind fun (h12 : zH) => (zgR h12 this 6 0).bind fun (v14 : Nat) => (zai h12 v14 (6 : Int32)).bind fun (v20 : Int32) => (zsi h12 v14 (6 : Int32) (v20 + p1)).bind fun (h23 : zH) => some h23
theorem zn_X6_pays : zNm yX6_pays 2 := ⟨by decide +kernel, by decide +kernel⟩
set_option maxRecDepth 100000 in
set_option maxHeartbeats 4000000 in
theorem c_X6_pays (l : Launch) (B : Nat) (D : va_G) (cA : Nat → ClassId) (n : Nat) (this : Nat) (p0 : Int32) (p1 : Int32) (h : zH) : ∀ u, f_X6_pays n this p0 p1 h = some u → zM l B D cA yX6_pays cX6_pays 3 none 1 0 0 none [.ref (B + this), .int p0, .int p1] h ((fun h1 : zH => ((none : Option Value), h1)) u).1 ((fun h1 : zH => ((none : Option Value), h1)) u).2 := by
  unfold f_X6_pays
  refine z_met (own := RX6) (fun h1 : zH => ((none : Option Value), h1)) rfl (by decide) rfl (fun Z C hr _ _ => ?_)
  have hz0 : (z00 Z).1 ≤ 0 ∧ (z00 Z).2.1 ≤ 0 := ⟨Nat.le_refl 0, Nat.le_refl 0⟩
  refine z_aload_n (pc := 0) C (zD D_X6_pays_0 0 rfl) rfl 0 rfl ?_
  refine z_getR (pc := 1) C zc6 0 (by decide) q_102 (zD D_X6_pays_0 1 rfl) (fun v1 => ?_)
  refine z_bipush (pc := 4) (v := 14) C (zD D_X6_pays_0 2 rfl) (by decide) ?_
  refine z_iload_n (pc := 6) C (zD D_X6_pays_0 3 rfl) rfl 1 rfl ?_
  refine z_iadd (pc := 7) C (zD D_X6_pays_0 4 rfl) ?_
  refine z_dup2 (pc := 8) C (zD D_X6_pays_0 5 rfl) rfl rfl ?_
  refine z_aiload (pc := 9) C (zD D_X6_pays_0 6 rfl) (fun v9 => ?_)
  refine z_iload_n (pc := 10) C (zD D_X6_pays_0 7 rfl) rfl 2 rfl ?_
  refine z_isub (pc := 11) C (zD D_X6_pays_0 8 rfl) ?_
  refine z_aistore (pc := 12) C (zD D_X6_pays_0 9 rfl) (fun h12 => ?_)
  refine z_aload_n (pc := 13) C (zD D_X6_pays_0 10 rfl) rfl 0 rfl ?_
  refine z_getR (pc := 14) C zc6 0 (by decide) q_102 (zD D_X6_pays_0 11 rfl) (fun v14 => ?_)
  refine z_bipush (pc := 17) (v := 6) C (zD D_X6_pays_0 12 rfl) (by decide) ?_
  refine z_dup2 (pc := 19) C (zD D_X6_pays_0 13 rfl) rfl rfl ?_
  refine z_aiload (pc := 20) C (zD D_X6_pays_0 14 rfl) (fun v20 => ?_)
  refine z_iload_n (pc := 21) C (zD D_X6_pays_0 15 rfl) rfl 2 rfl ?_
  refine z_iadd (pc := 22) C (zD D_X6_pays_0 16 rfl) ?_
  refine z_aistore (pc := 23) C (zD D_X6_pays_0 17 rfl) (fun h23 => ?_)
  exact z_vret (pc := 24) C hr rfl (zD D_X6_pays_0 18 rfl)
def f_X6_purse (n : Nat) (this : Nat) (h : zH) : Option (Int32) := (zgR h this 6 0).bind fun (v1 : Nat) => (zgR h this 6 0).bind fun (v7 : Nat) => (zai h v7 (1 : Int32)).bind fun (v11 : Int32) => (zai h v1 ((14 : Int32) + v11)).bind fun (v13 : Int32) => some v13
theorem zn_X6_purse : zNm yX6_purse 0 := ⟨by decide +kernel, by decide +kernel⟩
set_option maxRecDepth 100000 in
set_option maxHeartbeats 4000000 in
theorem c_X6_purse (l : Launch) (B : Nat) (D : va_G) (cA : Nat → ClassId) (n : Nat) (this : Nat) (h : zH) : ∀ u, f_X6_purse n this h = some u → zM l B D cA yX6_purse cX6_purse 1 (some .int) 1 0 0 none [.ref (B + this)] h ((fun r : Int32 => (some (Value.int r), h)) u).1 ((fun r : Int32 => (some (Value.int r), h)) u).2 := by
  unfold f_X6_purse
  refine z_met (own := RX6) (fun r : Int32 => (some (Value.int r), h)) rfl (by decide) rfl (fun Z C hr _ _ => ?_)
  have hz0 : (z00 Z).1 ≤ 0 ∧ (z00 Z).2.1 ≤ 0 := ⟨Nat.le_refl 0, Nat.le_refl 0⟩
  refine z_aload_n (pc := 0) C (zD D_X6_purse_0 0 rfl) rfl 0 rfl ?_
  refine z_getR (pc := 1) C zc6 0 (by decide) q_102 (zD D_X6_purse_0 1 rfl) (fun v1 => ?_)
  refine z_bipush (pc := 4) (v := 14) C (zD D_X6_purse_0 2 rfl) (by decide) ?_
  refine z_aload_n (pc := 6) C (zD D_X6_purse_0 3 rfl) rfl 0 rfl ?_
  refine z_getR (pc := 7) C zc6 0 (by decide) q_102 (zD D_X6_purse_0 4 rfl) (fun v7 => ?_)
  refine z_iconst (pc := 10) (v := 1) C (zD D_X6_purse_0 5 rfl) (by decide) ?_
  refine z_aiload (pc := 11) C (zD D_X6_purse_0 6 rfl) (fun v11 => ?_)
  refine z_iadd (pc := 12) C (zD D_X6_purse_0 7 rfl) ?_
  refine z_aiload (pc := 13) C (zD D_X6_purse_0 8 rfl) (fun v13 => ?_)
  exact z_iret (pc := 14) C hr rfl (zD D_X6_purse_0 9 rfl)
def f_X6_refused (n : Nat) (this : Nat) (p0 : Int32) (h : zH) : Option (Int32 × zH) := (zp h this 6 5 (.int p0)).bind fun (h2 : zH) => if p0 ≤ 0 then (some ((0 : Int32), h2)) else (some ((1 : Int32), h2))
theorem zn_X6_refused : zNm yX6_refused 1 := ⟨by decide +kernel, by decide +kernel⟩
set_option maxRecDepth 100000 in
set_option maxHeartbeats 4000000 in
theorem c_X6_refused (l : Launch) (B : Nat) (D : va_G) (cA : Nat → ClassId) (n : Nat) (this : Nat) (p0 : Int32) (h : zH) : ∀ u, f_X6_refused n this p0 h = some u → zM l B D cA yX6_refused cX6_refused 2 (some .boolean) 1 0 0 none [.ref (B + this), .int p0] h ((fun u : Int32 × zH => (some (Value.int u.1), u.2)) u).1 ((fun u : Int32 × zH => (some (Value.int u.1), u.2)) u).2 := by
  unfold f_X6_refused
  refine z_met (own := RX6) (fun u : Int32 × zH => (some (Value.int u.1), u.2)) rfl (by decide) rfl (fun Z C hr _ _ => ?_)
  have hz0 : (z00 Z).1 ≤ 0 ∧ (z00 Z).2.1 ≤ 0 := ⟨Nat.le_refl 0, Nat.le_refl 0⟩
  refine z_aload_n (pc := 0) C (zD D_X6_refused_0 0 rfl) rfl 0 rfl ?_
  refine z_iload_n (pc := 1) C (zD D_X6_refused_0 1 rfl) rfl 1 rfl ?_
  refine z_putI (pc := 2) C zc6 5 (by decide) q_159 rfl rfl (zD D_X6_refused_0 2 rfl) (fun h2 => ?_)
  refine z_iload_n (pc := 5) C (zD D_X6_refused_0 3 rfl) rfl 1 rfl ?_
  refine z_if_le (pc := 6) C (zD D_X6_refused_0 4 rfl) (tgt := 13) (by decide) (fun _ => ?_) (fun _ => ?_)
  · refine z_iconst (pc := 13) (v := 0) C (zD D_X6_refused_0 7 rfl) (by decide) ?_
    exact z_zret (pc := 14) C hr (by decide) rfl (zD D_X6_refused_0 8 rfl)
  · refine z_iconst (pc := 9) (v := 1) C (zD D_X6_refused_0 5 rfl) (by decide) ?_
    refine z_goto (pc := 10) C (zD D_X6_refused_0 6 rfl) (tgt := 14) (by decide) ?_
    exact z_zret (pc := 14) C hr (by decide) rfl (zD D_X6_refused_0 8 rfl)
def f_X6_saves (n : Nat) (this : Nat) (h : zH) : Option (zH) := (zgI h this 6 2).bind fun (v1 : Int32) => zlet (fun (h49 : zH) => zfix2 (fun rec51 (a1_51 : Int32) (h51 : zH) => if (134 : Int32) ≤ a1_51 then ((zgI h51 this 6 2).bind fun (v87 : Int32) => (zp h51 this 6 2 (.int (v87 + (1 : Int32)))).bind fun (h92 : zH) => some h92) else ((zgR h51 this 6 1).bind fun (v59 : Nat) => (zgI h51 this 6 2).bind fun (v66 : Int32) => (zgR h51 this 6 0).bind fun (v73 : Nat) => (zai h51 v73 a1_51).bind fun (v77 : Int32) => (zsi h51 v59 (((134 : Int32) * v66) + a1_51) v77).bind fun (h78 : zH) => zlet (a1_51 + 1) fun (x79 : Int32) => rec51 x79 h78)) n (0 : Int32) h49) fun K49 => if v1 = (4 : Int32) then (zfix2 (fun rec10 (a1_10 : Int32) (h10 : zH) => if (402 : Int32) ≤ a1_10 then ((zgI h10 this 6 2).bind fun (v41 : Int32) => (zp h10 this 6 2 (.int (v41 - (1 : Int32)))).bind fun (h46 : zH) => K49 h46) else ((zgR h10 this 6 1).bind fun (v18 : Nat) => (zgR h10 this 6 1).bind fun (v23 : Nat) => (zai h10 v23 (a1_10 + (134 : Int32))).bind fun (v31 : Int32) => (zsi h10 v18 a1_10 v31).bind fun (h32 : zH) => zlet (a1_10 + 1) fun (x33 : Int32) => rec10 x33 h32)) n (0 : Int32) h) else (K49 h)
theorem zn_X6_saves : zNm yX6_saves 0 := ⟨by decide +kernel, by decide +kernel⟩
set_option maxRecDepth 100000 in
set_option maxHeartbeats 4000000 in
theorem c_X6_saves (l : Launch) (B : Nat) (D : va_G) (cA : Nat → ClassId) (n : Nat) (this : Nat) (h : zH) : ∀ u, f_X6_saves n this h = some u → zM l B D cA yX6_saves cX6_saves 2 none 1 0 0 none [.ref (B + this)] h ((fun h1 : zH => ((none : Option Value), h1)) u).1 ((fun h1 : zH => ((none : Option Value), h1)) u).2 := by
  unfold f_X6_saves
  refine z_met (own := RX6) (fun h1 : zH => ((none : Option Value), h1)) rfl (by decide) rfl (fun Z C hr _ _ => ?_)
  have hz0 : (z00 Z).1 ≤ 0 ∧ (z00 Z).2.1 ≤ 0 := ⟨Nat.le_refl 0, Nat.le_refl 0⟩
  refine z_aload_n (pc := 0) C (zD D_X6_saves_0 0 rfl) rfl 0 rfl ?_
  refine z_getI (pc := 1) C zc6 2 (by decide) q_164 (zD D_X6_saves_0 1 rfl) (fun v1 => ?_)
  refine z_iconst (pc := 4) (v := 4) C (zD D_X6_saves_0 2 rfl) (by decide) ?_
  refine z_letg (fun K49 => ∀ (h49 : zH), zJ B Z (zEnd B Z (fun h1 : zH => ((none : Option Value), h1)) 0 0) (K49 h49) 49 [(0, .ref (B + this))] [] h49 (z00 Z)) (fun h49 => ?_) (fun K49 hK49 => ?_)
  · refine z_iconst (pc := 49) (v := 0) C (zD D_X6_saves_0 27 rfl) (by decide) ?_
    refine z_istore_n (pc := 50) (lv' := [(1, .int (0 : Int32)), (0, .ref (B + this))]) C (zD D_X6_saves_0 28 rfl) rfl (by decide) rfl ?_
    refine z_sub [1, 0] (lv' := [(0, .ref (B + this)), (1, .int (0 : Int32))]) rfl ?_
    refine z_fix2 (fun g51 => ∀ (a1_51 : Int32) (h51 : zH), zJ B Z (zEnd B Z (fun h1 : zH => ((none : Option Value), h1)) 0 0) (g51 a1_51 h51) 51 [(0, .ref (B + this)), (1, .int a1_51)] [] h51 (z00 Z)) (fun _ _ => z_none) (fun rec51 hrec51 a1_51 h51 => ?_) n (0 : Int32) h49
    refine z_iload_n (pc := 51) C (zD D_X6_saves_0 29 rfl) rfl 1 rfl ?_
    refine z_sipush (pc := 52) (v := 134) C (zD D_X6_saves_0 30 rfl) (by decide) ?_
    refine z_icmp_ge (pc := 55) C (zD D_X6_saves_0 31 rfl) (tgt := 85) (by decide) (fun _ => ?_) (fun _ => ?_)
    · refine z_aload_n (pc := 85) C (zD D_X6_saves_0 47 rfl) rfl 0 rfl ?_
      refine z_dup (pc := 86) C (zD D_X6_saves_0 48 rfl) rfl ?_
      refine z_getI (pc := 87) C zc6 2 (by decide) q_164 (zD D_X6_saves_0 49 rfl) (fun v87 => ?_)
      refine z_iconst (pc := 90) (v := 1) C (zD D_X6_saves_0 50 rfl) (by decide) ?_
      refine z_iadd (pc := 91) C (zD D_X6_saves_0 51 rfl) ?_
      refine z_putI (pc := 92) C zc6 2 (by decide) q_164 rfl rfl (zD D_X6_saves_0 52 rfl) (fun h92 => ?_)
      exact z_vret (pc := 95) C hr rfl (zD D_X6_saves_0 53 rfl)
    · refine z_aload_n (pc := 58) C (zD D_X6_saves_0 32 rfl) rfl 0 rfl ?_
      refine z_getR (pc := 59) C zc6 1 (by decide) q_103 (zD D_X6_saves_0 33 rfl) (fun v59 => ?_)
      refine z_sipush (pc := 62) (v := 134) C (zD D_X6_saves_0 34 rfl) (by decide) ?_
      refine z_aload_n (pc := 65) C (zD D_X6_saves_0 35 rfl) rfl 0 rfl ?_
      refine z_getI (pc := 66) C zc6 2 (by decide) q_164 (zD D_X6_saves_0 36 rfl) (fun v66 => ?_)
      refine z_imul (pc := 69) C (zD D_X6_saves_0 37 rfl) ?_
      refine z_iload_n (pc := 70) C (zD D_X6_saves_0 38 rfl) rfl 1 rfl ?_
      refine z_iadd (pc := 71) C (zD D_X6_saves_0 39 rfl) ?_
      refine z_aload_n (pc := 72) C (zD D_X6_saves_0 40 rfl) rfl 0 rfl ?_
      refine z_getR (pc := 73) C zc6 0 (by decide) q_102 (zD D_X6_saves_0 41 rfl) (fun v73 => ?_)
      refine z_iload_n (pc := 76) C (zD D_X6_saves_0 42 rfl) rfl 1 rfl ?_
      refine z_aiload (pc := 77) C (zD D_X6_saves_0 43 rfl) (fun v77 => ?_)
      refine z_aistore (pc := 78) C (zD D_X6_saves_0 44 rfl) (fun h78 => ?_)
      refine z_iincL (pc := 79) (lv' := fun x79 => [(1, .int x79), (0, .ref (B + this))]) C (zD D_X6_saves_0 45 rfl) 1 rfl (v := a1_51 + 1) rfl (by decide) (fun _ => rfl) (fun x79 => ?_)
      refine z_goto (pc := 82) C (zD D_X6_saves_0 46 rfl) (tgt := 51) (by decide) ?_
      refine z_sub [1, 0] (lv' := [(0, .ref (B + this)), (1, .int x79)]) rfl ?_
      exact hrec51 x79 h78
  refine z_icmp_ne (pc := 5) C (zD D_X6_saves_0 3 rfl) (tgt := 49) (by decide) (fun _ => ?_) (fun _ => ?_)
  · exact hK49 h
  · refine z_iconst (pc := 8) (v := 0) C (zD D_X6_saves_0 4 rfl) (by decide) ?_
    refine z_istore_n (pc := 9) (lv' := [(1, .int (0 : Int32)), (0, .ref (B + this))]) C (zD D_X6_saves_0 5 rfl) rfl (by decide) rfl ?_
    refine z_sub [1, 0] (lv' := [(0, .ref (B + this)), (1, .int (0 : Int32))]) rfl ?_
    refine z_fix2 (fun g10 => ∀ (a1_10 : Int32) (h10 : zH), zJ B Z (zEnd B Z (fun h1 : zH => ((none : Option Value), h1)) 0 0) (g10 a1_10 h10) 10 [(0, .ref (B + this)), (1, .int a1_10)] [] h10 (z00 Z)) (fun _ _ => z_none) (fun rec10 hrec10 a1_10 h10 => ?_) n (0 : Int32) h
    refine z_iload_n (pc := 10) C (zD D_X6_saves_0 6 rfl) rfl 1 rfl ?_
    refine z_sipush (pc := 11) (v := 402) C (zD D_X6_saves_0 7 rfl) (by decide) ?_
    refine z_icmp_ge (pc := 14) C (zD D_X6_saves_0 8 rfl) (tgt := 39) (by decide) (fun _ => ?_) (fun _ => ?_)
    · refine z_aload_n (pc := 39) C (zD D_X6_saves_0 21 rfl) rfl 0 rfl ?_
      refine z_dup (pc := 40) C (zD D_X6_saves_0 22 rfl) rfl ?_
      refine z_getI (pc := 41) C zc6 2 (by decide) q_164 (zD D_X6_saves_0 23 rfl) (fun v41 => ?_)
      refine z_iconst (pc := 44) (v := 1) C (zD D_X6_saves_0 24 rfl) (by decide) ?_
      refine z_isub (pc := 45) C (zD D_X6_saves_0 25 rfl) ?_
      refine z_putI (pc := 46) C zc6 2 (by decide) q_164 rfl rfl (zD D_X6_saves_0 26 rfl) (fun h46 => ?_)
      refine z_sub [0] (lv' := [(0, .ref (B + this))]) rfl ?_
      exact hK49 h46
    · refine z_aload_n (pc := 17) C (zD D_X6_saves_0 9 rfl) rfl 0 rfl ?_
      refine z_getR (pc := 18) C zc6 1 (by decide) q_103 (zD D_X6_saves_0 10 rfl) (fun v18 => ?_)
      refine z_iload_n (pc := 21) C (zD D_X6_saves_0 11 rfl) rfl 1 rfl ?_
      refine z_aload_n (pc := 22) C (zD D_X6_saves_0 12 rfl) rfl 0 rfl ?_
      refine z_getR (pc := 23) C zc6 1 (by decide) q_103 (zD D_X6_saves_0 13 rfl) (fun v23 => ?_)
      refine z_iload_n (pc := 26) C (zD D_X6_saves_0 14 rfl) rfl 1 rfl ?_
      refine z_sipush (pc := 27) (v := 134) C (zD D_X6_saves_0 15 rfl) (by decide) ?_
      refine z_iadd (pc := 30) C (zD D_X6_saves_0 16 rfl) ?_
      refine z_aiload (pc := 31) C (zD D_X6_saves_0 17 rfl) (fun v31 => ?_)
      refine z_aistore (pc := 32) C (zD D_X6_saves_0 18 rfl) (fun h32 => ?_)
      refine z_iincL (pc := 33) (lv' := fun x33 => [(1, .int x33), (0, .ref (B + this))]) C (zD D_X6_saves_0 19 rfl) 1 rfl (v := a1_10 + 1) rfl (by decide) (fun _ => rfl) (fun x33 => ?_)
      refine z_goto (pc := 36) C (zD D_X6_saves_0 20 rfl) (tgt := 10) (by decide) ?_
      refine z_sub [1, 0] (lv' := [(0, .ref (B + this)), (1, .int x33)]) rfl ?_
      exact hrec10 x33 h32
def f_X6_shares (n : Nat) (this : Nat) (p0 : Int32) (p1 : Int32) (h : zH) : Option (Int32) := (zgR h this 6 0).bind fun (v1 : Nat) => (zai h v1 (((18 : Int32) + ((4 : Int32) * p0)) + p1)).bind fun (v12 : Int32) => some v12
theorem zn_X6_shares : zNm yX6_shares 2 := ⟨by decide +kernel, by decide +kernel⟩
set_option maxRecDepth 100000 in
set_option maxHeartbeats 4000000 in
theorem c_X6_shares (l : Launch) (B : Nat) (D : va_G) (cA : Nat → ClassId) (n : Nat) (this : Nat) (p0 : Int32) (p1 : Int32) (h : zH) : ∀ u, f_X6_shares n this p0 p1 h = some u → zM l B D cA yX6_shares cX6_shares 3 (some .int) 1 0 0 none [.ref (B + this), .int p0, .int p1] h ((fun r : Int32 => (some (Value.int r), h)) u).1 ((fun r : Int32 => (some (Value.int r), h)) u).2 := by
  unfold f_X6_shares
  refine z_met (own := RX6) (fun r : Int32 => (some (Value.int r), h)) rfl (by decide) rfl (fun Z C hr _ _ => ?_)
  have hz0 : (z00 Z).1 ≤ 0 ∧ (z00 Z).2.1 ≤ 0 := ⟨Nat.le_refl 0, Nat.le_refl 0⟩
  refine z_aload_n (pc := 0) C (zD D_X6_shares_0 0 rfl) rfl 0 rfl ?_
  refine z_getR (pc := 1) C zc6 0 (by decide) q_102 (zD D_X6_shares_0 1 rfl) (fun v1 => ?_)
  refine z_bipush (pc := 4) (v := 18) C (zD D_X6_shares_0 2 rfl) (by decide) ?_
  refine z_iconst (pc := 6) (v := 4) C (zD D_X6_shares_0 3 rfl) (by decide) ?_
  refine z_iload_n (pc := 7) C (zD D_X6_shares_0 4 rfl) rfl 1 rfl ?_
  refine z_imul (pc := 8) C (zD D_X6_shares_0 5 rfl) ?_
  refine z_iadd (pc := 9) C (zD D_X6_shares_0 6 rfl) ?_
  refine z_iload_n (pc := 10) C (zD D_X6_shares_0 7 rfl) rfl 2 rfl ?_
  refine z_iadd (pc := 11) C (zD D_X6_shares_0 8 rfl) ?_
  refine z_aiload (pc := 12) C (zD D_X6_shares_0 9 rfl) (fun v12 => ?_)
  exact z_iret (pc := 13) C hr rfl (zD D_X6_shares_0 10 rfl)
def f_X6_shifts (n : Nat) (this : Nat) (p0 : Int32) (p1 : Int32) (h : zH) : Option (zH) := zlet ((((34 : Int32) + ((7 : Int32) * p0)) + (3 : Int32))) fun (x9 : Int32) => (zgR h this 6 0).bind fun (v11 : Nat) => (zai h v11 x9).bind fun (v16 : Int32) => (zsi h v11 x9 (v16 + p1)).bind fun (h19 : zH) => (zgR h19 this 6 0).bind fun (v21 : Nat) => (zgR h19 this 6 0).bind fun (v26 : Nat) => (zai h19 v26 x9).bind fun (v30 : Int32) => zlet (fun (s0_60 : Int32) => (zsi h19 v21 x9 s0_60).bind fun (h60 : zH) => some h60) fun K60 => if 0 ≤ v30 then ((zgR h19 this 6 0).bind fun (v39 : Nat) => (zai h19 v39 x9).bind fun (v43 : Int32) => if v43 ≤ (11 : Int32) then ((zgR h19 this 6 0).bind fun (v55 : Nat) => (zai h19 v55 x9).bind fun (v59 : Int32) => K60 v59) else (K60 (11 : Int32))) else (K60 (0 : Int32))
theorem zn_X6_shifts : zNm yX6_shifts 2 := ⟨by decide +kernel, by decide +kernel⟩
set_option maxRecDepth 100000 in
set_option maxHeartbeats 4000000 in
theorem c_X6_shifts (l : Launch) (B : Nat) (D : va_G) (cA : Nat → ClassId) (n : Nat) (this : Nat) (p0 : Int32) (p1 : Int32) (h : zH) : ∀ u, f_X6_shifts n this p0 p1 h = some u → zM l B D cA yX6_shifts cX6_shifts 4 none 1 0 0 none [.ref (B + this), .int p0, .int p1] h ((fun h1 : zH => ((none : Option Value), h1)) u).1 ((fun h1 : zH => ((none : Option Value), h1)) u).2 := by
  unfold f_X6_shifts
  refine z_met (own := RX6) (fun h1 : zH => ((none : Option Value), h1)) rfl (by decide) rfl (fun Z C hr _ _ => ?_)
  have hz0 : (z00 Z).1 ≤ 0 ∧ (z00 Z).2.1 ≤ 0 := ⟨Nat.le_refl 0, Nat.le_refl 0⟩
  refine z_bipush (pc := 0) (v := 34) C (zD D_X6_shifts_0 0 rfl) (by decide) ?_
  refine z_bipush (pc := 2) (v := 7) C (zD D_X6_shifts_0 1 rfl) (by decide) ?_
  refine z_iload_n (pc := 4) C (zD D_X6_shifts_0 2 rfl) rfl 1 rfl ?_
  refine z_imul (pc := 5) C (zD D_X6_shifts_0 3 rfl) ?_
  refine z_iadd (pc := 6) C (zD D_X6_shifts_0 4 rfl) ?_
  refine z_iconst (pc := 7) (v := 3) C (zD D_X6_shifts_0 5 rfl) (by decide) ?_
  refine z_iadd (pc := 8) C (zD D_X6_shifts_0 6 rfl) ?_
  refine z_istore_nL (pc := 9) (lv' := fun x9 => [(3, .int x9), (0, .ref (B + this)), (1, .int p0), (2, .int p1)]) C (zD D_X6_shifts_0 7 rfl) rfl (by decide) (fun _ => rfl) (fun x9 => ?_)
  refine z_aload_n (pc := 10) C (zD D_X6_shifts_0 8 rfl) rfl 1 rfl ?_
  refine z_getR (pc := 11) C zc6 0 (by decide) q_102 (zD D_X6_shifts_0 9 rfl) (fun v11 => ?_)
  refine z_iload_n (pc := 14) C (zD D_X6_shifts_0 10 rfl) rfl 0 rfl ?_
  refine z_dup2 (pc := 15) C (zD D_X6_shifts_0 11 rfl) rfl rfl ?_
  refine z_aiload (pc := 16) C (zD D_X6_shifts_0 12 rfl) (fun v16 => ?_)
  refine z_iload_n (pc := 17) C (zD D_X6_shifts_0 13 rfl) rfl 3 rfl ?_
  refine z_iadd (pc := 18) C (zD D_X6_shifts_0 14 rfl) ?_
  refine z_aistore (pc := 19) C (zD D_X6_shifts_0 15 rfl) (fun h19 => ?_)
  refine z_aload_n (pc := 20) C (zD D_X6_shifts_0 16 rfl) rfl 1 rfl ?_
  refine z_getR (pc := 21) C zc6 0 (by decide) q_102 (zD D_X6_shifts_0 17 rfl) (fun v21 => ?_)
  refine z_iload_n (pc := 24) C (zD D_X6_shifts_0 18 rfl) rfl 0 rfl ?_
  refine z_aload_n (pc := 25) C (zD D_X6_shifts_0 19 rfl) rfl 1 rfl ?_
  refine z_getR (pc := 26) C zc6 0 (by decide) q_102 (zD D_X6_shifts_0 20 rfl) (fun v26 => ?_)
  refine z_iload_n (pc := 29) C (zD D_X6_shifts_0 21 rfl) rfl 0 rfl ?_
  refine z_aiload (pc := 30) C (zD D_X6_shifts_0 22 rfl) (fun v30 => ?_)
  refine z_letg (fun K60 => ∀ (s0_60 : Int32), zJ B Z (zEnd B Z (fun h1 : zH => ((none : Option Value), h1)) 0 0) (K60 s0_60) 60 [] [.int s0_60, .int x9, .ref (B + v21)] h19 (z00 Z)) (fun s0_60 => ?_) (fun K60 hK60 => ?_)
  · refine z_aistore (pc := 60) C (zD D_X6_shifts_0 38 rfl) (fun h60 => ?_)
    exact z_vret (pc := 61) C hr rfl (zD D_X6_shifts_0 39 rfl)
  refine z_if_ge (pc := 31) C (zD D_X6_shifts_0 23 rfl) (tgt := 38) (by decide) (fun _ => ?_) (fun _ => ?_)
  · refine z_aload_n (pc := 38) C (zD D_X6_shifts_0 26 rfl) rfl 1 rfl ?_
    refine z_getR (pc := 39) C zc6 0 (by decide) q_102 (zD D_X6_shifts_0 27 rfl) (fun v39 => ?_)
    refine z_iload_n (pc := 42) C (zD D_X6_shifts_0 28 rfl) rfl 0 rfl ?_
    refine z_aiload (pc := 43) C (zD D_X6_shifts_0 29 rfl) (fun v43 => ?_)
    refine z_bipush (pc := 44) (v := 11) C (zD D_X6_shifts_0 30 rfl) (by decide) ?_
    refine z_icmp_le (pc := 46) C (zD D_X6_shifts_0 31 rfl) (tgt := 54) (by decide) (fun _ => ?_) (fun _ => ?_)
    · refine z_aload_n (pc := 54) C (zD D_X6_shifts_0 34 rfl) rfl 1 rfl ?_
      refine z_getR (pc := 55) C zc6 0 (by decide) q_102 (zD D_X6_shifts_0 35 rfl) (fun v55 => ?_)
      refine z_iload_n (pc := 58) C (zD D_X6_shifts_0 36 rfl) rfl 0 rfl ?_
      refine z_aiload (pc := 59) C (zD D_X6_shifts_0 37 rfl) (fun v59 => ?_)
      refine z_sub [] (lv' := []) rfl ?_
      exact hK60 v59
    · refine z_bipush (pc := 49) (v := 11) C (zD D_X6_shifts_0 32 rfl) (by decide) ?_
      refine z_goto (pc := 51) C (zD D_X6_shifts_0 33 rfl) (tgt := 60) (by decide) ?_
      refine z_sub [] (lv' := []) rfl ?_
      exact hK60 (11 : Int32)
  · refine z_iconst (pc := 34) (v := 0) C (zD D_X6_shifts_0 24 rfl) (by decide) ?_
    refine z_goto (pc := 35) C (zD D_X6_shifts_0 25 rfl) (tgt := 60) (by decide) ?_
    refine z_sub [] (lv' := []) rfl ?_
    exact hK60 (0 : Int32)
def f_X6_thrown (n : Nat) (this : Nat) (h : zH) : Option (Int32) := (zgI h this 6 5).bind fun (v1 : Int32) => some v1
theorem zn_X6_thrown : zNm yX6_thrown 0 := ⟨by decide +kernel, by decide +kernel⟩
set_option maxRecDepth 100000 in
set_option maxHeartbeats 4000000 in
theorem c_X6_thrown (l : Launch) (B : Nat) (D : va_G) (cA : Nat → ClassId) (n : Nat) (this : Nat) (h : zH) : ∀ u, f_X6_thrown n this h = some u → zM l B D cA yX6_thrown cX6_thrown 1 (some .int) 1 0 0 none [.ref (B + this)] h ((fun r : Int32 => (some (Value.int r), h)) u).1 ((fun r : Int32 => (some (Value.int r), h)) u).2 := by
  unfold f_X6_thrown
  refine z_met (own := RX6) (fun r : Int32 => (some (Value.int r), h)) rfl (by decide) rfl (fun Z C hr _ _ => ?_)
  have hz0 : (z00 Z).1 ≤ 0 ∧ (z00 Z).2.1 ≤ 0 := ⟨Nat.le_refl 0, Nat.le_refl 0⟩
  refine z_aload_n (pc := 0) C (zD D_X6_thrown_0 0 rfl) rfl 0 rfl ?_
  refine z_getI (pc := 1) C zc6 5 (by decide) q_159 (zD D_X6_thrown_0 1 rfl) (fun v1 => ?_)
  exact z_iret (pc := 4) C hr rfl (zD D_X6_thrown_0 2 rfl)
def f_X6_tracks (n : Nat) (this : Nat) (h : zH) : Option (Int32) := zfix2 (fun rec4 (a1_4 : Int32) (a2_4 : Int32) => if (64 : Int32) ≤ a2_4 then (some (a1_4 / (2 : Int32))) else ((zgR h this 6 0).bind fun (v12 : Nat) => (zai h v12 ((62 : Int32) + a2_4)).bind fun (v19 : Int32) => zlet (fun (s0_28 : Int32) => zlet ((a1_4 + s0_28)) fun (x29 : Int32) => zlet (a2_4 + 1) fun (x30 : Int32) => rec4 x29 x30) fun K28 => if v19 ≤ 0 then (K28 (0 : Int32)) else (K28 (1 : Int32)))) n (0 : Int32) (0 : Int32)
theorem zn_X6_tracks : zNm yX6_tracks 0 := ⟨by decide +kernel, by decide +kernel⟩
set_option maxRecDepth 100000 in
set_option maxHeartbeats 4000000 in
theorem c_X6_tracks (l : Launch) (B : Nat) (D : va_G) (cA : Nat → ClassId) (n : Nat) (this : Nat) (h : zH) : ∀ u, f_X6_tracks n this h = some u → zM l B D cA yX6_tracks cX6_tracks 3 (some .int) 1 0 0 none [.ref (B + this)] h ((fun r : Int32 => (some (Value.int r), h)) u).1 ((fun r : Int32 => (some (Value.int r), h)) u).2 := by
  unfold f_X6_tracks
  refine z_met (own := RX6) (fun r : Int32 => (some (Value.int r), h)) rfl (by decide) rfl (fun Z C hr _ _ => ?_)
  have hz0 : (z00 Z).1 ≤ 0 ∧ (z00 Z).2.1 ≤ 0 := ⟨Nat.le_refl 0, Nat.le_refl 0⟩
  refine z_iconst (pc := 0) (v := 0) C (zD D_X6_tracks_0 0 rfl) (by decide) ?_
  refine z_istore_n (pc := 1) (lv' := [(1, .int (0 : Int32)), (0, .ref (B + this))]) C (zD D_X6_tracks_0 1 rfl) rfl (by decide) rfl ?_
  refine z_iconst (pc := 2) (v := 0) C (zD D_X6_tracks_0 2 rfl) (by decide) ?_
  refine z_istore_n (pc := 3) (lv' := [(2, .int (0 : Int32)), (1, .int (0 : Int32)), (0, .ref (B + this))]) C (zD D_X6_tracks_0 3 rfl) rfl (by decide) rfl ?_
  refine z_sub [2, 1, 0] (lv' := [(0, .ref (B + this)), (1, .int (0 : Int32)), (2, .int (0 : Int32))]) rfl ?_
  refine z_fix2 (fun g4 => ∀ (a1_4 : Int32) (a2_4 : Int32), zJ B Z (zEnd B Z (fun r : Int32 => (some (Value.int r), h)) 0 0) (g4 a1_4 a2_4) 4 [(0, .ref (B + this)), (1, .int a1_4), (2, .int a2_4)] [] h (z00 Z)) (fun _ _ => z_none) (fun rec4 hrec4 a1_4 a2_4 => ?_) n (0 : Int32) (0 : Int32)
  refine z_iload_n (pc := 4) C (zD D_X6_tracks_0 4 rfl) rfl 2 rfl ?_
  refine z_bipush (pc := 5) (v := 64) C (zD D_X6_tracks_0 5 rfl) (by decide) ?_
  refine z_icmp_ge (pc := 7) C (zD D_X6_tracks_0 6 rfl) (tgt := 36) (by decide) (fun _ => ?_) (fun _ => ?_)
  · refine z_iload_n (pc := 36) C (zD D_X6_tracks_0 22 rfl) rfl 1 rfl ?_
    refine z_iconst (pc := 37) (v := 2) C (zD D_X6_tracks_0 23 rfl) (by decide) ?_
    refine z_idivc (pc := 38) C (zD D_X6_tracks_0 24 rfl) (by decide) ?_
    exact z_iret (pc := 39) C hr rfl (zD D_X6_tracks_0 25 rfl)
  · refine z_iload_n (pc := 10) C (zD D_X6_tracks_0 7 rfl) rfl 1 rfl ?_
    refine z_aload_n (pc := 11) C (zD D_X6_tracks_0 8 rfl) rfl 0 rfl ?_
    refine z_getR (pc := 12) C zc6 0 (by decide) q_102 (zD D_X6_tracks_0 9 rfl) (fun v12 => ?_)
    refine z_bipush (pc := 15) (v := 62) C (zD D_X6_tracks_0 10 rfl) (by decide) ?_
    refine z_iload_n (pc := 17) C (zD D_X6_tracks_0 11 rfl) rfl 2 rfl ?_
    refine z_iadd (pc := 18) C (zD D_X6_tracks_0 12 rfl) ?_
    refine z_aiload (pc := 19) C (zD D_X6_tracks_0 13 rfl) (fun v19 => ?_)
    refine z_letg (fun K28 => ∀ (s0_28 : Int32), zJ B Z (zEnd B Z (fun r : Int32 => (some (Value.int r), h)) 0 0) (K28 s0_28) 28 [(0, .ref (B + this)), (2, .int a2_4)] [.int s0_28, .int a1_4] h (z00 Z)) (fun s0_28 => ?_) (fun K28 hK28 => ?_)
    · refine z_iadd (pc := 28) C (zD D_X6_tracks_0 18 rfl) ?_
      refine z_istore_nL (pc := 29) (lv' := fun x29 => [(1, .int x29), (0, .ref (B + this)), (2, .int a2_4)]) C (zD D_X6_tracks_0 19 rfl) rfl (by decide) (fun _ => rfl) (fun x29 => ?_)
      refine z_iincL (pc := 30) (lv' := fun x30 => [(2, .int x30), (1, .int x29), (0, .ref (B + this))]) C (zD D_X6_tracks_0 20 rfl) 2 rfl (v := a2_4 + 1) rfl (by decide) (fun _ => rfl) (fun x30 => ?_)
      refine z_goto (pc := 33) C (zD D_X6_tracks_0 21 rfl) (tgt := 4) (by decide) ?_
      refine z_sub [2, 1, 0] (lv' := [(0, .ref (B + this)), (1, .int x29), (2, .int x30)]) rfl ?_
      exact hrec4 x29 x30
    refine z_if_le (pc := 20) C (zD D_X6_tracks_0 14 rfl) (tgt := 27) (by decide) (fun _ => ?_) (fun _ => ?_)
    · refine z_iconst (pc := 27) (v := 0) C (zD D_X6_tracks_0 17 rfl) (by decide) ?_
      refine z_sub [0, 2] (lv' := [(0, .ref (B + this)), (2, .int a2_4)]) rfl ?_
      exact hK28 (0 : Int32)
    · refine z_iconst (pc := 23) (v := 1) C (zD D_X6_tracks_0 15 rfl) (by decide) ?_
      refine z_goto (pc := 24) C (zD D_X6_tracks_0 16 rfl) (tgt := 28) (by decide) ?_
      refine z_sub [0, 2] (lv' := [(0, .ref (B + this)), (2, .int a2_4)]) rfl ?_
      exact hK28 (1 : Int32)
def f_X6_turns (n : Nat) (this : Nat) (h : zH) : Option (zH) := (zgR h this 6 0).bind fun (v1 : Nat) => (zgR h this 6 0).bind fun (v6 : Nat) => (zai h v6 (1 : Int32)).bind fun (v10 : Int32) => (zgR h this 6 0).bind fun (v14 : Nat) => (zai h v14 (0 : Int32)).bind fun (v18 : Int32) => (zdiv (v10 + (1 : Int32)) v18).bind fun _ => (zsi h v1 (1 : Int32) (zrem (v10 + (1 : Int32)) v18)).bind fun (h20 : zH) => some h20
theorem zn_X6_turns : zNm yX6_turns 0 := ⟨by decide +kernel, by decide +kernel⟩
set_option maxRecDepth 100000 in
set_option maxHeartbeats 4000000 in
theorem c_X6_turns (l : Launch) (B : Nat) (D : va_G) (cA : Nat → ClassId) (n : Nat) (this : Nat) (h : zH) : ∀ u, f_X6_turns n this h = some u → zM l B D cA yX6_turns cX6_turns 1 none 1 0 0 none [.ref (B + this)] h ((fun h1 : zH => ((none : Option Value), h1)) u).1 ((fun h1 : zH => ((none : Option Value), h1)) u).2 := by
  unfold f_X6_turns
  refine z_met (own := RX6) (fun h1 : zH => ((none : Option Value), h1)) rfl (by decide) rfl (fun Z C hr _ _ => ?_)
  have hz0 : (z00 Z).1 ≤ 0 ∧ (z00 Z).2.1 ≤ 0 := ⟨Nat.le_refl 0, Nat.le_refl 0⟩
  refine z_aload_n (pc := 0) C (zD D_X6_turns_0 0 rfl) rfl 0 rfl ?_
  refine z_getR (pc := 1) C zc6 0 (by decide) q_102 (zD D_X6_turns_0 1 rfl) (fun v1 => ?_)
  refine z_iconst (pc := 4) (v := 1) C (zD D_X6_turns_0 2 rfl) (by decide) ?_
  refine z_aload_n (pc := 5) C (zD D_X6_turns_0 3 rfl) rfl 0 rfl ?_
  refine z_getR (pc := 6) C zc6 0 (by decide) q_102 (zD D_X6_turns_0 4 rfl) (fun v6 => ?_)
  refine z_iconst (pc := 9) (v := 1) C (zD D_X6_turns_0 5 rfl) (by decide) ?_
  refine z_aiload (pc := 10) C (zD D_X6_turns_0 6 rfl) (fun v10 => ?_)
  refine z_iconst (pc := 11) (v := 1) C (zD D_X6_turns_0 7 rfl) (by decide) ?_
  refine z_iadd (pc := 12) C (zD D_X6_turns_0 8 rfl) ?_
  refine z_aload_n (pc := 13) C (zD D_X6_turns_0 9 rfl) rfl 0 rfl ?_
  refine z_getR (pc := 14) C zc6 0 (by decide) q_102 (zD D_X6_turns_0 10 rfl) (fun v14 => ?_)
  refine z_iconst (pc := 17) (v := 0) C (zD D_X6_turns_0 11 rfl) (by decide) ?_
  refine z_aiload (pc := 18) C (zD D_X6_turns_0 12 rfl) (fun v18 => ?_)
  refine z_irem (pc := 19) C (zD D_X6_turns_0 13 rfl) (fun _ => ?_)
  refine z_aistore (pc := 20) C (zD D_X6_turns_0 14 rfl) (fun h20 => ?_)
  exact z_vret (pc := 21) C hr rfl (zD D_X6_turns_0 15 rfl)
def f_X6_append (n : Nat) (this : Nat) (p0 : Int32) (h : zH) : Option (Int32 × zH) := (f_X6_in n p0 (0 : Int32) (127 : Int32) h).bind fun (r5 : Int32) => zlet (fun (s0_29 : Int32) => zrc h this 6 <| zb2 (f_X6_refused n this s0_29 h) fun (r29 : Int32) (h29 : zH) => if r29 = 0 then ((zgR h29 this 6 3).bind fun (v38 : Nat) => (zgI h29 this 6 4).bind fun (v42 : Int32) => (zsi h29 v38 v42 p0).bind fun (h46 : zH) => (zgI h46 this 6 4).bind fun (v49 : Int32) => (zp h46 this 6 4 (.int (v49 + (1 : Int32)))).bind fun (h54 : zH) => (zgI h54 this 6 4).bind fun (v58 : Int32) => some (v58, h54)) else (some ((0 : Int32), h29))) fun K29 => if r5 = 0 then (K29 (1 : Int32)) else ((zgI h this 6 4).bind fun (v16 : Int32) => if v16 = (90 : Int32) then (K29 (2 : Int32)) else (K29 (0 : Int32)))
theorem zn_X6_append : zNm yX6_append 1 := ⟨by decide +kernel, by decide +kernel⟩
set_option maxRecDepth 100000 in
set_option maxHeartbeats 4000000 in
theorem c_X6_append (l : Launch) (B : Nat) (D : va_G) (cA : Nat → ClassId) (n : Nat) (this : Nat) (p0 : Int32) (h : zH) : ∀ u, f_X6_append n this p0 h = some u → zM l B D cA yX6_append cX6_append 2 (some .int) 2 0 0 none [.ref (B + this), .int p0] h ((fun u : Int32 × zH => (some (Value.int u.1), u.2)) u).1 ((fun u : Int32 × zH => (some (Value.int u.1), u.2)) u).2 := by
  unfold f_X6_append
  refine z_met (own := RX6) (fun u : Int32 × zH => (some (Value.int u.1), u.2)) rfl (by decide) rfl (fun Z C hr _ _ => ?_)
  have hz0 : (z00 Z).1 ≤ 0 ∧ (z00 Z).2.1 ≤ 0 := ⟨Nat.le_refl 0, Nat.le_refl 0⟩
  refine z_aload_n (pc := 0) C (zD D_X6_append_0 0 rfl) rfl 0 rfl ?_
  refine z_iload_n (pc := 1) C (zD D_X6_append_0 1 rfl) rfl 1 rfl ?_
  refine z_iconst (pc := 2) (v := 0) C (zD D_X6_append_0 2 rfl) (by decide) ?_
  refine z_bipush (pc := 3) (v := 127) C (zD D_X6_append_0 3 rfl) (by decide) ?_
  refine z_csR (pc := 5) (As := [.int p0, .int (0 : Int32), .int (127 : Int32)]) C [.ref (B + this)] (c_X6_in _ _ _ _ n p0 (0 : Int32) (127 : Int32) h) zn_X6_in (by decide) (by decide) hz0 q_152 q_153 q_5 q_154 rfl rfl rfl (zD D_X6_append_0 4 rfl) (fun r5 => ?_)
  refine z_letg (fun K29 => ∀ (s0_29 : Int32), zJ B Z (zEnd B Z (fun u : Int32 × zH => (some (Value.int u.1), u.2)) 0 0) (K29 s0_29) 29 [(0, .ref (B + this)), (1, .int p0)] [.int s0_29, .ref (B + this)] h (z00 Z)) (fun s0_29 => ?_) (fun K29 hK29 => ?_)
  · refine z_cvI (pc := 29) (As := [.int s0_29]) C [] (c_X6_refused _ _ _ _ n this s0_29 h) zn_X6_refused (by decide) (by decide) hz0 zc6 rfl q_155 q_156 q_157 q_5 q_158 rfl rfl rfl (zD D_X6_append_0 15 rfl) (fun r29 h29 => ?_)
    refine z_if_eq (pc := 32) C (zD D_X6_append_0 16 rfl) (tgt := 37) (by decide) (fun _ => ?_) (fun _ => ?_)
    · refine z_aload_n (pc := 37) C (zD D_X6_append_0 19 rfl) rfl 0 rfl ?_
      refine z_getR (pc := 38) C zc6 3 (by decide) q_104 (zD D_X6_append_0 20 rfl) (fun v38 => ?_)
      refine z_aload_n (pc := 41) C (zD D_X6_append_0 21 rfl) rfl 0 rfl ?_
      refine z_getI (pc := 42) C zc6 4 (by decide) q_863 (zD D_X6_append_0 22 rfl) (fun v42 => ?_)
      refine z_iload_n (pc := 45) C (zD D_X6_append_0 23 rfl) rfl 1 rfl ?_
      refine z_aistore (pc := 46) C (zD D_X6_append_0 24 rfl) (fun h46 => ?_)
      refine z_aload_n (pc := 47) C (zD D_X6_append_0 25 rfl) rfl 0 rfl ?_
      refine z_dup (pc := 48) C (zD D_X6_append_0 26 rfl) rfl ?_
      refine z_getI (pc := 49) C zc6 4 (by decide) q_863 (zD D_X6_append_0 27 rfl) (fun v49 => ?_)
      refine z_iconst (pc := 52) (v := 1) C (zD D_X6_append_0 28 rfl) (by decide) ?_
      refine z_iadd (pc := 53) C (zD D_X6_append_0 29 rfl) ?_
      refine z_putI (pc := 54) C zc6 4 (by decide) q_863 rfl rfl (zD D_X6_append_0 30 rfl) (fun h54 => ?_)
      refine z_aload_n (pc := 57) C (zD D_X6_append_0 31 rfl) rfl 0 rfl ?_
      refine z_getI (pc := 58) C zc6 4 (by decide) q_863 (zD D_X6_append_0 32 rfl) (fun v58 => ?_)
      exact z_iret (pc := 61) C hr rfl (zD D_X6_append_0 33 rfl)
    · refine z_iconst (pc := 35) (v := 0) C (zD D_X6_append_0 17 rfl) (by decide) ?_
      exact z_iret (pc := 36) C hr rfl (zD D_X6_append_0 18 rfl)
  refine z_if_ne (pc := 8) C (zD D_X6_append_0 5 rfl) (tgt := 15) (by decide) (fun _ => ?_) (fun _ => ?_)
  · refine z_aload_n (pc := 15) C (zD D_X6_append_0 8 rfl) rfl 0 rfl ?_
    refine z_getI (pc := 16) C zc6 4 (by decide) q_863 (zD D_X6_append_0 9 rfl) (fun v16 => ?_)
    refine z_bipush (pc := 19) (v := 90) C (zD D_X6_append_0 10 rfl) (by decide) ?_
    refine z_icmp_ne (pc := 21) C (zD D_X6_append_0 11 rfl) (tgt := 28) (by decide) (fun _ => ?_) (fun _ => ?_)
    · refine z_iconst (pc := 28) (v := 0) C (zD D_X6_append_0 14 rfl) (by decide) ?_
      exact hK29 (0 : Int32)
    · refine z_iconst (pc := 24) (v := 2) C (zD D_X6_append_0 12 rfl) (by decide) ?_
      refine z_goto (pc := 25) C (zD D_X6_append_0 13 rfl) (tgt := 29) (by decide) ?_
      exact hK29 (2 : Int32)
  · refine z_iconst (pc := 11) (v := 1) C (zD D_X6_append_0 6 rfl) (by decide) ?_
    refine z_goto (pc := 12) C (zD D_X6_append_0 7 rfl) (tgt := 29) (by decide) ?_
    exact hK29 (1 : Int32)
def f_X6_begin (n : Nat) (this : Nat) (p0 : Int32) (h : zH) : Option (Int32 × zH) := (f_X6_in n p0 (2 : Int32) (4 : Int32) h).bind fun (r4 : Int32) => zlet (fun (s0_15 : Int32) => zrc h this 6 <| zb2 (f_X6_refused n this s0_15 h) fun (r15 : Int32) (h15 : zH) => if r15 = 0 then (zrc h15 this 6 <| (f_X6_saves n this h15).bind fun (h24 : zH) => (zgR h24 this 6 0).bind fun (v28 : Nat) => (zai h24 v28 (5 : Int32)).bind fun (v32 : Int32) => zrc h24 this 6 <| (f_X6_begins n this p0 h24).bind fun (h36 : zH) => some (v32, h36)) else (some ((0 : Int32), h15))) fun K15 => if r4 = 0 then (K15 (1 : Int32)) else (K15 (0 : Int32))
theorem zn_X6_begin : zNm yX6_begin 1 := ⟨by decide +kernel, by decide +kernel⟩
set_option maxRecDepth 100000 in
set_option maxHeartbeats 4000000 in
theorem c_X6_begin (l : Launch) (B : Nat) (D : va_G) (cA : Nat → ClassId) (n : Nat) (this : Nat) (p0 : Int32) (h : zH) : ∀ u, f_X6_begin n this p0 h = some u → zM l B D cA yX6_begin cX6_begin 3 (some .int) 2 0 0 none [.ref (B + this), .int p0] h ((fun u : Int32 × zH => (some (Value.int u.1), u.2)) u).1 ((fun u : Int32 × zH => (some (Value.int u.1), u.2)) u).2 := by
  unfold f_X6_begin
  refine z_met (own := RX6) (fun u : Int32 × zH => (some (Value.int u.1), u.2)) rfl (by decide) rfl (fun Z C hr _ _ => ?_)
  have hz0 : (z00 Z).1 ≤ 0 ∧ (z00 Z).2.1 ≤ 0 := ⟨Nat.le_refl 0, Nat.le_refl 0⟩
  refine z_aload_n (pc := 0) C (zD D_X6_begin_0 0 rfl) rfl 0 rfl ?_
  refine z_iload_n (pc := 1) C (zD D_X6_begin_0 1 rfl) rfl 1 rfl ?_
  refine z_iconst (pc := 2) (v := 2) C (zD D_X6_begin_0 2 rfl) (by decide) ?_
  refine z_iconst (pc := 3) (v := 4) C (zD D_X6_begin_0 3 rfl) (by decide) ?_
  refine z_csR (pc := 4) (As := [.int p0, .int (2 : Int32), .int (4 : Int32)]) C [.ref (B + this)] (c_X6_in _ _ _ _ n p0 (2 : Int32) (4 : Int32) h) zn_X6_in (by decide) (by decide) hz0 q_152 q_153 q_5 q_154 rfl rfl rfl (zD D_X6_begin_0 4 rfl) (fun r4 => ?_)
  refine z_letg (fun K15 => ∀ (s0_15 : Int32), zJ B Z (zEnd B Z (fun u : Int32 × zH => (some (Value.int u.1), u.2)) 0 0) (K15 s0_15) 15 [(0, .ref (B + this)), (1, .int p0)] [.int s0_15, .ref (B + this)] h (z00 Z)) (fun s0_15 => ?_) (fun K15 hK15 => ?_)
  · refine z_cvI (pc := 15) (As := [.int s0_15]) C [] (c_X6_refused _ _ _ _ n this s0_15 h) zn_X6_refused (by decide) (by decide) hz0 zc6 rfl q_155 q_156 q_157 q_5 q_158 rfl rfl rfl (zD D_X6_begin_0 9 rfl) (fun r15 h15 => ?_)
    refine z_if_eq (pc := 18) C (zD D_X6_begin_0 10 rfl) (tgt := 23) (by decide) (fun _ => ?_) (fun _ => ?_)
    · refine z_aload_n (pc := 23) C (zD D_X6_begin_0 13 rfl) rfl 0 rfl ?_
      refine z_cvV (pc := 24) (As := []) C [] (c_X6_saves _ _ _ _ n this h15) zn_X6_saves (by decide) (by decide) hz0 zc6 rfl q_160 q_161 q_162 q_5 q_163 rfl rfl rfl (zD D_X6_begin_0 14 rfl) (fun h24 => ?_)
      refine z_aload_n (pc := 27) C (zD D_X6_begin_0 15 rfl) rfl 0 rfl ?_
      refine z_getR (pc := 28) C zc6 0 (by decide) q_102 (zD D_X6_begin_0 16 rfl) (fun v28 => ?_)
      refine z_iconst (pc := 31) (v := 5) C (zD D_X6_begin_0 17 rfl) (by decide) ?_
      refine z_aiload (pc := 32) C (zD D_X6_begin_0 18 rfl) (fun v32 => ?_)
      refine z_istore_n (pc := 33) (lv' := [(2, .int v32), (0, .ref (B + this)), (1, .int p0)]) C (zD D_X6_begin_0 19 rfl) rfl (by decide) rfl ?_
      refine z_aload_n (pc := 34) C (zD D_X6_begin_0 20 rfl) rfl 1 rfl ?_
      refine z_iload_n (pc := 35) C (zD D_X6_begin_0 21 rfl) rfl 2 rfl ?_
      refine z_cvV (pc := 36) (As := [.int p0]) C [] (c_X6_begins _ _ _ _ n this p0 h24) zn_X6_begins (by decide) (by decide) hz0 zc6 rfl q_109 q_110 q_111 q_5 q_112 rfl rfl rfl (zD D_X6_begin_0 22 rfl) (fun h36 => ?_)
      refine z_iload_n (pc := 39) C (zD D_X6_begin_0 23 rfl) rfl 0 rfl ?_
      exact z_iret (pc := 40) C hr rfl (zD D_X6_begin_0 24 rfl)
    · refine z_iconst (pc := 21) (v := 0) C (zD D_X6_begin_0 11 rfl) (by decide) ?_
      exact z_iret (pc := 22) C hr rfl (zD D_X6_begin_0 12 rfl)
  refine z_if_eq (pc := 7) C (zD D_X6_begin_0 5 rfl) (tgt := 14) (by decide) (fun _ => ?_) (fun _ => ?_)
  · refine z_iconst (pc := 14) (v := 1) C (zD D_X6_begin_0 8 rfl) (by decide) ?_
    exact hK15 (1 : Int32)
  · refine z_iconst (pc := 10) (v := 0) C (zD D_X6_begin_0 6 rfl) (by decide) ?_
    refine z_goto (pc := 11) C (zD D_X6_begin_0 7 rfl) (tgt := 15) (by decide) ?_
    exact hK15 (0 : Int32)
def f_X6_comes (n : Nat) (this : Nat) (p0 : Int32) (p1 : Int32) (h : zH) : Option (zH) := zlet (fun (s0_9 : Int32) => (zgR h this 6 7).bind fun (v11 : Nat) => (zgR h this 6 0).bind fun (v16 : Nat) => (zai h v16 ((126 : Int32) + p1)).bind fun (v23 : Int32) => zlet (fun (s0_40 : Int32) => zlet (fun (s0_67 : Int32) => (zsi h v11 p0 ((v23 + s0_40) + s0_67)).bind fun (h68 : zH) => (zgR h68 this 6 8).bind fun (v70 : Nat) => zlet (fun (s0_93 : Int32) => (zsi h68 v70 p0 (((1 : Int32) <<< (p1 &&& 31)) ||| s0_93)).bind fun (h94 : zH) => some h94) fun K93 => if s0_9 = 0 then ((zgR h68 this 6 8).bind fun (v86 : Nat) => (zai h68 v86 (p0 - (1 : Int32))).bind fun (v92 : Int32) => K93 v92) else (K93 (0 : Int32))) fun K67 => zlet (K67 (0 : Int32)) fun K66 => if s0_9 = 0 then ((zgR h this 6 6).bind fun (v47 : Nat) => (zai h v47 (p0 - (1 : Int32))).bind fun (v53 : Int32) => zrc h this 6 <| (f_X6_level n this v53 p1 h).bind fun (r55 : Int32) => if r55 = (2 : Int32) then (K67 (5 : Int32)) else (K66)) else (K66)) fun K40 => if s0_9 = 0 then ((zgR h this 6 7).bind fun (v33 : Nat) => (zai h v33 (p0 - (1 : Int32))).bind fun (v39 : Int32) => K40 v39) else (K40 (0 : Int32))) fun K9 => if p0 = 0 then (K9 (1 : Int32)) else (K9 (0 : Int32))
theorem zn_X6_comes : zNm yX6_comes 2 := ⟨by decide +kernel, by decide +kernel⟩
set_option maxRecDepth 100000 in
set_option maxHeartbeats 4000000 in
theorem c_X6_comes (l : Launch) (B : Nat) (D : va_G) (cA : Nat → ClassId) (n : Nat) (this : Nat) (p0 : Int32) (p1 : Int32) (h : zH) : ∀ u, f_X6_comes n this p0 p1 h = some u → zM l B D cA yX6_comes cX6_comes 4 none 2 0 0 none [.ref (B + this), .int p0, .int p1] h ((fun h1 : zH => ((none : Option Value), h1)) u).1 ((fun h1 : zH => ((none : Option Value), h1)) u).2 := by
  unfold f_X6_comes
  refine z_met (own := RX6) (fun h1 : zH => ((none : Option Value), h1)) rfl (by decide) rfl (fun Z C hr _ _ => ?_)
  have hz0 : (z00 Z).1 ≤ 0 ∧ (z00 Z).2.1 ≤ 0 := ⟨Nat.le_refl 0, Nat.le_refl 0⟩
  refine z_iload_n (pc := 0) C (zD D_X6_comes_0 0 rfl) rfl 1 rfl ?_
  refine z_letg (fun K9 => ∀ (s0_9 : Int32), zJ B Z (zEnd B Z (fun h1 : zH => ((none : Option Value), h1)) 0 0) (K9 s0_9) 9 [(0, .ref (B + this)), (1, .int p0), (2, .int p1)] [.int s0_9] h (z00 Z)) (fun s0_9 => ?_) (fun K9 hK9 => ?_)
  · refine z_istore_n (pc := 9) (lv' := [(3, .int s0_9), (0, .ref (B + this)), (1, .int p0), (2, .int p1)]) C (zD D_X6_comes_0 5 rfl) rfl (by decide) rfl ?_
    refine z_aload_n (pc := 10) C (zD D_X6_comes_0 6 rfl) rfl 1 rfl ?_
    refine z_getR (pc := 11) C zc6 7 (by decide) q_106 (zD D_X6_comes_0 7 rfl) (fun v11 => ?_)
    refine z_iload_n (pc := 14) C (zD D_X6_comes_0 8 rfl) rfl 2 rfl ?_
    refine z_aload_n (pc := 15) C (zD D_X6_comes_0 9 rfl) rfl 1 rfl ?_
    refine z_getR (pc := 16) C zc6 0 (by decide) q_102 (zD D_X6_comes_0 10 rfl) (fun v16 => ?_)
    refine z_bipush (pc := 19) (v := 126) C (zD D_X6_comes_0 11 rfl) (by decide) ?_
    refine z_iload_n (pc := 21) C (zD D_X6_comes_0 12 rfl) rfl 3 rfl ?_
    refine z_iadd (pc := 22) C (zD D_X6_comes_0 13 rfl) ?_
    refine z_aiload (pc := 23) C (zD D_X6_comes_0 14 rfl) (fun v23 => ?_)
    refine z_iload_n (pc := 24) C (zD D_X6_comes_0 15 rfl) rfl 0 rfl ?_
    refine z_letg (fun K40 => ∀ (s0_40 : Int32), zJ B Z (zEnd B Z (fun h1 : zH => ((none : Option Value), h1)) 0 0) (K40 s0_40) 40 [(0, .ref (B + this)), (1, .int p0), (2, .int p1), (3, .int s0_9)] [.int s0_40, .int v23, .int p0, .ref (B + v11)] h (z00 Z)) (fun s0_40 => ?_) (fun K40 hK40 => ?_)
    · refine z_iadd (pc := 40) C (zD D_X6_comes_0 25 rfl) ?_
      refine z_iload_n (pc := 41) C (zD D_X6_comes_0 26 rfl) rfl 3 rfl ?_
      refine z_letg (fun K67 => ∀ (s0_67 : Int32), zJ B Z (zEnd B Z (fun h1 : zH => ((none : Option Value), h1)) 0 0) (K67 s0_67) 67 [(0, .ref (B + this)), (1, .int p0), (2, .int p1), (3, .int s0_9)] [.int s0_67, .int (v23 + s0_40), .int p0, .ref (B + v11)] h (z00 Z)) (fun s0_67 => ?_) (fun K67 hK67 => ?_)
      · refine z_iadd (pc := 67) C (zD D_X6_comes_0 42 rfl) ?_
        refine z_aistore (pc := 68) C (zD D_X6_comes_0 43 rfl) (fun h68 => ?_)
        refine z_aload_n (pc := 69) C (zD D_X6_comes_0 44 rfl) rfl 0 rfl ?_
        refine z_getR (pc := 70) C zc6 8 (by decide) q_107 (zD D_X6_comes_0 45 rfl) (fun v70 => ?_)
        refine z_iload_n (pc := 73) C (zD D_X6_comes_0 46 rfl) rfl 1 rfl ?_
        refine z_iconst (pc := 74) (v := 1) C (zD D_X6_comes_0 47 rfl) (by decide) ?_
        refine z_iload_n (pc := 75) C (zD D_X6_comes_0 48 rfl) rfl 2 rfl ?_
        refine z_ishl (pc := 76) C (zD D_X6_comes_0 49 rfl) ?_
        refine z_iload_n (pc := 77) C (zD D_X6_comes_0 50 rfl) rfl 3 rfl ?_
        refine z_letg (fun K93 => ∀ (s0_93 : Int32), zJ B Z (zEnd B Z (fun h1 : zH => ((none : Option Value), h1)) 0 0) (K93 s0_93) 93 [] [.int s0_93, .int ((1 : Int32) <<< (p1 &&& 31)), .int p0, .ref (B + v70)] h68 (z00 Z)) (fun s0_93 => ?_) (fun K93 hK93 => ?_)
        · refine z_ior (pc := 93) C (zD D_X6_comes_1 0 rfl) ?_
          refine z_aistore (pc := 94) C (zD D_X6_comes_1 1 rfl) (fun h94 => ?_)
          exact z_vret (pc := 95) C hr rfl (zD D_X6_comes_1 2 rfl)
        refine z_if_eq (pc := 78) C (zD D_X6_comes_0 51 rfl) (tgt := 85) (by decide) (fun _ => ?_) (fun _ => ?_)
        · refine z_aload_n (pc := 85) C (zD D_X6_comes_0 54 rfl) rfl 0 rfl ?_
          refine z_getR (pc := 86) C zc6 8 (by decide) q_107 (zD D_X6_comes_0 55 rfl) (fun v86 => ?_)
          refine z_iload_n (pc := 89) C (zD D_X6_comes_0 56 rfl) rfl 1 rfl ?_
          refine z_iconst (pc := 90) (v := 1) C (zD D_X6_comes_0 57 rfl) (by decide) ?_
          refine z_isub (pc := 91) C (zD D_X6_comes_0 58 rfl) ?_
          refine z_aiload (pc := 92) C (zD D_X6_comes_0 59 rfl) (fun v92 => ?_)
          refine z_sub [] (lv' := []) rfl ?_
          exact hK93 v92
        · refine z_iconst (pc := 81) (v := 0) C (zD D_X6_comes_0 52 rfl) (by decide) ?_
          refine z_goto (pc := 82) C (zD D_X6_comes_0 53 rfl) (tgt := 93) (by decide) ?_
          refine z_sub [] (lv' := []) rfl ?_
          exact hK93 (0 : Int32)
      refine z_letg (fun K66 => zJ B Z (zEnd B Z (fun h1 : zH => ((none : Option Value), h1)) 0 0) (K66) 66 [(0, .ref (B + this)), (1, .int p0), (2, .int p1), (3, .int s0_9)] [.int (v23 + s0_40), .int p0, .ref (B + v11)] h (z00 Z)) ?_ (fun K66 hK66 => ?_)
      · refine z_iconst (pc := 66) (v := 0) C (zD D_X6_comes_0 41 rfl) (by decide) ?_
        exact hK67 (0 : Int32)
      refine z_if_ne (pc := 42) C (zD D_X6_comes_0 27 rfl) (tgt := 66) (by decide) (fun _ => ?_) (fun _ => ?_)
      · exact hK66
      · refine z_aload_n (pc := 45) C (zD D_X6_comes_0 28 rfl) rfl 0 rfl ?_
        refine z_aload_n (pc := 46) C (zD D_X6_comes_0 29 rfl) rfl 0 rfl ?_
        refine z_getR (pc := 47) C zc6 6 (by decide) q_105 (zD D_X6_comes_0 30 rfl) (fun v47 => ?_)
        refine z_iload_n (pc := 50) C (zD D_X6_comes_0 31 rfl) rfl 1 rfl ?_
        refine z_iconst (pc := 51) (v := 1) C (zD D_X6_comes_0 32 rfl) (by decide) ?_
        refine z_isub (pc := 52) C (zD D_X6_comes_0 33 rfl) ?_
        refine z_aiload (pc := 53) C (zD D_X6_comes_0 34 rfl) (fun v53 => ?_)
        refine z_iload_n (pc := 54) C (zD D_X6_comes_0 35 rfl) rfl 2 rfl ?_
        refine z_cvR (pc := 55) (As := [.int v53, .int p1]) C [.int (v23 + s0_40), .int p0, .ref (B + v11)] (c_X6_level _ _ _ _ n this v53 p1 h) zn_X6_level (by decide) (by decide) hz0 zc6 rfl q_600 q_601 q_602 q_5 q_603 rfl rfl rfl (zD D_X6_comes_0 36 rfl) (fun r55 => ?_)
        refine z_iconst (pc := 58) (v := 2) C (zD D_X6_comes_0 37 rfl) (by decide) ?_
        refine z_icmp_ne (pc := 59) C (zD D_X6_comes_0 38 rfl) (tgt := 66) (by decide) (fun _ => ?_) (fun _ => ?_)
        · exact hK66
        · refine z_iconst (pc := 62) (v := 5) C (zD D_X6_comes_0 39 rfl) (by decide) ?_
          refine z_goto (pc := 63) C (zD D_X6_comes_0 40 rfl) (tgt := 67) (by decide) ?_
          exact hK67 (5 : Int32)
    refine z_if_eq (pc := 25) C (zD D_X6_comes_0 16 rfl) (tgt := 32) (by decide) (fun _ => ?_) (fun _ => ?_)
    · refine z_aload_n (pc := 32) C (zD D_X6_comes_0 19 rfl) rfl 1 rfl ?_
      refine z_getR (pc := 33) C zc6 7 (by decide) q_106 (zD D_X6_comes_0 20 rfl) (fun v33 => ?_)
      refine z_iload_n (pc := 36) C (zD D_X6_comes_0 21 rfl) rfl 2 rfl ?_
      refine z_iconst (pc := 37) (v := 1) C (zD D_X6_comes_0 22 rfl) (by decide) ?_
      refine z_isub (pc := 38) C (zD D_X6_comes_0 23 rfl) ?_
      refine z_aiload (pc := 39) C (zD D_X6_comes_0 24 rfl) (fun v39 => ?_)
      refine z_sub [1, 2, 3, 0] (lv' := [(0, .ref (B + this)), (1, .int p0), (2, .int p1), (3, .int s0_9)]) rfl ?_
      exact hK40 v39
    · refine z_iconst (pc := 28) (v := 0) C (zD D_X6_comes_0 17 rfl) (by decide) ?_
      refine z_goto (pc := 29) C (zD D_X6_comes_0 18 rfl) (tgt := 40) (by decide) ?_
      refine z_sub [1, 2, 3, 0] (lv' := [(0, .ref (B + this)), (1, .int p0), (2, .int p1), (3, .int s0_9)]) rfl ?_
      exact hK40 (0 : Int32)
  refine z_if_ne (pc := 1) C (zD D_X6_comes_0 1 rfl) (tgt := 8) (by decide) (fun _ => ?_) (fun _ => ?_)
  · refine z_iconst (pc := 8) (v := 0) C (zD D_X6_comes_0 4 rfl) (by decide) ?_
    exact hK9 (0 : Int32)
  · refine z_iconst (pc := 4) (v := 1) C (zD D_X6_comes_0 2 rfl) (by decide) ?_
    refine z_goto (pc := 5) C (zD D_X6_comes_0 3 rfl) (tgt := 9) (by decide) ?_
    exact hK9 (1 : Int32)
def f_X6_ends (n : Nat) (this : Nat) (h : zH) : Option (zH) := (zgR h this 6 0).bind fun (v1 : Nat) => (zsi h v1 (2 : Int32) (0 : Int32)).bind fun (h6 : zH) => zrc h6 this 6 <| (f_X6_turns n this h6).bind fun (h8 : zH) => some h8
theorem zn_X6_ends : zNm yX6_ends 0 := ⟨by decide +kernel, by decide +kernel⟩
set_option maxRecDepth 100000 in
set_option maxHeartbeats 4000000 in
theorem c_X6_ends (l : Launch) (B : Nat) (D : va_G) (cA : Nat → ClassId) (n : Nat) (this : Nat) (h : zH) : ∀ u, f_X6_ends n this h = some u → zM l B D cA yX6_ends cX6_ends 1 none 2 0 0 none [.ref (B + this)] h ((fun h1 : zH => ((none : Option Value), h1)) u).1 ((fun h1 : zH => ((none : Option Value), h1)) u).2 := by
  unfold f_X6_ends
  refine z_met (own := RX6) (fun h1 : zH => ((none : Option Value), h1)) rfl (by decide) rfl (fun Z C hr _ _ => ?_)
  have hz0 : (z00 Z).1 ≤ 0 ∧ (z00 Z).2.1 ≤ 0 := ⟨Nat.le_refl 0, Nat.le_refl 0⟩
  refine z_aload_n (pc := 0) C (zD D_X6_ends_0 0 rfl) rfl 0 rfl ?_
  refine z_getR (pc := 1) C zc6 0 (by decide) q_102 (zD D_X6_ends_0 1 rfl) (fun v1 => ?_)
  refine z_iconst (pc := 4) (v := 2) C (zD D_X6_ends_0 2 rfl) (by decide) ?_
  refine z_iconst (pc := 5) (v := 0) C (zD D_X6_ends_0 3 rfl) (by decide) ?_
  refine z_aistore (pc := 6) C (zD D_X6_ends_0 4 rfl) (fun h6 => ?_)
  refine z_aload_n (pc := 7) C (zD D_X6_ends_0 5 rfl) rfl 0 rfl ?_
  refine z_cvV (pc := 8) (As := []) C [] (c_X6_turns _ _ _ _ n this h6) zn_X6_turns (by decide) (by decide) hz0 zc6 rfl q_296 q_297 q_298 q_5 q_299 rfl rfl rfl (zD D_X6_ends_0 6 rfl) (fun h8 => ?_)
  exact z_vret (pc := 11) C hr rfl (zD D_X6_ends_0 7 rfl)
def f_X6_isCompany (n : Nat) (p0 : Int32) (h : zH) : Option (Int32) := (f_X6_in n p0 (0 : Int32) (3 : Int32) h).bind fun (r3 : Int32) => (zB r3).bind fun _ => some r3
theorem zn_X6_isCompany : zNm yX6_isCompany 1 := ⟨by decide +kernel, by decide +kernel⟩
set_option maxRecDepth 100000 in
set_option maxHeartbeats 4000000 in
theorem c_X6_isCompany (l : Launch) (B : Nat) (D : va_G) (cA : Nat → ClassId) (n : Nat) (p0 : Int32) (h : zH) : ∀ u, f_X6_isCompany n p0 h = some u → zM l B D cA yX6_isCompany cX6_isCompany 1 (some .boolean) 2 0 0 none [.int p0] h ((fun r : Int32 => (some (Value.int r), h)) u).1 ((fun r : Int32 => (some (Value.int r), h)) u).2 := by
  unfold f_X6_isCompany
  refine z_met (own := RX6) (fun r : Int32 => (some (Value.int r), h)) rfl (by decide) rfl (fun Z C hr _ _ => ?_)
  have hz0 : (z00 Z).1 ≤ 0 ∧ (z00 Z).2.1 ≤ 0 := ⟨Nat.le_refl 0, Nat.le_refl 0⟩
  refine z_iload_n (pc := 0) C (zD D_X6_isCompany_0 0 rfl) rfl 0 rfl ?_
  refine z_iconst (pc := 1) (v := 0) C (zD D_X6_isCompany_0 1 rfl) (by decide) ?_
  refine z_iconst (pc := 2) (v := 3) C (zD D_X6_isCompany_0 2 rfl) (by decide) ?_
  refine z_csR (pc := 3) (As := [.int p0, .int (0 : Int32), .int (3 : Int32)]) C [] (c_X6_in _ _ _ _ n p0 (0 : Int32) (3 : Int32) h) zn_X6_in (by decide) (by decide) hz0 q_152 q_153 q_5 q_154 rfl rfl rfl (zD D_X6_isCompany_0 3 rfl) (fun r3 => ?_)
  refine z_bool (fun hb => ?_)
  exact z_zret (pc := 6) C hr hb rfl (zD D_X6_isCompany_0 4 rfl)
