def f_X2_copyFrom (n : Nat) (this : Nat) (p0 : Nat) (h : zH) : Option (zH) := (zgR h p0 2 0).bind fun (v1 : Nat) => (zgR h this 2 0).bind fun (v6 : Nat) => (zcp h v1 (0 : Int32) v6 (0 : Int32) (8 : Int32)).bind fun (h12 : zH) => zfix2 (fun rec17 (a2_17 : Int32) (h17 : zH) => if (8 : Int32) ≤ a2_17 then (some h17) else ((zgR h17 p0 2 1).bind fun (v24 : Nat) => (zar h17 v24 2 a2_17).bind fun (v28 : Nat) => (zgR h17 this 2 1).bind fun (v31 : Nat) => (zar h17 v31 2 a2_17).bind fun (v35 : Nat) => (zcp h17 v28 (0 : Int32) v35 (0 : Int32) (8 : Int32)).bind fun (h39 : zH) => zlet (a2_17 + 1) fun (x42 : Int32) => rec17 x42 h39)) n (0 : Int32) h12
theorem zn_X2_copyFrom : zNm yX2_copyFrom 1 := ⟨by decide +kernel, by decide +kernel⟩
set_option maxRecDepth 100000 in
set_option maxHeartbeats 4000000 in
theorem c_X2_copyFrom (l : Launch) (B : Nat) (D : va_G) (cA : Nat → ClassId) (n : Nat) (this : Nat) (p0 : Nat) (h : zH) : ∀ u, f_X2_copyFrom n this p0 h = some u → zM l B D cA yX2_copyFrom cX2_copyFrom 3 none 1 0 0 none [.ref (B + this), .ref (B + p0)] h ((fun h1 : zH => ((none : Option Value), h1)) u).1 ((fun h1 : zH => ((none : Option Value), h1)) u).2 := by
  unfold f_X2_copyFrom
  refine z_met (own := RX2) (fun h1 : zH => ((none : Option Value), h1)) rfl (by decide) rfl (fun Z C hr _ _ => ?_)
  have hz0 : (z00 Z).1 ≤ 0 ∧ (z00 Z).2.1 ≤ 0 := ⟨Nat.le_refl 0, Nat.le_refl 0⟩
  refine z_aload_n (pc := 0) C (zD D_X2_copyFrom_0 0 rfl) rfl 1 rfl ?_
  refine z_getR (pc := 1) C zc2 0 (by decide) q_50 (zD D_X2_copyFrom_0 1 rfl) (fun v1 => ?_)
  refine z_iconst (pc := 4) (v := 0) C (zD D_X2_copyFrom_0 2 rfl) (by decide) ?_
  refine z_aload_n (pc := 5) C (zD D_X2_copyFrom_0 3 rfl) rfl 0 rfl ?_
  refine z_getR (pc := 6) C zc2 0 (by decide) q_50 (zD D_X2_copyFrom_0 4 rfl) (fun v6 => ?_)
  refine z_iconst (pc := 9) (v := 0) C (zD D_X2_copyFrom_0 5 rfl) (by decide) ?_
  refine z_bipush (pc := 10) (v := 8) C (zD D_X2_copyFrom_0 6 rfl) (by decide) ?_
  refine z_copy (pc := 12) C q_119 q_112 q_113 q_114 (by decide) (zD D_X2_copyFrom_0 7 rfl) (fun h12 => ?_)
  refine z_iconst (pc := 15) (v := 0) C (zD D_X2_copyFrom_0 8 rfl) (by decide) ?_
  refine z_istore_n (pc := 16) (lv' := [(2, .int (0 : Int32)), (0, .ref (B + this)), (1, .ref (B + p0))]) C (zD D_X2_copyFrom_0 9 rfl) rfl (by decide) rfl ?_
  refine z_sub [1, 2, 0] (lv' := [(0, .ref (B + this)), (1, .ref (B + p0)), (2, .int (0 : Int32))]) rfl ?_
  refine z_fix2 (fun g17 => ∀ (a2_17 : Int32) (h17 : zH), zJ B Z (zEnd B Z (fun h1 : zH => ((none : Option Value), h1)) 0 0) (g17 a2_17 h17) 17 [(0, .ref (B + this)), (1, .ref (B + p0)), (2, .int a2_17)] [] h17 (z00 Z)) (fun _ _ => z_none) (fun rec17 hrec17 a2_17 h17 => ?_) n (0 : Int32) h12
  refine z_iload_n (pc := 17) C (zD D_X2_copyFrom_0 10 rfl) rfl 2 rfl ?_
  refine z_bipush (pc := 18) (v := 8) C (zD D_X2_copyFrom_0 11 rfl) (by decide) ?_
  refine z_icmp_ge (pc := 20) C (zD D_X2_copyFrom_0 12 rfl) (tgt := 48) (by decide) (fun _ => ?_) (fun _ => ?_)
  · exact z_vret (pc := 48) C hr rfl (zD D_X2_copyFrom_0 27 rfl)
  · refine z_aload_n (pc := 23) C (zD D_X2_copyFrom_0 13 rfl) rfl 1 rfl ?_
    refine z_getR (pc := 24) C zc2 1 (by decide) q_52 (zD D_X2_copyFrom_0 14 rfl) (fun v24 => ?_)
    refine z_iload_n (pc := 27) C (zD D_X2_copyFrom_0 15 rfl) rfl 2 rfl ?_
    refine z_arload (pc := 28) C (c := 2) (by decide) rfl (zD D_X2_copyFrom_0 16 rfl) (fun v28 => ?_)
    refine z_iconst (pc := 29) (v := 0) C (zD D_X2_copyFrom_0 17 rfl) (by decide) ?_
    refine z_aload_n (pc := 30) C (zD D_X2_copyFrom_0 18 rfl) rfl 0 rfl ?_
    refine z_getR (pc := 31) C zc2 1 (by decide) q_52 (zD D_X2_copyFrom_0 19 rfl) (fun v31 => ?_)
    refine z_iload_n (pc := 34) C (zD D_X2_copyFrom_0 20 rfl) rfl 2 rfl ?_
    refine z_arload (pc := 35) C (c := 2) (by decide) rfl (zD D_X2_copyFrom_0 21 rfl) (fun v35 => ?_)
    refine z_iconst (pc := 36) (v := 0) C (zD D_X2_copyFrom_0 22 rfl) (by decide) ?_
    refine z_bipush (pc := 37) (v := 8) C (zD D_X2_copyFrom_0 23 rfl) (by decide) ?_
    refine z_copy (pc := 39) C q_119 q_112 q_113 q_114 (by decide) (zD D_X2_copyFrom_0 24 rfl) (fun h39 => ?_)
    refine z_iincL (pc := 42) (lv' := fun x42 => [(2, .int x42), (0, .ref (B + this)), (1, .ref (B + p0))]) C (zD D_X2_copyFrom_0 25 rfl) 2 rfl (v := a2_17 + 1) rfl (by decide) (fun _ => rfl) (fun x42 => ?_)
    refine z_goto (pc := 45) C (zD D_X2_copyFrom_0 26 rfl) (tgt := 17) (by decide) ?_
    refine z_sub [1, 2, 0] (lv' := [(0, .ref (B + this)), (1, .ref (B + p0)), (2, .int x42)]) rfl ?_
    exact hrec17 x42 h39
def f_X2_setLevel (n : Nat) (this : Nat) (p0 : Int32) (p1 : Int32) (p2 : Int32) (h : zH) : Option (zH) := (zgR h this 2 1).bind fun (v1 : Nat) => (zar h v1 2 p0).bind fun (v5 : Nat) => (zsi h v5 p1 p2).bind fun (h8 : zH) => (zgR h8 this 2 1).bind fun (v10 : Nat) => (zar h8 v10 2 p1).bind fun (v14 : Nat) => (zsi h8 v14 p0 p2).bind fun (h17 : zH) => some h17
theorem zn_X2_setLevel : zNm yX2_setLevel 3 := ⟨by decide +kernel, by decide +kernel⟩
set_option maxRecDepth 100000 in
set_option maxHeartbeats 4000000 in
theorem c_X2_setLevel (l : Launch) (B : Nat) (D : va_G) (cA : Nat → ClassId) (n : Nat) (this : Nat) (p0 : Int32) (p1 : Int32) (p2 : Int32) (h : zH) : ∀ u, f_X2_setLevel n this p0 p1 p2 h = some u → zM l B D cA yX2_setLevel cX2_setLevel 4 none 1 0 0 none [.ref (B + this), .int p0, .int p1, .int p2] h ((fun h1 : zH => ((none : Option Value), h1)) u).1 ((fun h1 : zH => ((none : Option Value), h1)) u).2 := by
  unfold f_X2_setLevel
  refine z_met (own := RX2) (fun h1 : zH => ((none : Option Value), h1)) rfl (by decide) rfl (fun Z C hr _ _ => ?_)
  have hz0 : (z00 Z).1 ≤ 0 ∧ (z00 Z).2.1 ≤ 0 := ⟨Nat.le_refl 0, Nat.le_refl 0⟩
  refine z_aload_n (pc := 0) C (zD D_X2_setLevel_0 0 rfl) rfl 0 rfl ?_
  refine z_getR (pc := 1) C zc2 1 (by decide) q_52 (zD D_X2_setLevel_0 1 rfl) (fun v1 => ?_)
  refine z_iload_n (pc := 4) C (zD D_X2_setLevel_0 2 rfl) rfl 1 rfl ?_
  refine z_arload (pc := 5) C (c := 2) (by decide) rfl (zD D_X2_setLevel_0 3 rfl) (fun v5 => ?_)
  refine z_iload_n (pc := 6) C (zD D_X2_setLevel_0 4 rfl) rfl 2 rfl ?_
  refine z_iload_n (pc := 7) C (zD D_X2_setLevel_0 5 rfl) rfl 3 rfl ?_
  refine z_aistore (pc := 8) C (zD D_X2_setLevel_0 6 rfl) (fun h8 => ?_)
  refine z_aload_n (pc := 9) C (zD D_X2_setLevel_0 7 rfl) rfl 0 rfl ?_
  refine z_getR (pc := 10) C zc2 1 (by decide) q_52 (zD D_X2_setLevel_0 8 rfl) (fun v10 => ?_)
  refine z_iload_n (pc := 13) C (zD D_X2_setLevel_0 9 rfl) rfl 2 rfl ?_
  refine z_arload (pc := 14) C (c := 2) (by decide) rfl (zD D_X2_setLevel_0 10 rfl) (fun v14 => ?_)
  refine z_iload_n (pc := 15) C (zD D_X2_setLevel_0 11 rfl) rfl 1 rfl ?_
  refine z_iload_n (pc := 16) C (zD D_X2_setLevel_0 12 rfl) rfl 3 rfl ?_
  refine z_aistore (pc := 17) C (zD D_X2_setLevel_0 13 rfl) (fun h17 => ?_)
  exact z_vret (pc := 18) C hr rfl (zD D_X2_setLevel_0 14 rfl)
def f_X2_tracks (n : Nat) (this : Nat) (h : zH) : Option (Int32) := zfix2 (fun rec4 (a1_4 : Int32) (a2_4 : Int32) => if (8 : Int32) ≤ a2_4 then (some a1_4) else (zlet ((a2_4 + (1 : Int32))) fun (x13 : Int32) => zfix2 (fun rec14 (a1_14 : Int32) (a3_14 : Int32) => if (8 : Int32) ≤ a3_14 then (zlet (a2_4 + 1) fun (x45 : Int32) => rec4 a1_14 x45) else ((zgR h this 2 1).bind fun (v22 : Nat) => (zar h v22 2 a2_4).bind fun (v26 : Nat) => (zai h v26 a3_14).bind fun (v28 : Int32) => zlet (fun (s0_37 : Int32) => zlet ((a1_14 + s0_37)) fun (x38 : Int32) => zlet (a3_14 + 1) fun (x39 : Int32) => rec14 x38 x39) fun K37 => if v28 ≤ 0 then (K37 (0 : Int32)) else (K37 (1 : Int32)))) n a1_4 x13)) n (0 : Int32) (0 : Int32)
theorem zn_X2_tracks : zNm yX2_tracks 0 := ⟨by decide +kernel, by decide +kernel⟩
set_option maxRecDepth 100000 in
set_option maxHeartbeats 4000000 in
theorem c_X2_tracks (l : Launch) (B : Nat) (D : va_G) (cA : Nat → ClassId) (n : Nat) (this : Nat) (h : zH) : ∀ u, f_X2_tracks n this h = some u → zM l B D cA yX2_tracks cX2_tracks 4 (some .int) 1 0 0 none [.ref (B + this)] h ((fun r : Int32 => (some (Value.int r), h)) u).1 ((fun r : Int32 => (some (Value.int r), h)) u).2 := by
  unfold f_X2_tracks
  refine z_met (own := RX2) (fun r : Int32 => (some (Value.int r), h)) rfl (by decide) rfl (fun Z C hr _ _ => ?_)
  have hz0 : (z00 Z).1 ≤ 0 ∧ (z00 Z).2.1 ≤ 0 := ⟨Nat.le_refl 0, Nat.le_refl 0⟩
  refine z_iconst (pc := 0) (v := 0) C (zD D_X2_tracks_0 0 rfl) (by decide) ?_
  refine z_istore_n (pc := 1) (lv' := [(1, .int (0 : Int32)), (0, .ref (B + this))]) C (zD D_X2_tracks_0 1 rfl) rfl (by decide) rfl ?_
  refine z_iconst (pc := 2) (v := 0) C (zD D_X2_tracks_0 2 rfl) (by decide) ?_
  refine z_istore_n (pc := 3) (lv' := [(2, .int (0 : Int32)), (1, .int (0 : Int32)), (0, .ref (B + this))]) C (zD D_X2_tracks_0 3 rfl) rfl (by decide) rfl ?_
  refine z_sub [2, 1, 0] (lv' := [(0, .ref (B + this)), (1, .int (0 : Int32)), (2, .int (0 : Int32))]) rfl ?_
  refine z_fix2 (fun g4 => ∀ (a1_4 : Int32) (a2_4 : Int32), zJ B Z (zEnd B Z (fun r : Int32 => (some (Value.int r), h)) 0 0) (g4 a1_4 a2_4) 4 [(0, .ref (B + this)), (1, .int a1_4), (2, .int a2_4)] [] h (z00 Z)) (fun _ _ => z_none) (fun rec4 hrec4 a1_4 a2_4 => ?_) n (0 : Int32) (0 : Int32)
  refine z_iload_n (pc := 4) C (zD D_X2_tracks_0 4 rfl) rfl 2 rfl ?_
  refine z_bipush (pc := 5) (v := 8) C (zD D_X2_tracks_0 5 rfl) (by decide) ?_
  refine z_icmp_ge (pc := 7) C (zD D_X2_tracks_0 6 rfl) (tgt := 51) (by decide) (fun _ => ?_) (fun _ => ?_)
  · refine z_iload_n (pc := 51) C (zD D_X2_tracks_0 31 rfl) rfl 1 rfl ?_
    exact z_iret (pc := 52) C hr rfl (zD D_X2_tracks_0 32 rfl)
  · refine z_iload_n (pc := 10) C (zD D_X2_tracks_0 7 rfl) rfl 2 rfl ?_
    refine z_iconst (pc := 11) (v := 1) C (zD D_X2_tracks_0 8 rfl) (by decide) ?_
    refine z_iadd (pc := 12) C (zD D_X2_tracks_0 9 rfl) ?_
    refine z_istore_nL (pc := 13) (lv' := fun x13 => [(3, .int x13), (0, .ref (B + this)), (1, .int a1_4), (2, .int a2_4)]) C (zD D_X2_tracks_0 10 rfl) rfl (by decide) (fun _ => rfl) (fun x13 => ?_)
    refine z_sub [1, 2, 3, 0] (lv' := [(0, .ref (B + this)), (1, .int a1_4), (2, .int a2_4), (3, .int x13)]) rfl ?_
    refine z_fix2 (fun g14 => ∀ (a1_14 : Int32) (a3_14 : Int32), zJ B Z (zEnd B Z (fun r : Int32 => (some (Value.int r), h)) 0 0) (g14 a1_14 a3_14) 14 [(0, .ref (B + this)), (1, .int a1_14), (2, .int a2_4), (3, .int a3_14)] [] h (z00 Z)) (fun _ _ => z_none) (fun rec14 hrec14 a1_14 a3_14 => ?_) n a1_4 x13
    refine z_iload_n (pc := 14) C (zD D_X2_tracks_0 11 rfl) rfl 3 rfl ?_
    refine z_bipush (pc := 15) (v := 8) C (zD D_X2_tracks_0 12 rfl) (by decide) ?_
    refine z_icmp_ge (pc := 17) C (zD D_X2_tracks_0 13 rfl) (tgt := 45) (by decide) (fun _ => ?_) (fun _ => ?_)
    · refine z_iincL (pc := 45) (lv' := fun x45 => [(2, .int x45), (0, .ref (B + this)), (1, .int a1_14), (3, .int a3_14)]) C (zD D_X2_tracks_0 29 rfl) 2 rfl (v := a2_4 + 1) rfl (by decide) (fun _ => rfl) (fun x45 => ?_)
      refine z_goto (pc := 48) C (zD D_X2_tracks_0 30 rfl) (tgt := 4) (by decide) ?_
      refine z_sub [1, 2, 0] (lv' := [(0, .ref (B + this)), (1, .int a1_14), (2, .int x45)]) rfl ?_
      exact hrec4 a1_14 x45
    · refine z_iload_n (pc := 20) C (zD D_X2_tracks_0 14 rfl) rfl 1 rfl ?_
      refine z_aload_n (pc := 21) C (zD D_X2_tracks_0 15 rfl) rfl 0 rfl ?_
      refine z_getR (pc := 22) C zc2 1 (by decide) q_52 (zD D_X2_tracks_0 16 rfl) (fun v22 => ?_)
      refine z_iload_n (pc := 25) C (zD D_X2_tracks_0 17 rfl) rfl 2 rfl ?_
      refine z_arload (pc := 26) C (c := 2) (by decide) rfl (zD D_X2_tracks_0 18 rfl) (fun v26 => ?_)
      refine z_iload_n (pc := 27) C (zD D_X2_tracks_0 19 rfl) rfl 3 rfl ?_
      refine z_aiload (pc := 28) C (zD D_X2_tracks_0 20 rfl) (fun v28 => ?_)
      refine z_letg (fun K37 => ∀ (s0_37 : Int32), zJ B Z (zEnd B Z (fun r : Int32 => (some (Value.int r), h)) 0 0) (K37 s0_37) 37 [(0, .ref (B + this)), (2, .int a2_4), (3, .int a3_14)] [.int s0_37, .int a1_14] h (z00 Z)) (fun s0_37 => ?_) (fun K37 hK37 => ?_)
      · refine z_iadd (pc := 37) C (zD D_X2_tracks_0 25 rfl) ?_
        refine z_istore_nL (pc := 38) (lv' := fun x38 => [(1, .int x38), (0, .ref (B + this)), (2, .int a2_4), (3, .int a3_14)]) C (zD D_X2_tracks_0 26 rfl) rfl (by decide) (fun _ => rfl) (fun x38 => ?_)
        refine z_iincL (pc := 39) (lv' := fun x39 => [(3, .int x39), (1, .int x38), (0, .ref (B + this)), (2, .int a2_4)]) C (zD D_X2_tracks_0 27 rfl) 3 rfl (v := a3_14 + 1) rfl (by decide) (fun _ => rfl) (fun x39 => ?_)
        refine z_goto (pc := 42) C (zD D_X2_tracks_0 28 rfl) (tgt := 14) (by decide) ?_
        refine z_sub [2, 1, 3, 0] (lv' := [(0, .ref (B + this)), (1, .int x38), (2, .int a2_4), (3, .int x39)]) rfl ?_
        exact hrec14 x38 x39
      refine z_if_le (pc := 29) C (zD D_X2_tracks_0 21 rfl) (tgt := 36) (by decide) (fun _ => ?_) (fun _ => ?_)
      · refine z_iconst (pc := 36) (v := 0) C (zD D_X2_tracks_0 24 rfl) (by decide) ?_
        refine z_sub [0, 2, 3] (lv' := [(0, .ref (B + this)), (2, .int a2_4), (3, .int a3_14)]) rfl ?_
        exact hK37 (0 : Int32)
      · refine z_iconst (pc := 32) (v := 1) C (zD D_X2_tracks_0 22 rfl) (by decide) ?_
        refine z_goto (pc := 33) C (zD D_X2_tracks_0 23 rfl) (tgt := 37) (by decide) ?_
        refine z_sub [0, 2, 3] (lv' := [(0, .ref (B + this)), (2, .int a2_4), (3, .int a3_14)]) rfl ?_
        exact hK37 (1 : Int32)
def f_X2_clearTracks (n : Nat) (this : Nat) (h : zH) : Option (zH) := zfix2 (fun rec2 (a1_2 : Int32) (h2 : zH) => if (8 : Int32) ≤ a1_2 then (some h2) else ((zgR h2 this 2 1).bind fun (v9 : Nat) => (zar h2 v9 2 a1_2).bind fun (v13 : Nat) => (f_J7_fill_53178 n v13 (0 : Int32) h2).bind fun (h15 : zH) => zlet (a1_2 + 1) fun (x18 : Int32) => rec2 x18 h15)) n (0 : Int32) h
theorem zn_X2_clearTracks : zNm yX2_clearTracks 0 := ⟨by decide +kernel, by decide +kernel⟩
set_option maxRecDepth 100000 in
set_option maxHeartbeats 4000000 in
theorem c_X2_clearTracks (l : Launch) (B : Nat) (D : va_G) (cA : Nat → ClassId) (n : Nat) (this : Nat) (h : zH) : ∀ u, f_X2_clearTracks n this h = some u → zM l B D cA yX2_clearTracks cX2_clearTracks 2 none 2 0 0 none [.ref (B + this)] h ((fun h1 : zH => ((none : Option Value), h1)) u).1 ((fun h1 : zH => ((none : Option Value), h1)) u).2 := by
  unfold f_X2_clearTracks
  refine z_met (own := RX2) (fun h1 : zH => ((none : Option Value), h1)) rfl (by decide) rfl (fun Z C hr _ _ => ?_)
  have hz0 : (z00 Z).1 ≤ 0 ∧ (z00 Z).2.1 ≤ 0 := ⟨Nat.le_refl 0, Nat.le_refl 0⟩
  refine z_iconst (pc := 0) (v := 0) C (zD D_X2_clearTracks_0 0 rfl) (by decide) ?_
  refine z_istore_n (pc := 1) (lv' := [(1, .int (0 : Int32)), (0, .ref (B + this))]) C (zD D_X2_clearTracks_0 1 rfl) rfl (by decide) rfl ?_
  refine z_sub [1, 0] (lv' := [(0, .ref (B + this)), (1, .int (0 : Int32))]) rfl ?_
  refine z_fix2 (fun g2 => ∀ (a1_2 : Int32) (h2 : zH), zJ B Z (zEnd B Z (fun h1 : zH => ((none : Option Value), h1)) 0 0) (g2 a1_2 h2) 2 [(0, .ref (B + this)), (1, .int a1_2)] [] h2 (z00 Z)) (fun _ _ => z_none) (fun rec2 hrec2 a1_2 h2 => ?_) n (0 : Int32) h
  refine z_iload_n (pc := 2) C (zD D_X2_clearTracks_0 2 rfl) rfl 1 rfl ?_
  refine z_bipush (pc := 3) (v := 8) C (zD D_X2_clearTracks_0 3 rfl) (by decide) ?_
  refine z_icmp_ge (pc := 5) C (zD D_X2_clearTracks_0 4 rfl) (tgt := 24) (by decide) (fun _ => ?_) (fun _ => ?_)
  · exact z_vret (pc := 24) C hr rfl (zD D_X2_clearTracks_0 13 rfl)
  · refine z_aload_n (pc := 8) C (zD D_X2_clearTracks_0 5 rfl) rfl 0 rfl ?_
    refine z_getR (pc := 9) C zc2 1 (by decide) q_52 (zD D_X2_clearTracks_0 6 rfl) (fun v9 => ?_)
    refine z_iload_n (pc := 12) C (zD D_X2_clearTracks_0 7 rfl) rfl 1 rfl ?_
    refine z_arload (pc := 13) C (c := 2) (by decide) rfl (zD D_X2_clearTracks_0 8 rfl) (fun v13 => ?_)
    refine z_iconst (pc := 14) (v := 0) C (zD D_X2_clearTracks_0 9 rfl) (by decide) ?_
    refine z_csV (pc := 15) (As := [.ref (B + v13), .int (0 : Int32)]) C [] (c_J7_fill_53178 _ _ _ _ n v13 (0 : Int32) h2) zn_J7_fill_53178 (by decide) (by decide) hz0 q_75 q_76 q_77 q_78 rfl rfl rfl (zD D_X2_clearTracks_0 10 rfl) (fun h15 => ?_)
    refine z_iincL (pc := 18) (lv' := fun x18 => [(1, .int x18), (0, .ref (B + this))]) C (zD D_X2_clearTracks_0 11 rfl) 1 rfl (v := a1_2 + 1) rfl (by decide) (fun _ => rfl) (fun x18 => ?_)
    refine z_goto (pc := 21) C (zD D_X2_clearTracks_0 12 rfl) (tgt := 2) (by decide) ?_
    refine z_sub [1, 0] (lv' := [(0, .ref (B + this)), (1, .int x18)]) rfl ?_
    exact hrec2 x18 h15
