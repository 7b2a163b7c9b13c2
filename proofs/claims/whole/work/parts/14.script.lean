def f_X4_add (n : Nat) (this : Nat) (p0 : Int32) (h : zH) : Option (zH) := (zgI h this 4 1).bind fun (v1 : Int32) => if (90 : Int32) ≤ v1 then (some h) else ((zgR h this 4 0).bind fun (v10 : Nat) => (zgI h this 4 1).bind fun (v14 : Int32) => (zsi h v10 v14 p0).bind fun (h18 : zH) => (zgI h18 this 4 1).bind fun (v21 : Int32) => (zp h18 this 4 1 (.int (v21 + (1 : Int32)))).bind fun (h26 : zH) => some h26)
theorem zn_X4_add : zNm yX4_add 1 := ⟨by decide +kernel, by decide +kernel⟩
set_option maxRecDepth 100000 in
set_option maxHeartbeats 4000000 in
theorem c_X4_add (l : Launch) (B : Nat) (D : va_G) (cA : Nat → ClassId) (n : Nat) (this : Nat) (p0 : Int32) (h : zH) : ∀ u, f_X4_add n this p0 h = some u → zM l B D cA yX4_add cX4_add 2 none 1 0 0 none [.ref (B + this), .int p0] h ((fun h1 : zH => ((none : Option Value), h1)) u).1 ((fun h1 : zH => ((none : Option Value), h1)) u).2 := by
  unfold f_X4_add
  refine z_met (own := RX4) (fun h1 : zH => ((none : Option Value), h1)) rfl (by decide) rfl (fun Z C hr _ _ => ?_)
  have hz0 : (z00 Z).1 ≤ 0 ∧ (z00 Z).2.1 ≤ 0 := ⟨Nat.le_refl 0, Nat.le_refl 0⟩
  refine z_aload_n (pc := 0) C (zD D_X4_add_0 0 rfl) rfl 0 rfl ?_
  refine z_getI (pc := 1) C zc4 1 (by decide) q_858 (zD D_X4_add_0 1 rfl) (fun v1 => ?_)
  refine z_bipush (pc := 4) (v := 90) C (zD D_X4_add_0 2 rfl) (by decide) ?_
  refine z_icmp_ge (pc := 6) C (zD D_X4_add_0 3 rfl) (tgt := 29) (by decide) (fun _ => ?_) (fun _ => ?_)
  · exact z_vret (pc := 29) C hr rfl (zD D_X4_add_0 16 rfl)
  · refine z_aload_n (pc := 9) C (zD D_X4_add_0 4 rfl) rfl 0 rfl ?_
    refine z_getR (pc := 10) C zc4 0 (by decide) q_97 (zD D_X4_add_0 5 rfl) (fun v10 => ?_)
    refine z_aload_n (pc := 13) C (zD D_X4_add_0 6 rfl) rfl 0 rfl ?_
    refine z_getI (pc := 14) C zc4 1 (by decide) q_858 (zD D_X4_add_0 7 rfl) (fun v14 => ?_)
    refine z_iload_n (pc := 17) C (zD D_X4_add_0 8 rfl) rfl 1 rfl ?_
    refine z_aistore (pc := 18) C (zD D_X4_add_0 9 rfl) (fun h18 => ?_)
    refine z_aload_n (pc := 19) C (zD D_X4_add_0 10 rfl) rfl 0 rfl ?_
    refine z_dup (pc := 20) C (zD D_X4_add_0 11 rfl) rfl ?_
    refine z_getI (pc := 21) C zc4 1 (by decide) q_858 (zD D_X4_add_0 12 rfl) (fun v21 => ?_)
    refine z_iconst (pc := 24) (v := 1) C (zD D_X4_add_0 13 rfl) (by decide) ?_
    refine z_iadd (pc := 25) C (zD D_X4_add_0 14 rfl) ?_
    refine z_putI (pc := 26) C zc4 1 (by decide) q_858 rfl rfl (zD D_X4_add_0 15 rfl) (fun h26 => ?_)
    exact z_vret (pc := 29) C hr rfl (zD D_X4_add_0 16 rfl)
def f_X4_behindMoveSign (n : Nat) (p0 : Int32) (h : zH) : Option (Int32) := if p0 = 98 then (some (1 : Int32)) else if p0 = 107 then (some (4 : Int32)) else if p0 = 111 then (some (4 : Int32)) else if p0 = 112 then (some (6 : Int32)) else if p0 = 120 then (some (2 : Int32)) else (some (7 : Int32))
theorem zn_X4_behindMoveSign : zNm yX4_behindMoveSign 1 := ⟨by decide +kernel, by decide +kernel⟩
set_option maxRecDepth 100000 in
set_option maxHeartbeats 4000000 in
theorem c_X4_behindMoveSign (l : Launch) (B : Nat) (D : va_G) (cA : Nat → ClassId) (n : Nat) (p0 : Int32) (h : zH) : ∀ u, f_X4_behindMoveSign n p0 h = some u → zM l B D cA yX4_behindMoveSign cX4_behindMoveSign 1 (some .int) 1 0 0 none [.int p0] h ((fun r : Int32 => (some (Value.int r), h)) u).1 ((fun r : Int32 => (some (Value.int r), h)) u).2 := by
  unfold f_X4_behindMoveSign
  refine z_met (own := RX4) (fun r : Int32 => (some (Value.int r), h)) rfl (by decide) rfl (fun Z C hr _ _ => ?_)
  have hz0 : (z00 Z).1 ≤ 0 ∧ (z00 Z).2.1 ≤ 0 := ⟨Nat.le_refl 0, Nat.le_refl 0⟩
  refine z_iload_n (pc := 0) C (zD D_X4_behindMoveSign_0 0 rfl) rfl 0 rfl ?_
  refine z_ite (fun c0 => ?_) (fun c0 => ?_)
  · refine z_lkp (pc := 1) C (zD D_X4_behindMoveSign_0 1 rfl) (by decide) (off := 51) (by rw [c0]; decide) (tgt := 52) (by decide) ?_
    refine z_iconst (pc := 52) (v := 1) C (zD D_X4_behindMoveSign_0 2 rfl) (by decide) ?_
    exact z_iret (pc := 53) C hr rfl (zD D_X4_behindMoveSign_0 3 rfl)
  refine z_ite (fun c1 => ?_) (fun c1 => ?_)
  · refine z_lkp (pc := 1) C (zD D_X4_behindMoveSign_0 1 rfl) (by decide) (off := 58) (by rw [c1]; decide) (tgt := 59) (by decide) ?_
    refine z_iconst (pc := 59) (v := 4) C (zD D_X4_behindMoveSign_0 8 rfl) (by decide) ?_
    exact z_iret (pc := 60) C hr rfl (zD D_X4_behindMoveSign_0 9 rfl)
  refine z_ite (fun c2 => ?_) (fun c2 => ?_)
  · refine z_lkp (pc := 1) C (zD D_X4_behindMoveSign_0 1 rfl) (by decide) (off := 58) (by rw [c2]; decide) (tgt := 59) (by decide) ?_
    refine z_iconst (pc := 59) (v := 4) C (zD D_X4_behindMoveSign_0 8 rfl) (by decide) ?_
    exact z_iret (pc := 60) C hr rfl (zD D_X4_behindMoveSign_0 9 rfl)
  refine z_ite (fun c3 => ?_) (fun c3 => ?_)
  · refine z_lkp (pc := 1) C (zD D_X4_behindMoveSign_0 1 rfl) (by decide) (off := 55) (by rw [c3]; decide) (tgt := 56) (by decide) ?_
    refine z_bipush (pc := 56) (v := 6) C (zD D_X4_behindMoveSign_0 6 rfl) (by decide) ?_
    exact z_iret (pc := 58) C hr rfl (zD D_X4_behindMoveSign_0 7 rfl)
  refine z_ite (fun c4 => ?_) (fun c4 => ?_)
  · refine z_lkp (pc := 1) C (zD D_X4_behindMoveSign_0 1 rfl) (by decide) (off := 53) (by rw [c4]; decide) (tgt := 54) (by decide) ?_
    refine z_iconst (pc := 54) (v := 2) C (zD D_X4_behindMoveSign_0 4 rfl) (by decide) ?_
    exact z_iret (pc := 55) C hr rfl (zD D_X4_behindMoveSign_0 5 rfl)
  refine z_lkp (pc := 1) C (zD D_X4_behindMoveSign_0 1 rfl) (by decide) (off := 60) (by show Op.lookupswitch.offset [(98, 51), (107, 58), (111, 58), (112, 55), (120, 53)] 60 _ = _; rw [lv_osw c0 (by decide), lv_osw c1 (by decide), lv_osw c2 (by decide), lv_osw c3 (by decide), lv_osw c4 (by decide)]; rfl) (tgt := 61) (by decide) ?_
  refine z_bipush (pc := 61) (v := 7) C (zD D_X4_behindMoveSign_0 10 rfl) (by decide) ?_
  exact z_iret (pc := 63) C hr rfl (zD D_X4_behindMoveSign_0 11 rfl)
def f_X4_isDigit (n : Nat) (p0 : Int32) (p1 : Int32) (p2 : Int32) (h : zH) : Option (Int32) := zlet (some (0 : Int32)) fun K14 => if p0 < p1 then (K14) else (if p2 < p0 then (K14) else (some (1 : Int32)))
theorem zn_X4_isDigit : zNm yX4_isDigit 3 := ⟨by decide +kernel, by decide +kernel⟩
set_option maxRecDepth 100000 in
set_option maxHeartbeats 4000000 in
theorem c_X4_isDigit (l : Launch) (B : Nat) (D : va_G) (cA : Nat → ClassId) (n : Nat) (p0 : Int32) (p1 : Int32) (p2 : Int32) (h : zH) : ∀ u, f_X4_isDigit n p0 p1 p2 h = some u → zM l B D cA yX4_isDigit cX4_isDigit 3 (some .boolean) 1 0 0 none [.int p0, .int p1, .int p2] h ((fun r : Int32 => (some (Value.int r), h)) u).1 ((fun r : Int32 => (some (Value.int r), h)) u).2 := by
  unfold f_X4_isDigit
  refine z_met (own := RX4) (fun r : Int32 => (some (Value.int r), h)) rfl (by decide) rfl (fun Z C hr _ _ => ?_)
  have hz0 : (z00 Z).1 ≤ 0 ∧ (z00 Z).2.1 ≤ 0 := ⟨Nat.le_refl 0, Nat.le_refl 0⟩
  refine z_iload_n (pc := 0) C (zD D_X4_isDigit_0 0 rfl) rfl 0 rfl ?_
  refine z_iload_n (pc := 1) C (zD D_X4_isDigit_0 1 rfl) rfl 1 rfl ?_
  refine z_letg (fun K14 => zJ B Z (zEnd B Z (fun r : Int32 => (some (Value.int r), h)) 0 0) (K14) 14 [] [] h (z00 Z)) ?_ (fun K14 hK14 => ?_)
  · refine z_iconst (pc := 14) (v := 0) C (zD D_X4_isDigit_0 8 rfl) (by decide) ?_
    exact z_zret (pc := 15) C hr (by decide) rfl (zD D_X4_isDigit_0 9 rfl)
  refine z_icmp_lt (pc := 2) C (zD D_X4_isDigit_0 2 rfl) (tgt := 14) (by decide) (fun _ => ?_) (fun _ => ?_)
  · refine z_sub [] (lv' := []) rfl ?_
    exact hK14
  · refine z_iload_n (pc := 5) C (zD D_X4_isDigit_0 3 rfl) rfl 0 rfl ?_
    refine z_iload_n (pc := 6) C (zD D_X4_isDigit_0 4 rfl) rfl 2 rfl ?_
    refine z_icmp_gt (pc := 7) C (zD D_X4_isDigit_0 5 rfl) (tgt := 14) (by decide) (fun _ => ?_) (fun _ => ?_)
    · refine z_sub [] (lv' := []) rfl ?_
      exact hK14
    · refine z_iconst (pc := 10) (v := 1) C (zD D_X4_isDigit_0 6 rfl) (by decide) ?_
      refine z_goto (pc := 11) C (zD D_X4_isDigit_0 7 rfl) (tgt := 15) (by decide) ?_
      exact z_zret (pc := 15) C hr (by decide) rfl (zD D_X4_isDigit_0 9 rfl)
def f_X4_nextMove (n : Nat) (this : Nat) (p0 : Int32) (h : zH) : Option (Int32) := zfix1 (fun rec2 (a2_2 : Int32) => (zgI h this 4 1).bind fun (v4 : Int32) => zlet (some (a2_2 + (1 : Int32))) fun K27 => if v4 ≤ a2_2 then (K27) else ((zgR h this 4 0).bind fun (v11 : Nat) => (zai h v11 a2_2).bind fun (v15 : Int32) => if v15 = (59 : Int32) then (K27) else (zlet (a2_2 + 1) fun (x21 : Int32) => rec2 x21))) n p0
theorem zn_X4_nextMove : zNm yX4_nextMove 1 := ⟨by decide +kernel, by decide +kernel⟩
set_option maxRecDepth 100000 in
set_option maxHeartbeats 4000000 in
theorem c_X4_nextMove (l : Launch) (B : Nat) (D : va_G) (cA : Nat → ClassId) (n : Nat) (this : Nat) (p0 : Int32) (h : zH) : ∀ u, f_X4_nextMove n this p0 h = some u → zM l B D cA yX4_nextMove cX4_nextMove 3 (some .int) 1 0 0 none [.ref (B + this), .int p0] h ((fun r : Int32 => (some (Value.int r), h)) u).1 ((fun r : Int32 => (some (Value.int r), h)) u).2 := by
  unfold f_X4_nextMove
  refine z_met (own := RX4) (fun r : Int32 => (some (Value.int r), h)) rfl (by decide) rfl (fun Z C hr _ _ => ?_)
  have hz0 : (z00 Z).1 ≤ 0 ∧ (z00 Z).2.1 ≤ 0 := ⟨Nat.le_refl 0, Nat.le_refl 0⟩
  refine z_iload_n (pc := 0) C (zD D_X4_nextMove_0 0 rfl) rfl 1 rfl ?_
  refine z_istore_n (pc := 1) (lv' := [(2, .int p0), (0, .ref (B + this)), (1, .int p0)]) C (zD D_X4_nextMove_0 1 rfl) rfl (by decide) rfl ?_
  refine z_sub [1, 0] (lv' := [(0, .ref (B + this)), (2, .int p0)]) rfl ?_
  refine z_fix1 (fun g2 => ∀ (a2_2 : Int32), zJ B Z (zEnd B Z (fun r : Int32 => (some (Value.int r), h)) 0 0) (g2 a2_2) 2 [(0, .ref (B + this)), (2, .int a2_2)] [] h (z00 Z)) (fun _ => z_none) (fun rec2 hrec2 a2_2 => ?_) n p0
  refine z_iload_n (pc := 2) C (zD D_X4_nextMove_0 2 rfl) rfl 1 rfl ?_
  refine z_aload_n (pc := 3) C (zD D_X4_nextMove_0 3 rfl) rfl 0 rfl ?_
  refine z_getI (pc := 4) C zc4 1 (by decide) q_858 (zD D_X4_nextMove_0 4 rfl) (fun v4 => ?_)
  refine z_letg (fun K27 => zJ B Z (zEnd B Z (fun r : Int32 => (some (Value.int r), h)) 0 0) (K27) 27 [(2, .int a2_2)] [] h (z00 Z)) ?_ (fun K27 hK27 => ?_)
  · refine z_iload_n (pc := 27) C (zD D_X4_nextMove_0 14 rfl) rfl 0 rfl ?_
    refine z_iconst (pc := 28) (v := 1) C (zD D_X4_nextMove_0 15 rfl) (by decide) ?_
    refine z_iadd (pc := 29) C (zD D_X4_nextMove_0 16 rfl) ?_
    exact z_iret (pc := 30) C hr rfl (zD D_X4_nextMove_0 17 rfl)
  refine z_icmp_ge (pc := 7) C (zD D_X4_nextMove_0 5 rfl) (tgt := 27) (by decide) (fun _ => ?_) (fun _ => ?_)
  · refine z_sub [1] (lv' := [(2, .int a2_2)]) rfl ?_
    exact hK27
  · refine z_aload_n (pc := 10) C (zD D_X4_nextMove_0 6 rfl) rfl 0 rfl ?_
    refine z_getR (pc := 11) C zc4 0 (by decide) q_97 (zD D_X4_nextMove_0 7 rfl) (fun v11 => ?_)
    refine z_iload_n (pc := 14) C (zD D_X4_nextMove_0 8 rfl) rfl 1 rfl ?_
    refine z_aiload (pc := 15) C (zD D_X4_nextMove_0 9 rfl) (fun v15 => ?_)
    refine z_bipush (pc := 16) (v := 59) C (zD D_X4_nextMove_0 10 rfl) (by decide) ?_
    refine z_icmp_eq (pc := 18) C (zD D_X4_nextMove_0 11 rfl) (tgt := 27) (by decide) (fun _ => ?_) (fun _ => ?_)
    · refine z_sub [1] (lv' := [(2, .int a2_2)]) rfl ?_
      exact hK27
    · refine z_iincL (pc := 21) (lv' := fun x21 => [(2, .int x21), (0, .ref (B + this))]) C (zD D_X4_nextMove_0 12 rfl) 1 rfl (v := a2_2 + 1) rfl (by decide) (fun _ => rfl) (fun x21 => ?_)
      refine z_goto (pc := 24) C (zD D_X4_nextMove_0 13 rfl) (tgt := 2) (by decide) ?_
      refine z_sub [1, 0] (lv' := [(0, .ref (B + this)), (2, .int x21)]) rfl ?_
      exact hrec2 x21
def f_X4_sign (n : Nat) (this : Nat) (p0 : Int32) (h : zH) : Option (Int32) := zlet (some (-1 : Int32)) fun K21 => if p0 < 0 then (K21) else ((zgI h this 4 1).bind fun (v6 : Int32) => if v6 ≤ p0 then (K21) else ((zgR h this 4 0).bind fun (v13 : Nat) => (zai h v13 p0).bind fun (v17 : Int32) => some v17))
theorem zn_X4_sign : zNm yX4_sign 1 := ⟨by decide +kernel, by decide +kernel⟩
set_option maxRecDepth 100000 in
set_option maxHeartbeats 4000000 in
theorem c_X4_sign (l : Launch) (B : Nat) (D : va_G) (cA : Nat → ClassId) (n : Nat) (this : Nat) (p0 : Int32) (h : zH) : ∀ u, f_X4_sign n this p0 h = some u → zM l B D cA yX4_sign cX4_sign 2 (some .int) 1 0 0 none [.ref (B + this), .int p0] h ((fun r : Int32 => (some (Value.int r), h)) u).1 ((fun r : Int32 => (some (Value.int r), h)) u).2 := by
  unfold f_X4_sign
  refine z_met (own := RX4) (fun r : Int32 => (some (Value.int r), h)) rfl (by decide) rfl (fun Z C hr _ _ => ?_)
  have hz0 : (z00 Z).1 ≤ 0 ∧ (z00 Z).2.1 ≤ 0 := ⟨Nat.le_refl 0, Nat.le_refl 0⟩
  refine z_iload_n (pc := 0) C (zD D_X4_sign_0 0 rfl) rfl 1 rfl ?_
  refine z_letg (fun K21 => zJ B Z (zEnd B Z (fun r : Int32 => (some (Value.int r), h)) 0 0) (K21) 21 [] [] h (z00 Z)) ?_ (fun K21 hK21 => ?_)
  · refine z_iconst (pc := 21) (v := -1) C (zD D_X4_sign_0 11 rfl) (by decide) ?_
    exact z_iret (pc := 22) C hr rfl (zD D_X4_sign_0 12 rfl)
  refine z_if_lt (pc := 1) C (zD D_X4_sign_0 1 rfl) (tgt := 21) (by decide) (fun _ => ?_) (fun _ => ?_)
  · refine z_sub [] (lv' := []) rfl ?_
    exact hK21
  · refine z_iload_n (pc := 4) C (zD D_X4_sign_0 2 rfl) rfl 1 rfl ?_
    refine z_aload_n (pc := 5) C (zD D_X4_sign_0 3 rfl) rfl 0 rfl ?_
    refine z_getI (pc := 6) C zc4 1 (by decide) q_858 (zD D_X4_sign_0 4 rfl) (fun v6 => ?_)
    refine z_icmp_ge (pc := 9) C (zD D_X4_sign_0 5 rfl) (tgt := 21) (by decide) (fun _ => ?_) (fun _ => ?_)
    · refine z_sub [] (lv' := []) rfl ?_
      exact hK21
    · refine z_aload_n (pc := 12) C (zD D_X4_sign_0 6 rfl) rfl 0 rfl ?_
      refine z_getR (pc := 13) C zc4 0 (by decide) q_97 (zD D_X4_sign_0 7 rfl) (fun v13 => ?_)
      refine z_iload_n (pc := 16) C (zD D_X4_sign_0 8 rfl) rfl 1 rfl ?_
      refine z_aiload (pc := 17) C (zD D_X4_sign_0 9 rfl) (fun v17 => ?_)
      refine z_goto (pc := 18) C (zD D_X4_sign_0 10 rfl) (tgt := 22) (by decide) ?_
      exact z_iret (pc := 22) C hr rfl (zD D_X4_sign_0 12 rfl)
def f_X4_behind (n : Nat) (p0 : Int32) (p1 : Int32) (p2 : Int32) (h : zH) : Option (Int32) := if p0 = 0 then ((f_X4_behindMoveSign n p1 h).bind fun (r41 : Int32) => some r41) else if p0 = 1 then ((f_X4_isDigit n p1 (48 : Int32) (51 : Int32) h).bind fun (r50 : Int32) => if r50 = 0 then (some (7 : Int32)) else (some (6 : Int32))) else if p0 = 2 then ((f_X4_isDigit n p1 (48 : Int32) (51 : Int32) h).bind fun (r69 : Int32) => if r69 = 0 then (some (7 : Int32)) else (some (3 : Int32))) else if p0 = 3 then ((f_X4_isDigit n p1 (49 : Int32) (57 : Int32) h).bind fun (r87 : Int32) => if r87 = 0 then (some (7 : Int32)) else (some (6 : Int32))) else if p0 = 4 then (if p1 = (59 : Int32) then (some (0 : Int32)) else ((f_X4_isDigit n p1 (48 : Int32) (55 : Int32) h).bind fun (r116 : Int32) => if r116 = 0 then (some (7 : Int32)) else (some (5 : Int32)))) else if p0 = 5 then ((f_X4_isDigit n p1 (48 : Int32) (55 : Int32) h).bind fun (r134 : Int32) => zlet (some (7 : Int32)) fun K150 => if r134 = 0 then (K150) else (if p1 = p2 then (K150) else (some (6 : Int32)))) else (if p1 = (59 : Int32) then (some (0 : Int32)) else (some (7 : Int32)))
theorem zn_X4_behind : zNm yX4_behind 3 := ⟨by decide +kernel, by decide +kernel⟩
set_option maxRecDepth 100000 in
set_option maxHeartbeats 4000000 in
theorem c_X4_behind (l : Launch) (B : Nat) (D : va_G) (cA : Nat → ClassId) (n : Nat) (p0 : Int32) (p1 : Int32) (p2 : Int32) (h : zH) : ∀ u, f_X4_behind n p0 p1 p2 h = some u → zM l B D cA yX4_behind cX4_behind 3 (some .int) 2 0 0 none [.int p0, .int p1, .int p2] h ((fun r : Int32 => (some (Value.int r), h)) u).1 ((fun r : Int32 => (some (Value.int r), h)) u).2 := by
  unfold f_X4_behind
  refine z_met (own := RX4) (fun r : Int32 => (some (Value.int r), h)) rfl (by decide) rfl (fun Z C hr _ _ => ?_)
  have hz0 : (z00 Z).1 ≤ 0 ∧ (z00 Z).2.1 ≤ 0 := ⟨Nat.le_refl 0, Nat.le_refl 0⟩
  refine z_iload_n (pc := 0) C (zD D_X4_behind_0 0 rfl) rfl 0 rfl ?_
  refine z_ite (fun c0 => ?_) (fun c0 => ?_)
  · refine z_tblIn (pc := 1) C (zD D_X4_behind_0 1 rfl) (by rw [c0]; decide) (by rw [c0]; decide) (by rw [c0]; rfl) (tgt := 40) (by decide) ?_
    refine z_iload_n (pc := 40) C (zD D_X4_behind_0 2 rfl) rfl 1 rfl ?_
    refine z_csR (pc := 41) (As := [.int p1]) C [] (c_X4_behindMoveSign _ _ _ _ n p1 h) zn_X4_behindMoveSign (by decide) (by decide) hz0 q_887 q_888 q_24 q_889 rfl rfl rfl (zD D_X4_behind_0 3 rfl) (fun r41 => ?_)
    exact z_iret (pc := 44) C hr rfl (zD D_X4_behind_0 4 rfl)
  refine z_ite (fun c1 => ?_) (fun c1 => ?_)
  · refine z_tblIn (pc := 1) C (zD D_X4_behind_0 1 rfl) (by rw [c1]; decide) (by rw [c1]; decide) (by rw [c1]; rfl) (tgt := 45) (by decide) ?_
    refine z_iload_n (pc := 45) C (zD D_X4_behind_0 5 rfl) rfl 1 rfl ?_
    refine z_bipush (pc := 46) (v := 48) C (zD D_X4_behind_0 6 rfl) (by decide) ?_
    refine z_bipush (pc := 48) (v := 51) C (zD D_X4_behind_0 7 rfl) (by decide) ?_
    refine z_csR (pc := 50) (As := [.int p1, .int (48 : Int32), .int (51 : Int32)]) C [] (c_X4_isDigit _ _ _ _ n p1 (48 : Int32) (51 : Int32) h) zn_X4_isDigit (by decide) (by decide) hz0 q_890 q_891 q_24 q_892 rfl rfl rfl (zD D_X4_behind_0 8 rfl) (fun r50 => ?_)
    refine z_if_eq (pc := 53) C (zD D_X4_behind_0 9 rfl) (tgt := 61) (by decide) (fun _ => ?_) (fun _ => ?_)
    · refine z_bipush (pc := 61) (v := 7) C (zD D_X4_behind_0 12 rfl) (by decide) ?_
      exact z_iret (pc := 63) C hr rfl (zD D_X4_behind_0 13 rfl)
    · refine z_bipush (pc := 56) (v := 6) C (zD D_X4_behind_0 10 rfl) (by decide) ?_
      refine z_goto (pc := 58) C (zD D_X4_behind_0 11 rfl) (tgt := 63) (by decide) ?_
      exact z_iret (pc := 63) C hr rfl (zD D_X4_behind_0 13 rfl)
  refine z_ite (fun c2 => ?_) (fun c2 => ?_)
  · refine z_tblIn (pc := 1) C (zD D_X4_behind_0 1 rfl) (by rw [c2]; decide) (by rw [c2]; decide) (by rw [c2]; rfl) (tgt := 64) (by decide) ?_
    refine z_iload_n (pc := 64) C (zD D_X4_behind_0 14 rfl) rfl 1 rfl ?_
    refine z_bipush (pc := 65) (v := 48) C (zD D_X4_behind_0 15 rfl) (by decide) ?_
    refine z_bipush (pc := 67) (v := 51) C (zD D_X4_behind_0 16 rfl) (by decide) ?_
    refine z_csR (pc := 69) (As := [.int p1, .int (48 : Int32), .int (51 : Int32)]) C [] (c_X4_isDigit _ _ _ _ n p1 (48 : Int32) (51 : Int32) h) zn_X4_isDigit (by decide) (by decide) hz0 q_890 q_891 q_24 q_892 rfl rfl rfl (zD D_X4_behind_0 17 rfl) (fun r69 => ?_)
    refine z_if_eq (pc := 72) C (zD D_X4_behind_0 18 rfl) (tgt := 79) (by decide) (fun _ => ?_) (fun _ => ?_)
    · refine z_bipush (pc := 79) (v := 7) C (zD D_X4_behind_0 21 rfl) (by decide) ?_
      exact z_iret (pc := 81) C hr rfl (zD D_X4_behind_0 22 rfl)
    · refine z_iconst (pc := 75) (v := 3) C (zD D_X4_behind_0 19 rfl) (by decide) ?_
      refine z_goto (pc := 76) C (zD D_X4_behind_0 20 rfl) (tgt := 81) (by decide) ?_
      exact z_iret (pc := 81) C hr rfl (zD D_X4_behind_0 22 rfl)
  refine z_ite (fun c3 => ?_) (fun c3 => ?_)
  · refine z_tblIn (pc := 1) C (zD D_X4_behind_0 1 rfl) (by rw [c3]; decide) (by rw [c3]; decide) (by rw [c3]; rfl) (tgt := 82) (by decide) ?_
    refine z_iload_n (pc := 82) C (zD D_X4_behind_0 23 rfl) rfl 1 rfl ?_
    refine z_bipush (pc := 83) (v := 49) C (zD D_X4_behind_0 24 rfl) (by decide) ?_
    refine z_bipush (pc := 85) (v := 57) C (zD D_X4_behind_0 25 rfl) (by decide) ?_
    refine z_csR (pc := 87) (As := [.int p1, .int (49 : Int32), .int (57 : Int32)]) C [] (c_X4_isDigit _ _ _ _ n p1 (49 : Int32) (57 : Int32) h) zn_X4_isDigit (by decide) (by decide) hz0 q_890 q_891 q_24 q_892 rfl rfl rfl (zD D_X4_behind_0 26 rfl) (fun r87 => ?_)
    refine z_if_eq (pc := 90) C (zD D_X4_behind_0 27 rfl) (tgt := 98) (by decide) (fun _ => ?_) (fun _ => ?_)
    · refine z_bipush (pc := 98) (v := 7) C (zD D_X4_behind_0 30 rfl) (by decide) ?_
      exact z_iret (pc := 100) C hr rfl (zD D_X4_behind_0 31 rfl)
    · refine z_bipush (pc := 93) (v := 6) C (zD D_X4_behind_0 28 rfl) (by decide) ?_
      refine z_goto (pc := 95) C (zD D_X4_behind_0 29 rfl) (tgt := 100) (by decide) ?_
      exact z_iret (pc := 100) C hr rfl (zD D_X4_behind_0 31 rfl)
  refine z_ite (fun c4 => ?_) (fun c4 => ?_)
  · refine z_tblIn (pc := 1) C (zD D_X4_behind_0 1 rfl) (by rw [c4]; decide) (by rw [c4]; decide) (by rw [c4]; rfl) (tgt := 101) (by decide) ?_
    refine z_iload_n (pc := 101) C (zD D_X4_behind_0 32 rfl) rfl 1 rfl ?_
    refine z_bipush (pc := 102) (v := 59) C (zD D_X4_behind_0 33 rfl) (by decide) ?_
    refine z_icmp_ne (pc := 104) C (zD D_X4_behind_0 34 rfl) (tgt := 111) (by decide) (fun _ => ?_) (fun _ => ?_)
    · refine z_iload_n (pc := 111) C (zD D_X4_behind_0 37 rfl) rfl 1 rfl ?_
      refine z_bipush (pc := 112) (v := 48) C (zD D_X4_behind_0 38 rfl) (by decide) ?_
      refine z_bipush (pc := 114) (v := 55) C (zD D_X4_behind_0 39 rfl) (by decide) ?_
      refine z_csR (pc := 116) (As := [.int p1, .int (48 : Int32), .int (55 : Int32)]) C [] (c_X4_isDigit _ _ _ _ n p1 (48 : Int32) (55 : Int32) h) zn_X4_isDigit (by decide) (by decide) hz0 q_890 q_891 q_24 q_892 rfl rfl rfl (zD D_X4_behind_0 40 rfl) (fun r116 => ?_)
      refine z_if_eq (pc := 119) C (zD D_X4_behind_0 41 rfl) (tgt := 126) (by decide) (fun _ => ?_) (fun _ => ?_)
      · refine z_bipush (pc := 126) (v := 7) C (zD D_X4_behind_0 44 rfl) (by decide) ?_
        exact z_iret (pc := 128) C hr rfl (zD D_X4_behind_0 45 rfl)
      · refine z_iconst (pc := 122) (v := 5) C (zD D_X4_behind_0 42 rfl) (by decide) ?_
        refine z_goto (pc := 123) C (zD D_X4_behind_0 43 rfl) (tgt := 128) (by decide) ?_
        exact z_iret (pc := 128) C hr rfl (zD D_X4_behind_0 45 rfl)
    · refine z_iconst (pc := 107) (v := 0) C (zD D_X4_behind_0 35 rfl) (by decide) ?_
      refine z_goto (pc := 108) C (zD D_X4_behind_0 36 rfl) (tgt := 128) (by decide) ?_
      exact z_iret (pc := 128) C hr rfl (zD D_X4_behind_0 45 rfl)
  refine z_ite (fun c5 => ?_) (fun c5 => ?_)
  · refine z_tblIn (pc := 1) C (zD D_X4_behind_0 1 rfl) (by rw [c5]; decide) (by rw [c5]; decide) (by rw [c5]; rfl) (tgt := 129) (by decide) ?_
    refine z_iload_n (pc := 129) C (zD D_X4_behind_0 46 rfl) rfl 1 rfl ?_
    refine z_bipush (pc := 130) (v := 48) C (zD D_X4_behind_0 47 rfl) (by decide) ?_
    refine z_bipush (pc := 132) (v := 55) C (zD D_X4_behind_0 48 rfl) (by decide) ?_
    refine z_csR (pc := 134) (As := [.int p1, .int (48 : Int32), .int (55 : Int32)]) C [] (c_X4_isDigit _ _ _ _ n p1 (48 : Int32) (55 : Int32) h) zn_X4_isDigit (by decide) (by decide) hz0 q_890 q_891 q_24 q_892 rfl rfl rfl (zD D_X4_behind_0 49 rfl) (fun r134 => ?_)
    refine z_letg (fun K150 => zJ B Z (zEnd B Z (fun r : Int32 => (some (Value.int r), h)) 0 0) (K150) 150 [] [] h (z00 Z)) ?_ (fun K150 hK150 => ?_)
    · refine z_bipush (pc := 150) (v := 7) C (zD D_X4_behind_0 56 rfl) (by decide) ?_
      exact z_iret (pc := 152) C hr rfl (zD D_X4_behind_0 57 rfl)
    refine z_if_eq (pc := 137) C (zD D_X4_behind_0 50 rfl) (tgt := 150) (by decide) (fun _ => ?_) (fun _ => ?_)
    · refine z_sub [] (lv' := []) rfl ?_
      exact hK150
    · refine z_iload_n (pc := 140) C (zD D_X4_behind_0 51 rfl) rfl 1 rfl ?_
      refine z_iload_n (pc := 141) C (zD D_X4_behind_0 52 rfl) rfl 2 rfl ?_
      refine z_icmp_eq (pc := 142) C (zD D_X4_behind_0 53 rfl) (tgt := 150) (by decide) (fun _ => ?_) (fun _ => ?_)
      · refine z_sub [] (lv' := []) rfl ?_
        exact hK150
      · refine z_bipush (pc := 145) (v := 6) C (zD D_X4_behind_0 54 rfl) (by decide) ?_
        refine z_goto (pc := 147) C (zD D_X4_behind_0 55 rfl) (tgt := 152) (by decide) ?_
        exact z_iret (pc := 152) C hr rfl (zD D_X4_behind_0 57 rfl)
  refine z_tblOut (pc := 1) C (zD D_X4_behind_0 1 rfl) (z_out _ (fun k h1 h2 => by rcases (show k = 0 ∨ k = 1 ∨ k = 2 ∨ k = 3 ∨ k = 4 ∨ k = 5 by omega) with rfl | rfl | rfl | rfl | rfl | rfl; exact fun e => c0 (e.trans (by decide)); exact fun e => c1 (e.trans (by decide)); exact fun e => c2 (e.trans (by decide)); exact fun e => c3 (e.trans (by decide)); exact fun e => c4 (e.trans (by decide)); exact fun e => c5 (e.trans (by decide)))) (tgt := 153) (by decide) ?_
  refine z_iload_n (pc := 153) C (zD D_X4_behind_0 58 rfl) rfl 1 rfl ?_
  refine z_bipush (pc := 154) (v := 59) C (zD D_X4_behind_0 59 rfl) (by decide) ?_
  refine z_icmp_ne (pc := 156) C (zD D_X4_behind_1 0 rfl) (tgt := 163) (by decide) (fun _ => ?_) (fun _ => ?_)
  · refine z_bipush (pc := 163) (v := 7) C (zD D_X4_behind_1 3 rfl) (by decide) ?_
    exact z_iret (pc := 165) C hr rfl (zD D_X4_behind_1 4 rfl)
  · refine z_iconst (pc := 159) (v := 0) C (zD D_X4_behind_1 1 rfl) (by decide) ?_
    refine z_goto (pc := 160) C (zD D_X4_behind_1 2 rfl) (tgt := 165) (by decide) ?_
    exact z_iret (pc := 165) C hr rfl (zD D_X4_behind_1 4 rfl)
def f_X4_digit (n : Nat) (this : Nat) (p0 : Int32) (h : zH) : Option (Int32) := zrc h this 4 <| (f_X4_sign n this p0 h).bind fun (r2 : Int32) => (f_X4_isDigit n r2 (48 : Int32) (57 : Int32) h).bind fun (r11 : Int32) => if r11 = 0 then (some (-1 : Int32)) else (some (r2 - (48 : Int32)))
theorem zn_X4_digit : zNm yX4_digit 1 := ⟨by decide +kernel, by decide +kernel⟩
set_option maxRecDepth 100000 in
set_option maxHeartbeats 4000000 in
theorem c_X4_digit (l : Launch) (B : Nat) (D : va_G) (cA : Nat → ClassId) (n : Nat) (this : Nat) (p0 : Int32) (h : zH) : ∀ u, f_X4_digit n this p0 h = some u → zM l B D cA yX4_digit cX4_digit 3 (some .int) 2 0 0 none [.ref (B + this), .int p0] h ((fun r : Int32 => (some (Value.int r), h)) u).1 ((fun r : Int32 => (some (Value.int r), h)) u).2 := by
  unfold f_X4_digit
  refine z_met (own := RX4) (fun r : Int32 => (some (Value.int r), h)) rfl (by decide) rfl (fun Z C hr _ _ => ?_)
  have hz0 : (z00 Z).1 ≤ 0 ∧ (z00 Z).2.1 ≤ 0 := ⟨Nat.le_refl 0, Nat.le_refl 0⟩
  refine z_aload_n (pc := 0) C (zD D_X4_digit_0 0 rfl) rfl 0 rfl ?_
  refine z_iload_n (pc := 1) C (zD D_X4_digit_0 1 rfl) rfl 1 rfl ?_
  refine z_cvR (pc := 2) (As := [.int p0]) C [] (c_X4_sign _ _ _ _ n this p0 h) zn_X4_sign (by decide) (by decide) hz0 zc4 rfl q_880 q_881 q_882 q_24 q_883 rfl rfl rfl (zD D_X4_digit_0 2 rfl) (fun r2 => ?_)
  refine z_istore_n (pc := 5) (lv' := [(2, .int r2), (0, .ref (B + this)), (1, .int p0)]) C (zD D_X4_digit_0 3 rfl) rfl (by decide) rfl ?_
  refine z_iload_n (pc := 6) C (zD D_X4_digit_0 4 rfl) rfl 0 rfl ?_
  refine z_bipush (pc := 7) (v := 48) C (zD D_X4_digit_0 5 rfl) (by decide) ?_
  refine z_bipush (pc := 9) (v := 57) C (zD D_X4_digit_0 6 rfl) (by decide) ?_
  refine z_csR (pc := 11) (As := [.int r2, .int (48 : Int32), .int (57 : Int32)]) C [] (c_X4_isDigit _ _ _ _ n r2 (48 : Int32) (57 : Int32) h) zn_X4_isDigit (by decide) (by decide) hz0 q_890 q_891 q_24 q_892 rfl rfl rfl (zD D_X4_digit_0 7 rfl) (fun r11 => ?_)
  refine z_if_eq (pc := 14) C (zD D_X4_digit_0 8 rfl) (tgt := 24) (by decide) (fun _ => ?_) (fun _ => ?_)
  · refine z_iconst (pc := 24) (v := -1) C (zD D_X4_digit_0 13 rfl) (by decide) ?_
    exact z_iret (pc := 25) C hr rfl (zD D_X4_digit_0 14 rfl)
  · refine z_iload_n (pc := 17) C (zD D_X4_digit_0 9 rfl) rfl 0 rfl ?_
    refine z_bipush (pc := 18) (v := 48) C (zD D_X4_digit_0 10 rfl) (by decide) ?_
    refine z_isub (pc := 20) C (zD D_X4_digit_0 11 rfl) ?_
    refine z_goto (pc := 21) C (zD D_X4_digit_0 12 rfl) (tgt := 25) (by decide) ?_
    exact z_iret (pc := 25) C hr rfl (zD D_X4_digit_0 14 rfl)
def f_X4_errorPosition (n : Nat) (this : Nat) (h : zH) : Option (Int32) := zfix2 (fun rec4 (a1_4 : Int32) (a2_4 : Int32) => (zgI h this 4 1).bind fun (v6 : Int32) => if v6 ≤ a2_4 then (if a1_4 = 0 then (some (-1 : Int32)) else ((zgI h this 4 1).bind fun (v53 : Int32) => some v53)) else ((zgR h this 4 0).bind fun (v14 : Nat) => (zai h v14 a2_4).bind fun (v18 : Int32) => zrc h this 4 <| (f_X4_sign n this (a2_4 - (1 : Int32)) h).bind fun (r23 : Int32) => (f_X4_behind n a1_4 v18 r23 h).bind fun (r26 : Int32) => if r26 = (7 : Int32) then (some a2_4) else (zlet (a2_4 + 1) fun (x38 : Int32) => rec4 r26 x38))) n (0 : Int32) (0 : Int32)
theorem zn_X4_errorPosition : zNm yX4_errorPosition 0 := ⟨by decide +kernel, by decide +kernel⟩
set_option maxRecDepth 100000 in
set_option maxHeartbeats 4000000 in
theorem c_X4_errorPosition (l : Launch) (B : Nat) (D : va_G) (cA : Nat → ClassId) (n : Nat) (this : Nat) (h : zH) : ∀ u, f_X4_errorPosition n this h = some u → zM l B D cA yX4_errorPosition cX4_errorPosition 3 (some .int) 3 0 0 none [.ref (B + this)] h ((fun r : Int32 => (some (Value.int r), h)) u).1 ((fun r : Int32 => (some (Value.int r), h)) u).2 := by
  unfold f_X4_errorPosition
  refine z_met (own := RX4) (fun r : Int32 => (some (Value.int r), h)) rfl (by decide) rfl (fun Z C hr _ _ => ?_)
  have hz0 : (z00 Z).1 ≤ 0 ∧ (z00 Z).2.1 ≤ 0 := ⟨Nat.le_refl 0, Nat.le_refl 0⟩
  refine z_iconst (pc := 0) (v := 0) C (zD D_X4_errorPosition_0 0 rfl) (by decide) ?_
  refine z_istore_n (pc := 1) (lv' := [(1, .int (0 : Int32)), (0, .ref (B + this))]) C (zD D_X4_errorPosition_0 1 rfl) rfl (by decide) rfl ?_
  refine z_iconst (pc := 2) (v := 0) C (zD D_X4_errorPosition_0 2 rfl) (by decide) ?_
  refine z_istore_n (pc := 3) (lv' := [(2, .int (0 : Int32)), (1, .int (0 : Int32)), (0, .ref (B + this))]) C (zD D_X4_errorPosition_0 3 rfl) rfl (by decide) rfl ?_
  refine z_sub [2, 1, 0] (lv' := [(0, .ref (B + this)), (1, .int (0 : Int32)), (2, .int (0 : Int32))]) rfl ?_
  refine z_fix2 (fun g4 => ∀ (a1_4 : Int32) (a2_4 : Int32), zJ B Z (zEnd B Z (fun r : Int32 => (some (Value.int r), h)) 0 0) (g4 a1_4 a2_4) 4 [(0, .ref (B + this)), (1, .int a1_4), (2, .int a2_4)] [] h (z00 Z)) (fun _ _ => z_none) (fun rec4 hrec4 a1_4 a2_4 => ?_) n (0 : Int32) (0 : Int32)
  refine z_iload_n (pc := 4) C (zD D_X4_errorPosition_0 4 rfl) rfl 2 rfl ?_
  refine z_aload_n (pc := 5) C (zD D_X4_errorPosition_0 5 rfl) rfl 0 rfl ?_
  refine z_getI (pc := 6) C zc4 1 (by decide) q_858 (zD D_X4_errorPosition_0 6 rfl) (fun v6 => ?_)
  refine z_icmp_ge (pc := 9) C (zD D_X4_errorPosition_0 7 rfl) (tgt := 44) (by decide) (fun _ => ?_) (fun _ => ?_)
  · refine z_iload_n (pc := 44) C (zD D_X4_errorPosition_0 27 rfl) rfl 1 rfl ?_
    refine z_if_ne (pc := 45) C (zD D_X4_errorPosition_0 28 rfl) (tgt := 52) (by decide) (fun _ => ?_) (fun _ => ?_)
    · refine z_aload_n (pc := 52) C (zD D_X4_errorPosition_0 31 rfl) rfl 0 rfl ?_
      refine z_getI (pc := 53) C zc4 1 (by decide) q_858 (zD D_X4_errorPosition_0 32 rfl) (fun v53 => ?_)
      exact z_iret (pc := 56) C hr rfl (zD D_X4_errorPosition_0 33 rfl)
    · refine z_iconst (pc := 48) (v := -1) C (zD D_X4_errorPosition_0 29 rfl) (by decide) ?_
      refine z_goto (pc := 49) C (zD D_X4_errorPosition_0 30 rfl) (tgt := 56) (by decide) ?_
      exact z_iret (pc := 56) C hr rfl (zD D_X4_errorPosition_0 33 rfl)
  · refine z_iload_n (pc := 12) C (zD D_X4_errorPosition_0 8 rfl) rfl 1 rfl ?_
    refine z_aload_n (pc := 13) C (zD D_X4_errorPosition_0 9 rfl) rfl 0 rfl ?_
    refine z_getR (pc := 14) C zc4 0 (by decide) q_97 (zD D_X4_errorPosition_0 10 rfl) (fun v14 => ?_)
    refine z_iload_n (pc := 17) C (zD D_X4_errorPosition_0 11 rfl) rfl 2 rfl ?_
    refine z_aiload (pc := 18) C (zD D_X4_errorPosition_0 12 rfl) (fun v18 => ?_)
    refine z_aload_n (pc := 19) C (zD D_X4_errorPosition_0 13 rfl) rfl 0 rfl ?_
    refine z_iload_n (pc := 20) C (zD D_X4_errorPosition_0 14 rfl) rfl 2 rfl ?_
    refine z_iconst (pc := 21) (v := 1) C (zD D_X4_errorPosition_0 15 rfl) (by decide) ?_
    refine z_isub (pc := 22) C (zD D_X4_errorPosition_0 16 rfl) ?_
    refine z_cvR (pc := 23) (As := [.int (a2_4 - (1 : Int32))]) C [.int v18, .int a1_4] (c_X4_sign _ _ _ _ n this (a2_4 - (1 : Int32)) h) zn_X4_sign (by decide) (by decide) hz0 zc4 rfl q_880 q_881 q_882 q_24 q_883 rfl rfl rfl (zD D_X4_errorPosition_0 17 rfl) (fun r23 => ?_)
    refine z_csR (pc := 26) (As := [.int a1_4, .int v18, .int r23]) C [] (c_X4_behind _ _ _ _ n a1_4 v18 r23 h) zn_X4_behind (by decide) (by decide) hz0 q_884 q_885 q_24 q_886 rfl rfl rfl (zD D_X4_errorPosition_0 18 rfl) (fun r26 => ?_)
    refine z_istore_n (pc := 29) (lv' := [(1, .int r26), (0, .ref (B + this)), (2, .int a2_4)]) C (zD D_X4_errorPosition_0 19 rfl) rfl (by decide) rfl ?_
    refine z_iload_n (pc := 30) C (zD D_X4_errorPosition_0 20 rfl) rfl 0 rfl ?_
    refine z_bipush (pc := 31) (v := 7) C (zD D_X4_errorPosition_0 21 rfl) (by decide) ?_
    refine z_icmp_ne (pc := 33) C (zD D_X4_errorPosition_0 22 rfl) (tgt := 38) (by decide) (fun _ => ?_) (fun _ => ?_)
    · refine z_iincL (pc := 38) (lv' := fun x38 => [(2, .int x38), (1, .int r26), (0, .ref (B + this))]) C (zD D_X4_errorPosition_0 25 rfl) 2 rfl (v := a2_4 + 1) rfl (by decide) (fun _ => rfl) (fun x38 => ?_)
      refine z_goto (pc := 41) C (zD D_X4_errorPosition_0 26 rfl) (tgt := 4) (by decide) ?_
      refine z_sub [2, 1, 0] (lv' := [(0, .ref (B + this)), (1, .int r26), (2, .int x38)]) rfl ?_
      exact hrec4 r26 x38
    · refine z_iload_n (pc := 36) C (zD D_X4_errorPosition_0 23 rfl) rfl 2 rfl ?_
      exact z_iret (pc := 37) C hr rfl (zD D_X4_errorPosition_0 24 rfl)
