def f_X5_saveState (n : Nat) (this : Nat) (h : zH) : Option (zH) := (zgI h this 5 2).bind fun (v1 : Int32) => zlet (fun (h59 : zH) => (zgR h59 this 5 1).bind fun (v60 : Nat) => (zgI h59 this 5 2).bind fun (v64 : Int32) => (zar h59 v60 4 v64).bind fun (v67 : Nat) => (zgR h59 this 5 0).bind fun (v69 : Nat) => zrc h59 v67 1 <| (f_X1_copyFrom n v67 v69 h59).bind fun (h72 : zH) => (zgI h72 this 5 2).bind fun (v77 : Int32) => (zp h72 this 5 2 (.int (v77 + (1 : Int32)))).bind fun (h82 : zH) => some h82) fun K59 => if v1 = (4 : Int32) then ((zgR h this 5 1).bind fun (v9 : Nat) => (zar h v9 4 (0 : Int32)).bind fun (v13 : Nat) => zfix2 (fun rec17 (a2_17 : Int32) (h17 : zH) => if (4 : Int32) ≤ a2_17 then ((zgR h17 this 5 1).bind fun (v43 : Nat) => (zsr h17 v43 4 1 (3 : Int32) v13).bind fun (h48 : zH) => (zgI h48 this 5 2).bind fun (v51 : Int32) => (zp h48 this 5 2 (.int (v51 - (1 : Int32)))).bind fun (h56 : zH) => K59 h56) else ((zgR h17 this 5 1).bind fun (v23 : Nat) => (zgR h17 this 5 1).bind fun (v30 : Nat) => (zar h17 v30 4 a2_17).bind fun (v34 : Nat) => (zsr h17 v23 4 1 (a2_17 - (1 : Int32)) v34).bind fun (h35 : zH) => zlet (a2_17 + 1) fun (x36 : Int32) => rec17 x36 h35)) n (1 : Int32) h) else (K59 h)
theorem zn_X5_saveState : zNm yX5_saveState 0 := ⟨by decide +kernel, by decide +kernel⟩
set_option maxRecDepth 100000 in
set_option maxHeartbeats 4000000 in
theorem c_X5_saveState (l : Launch) (B : Nat) (D : va_G) (cA : Nat → ClassId) (n : Nat) (this : Nat) (h : zH) : ∀ u, f_X5_saveState n this h = some u → zM l B D cA yX5_saveState cX5_saveState 3 none 3 0 0 none [.ref (B + this)] h ((fun h1 : zH => ((none : Option Value), h1)) u).1 ((fun h1 : zH => ((none : Option Value), h1)) u).2 := by
  unfold f_X5_saveState
  refine z_met (own := RX5) (fun h1 : zH => ((none : Option Value), h1)) rfl (by decide) rfl (fun Z C hr _ _ => ?_)
  have hz0 : (z00 Z).1 ≤ 0 ∧ (z00 Z).2.1 ≤ 0 := ⟨Nat.le_refl 0, Nat.le_refl 0⟩
  refine z_aload_n (pc := 0) C (zD D_X5_saveState_0 0 rfl) rfl 0 rfl ?_
  refine z_getI (pc := 1) C zc5 2 (by decide) q_19 (zD D_X5_saveState_0 1 rfl) (fun v1 => ?_)
  refine z_iconst (pc := 4) (v := 4) C (zD D_X5_saveState_0 2 rfl) (by decide) ?_
  refine z_letg (fun K59 => ∀ (h59 : zH), zJ B Z (zEnd B Z (fun h1 : zH => ((none : Option Value), h1)) 0 0) (K59 h59) 59 [(0, .ref (B + this))] [] h59 (z00 Z)) (fun h59 => ?_) (fun K59 hK59 => ?_)
  · refine z_aload_n (pc := 59) C (zD D_X5_saveState_0 37 rfl) rfl 0 rfl ?_
    refine z_getR (pc := 60) C zc5 1 (by decide) q_18 (zD D_X5_saveState_0 38 rfl) (fun v60 => ?_)
    refine z_aload_n (pc := 63) C (zD D_X5_saveState_0 39 rfl) rfl 0 rfl ?_
    refine z_getI (pc := 64) C zc5 2 (by decide) q_19 (zD D_X5_saveState_0 40 rfl) (fun v64 => ?_)
    refine z_arload (pc := 67) C (c := 4) (by decide) rfl (zD D_X5_saveState_0 41 rfl) (fun v67 => ?_)
    refine z_aload_n (pc := 68) C (zD D_X5_saveState_0 42 rfl) rfl 0 rfl ?_
    refine z_getR (pc := 69) C zc5 0 (by decide) q_17 (zD D_X5_saveState_0 43 rfl) (fun v69 => ?_)
    refine z_cvV (pc := 72) (As := [.ref (B + v69)]) C [] (c_X1_copyFrom _ _ _ _ n v67 v69 h59) zn_X1_copyFrom (by decide) (by decide) hz0 zc1 rfl q_107 q_108 q_109 q_16 q_110 rfl rfl rfl (zD D_X5_saveState_0 44 rfl) (fun h72 => ?_)
    refine z_aload_n (pc := 75) C (zD D_X5_saveState_0 45 rfl) rfl 0 rfl ?_
    refine z_dup (pc := 76) C (zD D_X5_saveState_0 46 rfl) rfl ?_
    refine z_getI (pc := 77) C zc5 2 (by decide) q_19 (zD D_X5_saveState_0 47 rfl) (fun v77 => ?_)
    refine z_iconst (pc := 80) (v := 1) C (zD D_X5_saveState_0 48 rfl) (by decide) ?_
    refine z_iadd (pc := 81) C (zD D_X5_saveState_0 49 rfl) ?_
    refine z_putI (pc := 82) C zc5 2 (by decide) q_19 rfl rfl (zD D_X5_saveState_0 50 rfl) (fun h82 => ?_)
    exact z_vret (pc := 85) C hr rfl (zD D_X5_saveState_0 51 rfl)
  refine z_icmp_ne (pc := 5) C (zD D_X5_saveState_0 3 rfl) (tgt := 59) (by decide) (fun _ => ?_) (fun _ => ?_)
  · exact hK59 h
  · refine z_aload_n (pc := 8) C (zD D_X5_saveState_0 4 rfl) rfl 0 rfl ?_
    refine z_getR (pc := 9) C zc5 1 (by decide) q_18 (zD D_X5_saveState_0 5 rfl) (fun v9 => ?_)
    refine z_iconst (pc := 12) (v := 0) C (zD D_X5_saveState_0 6 rfl) (by decide) ?_
    refine z_arload (pc := 13) C (c := 4) (by decide) rfl (zD D_X5_saveState_0 7 rfl) (fun v13 => ?_)
    refine z_astore_n (pc := 14) (lv' := [(1, .ref (B + v13)), (0, .ref (B + this))]) C (zD D_X5_saveState_0 8 rfl) rfl (by decide) rfl ?_
    refine z_iconst (pc := 15) (v := 1) C (zD D_X5_saveState_0 9 rfl) (by decide) ?_
    refine z_istore_n (pc := 16) (lv' := [(2, .int (1 : Int32)), (1, .ref (B + v13)), (0, .ref (B + this))]) C (zD D_X5_saveState_0 10 rfl) rfl (by decide) rfl ?_
    refine z_sub [2, 1, 0] (lv' := [(0, .ref (B + this)), (1, .ref (B + v13)), (2, .int (1 : Int32))]) rfl ?_
    refine z_fix2 (fun g17 => ∀ (a2_17 : Int32) (h17 : zH), zJ B Z (zEnd B Z (fun h1 : zH => ((none : Option Value), h1)) 0 0) (g17 a2_17 h17) 17 [(0, .ref (B + this)), (1, .ref (B + v13)), (2, .int a2_17)] [] h17 (z00 Z)) (fun _ _ => z_none) (fun rec17 hrec17 a2_17 h17 => ?_) n (1 : Int32) h
    refine z_iload_n (pc := 17) C (zD D_X5_saveState_0 11 rfl) rfl 2 rfl ?_
    refine z_iconst (pc := 18) (v := 4) C (zD D_X5_saveState_0 12 rfl) (by decide) ?_
    refine z_icmp_ge (pc := 19) C (zD D_X5_saveState_0 13 rfl) (tgt := 42) (by decide) (fun _ => ?_) (fun _ => ?_)
    · refine z_aload_n (pc := 42) C (zD D_X5_saveState_0 26 rfl) rfl 0 rfl ?_
      refine z_getR (pc := 43) C zc5 1 (by decide) q_18 (zD D_X5_saveState_0 27 rfl) (fun v43 => ?_)
      refine z_iconst (pc := 46) (v := 3) C (zD D_X5_saveState_0 28 rfl) (by decide) ?_
      refine z_aload_n (pc := 47) C (zD D_X5_saveState_0 29 rfl) rfl 1 rfl ?_
      refine z_arstore (pc := 48) C (c := 4) (ci := 1) (by decide) rfl rfl (zD D_X5_saveState_0 30 rfl) (fun h48 => ?_)
      refine z_aload_n (pc := 49) C (zD D_X5_saveState_0 31 rfl) rfl 0 rfl ?_
      refine z_dup (pc := 50) C (zD D_X5_saveState_0 32 rfl) rfl ?_
      refine z_getI (pc := 51) C zc5 2 (by decide) q_19 (zD D_X5_saveState_0 33 rfl) (fun v51 => ?_)
      refine z_iconst (pc := 54) (v := 1) C (zD D_X5_saveState_0 34 rfl) (by decide) ?_
      refine z_isub (pc := 55) C (zD D_X5_saveState_0 35 rfl) ?_
      refine z_putI (pc := 56) C zc5 2 (by decide) q_19 rfl rfl (zD D_X5_saveState_0 36 rfl) (fun h56 => ?_)
      refine z_sub [0] (lv' := [(0, .ref (B + this))]) rfl ?_
      exact hK59 h56
    · refine z_aload_n (pc := 22) C (zD D_X5_saveState_0 14 rfl) rfl 0 rfl ?_
      refine z_getR (pc := 23) C zc5 1 (by decide) q_18 (zD D_X5_saveState_0 15 rfl) (fun v23 => ?_)
      refine z_iload_n (pc := 26) C (zD D_X5_saveState_0 16 rfl) rfl 2 rfl ?_
      refine z_iconst (pc := 27) (v := 1) C (zD D_X5_saveState_0 17 rfl) (by decide) ?_
      refine z_isub (pc := 28) C (zD D_X5_saveState_0 18 rfl) ?_
      refine z_aload_n (pc := 29) C (zD D_X5_saveState_0 19 rfl) rfl 0 rfl ?_
      refine z_getR (pc := 30) C zc5 1 (by decide) q_18 (zD D_X5_saveState_0 20 rfl) (fun v30 => ?_)
      refine z_iload_n (pc := 33) C (zD D_X5_saveState_0 21 rfl) rfl 2 rfl ?_
      refine z_arload (pc := 34) C (c := 4) (by decide) rfl (zD D_X5_saveState_0 22 rfl) (fun v34 => ?_)
      refine z_arstore (pc := 35) C (c := 4) (ci := 1) (by decide) rfl rfl (zD D_X5_saveState_0 23 rfl) (fun h35 => ?_)
      refine z_iincL (pc := 36) (lv' := fun x36 => [(2, .int x36), (0, .ref (B + this)), (1, .ref (B + v13))]) C (zD D_X5_saveState_0 24 rfl) 2 rfl (v := a2_17 + 1) rfl (by decide) (fun _ => rfl) (fun x36 => ?_)
      refine z_goto (pc := 39) C (zD D_X5_saveState_0 25 rfl) (tgt := 17) (by decide) ?_
      refine z_sub [1, 2, 0] (lv' := [(0, .ref (B + this)), (1, .ref (B + v13)), (2, .int x36)]) rfl ?_
      exact hrec17 x36 h35
def f_X5_unsold (n : Nat) (this : Nat) (h : zH) : Option (UInt64) := (zgR h this 5 0).bind fun (v1 : Nat) => zrc h v1 1 <| (f_X1_openCompanies n v1 h).bind fun (r4 : Int32) => if r4 = 0 then (some FP.dconst0) else ((zgR h this 5 0).bind fun (v15 : Nat) => zrc h v15 1 <| (f_X1_unsoldShares n v15 h).bind fun (r18 : Int32) => (zdd (FP.i2d r18) (FP.i2d ((10 : Int32) * r4))).bind fun (v27 : UInt64) => some v27)
theorem zn_X5_unsold : zNm yX5_unsold 0 := ⟨by decide +kernel, by decide +kernel⟩
set_option maxRecDepth 100000 in
set_option maxHeartbeats 4000000 in
theorem c_X5_unsold (l : Launch) (B : Nat) (D : va_G) (cA : Nat → ClassId) (n : Nat) (this : Nat) (h : zH) : ∀ u, f_X5_unsold n this h = some u → zM l B D cA yX5_unsold cX5_unsold 2 (some .double) 3 0 0 none [.ref (B + this)] h ((fun r : UInt64 => (some (Value.double r), h)) u).1 ((fun r : UInt64 => (some (Value.double r), h)) u).2 := by
  unfold f_X5_unsold
  refine z_met (own := RX5) (fun r : UInt64 => (some (Value.double r), h)) rfl (by decide) rfl (fun Z C hr _ _ => ?_)
  have hz0 : (z00 Z).1 ≤ 0 ∧ (z00 Z).2.1 ≤ 0 := ⟨Nat.le_refl 0, Nat.le_refl 0⟩
  refine z_aload_n (pc := 0) C (zD D_X5_unsold_0 0 rfl) rfl 0 rfl ?_
  refine z_getR (pc := 1) C zc5 0 (by decide) q_17 (zD D_X5_unsold_0 1 rfl) (fun v1 => ?_)
  refine z_cvR (pc := 4) (As := []) C [] (c_X1_openCompanies _ _ _ _ n v1 h) zn_X1_openCompanies (by decide) (by decide) hz0 zc1 rfl q_557 q_157 q_158 q_16 q_159 rfl rfl rfl (zD D_X5_unsold_0 2 rfl) (fun r4 => ?_)
  refine z_istore_n (pc := 7) (lv' := [(1, .int r4), (0, .ref (B + this))]) C (zD D_X5_unsold_0 3 rfl) rfl (by decide) rfl ?_
  refine z_iload_n (pc := 8) C (zD D_X5_unsold_0 4 rfl) rfl 0 rfl ?_
  refine z_if_ne (pc := 9) C (zD D_X5_unsold_0 5 rfl) (tgt := 14) (by decide) (fun _ => ?_) (fun _ => ?_)
  · refine z_aload_n (pc := 14) C (zD D_X5_unsold_0 8 rfl) rfl 1 rfl ?_
    refine z_getR (pc := 15) C zc5 0 (by decide) q_17 (zD D_X5_unsold_0 9 rfl) (fun v15 => ?_)
    refine z_cvR (pc := 18) (As := []) C [] (c_X1_unsoldShares _ _ _ _ n v15 h) zn_X1_unsoldShares (by decide) (by decide) hz0 zc1 rfl q_558 q_559 q_560 q_16 q_561 rfl rfl rfl (zD D_X5_unsold_0 10 rfl) (fun r18 => ?_)
    refine z_i2d (pc := 21) C (zD D_X5_unsold_0 11 rfl) ?_
    refine z_bipush (pc := 22) (v := 10) C (zD D_X5_unsold_0 12 rfl) (by decide) ?_
    refine z_iload_n (pc := 24) C (zD D_X5_unsold_0 13 rfl) rfl 0 rfl ?_
    refine z_imul (pc := 25) C (zD D_X5_unsold_0 14 rfl) ?_
    refine z_i2d (pc := 26) C (zD D_X5_unsold_0 15 rfl) ?_
    refine z_dd (pc := 27) C (zD D_X5_unsold_0 16 rfl) (fun v27 => ?_)
    exact z_dret (pc := 28) C hr rfl (zD D_X5_unsold_0 17 rfl)
  · refine z_dconst0 (pc := 12) C (zD D_X5_unsold_0 6 rfl) ?_
    exact z_dret (pc := 13) C hr rfl (zD D_X5_unsold_0 7 rfl)
def f_X5_leader (n : Nat) (this : Nat) (h : zH) : Option (Int32) := zfix2 (fun rec4 (a1_4 : Int32) (a2_4 : Int32) => (zgR h this 5 0).bind fun (v6 : Nat) => (zgI h v6 1 8).bind fun (v9 : Int32) => if v9 ≤ a2_4 then (some a1_4) else ((zgR h this 5 0).bind fun (v16 : Nat) => zrc h v16 1 <| (f_X1_worthOf n v16 a2_4 h).bind fun (r20 : Int32) => (zgR h this 5 0).bind fun (v24 : Nat) => zrc h v24 1 <| (f_X1_worthOf n v24 a1_4 h).bind fun (r28 : Int32) => zlet (fun (a1_36 : Int32) => zlet (a2_4 + 1) fun (x36 : Int32) => rec4 a1_36 x36) fun K36 => if r20 ≤ r28 then (K36 a1_4) else (K36 a2_4))) n (0 : Int32) (1 : Int32)
theorem zn_X5_leader : zNm yX5_leader 0 := ⟨by decide +kernel, by decide +kernel⟩
set_option maxRecDepth 100000 in
set_option maxHeartbeats 4000000 in
theorem c_X5_leader (l : Launch) (B : Nat) (D : va_G) (cA : Nat → ClassId) (n : Nat) (this : Nat) (h : zH) : ∀ u, f_X5_leader n this h = some u → zM l B D cA yX5_leader cX5_leader 3 (some .int) 4 0 0 none [.ref (B + this)] h ((fun r : Int32 => (some (Value.int r), h)) u).1 ((fun r : Int32 => (some (Value.int r), h)) u).2 := by
  unfold f_X5_leader
  refine z_met (own := RX5) (fun r : Int32 => (some (Value.int r), h)) rfl (by decide) rfl (fun Z C hr _ _ => ?_)
  have hz0 : (z00 Z).1 ≤ 0 ∧ (z00 Z).2.1 ≤ 0 := ⟨Nat.le_refl 0, Nat.le_refl 0⟩
  refine z_iconst (pc := 0) (v := 0) C (zD D_X5_leader_0 0 rfl) (by decide) ?_
  refine z_istore_n (pc := 1) (lv' := [(1, .int (0 : Int32)), (0, .ref (B + this))]) C (zD D_X5_leader_0 1 rfl) rfl (by decide) rfl ?_
  refine z_iconst (pc := 2) (v := 1) C (zD D_X5_leader_0 2 rfl) (by decide) ?_
  refine z_istore_n (pc := 3) (lv' := [(2, .int (1 : Int32)), (1, .int (0 : Int32)), (0, .ref (B + this))]) C (zD D_X5_leader_0 3 rfl) rfl (by decide) rfl ?_
  refine z_sub [2, 1, 0] (lv' := [(0, .ref (B + this)), (1, .int (0 : Int32)), (2, .int (1 : Int32))]) rfl ?_
  refine z_fix2 (fun g4 => ∀ (a1_4 : Int32) (a2_4 : Int32), zJ B Z (zEnd B Z (fun r : Int32 => (some (Value.int r), h)) 0 0) (g4 a1_4 a2_4) 4 [(0, .ref (B + this)), (1, .int a1_4), (2, .int a2_4)] [] h (z00 Z)) (fun _ _ => z_none) (fun rec4 hrec4 a1_4 a2_4 => ?_) n (0 : Int32) (1 : Int32)
  refine z_iload_n (pc := 4) C (zD D_X5_leader_0 4 rfl) rfl 2 rfl ?_
  refine z_aload_n (pc := 5) C (zD D_X5_leader_0 5 rfl) rfl 0 rfl ?_
  refine z_getR (pc := 6) C zc5 0 (by decide) q_17 (zD D_X5_leader_0 6 rfl) (fun v6 => ?_)
  refine z_getI (pc := 9) C zc1 8 (by decide) q_137 (zD D_X5_leader_0 7 rfl) (fun v9 => ?_)
  refine z_icmp_ge (pc := 12) C (zD D_X5_leader_0 8 rfl) (tgt := 42) (by decide) (fun _ => ?_) (fun _ => ?_)
  · refine z_iload_n (pc := 42) C (zD D_X5_leader_0 22 rfl) rfl 1 rfl ?_
    exact z_iret (pc := 43) C hr rfl (zD D_X5_leader_0 23 rfl)
  · refine z_aload_n (pc := 15) C (zD D_X5_leader_0 9 rfl) rfl 0 rfl ?_
    refine z_getR (pc := 16) C zc5 0 (by decide) q_17 (zD D_X5_leader_0 10 rfl) (fun v16 => ?_)
    refine z_iload_n (pc := 19) C (zD D_X5_leader_0 11 rfl) rfl 2 rfl ?_
    refine z_cvR (pc := 20) (As := [.int a2_4]) C [] (c_X1_worthOf _ _ _ _ n v16 a2_4 h) zn_X1_worthOf (by decide) (by decide) hz0 zc1 rfl q_170 q_171 q_172 q_16 q_173 rfl rfl rfl (zD D_X5_leader_0 12 rfl) (fun r20 => ?_)
    refine z_aload_n (pc := 23) C (zD D_X5_leader_0 13 rfl) rfl 0 rfl ?_
    refine z_getR (pc := 24) C zc5 0 (by decide) q_17 (zD D_X5_leader_0 14 rfl) (fun v24 => ?_)
    refine z_iload_n (pc := 27) C (zD D_X5_leader_0 15 rfl) rfl 1 rfl ?_
    refine z_cvR (pc := 28) (As := [.int a1_4]) C [.int r20] (c_X1_worthOf _ _ _ _ n v24 a1_4 h) zn_X1_worthOf (by decide) (by decide) hz0 zc1 rfl q_170 q_171 q_172 q_16 q_173 rfl rfl rfl (zD D_X5_leader_0 16 rfl) (fun r28 => ?_)
    refine z_letg (fun K36 => ∀ (a1_36 : Int32), zJ B Z (zEnd B Z (fun r : Int32 => (some (Value.int r), h)) 0 0) (K36 a1_36) 36 [(0, .ref (B + this)), (1, .int a1_36), (2, .int a2_4)] [] h (z00 Z)) (fun a1_36 => ?_) (fun K36 hK36 => ?_)
    · refine z_iincL (pc := 36) (lv' := fun x36 => [(2, .int x36), (0, .ref (B + this)), (1, .int a1_36)]) C (zD D_X5_leader_0 20 rfl) 2 rfl (v := a2_4 + 1) rfl (by decide) (fun _ => rfl) (fun x36 => ?_)
      refine z_goto (pc := 39) C (zD D_X5_leader_0 21 rfl) (tgt := 4) (by decide) ?_
      refine z_sub [1, 2, 0] (lv' := [(0, .ref (B + this)), (1, .int a1_36), (2, .int x36)]) rfl ?_
      exact hrec4 a1_36 x36
    refine z_icmp_le (pc := 31) C (zD D_X5_leader_0 17 rfl) (tgt := 36) (by decide) (fun _ => ?_) (fun _ => ?_)
    · exact hK36 a1_4
    · refine z_iload_n (pc := 34) C (zD D_X5_leader_0 18 rfl) rfl 2 rfl ?_
      refine z_istore_n (pc := 35) (lv' := [(1, .int a2_4), (0, .ref (B + this)), (2, .int a2_4)]) C (zD D_X5_leader_0 19 rfl) rfl (by decide) rfl ?_
      refine z_sub [1, 0, 2] (lv' := [(0, .ref (B + this)), (1, .int a2_4), (2, .int a2_4)]) rfl ?_
      exact hK36 a2_4
def f_X5_begin (n : Nat) (this : Nat) (p0 : Int32) (h : zH) : Option (zO2) := zlet (some (.inl 0, h)) fun K10 => if p0 < (2 : Int32) then (K10) else (if p0 ≤ (4 : Int32) then (zrc h this 5 <| (f_X5_saveState n this h).bind fun (h19 : zH) => (zgR h19 this 5 0).bind fun (v23 : Nat) => (zgI h19 v23 1 12).bind fun (v26 : Int32) => (zgR h19 this 5 0).bind fun (v31 : Nat) => zrc h19 v31 1 <| (f_X1_reset n v31 p0 h19).bind fun (h35 : zH) => some (.inr v26, h35)) else (K10))
theorem zn_X5_begin : zNm yX5_begin 1 := ⟨by decide +kernel, by decide +kernel⟩
set_option maxRecDepth 100000 in
set_option maxHeartbeats 4000000 in
theorem c_X5_begin (l : Launch) (hl : l.stackTraces = false) (B : Nat) (D : va_G) (cA : Nat → ClassId) (n : Nat) (this : Nat) (p0 : Int32) (h : zH) : ∀ u, f_X5_begin n this p0 h = some u → zMx l B D cA yX5_begin cX5_begin 3 (some .int) 6 [.ref (B + this), .int p0] h u := by
  unfold f_X5_begin
  refine z_metx (own := RX5) hl rfl (by decide) rfl (fun Z C hr hlz hnt => ?_)
  have hz0 : (z00 Z).1 ≤ 1 ∧ (z00 Z).2.1 ≤ 6 := ⟨Nat.zero_le 1, Nat.zero_le 6⟩
  refine z_iload_n (pc := 0) C (zD D_X5_begin_0 0 rfl) rfl 1 rfl ?_
  refine z_iconst (pc := 1) (v := 2) C (zD D_X5_begin_0 1 rfl) (by decide) ?_
  refine z_letg (fun K10 => zJ B Z (zEndx B Z) (K10) 10 [] [] h (z00 Z)) ?_ (fun K10 hK10 => ?_)
  · exact z_throw (pc := 10) zt_0 C hlz hnt (by decide) rfl (zD D_X5_begin_0 6 rfl) (zD D_X5_begin_0 7 rfl) (zD D_X5_begin_0 8 rfl) (zD D_X5_begin_0 9 rfl)
  refine z_icmp_lt (pc := 2) C (zD D_X5_begin_0 2 rfl) (tgt := 10) (by decide) (fun _ => ?_) (fun _ => ?_)
  · refine z_sub [] (lv' := []) rfl ?_
    exact hK10
  · refine z_iload_n (pc := 5) C (zD D_X5_begin_0 3 rfl) rfl 1 rfl ?_
    refine z_iconst (pc := 6) (v := 4) C (zD D_X5_begin_0 4 rfl) (by decide) ?_
    refine z_icmp_le (pc := 7) C (zD D_X5_begin_0 5 rfl) (tgt := 18) (by decide) (fun _ => ?_) (fun _ => ?_)
    · refine z_aload_n (pc := 18) C (zD D_X5_begin_0 10 rfl) rfl 0 rfl ?_
      refine z_cvV (pc := 19) (As := []) C [] (c_X5_saveState _ _ _ _ n this h) zn_X5_saveState (by decide) (by decide) hz0 zc5 rfl q_276 q_277 q_278 q_2 q_279 rfl rfl rfl (zD D_X5_begin_0 11 rfl) (fun h19 => ?_)
      refine z_aload_n (pc := 22) C (zD D_X5_begin_0 12 rfl) rfl 0 rfl ?_
      refine z_getR (pc := 23) C zc5 0 (by decide) q_17 (zD D_X5_begin_0 13 rfl) (fun v23 => ?_)
      refine z_getI (pc := 26) C zc1 12 (by decide) q_275 (zD D_X5_begin_0 14 rfl) (fun v26 => ?_)
      refine z_istore_n (pc := 29) (lv' := [(2, .int v26), (0, .ref (B + this)), (1, .int p0)]) C (zD D_X5_begin_0 15 rfl) rfl (by decide) rfl ?_
      refine z_aload_n (pc := 30) C (zD D_X5_begin_0 16 rfl) rfl 1 rfl ?_
      refine z_getR (pc := 31) C zc5 0 (by decide) q_17 (zD D_X5_begin_0 17 rfl) (fun v31 => ?_)
      refine z_iload_n (pc := 34) C (zD D_X5_begin_0 18 rfl) rfl 2 rfl ?_
      refine z_cvV (pc := 35) (As := [.int p0]) C [] (c_X1_reset _ _ _ _ n v31 p0 h19) zn_X1_reset (by decide) (by decide) hz0 zc1 rfl q_280 q_58 q_59 q_16 q_60 rfl rfl rfl (zD D_X5_begin_0 19 rfl) (fun h35 => ?_)
      refine z_iload_n (pc := 38) C (zD D_X5_begin_0 20 rfl) rfl 0 rfl ?_
      exact z_xret (pc := 39) C hr (zD D_X5_begin_0 21 rfl)
    · refine z_sub [] (lv' := []) rfl ?_
      exact hK10
def f_X5_buy (n : Nat) (this : Nat) (p0 : Int32) (h : zH) : Option (zO2) := (f_X5_isCompany n p0 h).bind fun (r1 : Int32) => if r1 = 0 then (some (.inl 1, h)) else ((zgR h this 5 0).bind fun (v16 : Nat) => zrc h v16 1 <| (f_X1_canBuy n v16 p0 h).bind fun (r20 : Int32) => if r20 = 0 then (some (.inl 2, h)) else (zrc h this 5 <| (f_X5_saveState n this h).bind fun (h35 : zH) => (zgR h35 this 5 0).bind fun (v39 : Nat) => zrc h35 v39 1 <| zb2 (f_X1_buyShare n v39 p0 h35) fun (r43 : Int32) (h43 : zH) => some (.inr r43, h43)))
theorem zn_X5_buy : zNm yX5_buy 1 := ⟨by decide +kernel, by decide +kernel⟩
set_option maxRecDepth 100000 in
set_option maxHeartbeats 4000000 in
theorem c_X5_buy (l : Launch) (hl : l.stackTraces = false) (B : Nat) (D : va_G) (cA : Nat → ClassId) (n : Nat) (this : Nat) (p0 : Int32) (h : zH) : ∀ u, f_X5_buy n this p0 h = some u → zMx l B D cA yX5_buy cX5_buy 2 (some .int) 6 [.ref (B + this), .int p0] h u := by
  unfold f_X5_buy
  refine z_metx (own := RX5) hl rfl (by decide) rfl (fun Z C hr hlz hnt => ?_)
  have hz0 : (z00 Z).1 ≤ 1 ∧ (z00 Z).2.1 ≤ 6 := ⟨Nat.zero_le 1, Nat.zero_le 6⟩
  refine z_iload_n (pc := 0) C (zD D_X5_buy_0 0 rfl) rfl 1 rfl ?_
  refine z_csR (pc := 1) (As := [.int p0]) C [] (c_X5_isCompany _ _ _ _ n p0 h) zn_X5_isCompany (by decide) (by decide) hz0 q_192 q_193 q_2 q_194 rfl rfl rfl (zD D_X5_buy_0 1 rfl) (fun r1 => ?_)
  refine z_if_ne (pc := 4) C (zD D_X5_buy_0 2 rfl) (tgt := 15) (by decide) (fun _ => ?_) (fun _ => ?_)
  · refine z_aload_n (pc := 15) C (zD D_X5_buy_0 7 rfl) rfl 0 rfl ?_
    refine z_getR (pc := 16) C zc5 0 (by decide) q_17 (zD D_X5_buy_0 8 rfl) (fun v16 => ?_)
    refine z_iload_n (pc := 19) C (zD D_X5_buy_0 9 rfl) rfl 1 rfl ?_
    refine z_cvR (pc := 20) (As := [.int p0]) C [] (c_X1_canBuy _ _ _ _ n v16 p0 h) zn_X1_canBuy (by decide) (by decide) hz0 zc1 rfl q_334 q_335 q_336 q_16 q_337 rfl rfl rfl (zD D_X5_buy_0 10 rfl) (fun r20 => ?_)
    refine z_if_ne (pc := 23) C (zD D_X5_buy_0 11 rfl) (tgt := 34) (by decide) (fun _ => ?_) (fun _ => ?_)
    · refine z_aload_n (pc := 34) C (zD D_X5_buy_0 16 rfl) rfl 0 rfl ?_
      refine z_cvV (pc := 35) (As := []) C [] (c_X5_saveState _ _ _ _ n this h) zn_X5_saveState (by decide) (by decide) hz0 zc5 rfl q_276 q_277 q_278 q_2 q_279 rfl rfl rfl (zD D_X5_buy_0 17 rfl) (fun h35 => ?_)
      refine z_aload_n (pc := 38) C (zD D_X5_buy_0 18 rfl) rfl 0 rfl ?_
      refine z_getR (pc := 39) C zc5 0 (by decide) q_17 (zD D_X5_buy_0 19 rfl) (fun v39 => ?_)
      refine z_iload_n (pc := 42) C (zD D_X5_buy_0 20 rfl) rfl 1 rfl ?_
      refine z_cvI (pc := 43) (As := [.int p0]) C [] (c_X1_buyShare _ _ _ _ n v39 p0 h35) zn_X1_buyShare (by decide) (by decide) hz0 zc1 rfl q_339 q_340 q_341 q_16 q_342 rfl rfl rfl (zD D_X5_buy_0 21 rfl) (fun r43 h43 => ?_)
      exact z_xret (pc := 46) C hr (zD D_X5_buy_0 22 rfl)
    · exact z_throw (pc := 26) zt_2 C hlz hnt (by decide) rfl (zD D_X5_buy_0 12 rfl) (zD D_X5_buy_0 13 rfl) (zD D_X5_buy_0 14 rfl) (zD D_X5_buy_0 15 rfl)
  · exact z_throw (pc := 7) zt_1 C hlz hnt (by decide) rfl (zD D_X5_buy_0 3 rfl) (zD D_X5_buy_0 4 rfl) (zD D_X5_buy_0 5 rfl) (zD D_X5_buy_0 6 rfl)
def f_X5_extend (n : Nat) (this : Nat) (h : zH) : Option (zO2) := (zgR h this 5 0).bind fun (v1 : Nat) => zrc h v1 1 <| (f_X1_canExtend n v1 h).bind fun (r4 : Int32) => if r4 = 0 then (some (.inl 2, h)) else (zrc h this 5 <| (f_X5_saveState n this h).bind fun (h19 : zH) => (zgR h19 this 5 0).bind fun (v23 : Nat) => zrc h19 v23 1 <| zb2 (f_X1_extendNext n v23 h19) fun (r26 : Int32) (h26 : zH) => some (.inr r26, h26))
theorem zn_X5_extend : zNm yX5_extend 0 := ⟨by decide +kernel, by decide +kernel⟩
set_option maxRecDepth 100000 in
set_option maxHeartbeats 4000000 in
theorem c_X5_extend (l : Launch) (hl : l.stackTraces = false) (B : Nat) (D : va_G) (cA : Nat → ClassId) (n : Nat) (this : Nat) (h : zH) : ∀ u, f_X5_extend n this h = some u → zMx l B D cA yX5_extend cX5_extend 1 (some .int) 6 [.ref (B + this)] h u := by
  unfold f_X5_extend
  refine z_metx (own := RX5) hl rfl (by decide) rfl (fun Z C hr hlz hnt => ?_)
  have hz0 : (z00 Z).1 ≤ 1 ∧ (z00 Z).2.1 ≤ 6 := ⟨Nat.zero_le 1, Nat.zero_le 6⟩
  refine z_aload_n (pc := 0) C (zD D_X5_extend_0 0 rfl) rfl 0 rfl ?_
  refine z_getR (pc := 1) C zc5 0 (by decide) q_17 (zD D_X5_extend_0 1 rfl) (fun v1 => ?_)
  refine z_cvR (pc := 4) (As := []) C [] (c_X1_canExtend _ _ _ _ n v1 h) zn_X1_canExtend (by decide) (by decide) hz0 zc1 rfl q_512 q_513 q_514 q_16 q_515 rfl rfl rfl (zD D_X5_extend_0 2 rfl) (fun r4 => ?_)
  refine z_if_ne (pc := 7) C (zD D_X5_extend_0 3 rfl) (tgt := 18) (by decide) (fun _ => ?_) (fun _ => ?_)
  · refine z_aload_n (pc := 18) C (zD D_X5_extend_0 8 rfl) rfl 0 rfl ?_
    refine z_cvV (pc := 19) (As := []) C [] (c_X5_saveState _ _ _ _ n this h) zn_X5_saveState (by decide) (by decide) hz0 zc5 rfl q_276 q_277 q_278 q_2 q_279 rfl rfl rfl (zD D_X5_extend_0 9 rfl) (fun h19 => ?_)
    refine z_aload_n (pc := 22) C (zD D_X5_extend_0 10 rfl) rfl 0 rfl ?_
    refine z_getR (pc := 23) C zc5 0 (by decide) q_17 (zD D_X5_extend_0 11 rfl) (fun v23 => ?_)
    refine z_cvI (pc := 26) (As := []) C [] (c_X1_extendNext _ _ _ _ n v23 h19) zn_X1_extendNext (by decide) (by decide) hz0 zc1 rfl q_516 q_517 q_518 q_16 q_519 rfl rfl rfl (zD D_X5_extend_0 12 rfl) (fun r26 h26 => ?_)
    exact z_xret (pc := 29) C hr (zD D_X5_extend_0 13 rfl)
  · exact z_throw (pc := 10) zt_2 C hlz hnt (by decide) rfl (zD D_X5_extend_0 4 rfl) (zD D_X5_extend_0 5 rfl) (zD D_X5_extend_0 6 rfl) (zD D_X5_extend_0 7 rfl)
def f_X5_merge (n : Nat) (this : Nat) (p0 : Int32) (p1 : Int32) (h : zH) : Option (zO2) := (f_X5_isCompany n p0 h).bind fun (r1 : Int32) => zlet (some (.inl 1, h)) fun K14 => if r1 = 0 then (K14) else ((f_X5_isCompany n p1 h).bind fun (r8 : Int32) => if r8 = 0 then (K14) else (if p0 = p1 then (some (.inl 0, h)) else ((zgR h this 5 0).bind fun (v36 : Nat) => zrc h v36 1 <| (f_X1_canMerge n v36 p0 p1 h).bind fun (r41 : Int32) => if r41 = 0 then (some (.inl 2, h)) else (zrc h this 5 <| (f_X5_saveState n this h).bind fun (h56 : zH) => (zgR h56 this 5 0).bind fun (v60 : Nat) => zrc h56 v60 1 <| (f_X1_mergeCompanies n v60 p0 p1 h56).bind fun (h65 : zH) => (zgR h65 this 5 0).bind fun (v69 : Nat) => (zgR h65 v69 1 2).bind fun (v72 : Nat) => (zar h65 v72 3 p0).bind fun (v76 : Nat) => (zgI h65 v76 0 3).bind fun (v77 : Int32) => some (.inr v77, h65)))))
theorem zn_X5_merge : zNm yX5_merge 2 := ⟨by decide +kernel, by decide +kernel⟩
set_option maxRecDepth 100000 in
set_option maxHeartbeats 4000000 in
theorem c_X5_merge (l : Launch) (hl : l.stackTraces = false) (B : Nat) (D : va_G) (cA : Nat → ClassId) (n : Nat) (this : Nat) (p0 : Int32) (p1 : Int32) (h : zH) : ∀ u, f_X5_merge n this p0 p1 h = some u → zMx l B D cA yX5_merge cX5_merge 3 (some .int) 6 [.ref (B + this), .int p0, .int p1] h u := by
  unfold f_X5_merge
  refine z_metx (own := RX5) hl rfl (by decide) rfl (fun Z C hr hlz hnt => ?_)
  have hz0 : (z00 Z).1 ≤ 1 ∧ (z00 Z).2.1 ≤ 6 := ⟨Nat.zero_le 1, Nat.zero_le 6⟩
  refine z_iload_n (pc := 0) C (zD D_X5_merge_0 0 rfl) rfl 1 rfl ?_
  refine z_csR (pc := 1) (As := [.int p0]) C [] (c_X5_isCompany _ _ _ _ n p0 h) zn_X5_isCompany (by decide) (by decide) hz0 q_192 q_193 q_2 q_194 rfl rfl rfl (zD D_X5_merge_0 1 rfl) (fun r1 => ?_)
  refine z_letg (fun K14 => zJ B Z (zEndx B Z) (K14) 14 [] [] h (z00 Z)) ?_ (fun K14 hK14 => ?_)
  · exact z_throw (pc := 14) zt_1 C hlz hnt (by decide) rfl (zD D_X5_merge_0 6 rfl) (zD D_X5_merge_0 7 rfl) (zD D_X5_merge_0 8 rfl) (zD D_X5_merge_0 9 rfl)
  refine z_if_eq (pc := 4) C (zD D_X5_merge_0 2 rfl) (tgt := 14) (by decide) (fun _ => ?_) (fun _ => ?_)
  · refine z_sub [] (lv' := []) rfl ?_
    exact hK14
  · refine z_iload_n (pc := 7) C (zD D_X5_merge_0 3 rfl) rfl 2 rfl ?_
    refine z_csR (pc := 8) (As := [.int p1]) C [] (c_X5_isCompany _ _ _ _ n p1 h) zn_X5_isCompany (by decide) (by decide) hz0 q_192 q_193 q_2 q_194 rfl rfl rfl (zD D_X5_merge_0 4 rfl) (fun r8 => ?_)
    refine z_if_ne (pc := 11) C (zD D_X5_merge_0 5 rfl) (tgt := 22) (by decide) (fun _ => ?_) (fun _ => ?_)
    · refine z_iload_n (pc := 22) C (zD D_X5_merge_0 10 rfl) rfl 1 rfl ?_
      refine z_iload_n (pc := 23) C (zD D_X5_merge_0 11 rfl) rfl 2 rfl ?_
      refine z_icmp_ne (pc := 24) C (zD D_X5_merge_0 12 rfl) (tgt := 35) (by decide) (fun _ => ?_) (fun _ => ?_)
      · refine z_aload_n (pc := 35) C (zD D_X5_merge_0 17 rfl) rfl 0 rfl ?_
        refine z_getR (pc := 36) C zc5 0 (by decide) q_17 (zD D_X5_merge_0 18 rfl) (fun v36 => ?_)
        refine z_iload_n (pc := 39) C (zD D_X5_merge_0 19 rfl) rfl 1 rfl ?_
        refine z_iload_n (pc := 40) C (zD D_X5_merge_0 20 rfl) rfl 2 rfl ?_
        refine z_cvR (pc := 41) (As := [.int p0, .int p1]) C [] (c_X1_canMerge _ _ _ _ n v36 p0 p1 h) zn_X1_canMerge (by decide) (by decide) hz0 zc1 rfl q_371 q_372 q_373 q_16 q_374 rfl rfl rfl (zD D_X5_merge_0 21 rfl) (fun r41 => ?_)
        refine z_if_ne (pc := 44) C (zD D_X5_merge_0 22 rfl) (tgt := 55) (by decide) (fun _ => ?_) (fun _ => ?_)
        · refine z_aload_n (pc := 55) C (zD D_X5_merge_0 27 rfl) rfl 0 rfl ?_
          refine z_cvV (pc := 56) (As := []) C [] (c_X5_saveState _ _ _ _ n this h) zn_X5_saveState (by decide) (by decide) hz0 zc5 rfl q_276 q_277 q_278 q_2 q_279 rfl rfl rfl (zD D_X5_merge_0 28 rfl) (fun h56 => ?_)
          refine z_aload_n (pc := 59) C (zD D_X5_merge_0 29 rfl) rfl 0 rfl ?_
          refine z_getR (pc := 60) C zc5 0 (by decide) q_17 (zD D_X5_merge_0 30 rfl) (fun v60 => ?_)
          refine z_iload_n (pc := 63) C (zD D_X5_merge_0 31 rfl) rfl 1 rfl ?_
          refine z_iload_n (pc := 64) C (zD D_X5_merge_0 32 rfl) rfl 2 rfl ?_
          refine z_cvV (pc := 65) (As := [.int p0, .int p1]) C [] (c_X1_mergeCompanies _ _ _ _ n v60 p0 p1 h56) zn_X1_mergeCompanies (by decide) (by decide) hz0 zc1 rfl q_379 q_380 q_381 q_16 q_382 rfl rfl rfl (zD D_X5_merge_0 33 rfl) (fun h65 => ?_)
          refine z_aload_n (pc := 68) C (zD D_X5_merge_0 34 rfl) rfl 0 rfl ?_
          refine z_getR (pc := 69) C zc5 0 (by decide) q_17 (zD D_X5_merge_0 35 rfl) (fun v69 => ?_)
          refine z_getR (pc := 72) C zc1 2 (by decide) q_168 (zD D_X5_merge_0 36 rfl) (fun v72 => ?_)
          refine z_iload_n (pc := 75) C (zD D_X5_merge_0 37 rfl) rfl 1 rfl ?_
          refine z_arload (pc := 76) C (c := 3) (by decide) rfl (zD D_X5_merge_0 38 rfl) (fun v76 => ?_)
          refine z_getI (pc := 77) C zc0 3 (by decide) q_296 (zD D_X5_merge_0 39 rfl) (fun v77 => ?_)
          exact z_xret (pc := 80) C hr (zD D_X5_merge_0 40 rfl)
        · exact z_throw (pc := 47) zt_2 C hlz hnt (by decide) rfl (zD D_X5_merge_0 23 rfl) (zD D_X5_merge_0 24 rfl) (zD D_X5_merge_0 25 rfl) (zD D_X5_merge_0 26 rfl)
      · exact z_throw (pc := 27) zt_0 C hlz hnt (by decide) rfl (zD D_X5_merge_0 13 rfl) (zD D_X5_merge_0 14 rfl) (zD D_X5_merge_0 15 rfl) (zD D_X5_merge_0 16 rfl)
    · refine z_sub [] (lv' := []) rfl ?_
      exact hK14
def f_X5_pass (n : Nat) (this : Nat) (h : zH) : Option (zO2) := (zgR h this 5 0).bind fun (v1 : Nat) => (zgI h v1 1 11).bind fun (v4 : Int32) => if v4 = 0 then (zrc h this 5 <| (f_X5_saveState n this h).bind fun (h19 : zH) => (zgR h19 this 5 0).bind fun (v23 : Nat) => zrc h19 v23 1 <| (f_X1_passTurn n v23 h19).bind fun (h26 : zH) => (zgR h26 this 5 0).bind fun (v30 : Nat) => (zgI h26 v30 1 11).bind fun (v33 : Int32) => if v33 = 0 then (some (.inr (0 : Int32), h26)) else (some (.inr (1 : Int32), h26))) else (some (.inl 2, h))
theorem zn_X5_pass : zNm yX5_pass 0 := ⟨by decide +kernel, by decide +kernel⟩
set_option maxRecDepth 100000 in
set_option maxHeartbeats 4000000 in
theorem c_X5_pass (l : Launch) (hl : l.stackTraces = false) (B : Nat) (D : va_G) (cA : Nat → ClassId) (n : Nat) (this : Nat) (h : zH) : ∀ u, f_X5_pass n this h = some u → zMx l B D cA yX5_pass cX5_pass 1 (some .int) 6 [.ref (B + this)] h u := by
  unfold f_X5_pass
  refine z_metx (own := RX5) hl rfl (by decide) rfl (fun Z C hr hlz hnt => ?_)
  have hz0 : (z00 Z).1 ≤ 1 ∧ (z00 Z).2.1 ≤ 6 := ⟨Nat.zero_le 1, Nat.zero_le 6⟩
  refine z_aload_n (pc := 0) C (zD D_X5_pass_0 0 rfl) rfl 0 rfl ?_
  refine z_getR (pc := 1) C zc5 0 (by decide) q_17 (zD D_X5_pass_0 1 rfl) (fun v1 => ?_)
  refine z_getI (pc := 4) C zc1 11 (by decide) q_527 (zD D_X5_pass_0 2 rfl) (fun v4 => ?_)
  refine z_if_eq (pc := 7) C (zD D_X5_pass_0 3 rfl) (tgt := 18) (by decide) (fun _ => ?_) (fun _ => ?_)
  · refine z_aload_n (pc := 18) C (zD D_X5_pass_0 8 rfl) rfl 0 rfl ?_
    refine z_cvV (pc := 19) (As := []) C [] (c_X5_saveState _ _ _ _ n this h) zn_X5_saveState (by decide) (by decide) hz0 zc5 rfl q_276 q_277 q_278 q_2 q_279 rfl rfl rfl (zD D_X5_pass_0 9 rfl) (fun h19 => ?_)
    refine z_aload_n (pc := 22) C (zD D_X5_pass_0 10 rfl) rfl 0 rfl ?_
    refine z_getR (pc := 23) C zc5 0 (by decide) q_17 (zD D_X5_pass_0 11 rfl) (fun v23 => ?_)
    refine z_cvV (pc := 26) (As := []) C [] (c_X1_passTurn _ _ _ _ n v23 h19) zn_X1_passTurn (by decide) (by decide) hz0 zc1 rfl q_528 q_529 q_530 q_16 q_531 rfl rfl rfl (zD D_X5_pass_0 12 rfl) (fun h26 => ?_)
    refine z_aload_n (pc := 29) C (zD D_X5_pass_0 13 rfl) rfl 0 rfl ?_
    refine z_getR (pc := 30) C zc5 0 (by decide) q_17 (zD D_X5_pass_0 14 rfl) (fun v30 => ?_)
    refine z_getI (pc := 33) C zc1 11 (by decide) q_527 (zD D_X5_pass_0 15 rfl) (fun v33 => ?_)
    refine z_if_eq (pc := 36) C (zD D_X5_pass_0 16 rfl) (tgt := 43) (by decide) (fun _ => ?_) (fun _ => ?_)
    · refine z_iconst (pc := 43) (v := 0) C (zD D_X5_pass_0 19 rfl) (by decide) ?_
      exact z_xret (pc := 44) C hr (zD D_X5_pass_0 20 rfl)
    · refine z_iconst (pc := 39) (v := 1) C (zD D_X5_pass_0 17 rfl) (by decide) ?_
      refine z_goto (pc := 40) C (zD D_X5_pass_0 18 rfl) (tgt := 44) (by decide) ?_
      exact z_xret (pc := 44) C hr (zD D_X5_pass_0 20 rfl)
  · exact z_throw (pc := 10) zt_2 C hlz hnt (by decide) rfl (zD D_X5_pass_0 4 rfl) (zD D_X5_pass_0 5 rfl) (zD D_X5_pass_0 6 rfl) (zD D_X5_pass_0 7 rfl)
def f_X5_player' (n : Nat) (this : Nat) (p0 : Int32) (p1 : Int32) (h : zH) : Option (Int32) := zlet (none) fun K15 => if p0 < 0 then (K15) else ((zgR h this 5 0).bind fun (v6 : Nat) => (zgI h v6 1 8).bind fun (v9 : Int32) => if p0 < v9 then (zlet (none) fun K33 => if p1 < 0 then (K33) else (if p1 < (7 : Int32) then (if p1 = 0 then ((zgR h this 5 0).bind fun (v46 : Nat) => (zgR h v46 1 3).bind fun (v49 : Nat) => (zai h v49 p0).bind fun (v53 : Int32) => some v53) else (if (4 : Int32) < p1 then (if p1 = (5 : Int32) then ((zgR h this 5 0).bind fun (v83 : Nat) => zrc h v83 1 <| (f_X1_worthOf n v83 p0 h).bind fun (r87 : Int32) => some r87) else ((zgR h this 5 0).bind fun (v94 : Nat) => zrc h v94 1 <| (f_X1_presidenciesOf n v94 p0 h).bind fun (r98 : Int32) => some r98)) else ((zgR h this 5 0).bind fun (v61 : Nat) => (zgR h v61 1 2).bind fun (v64 : Nat) => (zar h v64 3 (p1 - (1 : Int32))).bind fun (v70 : Nat) => (zgR h v70 0 0).bind fun (v71 : Nat) => (zai h v71 p0).bind fun (v75 : Int32) => some v75))) else (K33))) else (K15))
set_option maxRecDepth 100000 in
set_option maxHeartbeats 4000000 in
theorem c_X5_player' (l : Launch) (B : Nat) (D : va_G) (cA : Nat → ClassId) (n : Nat) (this : Nat) (p0 : Int32) (p1 : Int32) (h : zH) : ∀ u, f_X5_player' n this p0 p1 h = some u → zM l B D cA yX5_player cX5_player 3 (some .int) 6 0 0 none [.ref (B + this), .int p0, .int p1] h ((fun r : Int32 => (some (Value.int r), h)) u).1 ((fun r : Int32 => (some (Value.int r), h)) u).2 := by
  unfold f_X5_player'
  refine z_met (own := RX5) (fun r : Int32 => (some (Value.int r), h)) rfl (by decide) rfl (fun Z C hr _ _ => ?_)
  have hz0 : (z00 Z).1 ≤ 0 ∧ (z00 Z).2.1 ≤ 0 := ⟨Nat.le_refl 0, Nat.le_refl 0⟩
  refine z_iload_n (pc := 0) C (zD D_X5_player_0 0 rfl) rfl 1 rfl ?_
  refine z_letg (fun K15 => zJ B Z (zEnd B Z (fun r : Int32 => (some (Value.int r), h)) 0 0) (K15) 15 [] [] h (z00 Z)) ?_ (fun K15 hK15 => ?_)
  · exact z_none
  refine z_if_lt (pc := 1) C (zD D_X5_player_0 1 rfl) (tgt := 15) (by decide) (fun _ => ?_) (fun _ => ?_)
  · refine z_sub [] (lv' := []) rfl ?_
    exact hK15
  · refine z_iload_n (pc := 4) C (zD D_X5_player_0 2 rfl) rfl 1 rfl ?_
    refine z_aload_n (pc := 5) C (zD D_X5_player_0 3 rfl) rfl 0 rfl ?_
    refine z_getR (pc := 6) C zc5 0 (by decide) q_17 (zD D_X5_player_0 4 rfl) (fun v6 => ?_)
    refine z_getI (pc := 9) C zc1 8 (by decide) q_137 (zD D_X5_player_0 5 rfl) (fun v9 => ?_)
    refine z_icmp_lt (pc := 12) C (zD D_X5_player_0 6 rfl) (tgt := 23) (by decide) (fun _ => ?_) (fun _ => ?_)
    · refine z_iload_n (pc := 23) C (zD D_X5_player_0 11 rfl) rfl 2 rfl ?_
      refine z_letg (fun K33 => zJ B Z (zEnd B Z (fun r : Int32 => (some (Value.int r), h)) 0 0) (K33) 33 [] [] h (z00 Z)) ?_ (fun K33 hK33 => ?_)
      · exact z_none
      refine z_if_lt (pc := 24) C (zD D_X5_player_0 12 rfl) (tgt := 33) (by decide) (fun _ => ?_) (fun _ => ?_)
      · refine z_sub [] (lv' := []) rfl ?_
        exact hK33
      · refine z_iload_n (pc := 27) C (zD D_X5_player_0 13 rfl) rfl 2 rfl ?_
        refine z_bipush (pc := 28) (v := 7) C (zD D_X5_player_0 14 rfl) (by decide) ?_
        refine z_icmp_lt (pc := 30) C (zD D_X5_player_0 15 rfl) (tgt := 41) (by decide) (fun _ => ?_) (fun _ => ?_)
        · refine z_iload_n (pc := 41) C (zD D_X5_player_0 20 rfl) rfl 2 rfl ?_
          refine z_if_ne (pc := 42) C (zD D_X5_player_0 21 rfl) (tgt := 55) (by decide) (fun _ => ?_) (fun _ => ?_)
          · refine z_iload_n (pc := 55) C (zD D_X5_player_0 28 rfl) rfl 2 rfl ?_
            refine z_iconst (pc := 56) (v := 4) C (zD D_X5_player_0 29 rfl) (by decide) ?_
            refine z_icmp_gt (pc := 57) C (zD D_X5_player_0 30 rfl) (tgt := 77) (by decide) (fun _ => ?_) (fun _ => ?_)
            · refine z_iload_n (pc := 77) C (zD D_X5_player_0 42 rfl) rfl 2 rfl ?_
              refine z_iconst (pc := 78) (v := 5) C (zD D_X5_player_0 43 rfl) (by decide) ?_
              refine z_icmp_ne (pc := 79) C (zD D_X5_player_0 44 rfl) (tgt := 93) (by decide) (fun _ => ?_) (fun _ => ?_)
              · refine z_aload_n (pc := 93) C (zD D_X5_player_0 50 rfl) rfl 0 rfl ?_
                refine z_getR (pc := 94) C zc5 0 (by decide) q_17 (zD D_X5_player_0 51 rfl) (fun v94 => ?_)
                refine z_iload_n (pc := 97) C (zD D_X5_player_0 52 rfl) rfl 1 rfl ?_
                refine z_cvR (pc := 98) (As := [.int p0]) C [] (c_X1_presidenciesOf _ _ _ _ n v94 p0 h) zn_X1_presidenciesOf (by decide) (by decide) hz0 zc1 rfl q_182 q_183 q_184 q_16 q_185 rfl rfl rfl (zD D_X5_player_0 53 rfl) (fun r98 => ?_)
                exact z_iret (pc := 101) C hr rfl (zD D_X5_player_0 54 rfl)
              · refine z_aload_n (pc := 82) C (zD D_X5_player_0 45 rfl) rfl 0 rfl ?_
                refine z_getR (pc := 83) C zc5 0 (by decide) q_17 (zD D_X5_player_0 46 rfl) (fun v83 => ?_)
                refine z_iload_n (pc := 86) C (zD D_X5_player_0 47 rfl) rfl 1 rfl ?_
                refine z_cvR (pc := 87) (As := [.int p0]) C [] (c_X1_worthOf _ _ _ _ n v83 p0 h) zn_X1_worthOf (by decide) (by decide) hz0 zc1 rfl q_170 q_171 q_172 q_16 q_173 rfl rfl rfl (zD D_X5_player_0 48 rfl) (fun r87 => ?_)
                refine z_goto (pc := 90) C (zD D_X5_player_0 49 rfl) (tgt := 101) (by decide) ?_
                exact z_iret (pc := 101) C hr rfl (zD D_X5_player_0 54 rfl)
            · refine z_aload_n (pc := 60) C (zD D_X5_player_0 31 rfl) rfl 0 rfl ?_
              refine z_getR (pc := 61) C zc5 0 (by decide) q_17 (zD D_X5_player_0 32 rfl) (fun v61 => ?_)
              refine z_getR (pc := 64) C zc1 2 (by decide) q_168 (zD D_X5_player_0 33 rfl) (fun v64 => ?_)
              refine z_iload_n (pc := 67) C (zD D_X5_player_0 34 rfl) rfl 2 rfl ?_
              refine z_iconst (pc := 68) (v := 1) C (zD D_X5_player_0 35 rfl) (by decide) ?_
              refine z_isub (pc := 69) C (zD D_X5_player_0 36 rfl) ?_
              refine z_arload (pc := 70) C (c := 3) (by decide) rfl (zD D_X5_player_0 37 rfl) (fun v70 => ?_)
              refine z_getR (pc := 71) C zc0 0 (by decide) q_169 (zD D_X5_player_0 38 rfl) (fun v71 => ?_)
              refine z_iload_n (pc := 74) C (zD D_X5_player_0 39 rfl) rfl 1 rfl ?_
              refine z_aiload (pc := 75) C (zD D_X5_player_0 40 rfl) (fun v75 => ?_)
              exact z_iret (pc := 76) C hr rfl (zD D_X5_player_0 41 rfl)
          · refine z_aload_n (pc := 45) C (zD D_X5_player_0 22 rfl) rfl 0 rfl ?_
            refine z_getR (pc := 46) C zc5 0 (by decide) q_17 (zD D_X5_player_0 23 rfl) (fun v46 => ?_)
            refine z_getR (pc := 49) C zc1 3 (by decide) q_167 (zD D_X5_player_0 24 rfl) (fun v49 => ?_)
            refine z_iload_n (pc := 52) C (zD D_X5_player_0 25 rfl) rfl 1 rfl ?_
            refine z_aiload (pc := 53) C (zD D_X5_player_0 26 rfl) (fun v53 => ?_)
            exact z_iret (pc := 54) C hr rfl (zD D_X5_player_0 27 rfl)
        · refine z_sub [] (lv' := []) rfl ?_
          exact hK33
    · refine z_sub [] (lv' := []) rfl ?_
      exact hK15
def f_X5_player (n : Nat) (this : Nat) (p0 : Int32) (p1 : Int32) (h : zH) : Option (zO2) := zlet (some (.inl 1, h)) fun K15 => if p0 < 0 then (K15) else ((zgR h this 5 0).bind fun (v6 : Nat) => (zgI h v6 1 8).bind fun (v9 : Int32) => if p0 < v9 then (zlet (some (.inl 0, h)) fun K33 => if p1 < 0 then (K33) else (if p1 < (7 : Int32) then (if p1 = 0 then ((zgR h this 5 0).bind fun (v46 : Nat) => (zgR h v46 1 3).bind fun (v49 : Nat) => (zai h v49 p0).bind fun (v53 : Int32) => some (.inr v53, h)) else (if (4 : Int32) < p1 then (if p1 = (5 : Int32) then ((zgR h this 5 0).bind fun (v83 : Nat) => zrc h v83 1 <| (f_X1_worthOf n v83 p0 h).bind fun (r87 : Int32) => some (.inr r87, h)) else ((zgR h this 5 0).bind fun (v94 : Nat) => zrc h v94 1 <| (f_X1_presidenciesOf n v94 p0 h).bind fun (r98 : Int32) => some (.inr r98, h))) else ((zgR h this 5 0).bind fun (v61 : Nat) => (zgR h v61 1 2).bind fun (v64 : Nat) => (zar h v64 3 (p1 - (1 : Int32))).bind fun (v70 : Nat) => (zgR h v70 0 0).bind fun (v71 : Nat) => (zai h v71 p0).bind fun (v75 : Int32) => some (.inr v75, h)))) else (K33))) else (K15))
theorem zn_X5_player : zNm yX5_player 2 := ⟨by decide +kernel, by decide +kernel⟩
set_option maxRecDepth 100000 in
set_option maxHeartbeats 4000000 in
theorem c_X5_player (l : Launch) (hl : l.stackTraces = false) (B : Nat) (D : va_G) (cA : Nat → ClassId) (n : Nat) (this : Nat) (p0 : Int32) (p1 : Int32) (h : zH) : ∀ u, f_X5_player n this p0 p1 h = some u → zMx l B D cA yX5_player cX5_player 3 (some .int) 6 [.ref (B + this), .int p0, .int p1] h u := by
  unfold f_X5_player
  refine z_metx (own := RX5) hl rfl (by decide) rfl (fun Z C hr hlz hnt => ?_)
  have hz0 : (z00 Z).1 ≤ 1 ∧ (z00 Z).2.1 ≤ 6 := ⟨Nat.zero_le 1, Nat.zero_le 6⟩
  refine z_iload_n (pc := 0) C (zD D_X5_player_0 0 rfl) rfl 1 rfl ?_
  refine z_letg (fun K15 => zJ B Z (zEndx B Z) (K15) 15 [] [] h (z00 Z)) ?_ (fun K15 hK15 => ?_)
  · exact z_throw (pc := 15) zt_1 C hlz hnt (by decide) rfl (zD D_X5_player_0 7 rfl) (zD D_X5_player_0 8 rfl) (zD D_X5_player_0 9 rfl) (zD D_X5_player_0 10 rfl)
  refine z_if_lt (pc := 1) C (zD D_X5_player_0 1 rfl) (tgt := 15) (by decide) (fun _ => ?_) (fun _ => ?_)
  · refine z_sub [] (lv' := []) rfl ?_
    exact hK15
  · refine z_iload_n (pc := 4) C (zD D_X5_player_0 2 rfl) rfl 1 rfl ?_
    refine z_aload_n (pc := 5) C (zD D_X5_player_0 3 rfl) rfl 0 rfl ?_
    refine z_getR (pc := 6) C zc5 0 (by decide) q_17 (zD D_X5_player_0 4 rfl) (fun v6 => ?_)
    refine z_getI (pc := 9) C zc1 8 (by decide) q_137 (zD D_X5_player_0 5 rfl) (fun v9 => ?_)
    refine z_icmp_lt (pc := 12) C (zD D_X5_player_0 6 rfl) (tgt := 23) (by decide) (fun _ => ?_) (fun _ => ?_)
    · refine z_iload_n (pc := 23) C (zD D_X5_player_0 11 rfl) rfl 2 rfl ?_
      refine z_letg (fun K33 => zJ B Z (zEndx B Z) (K33) 33 [] [] h (z00 Z)) ?_ (fun K33 hK33 => ?_)
      · exact z_throw (pc := 33) zt_0 C hlz hnt (by decide) rfl (zD D_X5_player_0 16 rfl) (zD D_X5_player_0 17 rfl) (zD D_X5_player_0 18 rfl) (zD D_X5_player_0 19 rfl)
      refine z_if_lt (pc := 24) C (zD D_X5_player_0 12 rfl) (tgt := 33) (by decide) (fun _ => ?_) (fun _ => ?_)
      · refine z_sub [] (lv' := []) rfl ?_
        exact hK33
      · refine z_iload_n (pc := 27) C (zD D_X5_player_0 13 rfl) rfl 2 rfl ?_
        refine z_bipush (pc := 28) (v := 7) C (zD D_X5_player_0 14 rfl) (by decide) ?_
        refine z_icmp_lt (pc := 30) C (zD D_X5_player_0 15 rfl) (tgt := 41) (by decide) (fun _ => ?_) (fun _ => ?_)
        · refine z_iload_n (pc := 41) C (zD D_X5_player_0 20 rfl) rfl 2 rfl ?_
          refine z_if_ne (pc := 42) C (zD D_X5_player_0 21 rfl) (tgt := 55) (by decide) (fun _ => ?_) (fun _ => ?_)
          · refine z_iload_n (pc := 55) C (zD D_X5_player_0 28 rfl) rfl 2 rfl ?_
            refine z_iconst (pc := 56) (v := 4) C (zD D_X5_player_0 29 rfl) (by decide) ?_
            refine z_icmp_gt (pc := 57) C (zD D_X5_player_0 30 rfl) (tgt := 77) (by decide) (fun _ => ?_) (fun _ => ?_)
            · refine z_iload_n (pc := 77) C (zD D_X5_player_0 42 rfl) rfl 2 rfl ?_
              refine z_iconst (pc := 78) (v := 5) C (zD D_X5_player_0 43 rfl) (by decide) ?_
              refine z_icmp_ne (pc := 79) C (zD D_X5_player_0 44 rfl) (tgt := 93) (by decide) (fun _ => ?_) (fun _ => ?_)
              · refine z_aload_n (pc := 93) C (zD D_X5_player_0 50 rfl) rfl 0 rfl ?_
                refine z_getR (pc := 94) C zc5 0 (by decide) q_17 (zD D_X5_player_0 51 rfl) (fun v94 => ?_)
                refine z_iload_n (pc := 97) C (zD D_X5_player_0 52 rfl) rfl 1 rfl ?_
                refine z_cvR (pc := 98) (As := [.int p0]) C [] (c_X1_presidenciesOf _ _ _ _ n v94 p0 h) zn_X1_presidenciesOf (by decide) (by decide) hz0 zc1 rfl q_182 q_183 q_184 q_16 q_185 rfl rfl rfl (zD D_X5_player_0 53 rfl) (fun r98 => ?_)
                exact z_xret (pc := 101) C hr (zD D_X5_player_0 54 rfl)
              · refine z_aload_n (pc := 82) C (zD D_X5_player_0 45 rfl) rfl 0 rfl ?_
                refine z_getR (pc := 83) C zc5 0 (by decide) q_17 (zD D_X5_player_0 46 rfl) (fun v83 => ?_)
                refine z_iload_n (pc := 86) C (zD D_X5_player_0 47 rfl) rfl 1 rfl ?_
                refine z_cvR (pc := 87) (As := [.int p0]) C [] (c_X1_worthOf _ _ _ _ n v83 p0 h) zn_X1_worthOf (by decide) (by decide) hz0 zc1 rfl q_170 q_171 q_172 q_16 q_173 rfl rfl rfl (zD D_X5_player_0 48 rfl) (fun r87 => ?_)
                refine z_goto (pc := 90) C (zD D_X5_player_0 49 rfl) (tgt := 101) (by decide) ?_
                exact z_xret (pc := 101) C hr (zD D_X5_player_0 54 rfl)
            · refine z_aload_n (pc := 60) C (zD D_X5_player_0 31 rfl) rfl 0 rfl ?_
              refine z_getR (pc := 61) C zc5 0 (by decide) q_17 (zD D_X5_player_0 32 rfl) (fun v61 => ?_)
              refine z_getR (pc := 64) C zc1 2 (by decide) q_168 (zD D_X5_player_0 33 rfl) (fun v64 => ?_)
              refine z_iload_n (pc := 67) C (zD D_X5_player_0 34 rfl) rfl 2 rfl ?_
              refine z_iconst (pc := 68) (v := 1) C (zD D_X5_player_0 35 rfl) (by decide) ?_
              refine z_isub (pc := 69) C (zD D_X5_player_0 36 rfl) ?_
              refine z_arload (pc := 70) C (c := 3) (by decide) rfl (zD D_X5_player_0 37 rfl) (fun v70 => ?_)
              refine z_getR (pc := 71) C zc0 0 (by decide) q_169 (zD D_X5_player_0 38 rfl) (fun v71 => ?_)
              refine z_iload_n (pc := 74) C (zD D_X5_player_0 39 rfl) rfl 1 rfl ?_
              refine z_aiload (pc := 75) C (zD D_X5_player_0 40 rfl) (fun v75 => ?_)
              exact z_xret (pc := 76) C hr (zD D_X5_player_0 41 rfl)
          · refine z_aload_n (pc := 45) C (zD D_X5_player_0 22 rfl) rfl 0 rfl ?_
            refine z_getR (pc := 46) C zc5 0 (by decide) q_17 (zD D_X5_player_0 23 rfl) (fun v46 => ?_)
            refine z_getR (pc := 49) C zc1 3 (by decide) q_167 (zD D_X5_player_0 24 rfl) (fun v49 => ?_)
            refine z_iload_n (pc := 52) C (zD D_X5_player_0 25 rfl) rfl 1 rfl ?_
            refine z_aiload (pc := 53) C (zD D_X5_player_0 26 rfl) (fun v53 => ?_)
            exact z_xret (pc := 54) C hr (zD D_X5_player_0 27 rfl)
        · refine z_sub [] (lv' := []) rfl ?_
          exact hK33
    · refine z_sub [] (lv' := []) rfl ?_
      exact hK15
def f_X5_sell (n : Nat) (this : Nat) (p0 : Int32) (p1 : Int32) (h : zH) : Option (zO2) := (f_X5_isCompany n p0 h).bind fun (r1 : Int32) => if r1 = 0 then (some (.inl 1, h)) else (zlet (some (.inl 0, h)) fun K26 => if p1 < (1 : Int32) then (K26) else (if p1 ≤ (10 : Int32) then ((zgR h this 5 0).bind fun (v35 : Nat) => zrc h v35 1 <| (f_X1_canSell n v35 p0 p1 h).bind fun (r40 : Int32) => if r40 = 0 then (some (.inl 2, h)) else (zrc h this 5 <| (f_X5_saveState n this h).bind fun (h55 : zH) => (zgR h55 this 5 0).bind fun (v59 : Nat) => (zgR h55 this 5 0).bind fun (v63 : Nat) => (zgI h55 v63 1 9).bind fun (v66 : Int32) => zrc h55 v59 1 <| (f_X1_sellShares n v59 v66 p0 p1 h55).bind fun (h71 : zH) => (zgR h71 this 5 0).bind fun (v75 : Nat) => (zgR h71 v75 1 3).bind fun (v78 : Nat) => (zgR h71 this 5 0).bind fun (v82 : Nat) => (zgI h71 v82 1 9).bind fun (v85 : Int32) => (zai h71 v78 v85).bind fun (v88 : Int32) => some (.inr v88, h71))) else (K26)))
theorem zn_X5_sell : zNm yX5_sell 2 := ⟨by decide +kernel, by decide +kernel⟩
set_option maxRecDepth 100000 in
set_option maxHeartbeats 4000000 in
theorem c_X5_sell (l : Launch) (hl : l.stackTraces = false) (B : Nat) (D : va_G) (cA : Nat → ClassId) (n : Nat) (this : Nat) (p0 : Int32) (p1 : Int32) (h : zH) : ∀ u, f_X5_sell n this p0 p1 h = some u → zMx l B D cA yX5_sell cX5_sell 3 (some .int) 6 [.ref (B + this), .int p0, .int p1] h u := by
  unfold f_X5_sell
  refine z_metx (own := RX5) hl rfl (by decide) rfl (fun Z C hr hlz hnt => ?_)
  have hz0 : (z00 Z).1 ≤ 1 ∧ (z00 Z).2.1 ≤ 6 := ⟨Nat.zero_le 1, Nat.zero_le 6⟩
  refine z_iload_n (pc := 0) C (zD D_X5_sell_0 0 rfl) rfl 1 rfl ?_
  refine z_csR (pc := 1) (As := [.int p0]) C [] (c_X5_isCompany _ _ _ _ n p0 h) zn_X5_isCompany (by decide) (by decide) hz0 q_192 q_193 q_2 q_194 rfl rfl rfl (zD D_X5_sell_0 1 rfl) (fun r1 => ?_)
  refine z_if_ne (pc := 4) C (zD D_X5_sell_0 2 rfl) (tgt := 15) (by decide) (fun _ => ?_) (fun _ => ?_)
  · refine z_iload_n (pc := 15) C (zD D_X5_sell_0 7 rfl) rfl 2 rfl ?_
    refine z_iconst (pc := 16) (v := 1) C (zD D_X5_sell_0 8 rfl) (by decide) ?_
    refine z_letg (fun K26 => zJ B Z (zEndx B Z) (K26) 26 [] [] h (z00 Z)) ?_ (fun K26 hK26 => ?_)
    · exact z_throw (pc := 26) zt_0 C hlz hnt (by decide) rfl (zD D_X5_sell_0 13 rfl) (zD D_X5_sell_0 14 rfl) (zD D_X5_sell_0 15 rfl) (zD D_X5_sell_0 16 rfl)
    refine z_icmp_lt (pc := 17) C (zD D_X5_sell_0 9 rfl) (tgt := 26) (by decide) (fun _ => ?_) (fun _ => ?_)
    · refine z_sub [] (lv' := []) rfl ?_
      exact hK26
    · refine z_iload_n (pc := 20) C (zD D_X5_sell_0 10 rfl) rfl 2 rfl ?_
      refine z_bipush (pc := 21) (v := 10) C (zD D_X5_sell_0 11 rfl) (by decide) ?_
      refine z_icmp_le (pc := 23) C (zD D_X5_sell_0 12 rfl) (tgt := 34) (by decide) (fun _ => ?_) (fun _ => ?_)
      · refine z_aload_n (pc := 34) C (zD D_X5_sell_0 17 rfl) rfl 0 rfl ?_
        refine z_getR (pc := 35) C zc5 0 (by decide) q_17 (zD D_X5_sell_0 18 rfl) (fun v35 => ?_)
        refine z_iload_n (pc := 38) C (zD D_X5_sell_0 19 rfl) rfl 1 rfl ?_
        refine z_iload_n (pc := 39) C (zD D_X5_sell_0 20 rfl) rfl 2 rfl ?_
        refine z_cvR (pc := 40) (As := [.int p0, .int p1]) C [] (c_X1_canSell _ _ _ _ n v35 p0 p1 h) zn_X1_canSell (by decide) (by decide) hz0 zc1 rfl q_351 q_352 q_353 q_16 q_354 rfl rfl rfl (zD D_X5_sell_0 21 rfl) (fun r40 => ?_)
        refine z_if_ne (pc := 43) C (zD D_X5_sell_0 22 rfl) (tgt := 54) (by decide) (fun _ => ?_) (fun _ => ?_)
        · refine z_aload_n (pc := 54) C (zD D_X5_sell_0 27 rfl) rfl 0 rfl ?_
          refine z_cvV (pc := 55) (As := []) C [] (c_X5_saveState _ _ _ _ n this h) zn_X5_saveState (by decide) (by decide) hz0 zc5 rfl q_276 q_277 q_278 q_2 q_279 rfl rfl rfl (zD D_X5_sell_0 28 rfl) (fun h55 => ?_)
          refine z_aload_n (pc := 58) C (zD D_X5_sell_0 29 rfl) rfl 0 rfl ?_
          refine z_getR (pc := 59) C zc5 0 (by decide) q_17 (zD D_X5_sell_0 30 rfl) (fun v59 => ?_)
          refine z_aload_n (pc := 62) C (zD D_X5_sell_0 31 rfl) rfl 0 rfl ?_
          refine z_getR (pc := 63) C zc5 0 (by decide) q_17 (zD D_X5_sell_0 32 rfl) (fun v63 => ?_)
          refine z_getI (pc := 66) C zc1 9 (by decide) q_350 (zD D_X5_sell_0 33 rfl) (fun v66 => ?_)
          refine z_iload_n (pc := 69) C (zD D_X5_sell_0 34 rfl) rfl 1 rfl ?_
          refine z_iload_n (pc := 70) C (zD D_X5_sell_0 35 rfl) rfl 2 rfl ?_
          refine z_cvV (pc := 71) (As := [.int v66, .int p0, .int p1]) C [] (c_X1_sellShares _ _ _ _ n v59 v66 p0 p1 h55) zn_X1_sellShares (by decide) (by decide) hz0 zc1 rfl q_355 q_356 q_357 q_16 q_358 rfl rfl rfl (zD D_X5_sell_0 36 rfl) (fun h71 => ?_)
          refine z_aload_n (pc := 74) C (zD D_X5_sell_0 37 rfl) rfl 0 rfl ?_
          refine z_getR (pc := 75) C zc5 0 (by decide) q_17 (zD D_X5_sell_0 38 rfl) (fun v75 => ?_)
          refine z_getR (pc := 78) C zc1 3 (by decide) q_167 (zD D_X5_sell_0 39 rfl) (fun v78 => ?_)
          refine z_aload_n (pc := 81) C (zD D_X5_sell_0 40 rfl) rfl 0 rfl ?_
          refine z_getR (pc := 82) C zc5 0 (by decide) q_17 (zD D_X5_sell_0 41 rfl) (fun v82 => ?_)
          refine z_getI (pc := 85) C zc1 9 (by decide) q_350 (zD D_X5_sell_0 42 rfl) (fun v85 => ?_)
          refine z_aiload (pc := 88) C (zD D_X5_sell_0 43 rfl) (fun v88 => ?_)
          exact z_xret (pc := 89) C hr (zD D_X5_sell_0 44 rfl)
        · exact z_throw (pc := 46) zt_2 C hlz hnt (by decide) rfl (zD D_X5_sell_0 23 rfl) (zD D_X5_sell_0 24 rfl) (zD D_X5_sell_0 25 rfl) (zD D_X5_sell_0 26 rfl)
      · refine z_sub [] (lv' := []) rfl ?_
        exact hK26
  · exact z_throw (pc := 7) zt_1 C hlz hnt (by decide) rfl (zD D_X5_sell_0 3 rfl) (zD D_X5_sell_0 4 rfl) (zD D_X5_sell_0 5 rfl) (zD D_X5_sell_0 6 rfl)
def f_X5_setTown (n : Nat) (this : Nat) (p0 : Int32) (p1 : Int32) (h : zH) : Option (zO2) := (f_X5_isTown n p0 h).bind fun (r1 : Int32) => if r1 = 0 then (some (.inl 1, h)) else (zlet (some (.inl 0, h)) fun K25 => if p1 < 0 then (K25) else (if p1 ≤ (90 : Int32) then (zrc h this 5 <| (f_X5_saveState n this h).bind fun (h34 : zH) => (zgR h34 this 5 0).bind fun (v38 : Nat) => (zgR h34 v38 1 1).bind fun (v41 : Nat) => (zgR h34 v41 2 0).bind fun (v44 : Nat) => (zai h34 v44 p0).bind fun (v48 : Int32) => (zgR h34 this 5 0).bind fun (v51 : Nat) => (zgR h34 v51 1 1).bind fun (v54 : Nat) => (zgR h34 v54 2 0).bind fun (v57 : Nat) => (zsi h34 v57 p0 p1).bind fun (h62 : zH) => some (.inr v48, h62)) else (K25)))
theorem zn_X5_setTown : zNm yX5_setTown 2 := ⟨by decide +kernel, by decide +kernel⟩
set_option maxRecDepth 100000 in
set_option maxHeartbeats 4000000 in
theorem c_X5_setTown (l : Launch) (hl : l.stackTraces = false) (B : Nat) (D : va_G) (cA : Nat → ClassId) (n : Nat) (this : Nat) (p0 : Int32) (p1 : Int32) (h : zH) : ∀ u, f_X5_setTown n this p0 p1 h = some u → zMx l B D cA yX5_setTown cX5_setTown 4 (some .int) 6 [.ref (B + this), .int p0, .int p1] h u := by
  unfold f_X5_setTown
  refine z_metx (own := RX5) hl rfl (by decide) rfl (fun Z C hr hlz hnt => ?_)
  have hz0 : (z00 Z).1 ≤ 1 ∧ (z00 Z).2.1 ≤ 6 := ⟨Nat.zero_le 1, Nat.zero_le 6⟩
  refine z_iload_n (pc := 0) C (zD D_X5_setTown_0 0 rfl) rfl 1 rfl ?_
  refine z_csR (pc := 1) (As := [.int p0]) C [] (c_X5_isTown _ _ _ _ n p0 h) zn_X5_isTown (by decide) (by decide) hz0 q_255 q_256 q_2 q_257 rfl rfl rfl (zD D_X5_setTown_0 1 rfl) (fun r1 => ?_)
  refine z_if_ne (pc := 4) C (zD D_X5_setTown_0 2 rfl) (tgt := 15) (by decide) (fun _ => ?_) (fun _ => ?_)
  · refine z_iload_n (pc := 15) C (zD D_X5_setTown_0 7 rfl) rfl 2 rfl ?_
    refine z_letg (fun K25 => zJ B Z (zEndx B Z) (K25) 25 [] [] h (z00 Z)) ?_ (fun K25 hK25 => ?_)
    · exact z_throw (pc := 25) zt_0 C hlz hnt (by decide) rfl (zD D_X5_setTown_0 12 rfl) (zD D_X5_setTown_0 13 rfl) (zD D_X5_setTown_0 14 rfl) (zD D_X5_setTown_0 15 rfl)
    refine z_if_lt (pc := 16) C (zD D_X5_setTown_0 8 rfl) (tgt := 25) (by decide) (fun _ => ?_) (fun _ => ?_)
    · refine z_sub [] (lv' := []) rfl ?_
      exact hK25
    · refine z_iload_n (pc := 19) C (zD D_X5_setTown_0 9 rfl) rfl 2 rfl ?_
      refine z_bipush (pc := 20) (v := 90) C (zD D_X5_setTown_0 10 rfl) (by decide) ?_
      refine z_icmp_le (pc := 22) C (zD D_X5_setTown_0 11 rfl) (tgt := 33) (by decide) (fun _ => ?_) (fun _ => ?_)
      · refine z_aload_n (pc := 33) C (zD D_X5_setTown_0 16 rfl) rfl 0 rfl ?_
        refine z_cvV (pc := 34) (As := []) C [] (c_X5_saveState _ _ _ _ n this h) zn_X5_saveState (by decide) (by decide) hz0 zc5 rfl q_276 q_277 q_278 q_2 q_279 rfl rfl rfl (zD D_X5_setTown_0 17 rfl) (fun h34 => ?_)
        refine z_aload_n (pc := 37) C (zD D_X5_setTown_0 18 rfl) rfl 0 rfl ?_
        refine z_getR (pc := 38) C zc5 0 (by decide) q_17 (zD D_X5_setTown_0 19 rfl) (fun v38 => ?_)
        refine z_getR (pc := 41) C zc1 1 (by decide) q_253 (zD D_X5_setTown_0 20 rfl) (fun v41 => ?_)
        refine z_getR (pc := 44) C zc2 0 (by decide) q_262 (zD D_X5_setTown_0 21 rfl) (fun v44 => ?_)
        refine z_iload_n (pc := 47) C (zD D_X5_setTown_0 22 rfl) rfl 1 rfl ?_
        refine z_aiload (pc := 48) C (zD D_X5_setTown_0 23 rfl) (fun v48 => ?_)
        refine z_istore_n (pc := 49) (lv' := [(3, .int v48), (0, .ref (B + this)), (1, .int p0), (2, .int p1)]) C (zD D_X5_setTown_0 24 rfl) rfl (by decide) rfl ?_
        refine z_aload_n (pc := 50) C (zD D_X5_setTown_0 25 rfl) rfl 1 rfl ?_
        refine z_getR (pc := 51) C zc5 0 (by decide) q_17 (zD D_X5_setTown_0 26 rfl) (fun v51 => ?_)
        refine z_getR (pc := 54) C zc1 1 (by decide) q_253 (zD D_X5_setTown_0 27 rfl) (fun v54 => ?_)
        refine z_getR (pc := 57) C zc2 0 (by decide) q_262 (zD D_X5_setTown_0 28 rfl) (fun v57 => ?_)
        refine z_iload_n (pc := 60) C (zD D_X5_setTown_0 29 rfl) rfl 2 rfl ?_
        refine z_iload_n (pc := 61) C (zD D_X5_setTown_0 30 rfl) rfl 3 rfl ?_
        refine z_aistore (pc := 62) C (zD D_X5_setTown_0 31 rfl) (fun h62 => ?_)
        refine z_iload_n (pc := 63) C (zD D_X5_setTown_0 32 rfl) rfl 0 rfl ?_
        exact z_xret (pc := 64) C hr (zD D_X5_setTown_0 33 rfl)
      · refine z_sub [] (lv' := []) rfl ?_
        exact hK25
  · exact z_throw (pc := 7) zt_1 C hlz hnt (by decide) rfl (zD D_X5_setTown_0 3 rfl) (zD D_X5_setTown_0 4 rfl) (zD D_X5_setTown_0 5 rfl) (zD D_X5_setTown_0 6 rfl)
def f_X5_start (n : Nat) (this : Nat) (p0 : Int32) (p1 : Int32) (p2 : Int32) (h : zH) : Option (zO2) := (f_X5_isCompany n p0 h).bind fun (r1 : Int32) => zlet (some (.inl 1, h)) fun K14 => if r1 = 0 then (K14) else ((f_X5_isTown n p1 h).bind fun (r8 : Int32) => if r8 = 0 then (K14) else (zlet (some (.inl 0, h)) fun K33 => if p2 < (2 : Int32) then (K33) else (if p2 ≤ (8 : Int32) then ((zgR h this 5 0).bind fun (v42 : Nat) => zrc h v42 1 <| (f_X1_canStart n v42 p0 p2 h).bind fun (r47 : Int32) => if r47 = 0 then (some (.inl 2, h)) else (zrc h this 5 <| (f_X5_saveState n this h).bind fun (h62 : zH) => (zgR h62 this 5 0).bind fun (v66 : Nat) => zrc h62 v66 1 <| (f_X1_startCompany n v66 p0 p1 p2 h62).bind fun (h72 : zH) => (zgR h72 this 5 0).bind fun (v76 : Nat) => (zgR h72 v76 1 2).bind fun (v79 : Nat) => (zar h72 v79 3 p0).bind fun (v83 : Nat) => (zgI h72 v83 0 3).bind fun (v84 : Int32) => some (.inr v84, h72))) else (K33))))
theorem zn_X5_start : zNm yX5_start 3 := ⟨by decide +kernel, by decide +kernel⟩
set_option maxRecDepth 100000 in
set_option maxHeartbeats 4000000 in
theorem c_X5_start (l : Launch) (hl : l.stackTraces = false) (B : Nat) (D : va_G) (cA : Nat → ClassId) (n : Nat) (this : Nat) (p0 : Int32) (p1 : Int32) (p2 : Int32) (h : zH) : ∀ u, f_X5_start n this p0 p1 p2 h = some u → zMx l B D cA yX5_start cX5_start 4 (some .int) 6 [.ref (B + this), .int p0, .int p1, .int p2] h u := by
  unfold f_X5_start
  refine z_metx (own := RX5) hl rfl (by decide) rfl (fun Z C hr hlz hnt => ?_)
  have hz0 : (z00 Z).1 ≤ 1 ∧ (z00 Z).2.1 ≤ 6 := ⟨Nat.zero_le 1, Nat.zero_le 6⟩
  refine z_iload_n (pc := 0) C (zD D_X5_start_0 0 rfl) rfl 1 rfl ?_
  refine z_csR (pc := 1) (As := [.int p0]) C [] (c_X5_isCompany _ _ _ _ n p0 h) zn_X5_isCompany (by decide) (by decide) hz0 q_192 q_193 q_2 q_194 rfl rfl rfl (zD D_X5_start_0 1 rfl) (fun r1 => ?_)
  refine z_letg (fun K14 => zJ B Z (zEndx B Z) (K14) 14 [] [] h (z00 Z)) ?_ (fun K14 hK14 => ?_)
  · exact z_throw (pc := 14) zt_1 C hlz hnt (by decide) rfl (zD D_X5_start_0 6 rfl) (zD D_X5_start_0 7 rfl) (zD D_X5_start_0 8 rfl) (zD D_X5_start_0 9 rfl)
  refine z_if_eq (pc := 4) C (zD D_X5_start_0 2 rfl) (tgt := 14) (by decide) (fun _ => ?_) (fun _ => ?_)
  · refine z_sub [] (lv' := []) rfl ?_
    exact hK14
  · refine z_iload_n (pc := 7) C (zD D_X5_start_0 3 rfl) rfl 2 rfl ?_
    refine z_csR (pc := 8) (As := [.int p1]) C [] (c_X5_isTown _ _ _ _ n p1 h) zn_X5_isTown (by decide) (by decide) hz0 q_255 q_256 q_2 q_257 rfl rfl rfl (zD D_X5_start_0 4 rfl) (fun r8 => ?_)
    refine z_if_ne (pc := 11) C (zD D_X5_start_0 5 rfl) (tgt := 22) (by decide) (fun _ => ?_) (fun _ => ?_)
    · refine z_iload_n (pc := 22) C (zD D_X5_start_0 10 rfl) rfl 3 rfl ?_
      refine z_iconst (pc := 23) (v := 2) C (zD D_X5_start_0 11 rfl) (by decide) ?_
      refine z_letg (fun K33 => zJ B Z (zEndx B Z) (K33) 33 [] [] h (z00 Z)) ?_ (fun K33 hK33 => ?_)
      · exact z_throw (pc := 33) zt_0 C hlz hnt (by decide) rfl (zD D_X5_start_0 16 rfl) (zD D_X5_start_0 17 rfl) (zD D_X5_start_0 18 rfl) (zD D_X5_start_0 19 rfl)
      refine z_icmp_lt (pc := 24) C (zD D_X5_start_0 12 rfl) (tgt := 33) (by decide) (fun _ => ?_) (fun _ => ?_)
      · refine z_sub [] (lv' := []) rfl ?_
        exact hK33
      · refine z_iload_n (pc := 27) C (zD D_X5_start_0 13 rfl) rfl 3 rfl ?_
        refine z_bipush (pc := 28) (v := 8) C (zD D_X5_start_0 14 rfl) (by decide) ?_
        refine z_icmp_le (pc := 30) C (zD D_X5_start_0 15 rfl) (tgt := 41) (by decide) (fun _ => ?_) (fun _ => ?_)
        · refine z_aload_n (pc := 41) C (zD D_X5_start_0 20 rfl) rfl 0 rfl ?_
          refine z_getR (pc := 42) C zc5 0 (by decide) q_17 (zD D_X5_start_0 21 rfl) (fun v42 => ?_)
          refine z_iload_n (pc := 45) C (zD D_X5_start_0 22 rfl) rfl 1 rfl ?_
          refine z_iload_n (pc := 46) C (zD D_X5_start_0 23 rfl) rfl 3 rfl ?_
          refine z_cvR (pc := 47) (As := [.int p0, .int p2]) C [] (c_X1_canStart _ _ _ _ n v42 p0 p2 h) zn_X1_canStart (by decide) (by decide) hz0 zc1 rfl q_297 q_298 q_299 q_16 q_300 rfl rfl rfl (zD D_X5_start_0 24 rfl) (fun r47 => ?_)
          refine z_if_ne (pc := 50) C (zD D_X5_start_0 25 rfl) (tgt := 61) (by decide) (fun _ => ?_) (fun _ => ?_)
          · refine z_aload_n (pc := 61) C (zD D_X5_start_0 30 rfl) rfl 0 rfl ?_
            refine z_cvV (pc := 62) (As := []) C [] (c_X5_saveState _ _ _ _ n this h) zn_X5_saveState (by decide) (by decide) hz0 zc5 rfl q_276 q_277 q_278 q_2 q_279 rfl rfl rfl (zD D_X5_start_0 31 rfl) (fun h62 => ?_)
            refine z_aload_n (pc := 65) C (zD D_X5_start_0 32 rfl) rfl 0 rfl ?_
            refine z_getR (pc := 66) C zc5 0 (by decide) q_17 (zD D_X5_start_0 33 rfl) (fun v66 => ?_)
            refine z_iload_n (pc := 69) C (zD D_X5_start_0 34 rfl) rfl 1 rfl ?_
            refine z_iload_n (pc := 70) C (zD D_X5_start_0 35 rfl) rfl 2 rfl ?_
            refine z_iload_n (pc := 71) C (zD D_X5_start_0 36 rfl) rfl 3 rfl ?_
            refine z_cvV (pc := 72) (As := [.int p0, .int p1, .int p2]) C [] (c_X1_startCompany _ _ _ _ n v66 p0 p1 p2 h62) zn_X1_startCompany (by decide) (by decide) hz0 zc1 rfl q_302 q_303 q_304 q_16 q_305 rfl rfl rfl (zD D_X5_start_0 37 rfl) (fun h72 => ?_)
            refine z_aload_n (pc := 75) C (zD D_X5_start_0 38 rfl) rfl 0 rfl ?_
            refine z_getR (pc := 76) C zc5 0 (by decide) q_17 (zD D_X5_start_0 39 rfl) (fun v76 => ?_)
            refine z_getR (pc := 79) C zc1 2 (by decide) q_168 (zD D_X5_start_0 40 rfl) (fun v79 => ?_)
            refine z_iload_n (pc := 82) C (zD D_X5_start_0 41 rfl) rfl 1 rfl ?_
            refine z_arload (pc := 83) C (c := 3) (by decide) rfl (zD D_X5_start_0 42 rfl) (fun v83 => ?_)
            refine z_getI (pc := 84) C zc0 3 (by decide) q_296 (zD D_X5_start_0 43 rfl) (fun v84 => ?_)
            exact z_xret (pc := 87) C hr (zD D_X5_start_0 44 rfl)
          · exact z_throw (pc := 53) zt_2 C hlz hnt (by decide) rfl (zD D_X5_start_0 26 rfl) (zD D_X5_start_0 27 rfl) (zD D_X5_start_0 28 rfl) (zD D_X5_start_0 29 rfl)
        · refine z_sub [] (lv' := []) rfl ?_
          exact hK33
    · refine z_sub [] (lv' := []) rfl ?_
      exact hK14
def f_X5_town' (n : Nat) (this : Nat) (p0 : Int32) (h : zH) : Option (Int32) := (f_X5_isTown n p0 h).bind fun (r1 : Int32) => if r1 = 0 then (none) else ((zgR h this 5 0).bind fun (v16 : Nat) => (zgR h v16 1 1).bind fun (v19 : Nat) => (zgR h v19 2 0).bind fun (v22 : Nat) => (zai h v22 p0).bind fun (v26 : Int32) => some v26)
set_option maxRecDepth 100000 in
set_option maxHeartbeats 4000000 in
theorem c_X5_town' (l : Launch) (B : Nat) (D : va_G) (cA : Nat → ClassId) (n : Nat) (this : Nat) (p0 : Int32) (h : zH) : ∀ u, f_X5_town' n this p0 h = some u → zM l B D cA yX5_town cX5_town 2 (some .int) 6 0 0 none [.ref (B + this), .int p0] h ((fun r : Int32 => (some (Value.int r), h)) u).1 ((fun r : Int32 => (some (Value.int r), h)) u).2 := by
  unfold f_X5_town'
  refine z_met (own := RX5) (fun r : Int32 => (some (Value.int r), h)) rfl (by decide) rfl (fun Z C hr _ _ => ?_)
  have hz0 : (z00 Z).1 ≤ 0 ∧ (z00 Z).2.1 ≤ 0 := ⟨Nat.le_refl 0, Nat.le_refl 0⟩
  refine z_iload_n (pc := 0) C (zD D_X5_town_0 0 rfl) rfl 1 rfl ?_
  refine z_csR (pc := 1) (As := [.int p0]) C [] (c_X5_isTown _ _ _ _ n p0 h) zn_X5_isTown (by decide) (by decide) hz0 q_255 q_256 q_2 q_257 rfl rfl rfl (zD D_X5_town_0 1 rfl) (fun r1 => ?_)
  refine z_if_ne (pc := 4) C (zD D_X5_town_0 2 rfl) (tgt := 15) (by decide) (fun _ => ?_) (fun _ => ?_)
  · refine z_aload_n (pc := 15) C (zD D_X5_town_0 7 rfl) rfl 0 rfl ?_
    refine z_getR (pc := 16) C zc5 0 (by decide) q_17 (zD D_X5_town_0 8 rfl) (fun v16 => ?_)
    refine z_getR (pc := 19) C zc1 1 (by decide) q_253 (zD D_X5_town_0 9 rfl) (fun v19 => ?_)
    refine z_getR (pc := 22) C zc2 0 (by decide) q_262 (zD D_X5_town_0 10 rfl) (fun v22 => ?_)
    refine z_iload_n (pc := 25) C (zD D_X5_town_0 11 rfl) rfl 1 rfl ?_
    refine z_aiload (pc := 26) C (zD D_X5_town_0 12 rfl) (fun v26 => ?_)
    exact z_iret (pc := 27) C hr rfl (zD D_X5_town_0 13 rfl)
  · exact z_none
def f_X5_town (n : Nat) (this : Nat) (p0 : Int32) (h : zH) : Option (zO2) := (f_X5_isTown n p0 h).bind fun (r1 : Int32) => if r1 = 0 then (some (.inl 1, h)) else ((zgR h this 5 0).bind fun (v16 : Nat) => (zgR h v16 1 1).bind fun (v19 : Nat) => (zgR h v19 2 0).bind fun (v22 : Nat) => (zai h v22 p0).bind fun (v26 : Int32) => some (.inr v26, h))
theorem zn_X5_town : zNm yX5_town 1 := ⟨by decide +kernel, by decide +kernel⟩
set_option maxRecDepth 100000 in
set_option maxHeartbeats 4000000 in
theorem c_X5_town (l : Launch) (hl : l.stackTraces = false) (B : Nat) (D : va_G) (cA : Nat → ClassId) (n : Nat) (this : Nat) (p0 : Int32) (h : zH) : ∀ u, f_X5_town n this p0 h = some u → zMx l B D cA yX5_town cX5_town 2 (some .int) 6 [.ref (B + this), .int p0] h u := by
  unfold f_X5_town
  refine z_metx (own := RX5) hl rfl (by decide) rfl (fun Z C hr hlz hnt => ?_)
  have hz0 : (z00 Z).1 ≤ 1 ∧ (z00 Z).2.1 ≤ 6 := ⟨Nat.zero_le 1, Nat.zero_le 6⟩
  refine z_iload_n (pc := 0) C (zD D_X5_town_0 0 rfl) rfl 1 rfl ?_
  refine z_csR (pc := 1) (As := [.int p0]) C [] (c_X5_isTown _ _ _ _ n p0 h) zn_X5_isTown (by decide) (by decide) hz0 q_255 q_256 q_2 q_257 rfl rfl rfl (zD D_X5_town_0 1 rfl) (fun r1 => ?_)
  refine z_if_ne (pc := 4) C (zD D_X5_town_0 2 rfl) (tgt := 15) (by decide) (fun _ => ?_) (fun _ => ?_)
  · refine z_aload_n (pc := 15) C (zD D_X5_town_0 7 rfl) rfl 0 rfl ?_
    refine z_getR (pc := 16) C zc5 0 (by decide) q_17 (zD D_X5_town_0 8 rfl) (fun v16 => ?_)
    refine z_getR (pc := 19) C zc1 1 (by decide) q_253 (zD D_X5_town_0 9 rfl) (fun v19 => ?_)
    refine z_getR (pc := 22) C zc2 0 (by decide) q_262 (zD D_X5_town_0 10 rfl) (fun v22 => ?_)
    refine z_iload_n (pc := 25) C (zD D_X5_town_0 11 rfl) rfl 1 rfl ?_
    refine z_aiload (pc := 26) C (zD D_X5_town_0 12 rfl) (fun v26 => ?_)
    exact z_xret (pc := 27) C hr (zD D_X5_town_0 13 rfl)
  · exact z_throw (pc := 7) zt_1 C hlz hnt (by decide) rfl (zD D_X5_town_0 3 rfl) (zD D_X5_town_0 4 rfl) (zD D_X5_town_0 5 rfl) (zD D_X5_town_0 6 rfl)
def f_X5_track' (n : Nat) (this : Nat) (p0 : Int32) (p1 : Int32) (h : zH) : Option (Int32) := (f_X5_isTown n p0 h).bind fun (r1 : Int32) => zlet (none) fun K14 => if r1 = 0 then (K14) else ((f_X5_isTown n p1 h).bind fun (r8 : Int32) => if r8 = 0 then (K14) else ((zgR h this 5 0).bind fun (v23 : Nat) => (zgR h v23 1 1).bind fun (v26 : Nat) => (zgR h v26 2 1).bind fun (v29 : Nat) => (zar h v29 2 p0).bind fun (v33 : Nat) => (zai h v33 p1).bind fun (v35 : Int32) => some v35))
set_option maxRecDepth 100000 in
set_option maxHeartbeats 4000000 in
theorem c_X5_track' (l : Launch) (B : Nat) (D : va_G) (cA : Nat → ClassId) (n : Nat) (this : Nat) (p0 : Int32) (p1 : Int32) (h : zH) : ∀ u, f_X5_track' n this p0 p1 h = some u → zM l B D cA yX5_track cX5_track 3 (some .int) 6 0 0 none [.ref (B + this), .int p0, .int p1] h ((fun r : Int32 => (some (Value.int r), h)) u).1 ((fun r : Int32 => (some (Value.int r), h)) u).2 := by
  unfold f_X5_track'
  refine z_met (own := RX5) (fun r : Int32 => (some (Value.int r), h)) rfl (by decide) rfl (fun Z C hr _ _ => ?_)
  have hz0 : (z00 Z).1 ≤ 0 ∧ (z00 Z).2.1 ≤ 0 := ⟨Nat.le_refl 0, Nat.le_refl 0⟩
  refine z_iload_n (pc := 0) C (zD D_X5_track_0 0 rfl) rfl 1 rfl ?_
  refine z_csR (pc := 1) (As := [.int p0]) C [] (c_X5_isTown _ _ _ _ n p0 h) zn_X5_isTown (by decide) (by decide) hz0 q_255 q_256 q_2 q_257 rfl rfl rfl (zD D_X5_track_0 1 rfl) (fun r1 => ?_)
  refine z_letg (fun K14 => zJ B Z (zEnd B Z (fun r : Int32 => (some (Value.int r), h)) 0 0) (K14) 14 [] [] h (z00 Z)) ?_ (fun K14 hK14 => ?_)
  · exact z_none
  refine z_if_eq (pc := 4) C (zD D_X5_track_0 2 rfl) (tgt := 14) (by decide) (fun _ => ?_) (fun _ => ?_)
  · refine z_sub [] (lv' := []) rfl ?_
    exact hK14
  · refine z_iload_n (pc := 7) C (zD D_X5_track_0 3 rfl) rfl 2 rfl ?_
    refine z_csR (pc := 8) (As := [.int p1]) C [] (c_X5_isTown _ _ _ _ n p1 h) zn_X5_isTown (by decide) (by decide) hz0 q_255 q_256 q_2 q_257 rfl rfl rfl (zD D_X5_track_0 4 rfl) (fun r8 => ?_)
    refine z_if_ne (pc := 11) C (zD D_X5_track_0 5 rfl) (tgt := 22) (by decide) (fun _ => ?_) (fun _ => ?_)
    · refine z_aload_n (pc := 22) C (zD D_X5_track_0 10 rfl) rfl 0 rfl ?_
      refine z_getR (pc := 23) C zc5 0 (by decide) q_17 (zD D_X5_track_0 11 rfl) (fun v23 => ?_)
      refine z_getR (pc := 26) C zc1 1 (by decide) q_253 (zD D_X5_track_0 12 rfl) (fun v26 => ?_)
      refine z_getR (pc := 29) C zc2 1 (by decide) q_254 (zD D_X5_track_0 13 rfl) (fun v29 => ?_)
      refine z_iload_n (pc := 32) C (zD D_X5_track_0 14 rfl) rfl 1 rfl ?_
      refine z_arload (pc := 33) C (c := 2) (by decide) rfl (zD D_X5_track_0 15 rfl) (fun v33 => ?_)
      refine z_iload_n (pc := 34) C (zD D_X5_track_0 16 rfl) rfl 2 rfl ?_
      refine z_aiload (pc := 35) C (zD D_X5_track_0 17 rfl) (fun v35 => ?_)
      exact z_iret (pc := 36) C hr rfl (zD D_X5_track_0 18 rfl)
    · refine z_sub [] (lv' := []) rfl ?_
      exact hK14
def f_X5_track (n : Nat) (this : Nat) (p0 : Int32) (p1 : Int32) (h : zH) : Option (zO2) := (f_X5_isTown n p0 h).bind fun (r1 : Int32) => zlet (some (.inl 1, h)) fun K14 => if r1 = 0 then (K14) else ((f_X5_isTown n p1 h).bind fun (r8 : Int32) => if r8 = 0 then (K14) else ((zgR h this 5 0).bind fun (v23 : Nat) => (zgR h v23 1 1).bind fun (v26 : Nat) => (zgR h v26 2 1).bind fun (v29 : Nat) => (zar h v29 2 p0).bind fun (v33 : Nat) => (zai h v33 p1).bind fun (v35 : Int32) => some (.inr v35, h)))
theorem zn_X5_track : zNm yX5_track 2 := ⟨by decide +kernel, by decide +kernel⟩
set_option maxRecDepth 100000 in
set_option maxHeartbeats 4000000 in
theorem c_X5_track (l : Launch) (hl : l.stackTraces = false) (B : Nat) (D : va_G) (cA : Nat → ClassId) (n : Nat) (this : Nat) (p0 : Int32) (p1 : Int32) (h : zH) : ∀ u, f_X5_track n this p0 p1 h = some u → zMx l B D cA yX5_track cX5_track 3 (some .int) 6 [.ref (B + this), .int p0, .int p1] h u := by
  unfold f_X5_track
  refine z_metx (own := RX5) hl rfl (by decide) rfl (fun Z C hr hlz hnt => ?_)
  have hz0 : (z00 Z).1 ≤ 1 ∧ (z00 Z).2.1 ≤ 6 := ⟨Nat.zero_le 1, Nat.zero_le 6⟩
  refine z_iload_n (pc := 0) C (zD D_X5_track_0 0 rfl) rfl 1 rfl ?_
  refine z_csR (pc := 1) (As := [.int p0]) C [] (c_X5_isTown _ _ _ _ n p0 h) zn_X5_isTown (by decide) (by decide) hz0 q_255 q_256 q_2 q_257 rfl rfl rfl (zD D_X5_track_0 1 rfl) (fun r1 => ?_)
  refine z_letg (fun K14 => zJ B Z (zEndx B Z) (K14) 14 [] [] h (z00 Z)) ?_ (fun K14 hK14 => ?_)
  · exact z_throw (pc := 14) zt_1 C hlz hnt (by decide) rfl (zD D_X5_track_0 6 rfl) (zD D_X5_track_0 7 rfl) (zD D_X5_track_0 8 rfl) (zD D_X5_track_0 9 rfl)
  refine z_if_eq (pc := 4) C (zD D_X5_track_0 2 rfl) (tgt := 14) (by decide) (fun _ => ?_) (fun _ => ?_)
  · refine z_sub [] (lv' := []) rfl ?_
    exact hK14
  · refine z_iload_n (pc := 7) C (zD D_X5_track_0 3 rfl) rfl 2 rfl ?_
    refine z_csR (pc := 8) (As := [.int p1]) C [] (c_X5_isTown _ _ _ _ n p1 h) zn_X5_isTown (by decide) (by decide) hz0 q_255 q_256 q_2 q_257 rfl rfl rfl (zD D_X5_track_0 4 rfl) (fun r8 => ?_)
    refine z_if_ne (pc := 11) C (zD D_X5_track_0 5 rfl) (tgt := 22) (by decide) (fun _ => ?_) (fun _ => ?_)
    · refine z_aload_n (pc := 22) C (zD D_X5_track_0 10 rfl) rfl 0 rfl ?_
      refine z_getR (pc := 23) C zc5 0 (by decide) q_17 (zD D_X5_track_0 11 rfl) (fun v23 => ?_)
      refine z_getR (pc := 26) C zc1 1 (by decide) q_253 (zD D_X5_track_0 12 rfl) (fun v26 => ?_)
      refine z_getR (pc := 29) C zc2 1 (by decide) q_254 (zD D_X5_track_0 13 rfl) (fun v29 => ?_)
      refine z_iload_n (pc := 32) C (zD D_X5_track_0 14 rfl) rfl 1 rfl ?_
      refine z_arload (pc := 33) C (c := 2) (by decide) rfl (zD D_X5_track_0 15 rfl) (fun v33 => ?_)
      refine z_iload_n (pc := 34) C (zD D_X5_track_0 16 rfl) rfl 2 rfl ?_
      refine z_aiload (pc := 35) C (zD D_X5_track_0 17 rfl) (fun v35 => ?_)
      exact z_xret (pc := 36) C hr (zD D_X5_track_0 18 rfl)
    · refine z_sub [] (lv' := []) rfl ?_
      exact hK14
def f_X5_undo (n : Nat) (this : Nat) (h : zH) : Option (zO2) := (zgI h this 5 2).bind fun (v1 : Int32) => if 0 < v1 then ((zgI h this 5 2).bind fun (v17 : Int32) => (zp h this 5 2 (.int (v17 - (1 : Int32)))).bind fun (h22 : zH) => (zgR h22 this 5 0).bind fun (v26 : Nat) => (zgR h22 this 5 1).bind fun (v30 : Nat) => (zgI h22 this 5 2).bind fun (v34 : Int32) => (zar h22 v30 4 v34).bind fun (v37 : Nat) => zrc h22 v26 1 <| (f_X1_copyFrom n v26 v37 h22).bind fun (h38 : zH) => (zgI h38 this 5 2).bind fun (v42 : Int32) => some (.inr v42, h38)) else (some (.inl 2, h))
theorem zn_X5_undo : zNm yX5_undo 0 := ⟨by decide +kernel, by decide +kernel⟩
set_option maxRecDepth 100000 in
set_option maxHeartbeats 4000000 in
theorem c_X5_undo (l : Launch) (hl : l.stackTraces = false) (B : Nat) (D : va_G) (cA : Nat → ClassId) (n : Nat) (this : Nat) (h : zH) : ∀ u, f_X5_undo n this h = some u → zMx l B D cA yX5_undo cX5_undo 1 (some .int) 6 [.ref (B + this)] h u := by
  unfold f_X5_undo
  refine z_metx (own := RX5) hl rfl (by decide) rfl (fun Z C hr hlz hnt => ?_)
  have hz0 : (z00 Z).1 ≤ 1 ∧ (z00 Z).2.1 ≤ 6 := ⟨Nat.zero_le 1, Nat.zero_le 6⟩
  refine z_aload_n (pc := 0) C (zD D_X5_undo_0 0 rfl) rfl 0 rfl ?_
  refine z_getI (pc := 1) C zc5 2 (by decide) q_19 (zD D_X5_undo_0 1 rfl) (fun v1 => ?_)
  refine z_if_gt (pc := 4) C (zD D_X5_undo_0 2 rfl) (tgt := 15) (by decide) (fun _ => ?_) (fun _ => ?_)
  · refine z_aload_n (pc := 15) C (zD D_X5_undo_0 7 rfl) rfl 0 rfl ?_
    refine z_dup (pc := 16) C (zD D_X5_undo_0 8 rfl) rfl ?_
    refine z_getI (pc := 17) C zc5 2 (by decide) q_19 (zD D_X5_undo_0 9 rfl) (fun v17 => ?_)
    refine z_iconst (pc := 20) (v := 1) C (zD D_X5_undo_0 10 rfl) (by decide) ?_
    refine z_isub (pc := 21) C (zD D_X5_undo_0 11 rfl) ?_
    refine z_putI (pc := 22) C zc5 2 (by decide) q_19 rfl rfl (zD D_X5_undo_0 12 rfl) (fun h22 => ?_)
    refine z_aload_n (pc := 25) C (zD D_X5_undo_0 13 rfl) rfl 0 rfl ?_
    refine z_getR (pc := 26) C zc5 0 (by decide) q_17 (zD D_X5_undo_0 14 rfl) (fun v26 => ?_)
    refine z_aload_n (pc := 29) C (zD D_X5_undo_0 15 rfl) rfl 0 rfl ?_
    refine z_getR (pc := 30) C zc5 1 (by decide) q_18 (zD D_X5_undo_0 16 rfl) (fun v30 => ?_)
    refine z_aload_n (pc := 33) C (zD D_X5_undo_0 17 rfl) rfl 0 rfl ?_
    refine z_getI (pc := 34) C zc5 2 (by decide) q_19 (zD D_X5_undo_0 18 rfl) (fun v34 => ?_)
    refine z_arload (pc := 37) C (c := 4) (by decide) rfl (zD D_X5_undo_0 19 rfl) (fun v37 => ?_)
    refine z_cvV (pc := 38) (As := [.ref (B + v37)]) C [] (c_X1_copyFrom _ _ _ _ n v26 v37 h22) zn_X1_copyFrom (by decide) (by decide) hz0 zc1 rfl q_107 q_108 q_109 q_16 q_110 rfl rfl rfl (zD D_X5_undo_0 20 rfl) (fun h38 => ?_)
    refine z_aload_n (pc := 41) C (zD D_X5_undo_0 21 rfl) rfl 0 rfl ?_
    refine z_getI (pc := 42) C zc5 2 (by decide) q_19 (zD D_X5_undo_0 22 rfl) (fun v42 => ?_)
    exact z_xret (pc := 45) C hr (zD D_X5_undo_0 23 rfl)
  · exact z_throw (pc := 7) zt_2 C hlz hnt (by decide) rfl (zD D_X5_undo_0 3 rfl) (zD D_X5_undo_0 4 rfl) (zD D_X5_undo_0 5 rfl) (zD D_X5_undo_0 6 rfl)
def f_X5_value' (n : Nat) (this : Nat) (p0 : Int32) (h : zH) : Option (Int32) := zlet (none) fun K10 => if p0 < 0 then (K10) else (if p0 < (10 : Int32) then ((zgR h this 5 0).bind fun (v19 : Nat) => zrc h v19 1 <| (f_X1_number n v19 p0 h).bind fun (r23 : Int32) => some r23) else (K10))
set_option maxRecDepth 100000 in
set_option maxHeartbeats 4000000 in
theorem c_X5_value' (l : Launch) (B : Nat) (D : va_G) (cA : Nat → ClassId) (n : Nat) (this : Nat) (p0 : Int32) (h : zH) : ∀ u, f_X5_value' n this p0 h = some u → zM l B D cA yX5_value cX5_value 2 (some .int) 6 0 0 none [.ref (B + this), .int p0] h ((fun r : Int32 => (some (Value.int r), h)) u).1 ((fun r : Int32 => (some (Value.int r), h)) u).2 := by
  unfold f_X5_value'
  refine z_met (own := RX5) (fun r : Int32 => (some (Value.int r), h)) rfl (by decide) rfl (fun Z C hr _ _ => ?_)
  have hz0 : (z00 Z).1 ≤ 0 ∧ (z00 Z).2.1 ≤ 0 := ⟨Nat.le_refl 0, Nat.le_refl 0⟩
  refine z_iload_n (pc := 0) C (zD D_X5_value_0 0 rfl) rfl 1 rfl ?_
  refine z_letg (fun K10 => zJ B Z (zEnd B Z (fun r : Int32 => (some (Value.int r), h)) 0 0) (K10) 10 [] [] h (z00 Z)) ?_ (fun K10 hK10 => ?_)
  · exact z_none
  refine z_if_lt (pc := 1) C (zD D_X5_value_0 1 rfl) (tgt := 10) (by decide) (fun _ => ?_) (fun _ => ?_)
  · refine z_sub [] (lv' := []) rfl ?_
    exact hK10
  · refine z_iload_n (pc := 4) C (zD D_X5_value_0 2 rfl) rfl 1 rfl ?_
    refine z_bipush (pc := 5) (v := 10) C (zD D_X5_value_0 3 rfl) (by decide) ?_
    refine z_icmp_lt (pc := 7) C (zD D_X5_value_0 4 rfl) (tgt := 18) (by decide) (fun _ => ?_) (fun _ => ?_)
    · refine z_aload_n (pc := 18) C (zD D_X5_value_0 9 rfl) rfl 0 rfl ?_
      refine z_getR (pc := 19) C zc5 0 (by decide) q_17 (zD D_X5_value_0 10 rfl) (fun v19 => ?_)
      refine z_iload_n (pc := 22) C (zD D_X5_value_0 11 rfl) rfl 1 rfl ?_
      refine z_cvR (pc := 23) (As := [.int p0]) C [] (c_X1_number _ _ _ _ n v19 p0 h) zn_X1_number (by decide) (by decide) hz0 zc1 rfl q_144 q_145 q_146 q_16 q_147 rfl rfl rfl (zD D_X5_value_0 12 rfl) (fun r23 => ?_)
      exact z_iret (pc := 26) C hr rfl (zD D_X5_value_0 13 rfl)
    · refine z_sub [] (lv' := []) rfl ?_
      exact hK10
def f_X5_value (n : Nat) (this : Nat) (p0 : Int32) (h : zH) : Option (zO2) := zlet (some (.inl 0, h)) fun K10 => if p0 < 0 then (K10) else (if p0 < (10 : Int32) then ((zgR h this 5 0).bind fun (v19 : Nat) => zrc h v19 1 <| (f_X1_number n v19 p0 h).bind fun (r23 : Int32) => some (.inr r23, h)) else (K10))
theorem zn_X5_value : zNm yX5_value 1 := ⟨by decide +kernel, by decide +kernel⟩
set_option maxRecDepth 100000 in
set_option maxHeartbeats 4000000 in
theorem c_X5_value (l : Launch) (hl : l.stackTraces = false) (B : Nat) (D : va_G) (cA : Nat → ClassId) (n : Nat) (this : Nat) (p0 : Int32) (h : zH) : ∀ u, f_X5_value n this p0 h = some u → zMx l B D cA yX5_value cX5_value 2 (some .int) 6 [.ref (B + this), .int p0] h u := by
  unfold f_X5_value
  refine z_metx (own := RX5) hl rfl (by decide) rfl (fun Z C hr hlz hnt => ?_)
  have hz0 : (z00 Z).1 ≤ 1 ∧ (z00 Z).2.1 ≤ 6 := ⟨Nat.zero_le 1, Nat.zero_le 6⟩
  refine z_iload_n (pc := 0) C (zD D_X5_value_0 0 rfl) rfl 1 rfl ?_
  refine z_letg (fun K10 => zJ B Z (zEndx B Z) (K10) 10 [] [] h (z00 Z)) ?_ (fun K10 hK10 => ?_)
  · exact z_throw (pc := 10) zt_0 C hlz hnt (by decide) rfl (zD D_X5_value_0 5 rfl) (zD D_X5_value_0 6 rfl) (zD D_X5_value_0 7 rfl) (zD D_X5_value_0 8 rfl)
  refine z_if_lt (pc := 1) C (zD D_X5_value_0 1 rfl) (tgt := 10) (by decide) (fun _ => ?_) (fun _ => ?_)
  · refine z_sub [] (lv' := []) rfl ?_
    exact hK10
  · refine z_iload_n (pc := 4) C (zD D_X5_value_0 2 rfl) rfl 1 rfl ?_
    refine z_bipush (pc := 5) (v := 10) C (zD D_X5_value_0 3 rfl) (by decide) ?_
    refine z_icmp_lt (pc := 7) C (zD D_X5_value_0 4 rfl) (tgt := 18) (by decide) (fun _ => ?_) (fun _ => ?_)
    · refine z_aload_n (pc := 18) C (zD D_X5_value_0 9 rfl) rfl 0 rfl ?_
      refine z_getR (pc := 19) C zc5 0 (by decide) q_17 (zD D_X5_value_0 10 rfl) (fun v19 => ?_)
      refine z_iload_n (pc := 22) C (zD D_X5_value_0 11 rfl) rfl 1 rfl ?_
      refine z_cvR (pc := 23) (As := [.int p0]) C [] (c_X1_number _ _ _ _ n v19 p0 h) zn_X1_number (by decide) (by decide) hz0 zc1 rfl q_144 q_145 q_146 q_16 q_147 rfl rfl rfl (zD D_X5_value_0 12 rfl) (fun r23 => ?_)
      exact z_xret (pc := 26) C hr (zD D_X5_value_0 13 rfl)
    · refine z_sub [] (lv' := []) rfl ?_
      exact hK10
