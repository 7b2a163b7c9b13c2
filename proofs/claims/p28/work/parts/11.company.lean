def f_X0_bankShares (n : Nat) (this : Nat) (h : zH) : Option (Int32) := zfix2 (fun rec5 (a1_5 : Int32) (a2_5 : Int32) => if (4 : Int32) ≤ a2_5 then (some a1_5) else ((zgR h this 0 0).bind fun (v12 : Nat) => (zai h v12 a2_5).bind fun (v16 : Int32) => zlet ((a1_5 - v16)) fun (x18 : Int32) => zlet (a2_5 + 1) fun (x19 : Int32) => rec5 x18 x19)) n (10 : Int32) (0 : Int32)
theorem zn_X0_bankShares : zNm yX0_bankShares 0 := ⟨by decide +kernel, by decide +kernel⟩
set_option maxRecDepth 100000 in
set_option maxHeartbeats 4000000 in
theorem c_X0_bankShares (l : Launch) (B : Nat) (D : va_G) (cA : Nat → ClassId) (n : Nat) (this : Nat) (h : zH) : ∀ u, f_X0_bankShares n this h = some u → zM l B D cA yX0_bankShares cX0_bankShares 3 (some .int) 1 0 0 none [.ref (B + this)] h ((fun r : Int32 => (some (Value.int r), h)) u).1 ((fun r : Int32 => (some (Value.int r), h)) u).2 := by
  unfold f_X0_bankShares
  refine z_met (own := RX0) (fun r : Int32 => (some (Value.int r), h)) rfl (by decide) rfl (fun Z C hr _ _ => ?_)
  have hz0 : (z00 Z).1 ≤ 0 ∧ (z00 Z).2.1 ≤ 0 := ⟨Nat.le_refl 0, Nat.le_refl 0⟩
  refine z_bipush (pc := 0) (v := 10) C (zD D_X0_bankShares_0 0 rfl) (by decide) ?_
  refine z_istore_n (pc := 2) (lv' := [(1, .int (10 : Int32)), (0, .ref (B + this))]) C (zD D_X0_bankShares_0 1 rfl) rfl (by decide) rfl ?_
  refine z_iconst (pc := 3) (v := 0) C (zD D_X0_bankShares_0 2 rfl) (by decide) ?_
  refine z_istore_n (pc := 4) (lv' := [(2, .int (0 : Int32)), (1, .int (10 : Int32)), (0, .ref (B + this))]) C (zD D_X0_bankShares_0 3 rfl) rfl (by decide) rfl ?_
  refine z_sub [2, 1, 0] (lv' := [(0, .ref (B + this)), (1, .int (10 : Int32)), (2, .int (0 : Int32))]) rfl ?_
  refine z_fix2 (fun g5 => ∀ (a1_5 : Int32) (a2_5 : Int32), zJ B Z (zEnd B Z (fun r : Int32 => (some (Value.int r), h)) 0 0) (g5 a1_5 a2_5) 5 [(0, .ref (B + this)), (1, .int a1_5), (2, .int a2_5)] [] h (z00 Z)) (fun _ _ => z_none) (fun rec5 hrec5 a1_5 a2_5 => ?_) n (10 : Int32) (0 : Int32)
  refine z_iload_n (pc := 5) C (zD D_X0_bankShares_0 4 rfl) rfl 2 rfl ?_
  refine z_iconst (pc := 6) (v := 4) C (zD D_X0_bankShares_0 5 rfl) (by decide) ?_
  refine z_icmp_ge (pc := 7) C (zD D_X0_bankShares_0 6 rfl) (tgt := 25) (by decide) (fun _ => ?_) (fun _ => ?_)
  · refine z_iload_n (pc := 25) C (zD D_X0_bankShares_0 16 rfl) rfl 1 rfl ?_
    exact z_iret (pc := 26) C hr rfl (zD D_X0_bankShares_0 17 rfl)
  · refine z_iload_n (pc := 10) C (zD D_X0_bankShares_0 7 rfl) rfl 1 rfl ?_
    refine z_aload_n (pc := 11) C (zD D_X0_bankShares_0 8 rfl) rfl 0 rfl ?_
    refine z_getR (pc := 12) C zc0 0 (by decide) q_56 (zD D_X0_bankShares_0 9 rfl) (fun v12 => ?_)
    refine z_iload_n (pc := 15) C (zD D_X0_bankShares_0 10 rfl) rfl 2 rfl ?_
    refine z_aiload (pc := 16) C (zD D_X0_bankShares_0 11 rfl) (fun v16 => ?_)
    refine z_isub (pc := 17) C (zD D_X0_bankShares_0 12 rfl) ?_
    refine z_istore_nL (pc := 18) (lv' := fun x18 => [(1, .int x18), (0, .ref (B + this)), (2, .int a2_5)]) C (zD D_X0_bankShares_0 13 rfl) rfl (by decide) (fun _ => rfl) (fun x18 => ?_)
    refine z_iincL (pc := 19) (lv' := fun x19 => [(2, .int x19), (1, .int x18), (0, .ref (B + this))]) C (zD D_X0_bankShares_0 14 rfl) 2 rfl (v := a2_5 + 1) rfl (by decide) (fun _ => rfl) (fun x19 => ?_)
    refine z_goto (pc := 22) C (zD D_X0_bankShares_0 15 rfl) (tgt := 5) (by decide) ?_
    refine z_sub [2, 1, 0] (lv' := [(0, .ref (B + this)), (1, .int x18), (2, .int x19)]) rfl ?_
    exact hrec5 x18 x19
def f_X0_copyFrom (n : Nat) (this : Nat) (p0 : Nat) (h : zH) : Option (zH) := (zgR h p0 0 0).bind fun (v1 : Nat) => (zgR h this 0 0).bind fun (v6 : Nat) => (zcp h v1 (0 : Int32) v6 (0 : Int32) (4 : Int32)).bind fun (h11 : zH) => (zgI h11 p0 0 1).bind fun (v16 : Int32) => (zB v16).bind fun _ => (zp h11 this 0 1 (.int v16)).bind fun (h19 : zH) => (zgI h19 p0 0 2).bind fun (v24 : Int32) => (zp h19 this 0 2 (.int v24)).bind fun (h27 : zH) => (zgI h27 p0 0 3).bind fun (v32 : Int32) => (zp h27 this 0 3 (.int v32)).bind fun (h35 : zH) => (zgI h35 p0 0 4).bind fun (v40 : Int32) => (zp h35 this 0 4 (.int v40)).bind fun (h43 : zH) => (zgI h43 p0 0 5).bind fun (v48 : Int32) => (zp h43 this 0 5 (.int v48)).bind fun (h51 : zH) => (zgI h51 p0 0 6).bind fun (v56 : Int32) => (zp h51 this 0 6 (.int v56)).bind fun (h59 : zH) => (zgI h59 p0 0 7).bind fun (v64 : Int32) => (zp h59 this 0 7 (.int v64)).bind fun (h67 : zH) => some h67
theorem zn_X0_copyFrom : zNm yX0_copyFrom 1 := ⟨by decide +kernel, by decide +kernel⟩
set_option maxRecDepth 100000 in
set_option maxHeartbeats 4000000 in
theorem c_X0_copyFrom (l : Launch) (B : Nat) (D : va_G) (cA : Nat → ClassId) (n : Nat) (this : Nat) (p0 : Nat) (h : zH) : ∀ u, f_X0_copyFrom n this p0 h = some u → zM l B D cA yX0_copyFrom cX0_copyFrom 2 none 1 0 0 none [.ref (B + this), .ref (B + p0)] h ((fun h1 : zH => ((none : Option Value), h1)) u).1 ((fun h1 : zH => ((none : Option Value), h1)) u).2 := by
  unfold f_X0_copyFrom
  refine z_met (own := RX0) (fun h1 : zH => ((none : Option Value), h1)) rfl (by decide) rfl (fun Z C hr _ _ => ?_)
  have hz0 : (z00 Z).1 ≤ 0 ∧ (z00 Z).2.1 ≤ 0 := ⟨Nat.le_refl 0, Nat.le_refl 0⟩
  refine z_aload_n (pc := 0) C (zD D_X0_copyFrom_0 0 rfl) rfl 1 rfl ?_
  refine z_getR (pc := 1) C zc0 0 (by decide) q_56 (zD D_X0_copyFrom_0 1 rfl) (fun v1 => ?_)
  refine z_iconst (pc := 4) (v := 0) C (zD D_X0_copyFrom_0 2 rfl) (by decide) ?_
  refine z_aload_n (pc := 5) C (zD D_X0_copyFrom_0 3 rfl) rfl 0 rfl ?_
  refine z_getR (pc := 6) C zc0 0 (by decide) q_56 (zD D_X0_copyFrom_0 4 rfl) (fun v6 => ?_)
  refine z_iconst (pc := 9) (v := 0) C (zD D_X0_copyFrom_0 5 rfl) (by decide) ?_
  refine z_iconst (pc := 10) (v := 4) C (zD D_X0_copyFrom_0 6 rfl) (by decide) ?_
  refine z_copy (pc := 11) C q_124 q_112 q_113 q_114 (by decide) (zD D_X0_copyFrom_0 7 rfl) (fun h11 => ?_)
  refine z_aload_n (pc := 14) C (zD D_X0_copyFrom_0 8 rfl) rfl 0 rfl ?_
  refine z_aload_n (pc := 15) C (zD D_X0_copyFrom_0 9 rfl) rfl 1 rfl ?_
  refine z_getI (pc := 16) C zc0 1 (by decide) q_83 (zD D_X0_copyFrom_0 10 rfl) (fun v16 => ?_)
  refine z_bool (fun hb => ?_)
  refine z_putZ (pc := 19) C zc0 1 (by decide) q_83 rfl rfl (zD D_X0_copyFrom_0 11 rfl) hb (fun h19 => ?_)
  refine z_aload_n (pc := 22) C (zD D_X0_copyFrom_0 12 rfl) rfl 0 rfl ?_
  refine z_aload_n (pc := 23) C (zD D_X0_copyFrom_0 13 rfl) rfl 1 rfl ?_
  refine z_getI (pc := 24) C zc0 2 (by decide) q_84 (zD D_X0_copyFrom_0 14 rfl) (fun v24 => ?_)
  refine z_putI (pc := 27) C zc0 2 (by decide) q_84 rfl rfl (zD D_X0_copyFrom_0 15 rfl) (fun h27 => ?_)
  refine z_aload_n (pc := 30) C (zD D_X0_copyFrom_0 16 rfl) rfl 0 rfl ?_
  refine z_aload_n (pc := 31) C (zD D_X0_copyFrom_0 17 rfl) rfl 1 rfl ?_
  refine z_getI (pc := 32) C zc0 3 (by decide) q_85 (zD D_X0_copyFrom_0 18 rfl) (fun v32 => ?_)
  refine z_putI (pc := 35) C zc0 3 (by decide) q_85 rfl rfl (zD D_X0_copyFrom_0 19 rfl) (fun h35 => ?_)
  refine z_aload_n (pc := 38) C (zD D_X0_copyFrom_0 20 rfl) rfl 0 rfl ?_
  refine z_aload_n (pc := 39) C (zD D_X0_copyFrom_0 21 rfl) rfl 1 rfl ?_
  refine z_getI (pc := 40) C zc0 4 (by decide) q_86 (zD D_X0_copyFrom_0 22 rfl) (fun v40 => ?_)
  refine z_putI (pc := 43) C zc0 4 (by decide) q_86 rfl rfl (zD D_X0_copyFrom_0 23 rfl) (fun h43 => ?_)
  refine z_aload_n (pc := 46) C (zD D_X0_copyFrom_0 24 rfl) rfl 0 rfl ?_
  refine z_aload_n (pc := 47) C (zD D_X0_copyFrom_0 25 rfl) rfl 1 rfl ?_
  refine z_getI (pc := 48) C zc0 5 (by decide) q_87 (zD D_X0_copyFrom_0 26 rfl) (fun v48 => ?_)
  refine z_putI (pc := 51) C zc0 5 (by decide) q_87 rfl rfl (zD D_X0_copyFrom_0 27 rfl) (fun h51 => ?_)
  refine z_aload_n (pc := 54) C (zD D_X0_copyFrom_0 28 rfl) rfl 0 rfl ?_
  refine z_aload_n (pc := 55) C (zD D_X0_copyFrom_0 29 rfl) rfl 1 rfl ?_
  refine z_getI (pc := 56) C zc0 6 (by decide) q_88 (zD D_X0_copyFrom_0 30 rfl) (fun v56 => ?_)
  refine z_putI (pc := 59) C zc0 6 (by decide) q_88 rfl rfl (zD D_X0_copyFrom_0 31 rfl) (fun h59 => ?_)
  refine z_aload_n (pc := 62) C (zD D_X0_copyFrom_0 32 rfl) rfl 0 rfl ?_
  refine z_aload_n (pc := 63) C (zD D_X0_copyFrom_0 33 rfl) rfl 1 rfl ?_
  refine z_getI (pc := 64) C zc0 7 (by decide) q_89 (zD D_X0_copyFrom_0 34 rfl) (fun v64 => ?_)
  refine z_putI (pc := 67) C zc0 7 (by decide) q_89 rfl rfl (zD D_X0_copyFrom_0 35 rfl) (fun h67 => ?_)
  exact z_vret (pc := 70) C hr rfl (zD D_X0_copyFrom_0 36 rfl)
def f_X0_exchangedShares (n : Nat) (this : Nat) (h : zH) : Option (Int32) := zfix2 (fun rec4 (a1_4 : Int32) (a2_4 : Int32) => if (4 : Int32) ≤ a2_4 then (some a1_4) else ((zgR h this 0 0).bind fun (v11 : Nat) => (zai h v11 a2_4).bind fun (v15 : Int32) => zlet ((a1_4 + (v15 / (2 : Int32)))) fun (x19 : Int32) => zlet (a2_4 + 1) fun (x20 : Int32) => rec4 x19 x20)) n (0 : Int32) (0 : Int32)
theorem zn_X0_exchangedShares : zNm yX0_exchangedShares 0 := ⟨by decide +kernel, by decide +kernel⟩
set_option maxRecDepth 100000 in
set_option maxHeartbeats 4000000 in
theorem c_X0_exchangedShares (l : Launch) (B : Nat) (D : va_G) (cA : Nat → ClassId) (n : Nat) (this : Nat) (h : zH) : ∀ u, f_X0_exchangedShares n this h = some u → zM l B D cA yX0_exchangedShares cX0_exchangedShares 3 (some .int) 1 0 0 none [.ref (B + this)] h ((fun r : Int32 => (some (Value.int r), h)) u).1 ((fun r : Int32 => (some (Value.int r), h)) u).2 := by
  unfold f_X0_exchangedShares
  refine z_met (own := RX0) (fun r : Int32 => (some (Value.int r), h)) rfl (by decide) rfl (fun Z C hr _ _ => ?_)
  have hz0 : (z00 Z).1 ≤ 0 ∧ (z00 Z).2.1 ≤ 0 := ⟨Nat.le_refl 0, Nat.le_refl 0⟩
  refine z_iconst (pc := 0) (v := 0) C (zD D_X0_exchangedShares_0 0 rfl) (by decide) ?_
  refine z_istore_n (pc := 1) (lv' := [(1, .int (0 : Int32)), (0, .ref (B + this))]) C (zD D_X0_exchangedShares_0 1 rfl) rfl (by decide) rfl ?_
  refine z_iconst (pc := 2) (v := 0) C (zD D_X0_exchangedShares_0 2 rfl) (by decide) ?_
  refine z_istore_n (pc := 3) (lv' := [(2, .int (0 : Int32)), (1, .int (0 : Int32)), (0, .ref (B + this))]) C (zD D_X0_exchangedShares_0 3 rfl) rfl (by decide) rfl ?_
  refine z_sub [2, 1, 0] (lv' := [(0, .ref (B + this)), (1, .int (0 : Int32)), (2, .int (0 : Int32))]) rfl ?_
  refine z_fix2 (fun g4 => ∀ (a1_4 : Int32) (a2_4 : Int32), zJ B Z (zEnd B Z (fun r : Int32 => (some (Value.int r), h)) 0 0) (g4 a1_4 a2_4) 4 [(0, .ref (B + this)), (1, .int a1_4), (2, .int a2_4)] [] h (z00 Z)) (fun _ _ => z_none) (fun rec4 hrec4 a1_4 a2_4 => ?_) n (0 : Int32) (0 : Int32)
  refine z_iload_n (pc := 4) C (zD D_X0_exchangedShares_0 4 rfl) rfl 2 rfl ?_
  refine z_iconst (pc := 5) (v := 4) C (zD D_X0_exchangedShares_0 5 rfl) (by decide) ?_
  refine z_icmp_ge (pc := 6) C (zD D_X0_exchangedShares_0 6 rfl) (tgt := 26) (by decide) (fun _ => ?_) (fun _ => ?_)
  · refine z_iload_n (pc := 26) C (zD D_X0_exchangedShares_0 18 rfl) rfl 1 rfl ?_
    exact z_iret (pc := 27) C hr rfl (zD D_X0_exchangedShares_0 19 rfl)
  · refine z_iload_n (pc := 9) C (zD D_X0_exchangedShares_0 7 rfl) rfl 1 rfl ?_
    refine z_aload_n (pc := 10) C (zD D_X0_exchangedShares_0 8 rfl) rfl 0 rfl ?_
    refine z_getR (pc := 11) C zc0 0 (by decide) q_56 (zD D_X0_exchangedShares_0 9 rfl) (fun v11 => ?_)
    refine z_iload_n (pc := 14) C (zD D_X0_exchangedShares_0 10 rfl) rfl 2 rfl ?_
    refine z_aiload (pc := 15) C (zD D_X0_exchangedShares_0 11 rfl) (fun v15 => ?_)
    refine z_iconst (pc := 16) (v := 2) C (zD D_X0_exchangedShares_0 12 rfl) (by decide) ?_
    refine z_idivc (pc := 17) C (zD D_X0_exchangedShares_0 13 rfl) (by decide) ?_
    refine z_iadd (pc := 18) C (zD D_X0_exchangedShares_0 14 rfl) ?_
    refine z_istore_nL (pc := 19) (lv' := fun x19 => [(1, .int x19), (0, .ref (B + this)), (2, .int a2_4)]) C (zD D_X0_exchangedShares_0 15 rfl) rfl (by decide) (fun _ => rfl) (fun x19 => ?_)
    refine z_iincL (pc := 20) (lv' := fun x20 => [(2, .int x20), (1, .int x19), (0, .ref (B + this))]) C (zD D_X0_exchangedShares_0 16 rfl) 2 rfl (v := a2_4 + 1) rfl (by decide) (fun _ => rfl) (fun x20 => ?_)
    refine z_goto (pc := 23) C (zD D_X0_exchangedShares_0 17 rfl) (tgt := 4) (by decide) ?_
    refine z_sub [2, 1, 0] (lv' := [(0, .ref (B + this)), (1, .int x19), (2, .int x20)]) rfl ?_
    exact hrec4 x19 x20
def f_X0_fall (n : Nat) (this : Nat) (h : zH) : Option (zH) := (zgI h this 0 4).bind fun (v1 : Int32) => if v1 ≤ 0 then (some h) else ((zgI h this 0 4).bind fun (v9 : Int32) => (zp h this 0 4 (.int (v9 - (1 : Int32)))).bind fun (h14 : zH) => some h14)
theorem zn_X0_fall : zNm yX0_fall 0 := ⟨by decide +kernel, by decide +kernel⟩
set_option maxRecDepth 100000 in
set_option maxHeartbeats 4000000 in
theorem c_X0_fall (l : Launch) (B : Nat) (D : va_G) (cA : Nat → ClassId) (n : Nat) (this : Nat) (h : zH) : ∀ u, f_X0_fall n this h = some u → zM l B D cA yX0_fall cX0_fall 1 none 1 0 0 none [.ref (B + this)] h ((fun h1 : zH => ((none : Option Value), h1)) u).1 ((fun h1 : zH => ((none : Option Value), h1)) u).2 := by
  unfold f_X0_fall
  refine z_met (own := RX0) (fun h1 : zH => ((none : Option Value), h1)) rfl (by decide) rfl (fun Z C hr _ _ => ?_)
  have hz0 : (z00 Z).1 ≤ 0 ∧ (z00 Z).2.1 ≤ 0 := ⟨Nat.le_refl 0, Nat.le_refl 0⟩
  refine z_aload_n (pc := 0) C (zD D_X0_fall_0 0 rfl) rfl 0 rfl ?_
  refine z_getI (pc := 1) C zc0 4 (by decide) q_86 (zD D_X0_fall_0 1 rfl) (fun v1 => ?_)
  refine z_if_le (pc := 4) C (zD D_X0_fall_0 2 rfl) (tgt := 17) (by decide) (fun _ => ?_) (fun _ => ?_)
  · exact z_vret (pc := 17) C hr rfl (zD D_X0_fall_0 9 rfl)
  · refine z_aload_n (pc := 7) C (zD D_X0_fall_0 3 rfl) rfl 0 rfl ?_
    refine z_dup (pc := 8) C (zD D_X0_fall_0 4 rfl) rfl ?_
    refine z_getI (pc := 9) C zc0 4 (by decide) q_86 (zD D_X0_fall_0 5 rfl) (fun v9 => ?_)
    refine z_iconst (pc := 12) (v := 1) C (zD D_X0_fall_0 6 rfl) (by decide) ?_
    refine z_isub (pc := 13) C (zD D_X0_fall_0 7 rfl) ?_
    refine z_putI (pc := 14) C zc0 4 (by decide) q_86 rfl rfl (zD D_X0_fall_0 8 rfl) (fun h14 => ?_)
    exact z_vret (pc := 17) C hr rfl (zD D_X0_fall_0 9 rfl)
def f_X0_findPresident (n : Nat) (this : Nat) (h : zH) : Option (zH) := (zgI h this 0 6).bind fun (v1 : Int32) => zlet (fun (s0_21 : Int32) => zlet (fun (s0_34 : Int32) => zfix3 (fun rec37 (a1_37 : Int32) (a2_37 : Int32) (a3_37 : Int32) => if (4 : Int32) ≤ a3_37 then ((zp h this 0 6 (.int a2_37)).bind fun (h69 : zH) => some h69) else ((zgR h this 0 0).bind fun (v43 : Nat) => (zai h v43 a3_37).bind fun (v47 : Int32) => zlet (fun (a1_61 : Int32) (a2_61 : Int32) => zlet (a3_37 + 1) fun (x61 : Int32) => rec37 a1_61 a2_61 x61) fun K61 => if v47 ≤ a1_37 then (K61 a1_37 a2_37) else ((zgR h this 0 0).bind fun (v53 : Nat) => (zai h v53 a3_37).bind fun (v57 : Int32) => K61 v57 a3_37))) n s0_21 s0_34 (0 : Int32)) fun K34 => if s0_21 ≤ 0 then (K34 (-1 : Int32)) else ((zgI h this 0 6).bind fun (v27 : Int32) => K34 v27)) fun K21 => if v1 = (-1 : Int32) then (K21 (0 : Int32)) else ((zgR h this 0 0).bind fun (v13 : Nat) => (zgI h this 0 6).bind fun (v17 : Int32) => (zai h v13 v17).bind fun (v20 : Int32) => K21 v20)
theorem zn_X0_findPresident : zNm yX0_findPresident 0 := ⟨by decide +kernel, by decide +kernel⟩
set_option maxRecDepth 100000 in
set_option maxHeartbeats 4000000 in
theorem c_X0_findPresident (l : Launch) (B : Nat) (D : va_G) (cA : Nat → ClassId) (n : Nat) (this : Nat) (h : zH) : ∀ u, f_X0_findPresident n this h = some u → zM l B D cA yX0_findPresident cX0_findPresident 4 none 1 0 0 none [.ref (B + this)] h ((fun h1 : zH => ((none : Option Value), h1)) u).1 ((fun h1 : zH => ((none : Option Value), h1)) u).2 := by
  unfold f_X0_findPresident
  refine z_met (own := RX0) (fun h1 : zH => ((none : Option Value), h1)) rfl (by decide) rfl (fun Z C hr _ _ => ?_)
  have hz0 : (z00 Z).1 ≤ 0 ∧ (z00 Z).2.1 ≤ 0 := ⟨Nat.le_refl 0, Nat.le_refl 0⟩
  refine z_aload_n (pc := 0) C (zD D_X0_findPresident_0 0 rfl) rfl 0 rfl ?_
  refine z_getI (pc := 1) C zc0 6 (by decide) q_88 (zD D_X0_findPresident_0 1 rfl) (fun v1 => ?_)
  refine z_iconst (pc := 4) (v := -1) C (zD D_X0_findPresident_0 2 rfl) (by decide) ?_
  refine z_letg (fun K21 => ∀ (s0_21 : Int32), zJ B Z (zEnd B Z (fun h1 : zH => ((none : Option Value), h1)) 0 0) (K21 s0_21) 21 [(0, .ref (B + this))] [.int s0_21] h (z00 Z)) (fun s0_21 => ?_) (fun K21 hK21 => ?_)
  · refine z_istore_n (pc := 21) (lv' := [(1, .int s0_21), (0, .ref (B + this))]) C (zD D_X0_findPresident_0 11 rfl) rfl (by decide) rfl ?_
    refine z_iload_n (pc := 22) C (zD D_X0_findPresident_0 12 rfl) rfl 0 rfl ?_
    refine z_letg (fun K34 => ∀ (s0_34 : Int32), zJ B Z (zEnd B Z (fun h1 : zH => ((none : Option Value), h1)) 0 0) (K34 s0_34) 34 [(0, .ref (B + this)), (1, .int s0_21)] [.int s0_34] h (z00 Z)) (fun s0_34 => ?_) (fun K34 hK34 => ?_)
    · refine z_istore_n (pc := 34) (lv' := [(2, .int s0_34), (0, .ref (B + this)), (1, .int s0_21)]) C (zD D_X0_findPresident_0 18 rfl) rfl (by decide) rfl ?_
      refine z_iconst (pc := 35) (v := 0) C (zD D_X0_findPresident_0 19 rfl) (by decide) ?_
      refine z_istore_n (pc := 36) (lv' := [(3, .int (0 : Int32)), (2, .int s0_34), (0, .ref (B + this)), (1, .int s0_21)]) C (zD D_X0_findPresident_0 20 rfl) rfl (by decide) rfl ?_
      refine z_sub [2, 3, 1, 0] (lv' := [(0, .ref (B + this)), (1, .int s0_21), (2, .int s0_34), (3, .int (0 : Int32))]) rfl ?_
      refine z_fix3 (fun g37 => ∀ (a1_37 : Int32) (a2_37 : Int32) (a3_37 : Int32), zJ B Z (zEnd B Z (fun h1 : zH => ((none : Option Value), h1)) 0 0) (g37 a1_37 a2_37 a3_37) 37 [(0, .ref (B + this)), (1, .int a1_37), (2, .int a2_37), (3, .int a3_37)] [] h (z00 Z)) (fun _ _ _ => z_none) (fun rec37 hrec37 a1_37 a2_37 a3_37 => ?_) n s0_21 s0_34 (0 : Int32)
      refine z_iload_n (pc := 37) C (zD D_X0_findPresident_0 21 rfl) rfl 3 rfl ?_
      refine z_iconst (pc := 38) (v := 4) C (zD D_X0_findPresident_0 22 rfl) (by decide) ?_
      refine z_icmp_ge (pc := 39) C (zD D_X0_findPresident_0 23 rfl) (tgt := 67) (by decide) (fun _ => ?_) (fun _ => ?_)
      · refine z_aload_n (pc := 67) C (zD D_X0_findPresident_0 39 rfl) rfl 0 rfl ?_
        refine z_iload_n (pc := 68) C (zD D_X0_findPresident_0 40 rfl) rfl 2 rfl ?_
        refine z_putI (pc := 69) C zc0 6 (by decide) q_88 rfl rfl (zD D_X0_findPresident_0 41 rfl) (fun h69 => ?_)
        exact z_vret (pc := 72) C hr rfl (zD D_X0_findPresident_0 42 rfl)
      · refine z_aload_n (pc := 42) C (zD D_X0_findPresident_0 24 rfl) rfl 0 rfl ?_
        refine z_getR (pc := 43) C zc0 0 (by decide) q_56 (zD D_X0_findPresident_0 25 rfl) (fun v43 => ?_)
        refine z_iload_n (pc := 46) C (zD D_X0_findPresident_0 26 rfl) rfl 3 rfl ?_
        refine z_aiload (pc := 47) C (zD D_X0_findPresident_0 27 rfl) (fun v47 => ?_)
        refine z_iload_n (pc := 48) C (zD D_X0_findPresident_0 28 rfl) rfl 1 rfl ?_
        refine z_letg (fun K61 => ∀ (a1_61 : Int32) (a2_61 : Int32), zJ B Z (zEnd B Z (fun h1 : zH => ((none : Option Value), h1)) 0 0) (K61 a1_61 a2_61) 61 [(0, .ref (B + this)), (1, .int a1_61), (2, .int a2_61), (3, .int a3_37)] [] h (z00 Z)) (fun a1_61 a2_61 => ?_) (fun K61 hK61 => ?_)
        · refine z_iincL (pc := 61) (lv' := fun x61 => [(3, .int x61), (0, .ref (B + this)), (1, .int a1_61), (2, .int a2_61)]) C (zD D_X0_findPresident_0 37 rfl) 3 rfl (v := a3_37 + 1) rfl (by decide) (fun _ => rfl) (fun x61 => ?_)
          refine z_goto (pc := 64) C (zD D_X0_findPresident_0 38 rfl) (tgt := 37) (by decide) ?_
          refine z_sub [1, 2, 3, 0] (lv' := [(0, .ref (B + this)), (1, .int a1_61), (2, .int a2_61), (3, .int x61)]) rfl ?_
          exact hrec37 a1_61 a2_61 x61
        refine z_icmp_le (pc := 49) C (zD D_X0_findPresident_0 29 rfl) (tgt := 61) (by decide) (fun _ => ?_) (fun _ => ?_)
        · exact hK61 a1_37 a2_37
        · refine z_aload_n (pc := 52) C (zD D_X0_findPresident_0 30 rfl) rfl 0 rfl ?_
          refine z_getR (pc := 53) C zc0 0 (by decide) q_56 (zD D_X0_findPresident_0 31 rfl) (fun v53 => ?_)
          refine z_iload_n (pc := 56) C (zD D_X0_findPresident_0 32 rfl) rfl 3 rfl ?_
          refine z_aiload (pc := 57) C (zD D_X0_findPresident_0 33 rfl) (fun v57 => ?_)
          refine z_istore_n (pc := 58) (lv' := [(1, .int v57), (0, .ref (B + this)), (2, .int a2_37), (3, .int a3_37)]) C (zD D_X0_findPresident_0 34 rfl) rfl (by decide) rfl ?_
          refine z_iload_n (pc := 59) C (zD D_X0_findPresident_0 35 rfl) rfl 3 rfl ?_
          refine z_istore_n (pc := 60) (lv' := [(2, .int a3_37), (1, .int v57), (0, .ref (B + this)), (3, .int a3_37)]) C (zD D_X0_findPresident_0 36 rfl) rfl (by decide) rfl ?_
          refine z_sub [2, 1, 0, 3] (lv' := [(0, .ref (B + this)), (1, .int v57), (2, .int a3_37), (3, .int a3_37)]) rfl ?_
          exact hK61 v57 a3_37
    refine z_if_le (pc := 23) C (zD D_X0_findPresident_0 13 rfl) (tgt := 33) (by decide) (fun _ => ?_) (fun _ => ?_)
    · refine z_iconst (pc := 33) (v := -1) C (zD D_X0_findPresident_0 17 rfl) (by decide) ?_
      refine z_sub [1, 0] (lv' := [(0, .ref (B + this)), (1, .int s0_21)]) rfl ?_
      exact hK34 (-1 : Int32)
    · refine z_aload_n (pc := 26) C (zD D_X0_findPresident_0 14 rfl) rfl 1 rfl ?_
      refine z_getI (pc := 27) C zc0 6 (by decide) q_88 (zD D_X0_findPresident_0 15 rfl) (fun v27 => ?_)
      refine z_goto (pc := 30) C (zD D_X0_findPresident_0 16 rfl) (tgt := 34) (by decide) ?_
      refine z_sub [1, 0] (lv' := [(0, .ref (B + this)), (1, .int s0_21)]) rfl ?_
      exact hK34 v27
  refine z_icmp_ne (pc := 5) C (zD D_X0_findPresident_0 3 rfl) (tgt := 12) (by decide) (fun _ => ?_) (fun _ => ?_)
  · refine z_aload_n (pc := 12) C (zD D_X0_findPresident_0 6 rfl) rfl 0 rfl ?_
    refine z_getR (pc := 13) C zc0 0 (by decide) q_56 (zD D_X0_findPresident_0 7 rfl) (fun v13 => ?_)
    refine z_aload_n (pc := 16) C (zD D_X0_findPresident_0 8 rfl) rfl 0 rfl ?_
    refine z_getI (pc := 17) C zc0 6 (by decide) q_88 (zD D_X0_findPresident_0 9 rfl) (fun v17 => ?_)
    refine z_aiload (pc := 20) C (zD D_X0_findPresident_0 10 rfl) (fun v20 => ?_)
    exact hK21 v20
  · refine z_iconst (pc := 8) (v := 0) C (zD D_X0_findPresident_0 4 rfl) (by decide) ?_
    refine z_goto (pc := 9) C (zD D_X0_findPresident_0 5 rfl) (tgt := 21) (by decide) ?_
    exact hK21 (0 : Int32)
def f_X0_openAt (n : Nat) (this : Nat) (p0 : Int32) (p1 : Int32) (h : zH) : Option (zH) := (zp h this 0 1 (.int (1 : Int32))).bind fun (h2 : zH) => (zp h2 this 0 2 (.int p0)).bind fun (h7 : zH) => (zp h7 this 0 4 (.int p1)).bind fun (h12 : zH) => (zp h12 this 0 5 (.int (2 : Int32))).bind fun (h17 : zH) => some h17
theorem zn_X0_openAt : zNm yX0_openAt 2 := ⟨by decide +kernel, by decide +kernel⟩
set_option maxRecDepth 100000 in
set_option maxHeartbeats 4000000 in
theorem c_X0_openAt (l : Launch) (B : Nat) (D : va_G) (cA : Nat → ClassId) (n : Nat) (this : Nat) (p0 : Int32) (p1 : Int32) (h : zH) : ∀ u, f_X0_openAt n this p0 p1 h = some u → zM l B D cA yX0_openAt cX0_openAt 3 none 1 0 0 none [.ref (B + this), .int p0, .int p1] h ((fun h1 : zH => ((none : Option Value), h1)) u).1 ((fun h1 : zH => ((none : Option Value), h1)) u).2 := by
  unfold f_X0_openAt
  refine z_met (own := RX0) (fun h1 : zH => ((none : Option Value), h1)) rfl (by decide) rfl (fun Z C hr _ _ => ?_)
  have hz0 : (z00 Z).1 ≤ 0 ∧ (z00 Z).2.1 ≤ 0 := ⟨Nat.le_refl 0, Nat.le_refl 0⟩
  refine z_aload_n (pc := 0) C (zD D_X0_openAt_0 0 rfl) rfl 0 rfl ?_
  refine z_iconst (pc := 1) (v := 1) C (zD D_X0_openAt_0 1 rfl) (by decide) ?_
  refine z_putZ (pc := 2) C zc0 1 (by decide) q_83 rfl rfl (zD D_X0_openAt_0 2 rfl) (by decide) (fun h2 => ?_)
  refine z_aload_n (pc := 5) C (zD D_X0_openAt_0 3 rfl) rfl 0 rfl ?_
  refine z_iload_n (pc := 6) C (zD D_X0_openAt_0 4 rfl) rfl 1 rfl ?_
  refine z_putI (pc := 7) C zc0 2 (by decide) q_84 rfl rfl (zD D_X0_openAt_0 5 rfl) (fun h7 => ?_)
  refine z_aload_n (pc := 10) C (zD D_X0_openAt_0 6 rfl) rfl 0 rfl ?_
  refine z_iload_n (pc := 11) C (zD D_X0_openAt_0 7 rfl) rfl 2 rfl ?_
  refine z_putI (pc := 12) C zc0 4 (by decide) q_86 rfl rfl (zD D_X0_openAt_0 8 rfl) (fun h12 => ?_)
  refine z_aload_n (pc := 15) C (zD D_X0_openAt_0 9 rfl) rfl 0 rfl ?_
  refine z_iconst (pc := 16) (v := 2) C (zD D_X0_openAt_0 10 rfl) (by decide) ?_
  refine z_putI (pc := 17) C zc0 5 (by decide) q_87 rfl rfl (zD D_X0_openAt_0 11 rfl) (fun h17 => ?_)
  exact z_vret (pc := 20) C hr rfl (zD D_X0_openAt_0 12 rfl)
def f_X0_priceAt (n : Nat) (p0 : Int32) (h : zH) : Option (Int32) := some ((20 : Int32) + ((10 : Int32) * p0))
theorem zn_X0_priceAt : zNm yX0_priceAt 1 := ⟨by decide +kernel, by decide +kernel⟩
set_option maxRecDepth 100000 in
set_option maxHeartbeats 4000000 in
theorem c_X0_priceAt (l : Launch) (B : Nat) (D : va_G) (cA : Nat → ClassId) (n : Nat) (p0 : Int32) (h : zH) : ∀ u, f_X0_priceAt n p0 h = some u → zM l B D cA yX0_priceAt cX0_priceAt 1 (some .int) 1 0 0 none [.int p0] h ((fun r : Int32 => (some (Value.int r), h)) u).1 ((fun r : Int32 => (some (Value.int r), h)) u).2 := by
  unfold f_X0_priceAt
  refine z_met (own := RX0) (fun r : Int32 => (some (Value.int r), h)) rfl (by decide) rfl (fun Z C hr _ _ => ?_)
  have hz0 : (z00 Z).1 ≤ 0 ∧ (z00 Z).2.1 ≤ 0 := ⟨Nat.le_refl 0, Nat.le_refl 0⟩
  refine z_bipush (pc := 0) (v := 20) C (zD D_X0_priceAt_0 0 rfl) (by decide) ?_
  refine z_bipush (pc := 2) (v := 10) C (zD D_X0_priceAt_0 1 rfl) (by decide) ?_
  refine z_iload_n (pc := 4) C (zD D_X0_priceAt_0 2 rfl) rfl 0 rfl ?_
  refine z_imul (pc := 5) C (zD D_X0_priceAt_0 3 rfl) ?_
  refine z_iadd (pc := 6) C (zD D_X0_priceAt_0 4 rfl) ?_
  exact z_iret (pc := 7) C hr rfl (zD D_X0_priceAt_0 5 rfl)
def f_X0_rise (n : Nat) (this : Nat) (h : zH) : Option (zH) := (zgI h this 0 4).bind fun (v1 : Int32) => if (11 : Int32) ≤ v1 then (some h) else ((zgI h this 0 4).bind fun (v11 : Int32) => (zp h this 0 4 (.int (v11 + (1 : Int32)))).bind fun (h16 : zH) => some h16)
theorem zn_X0_rise : zNm yX0_rise 0 := ⟨by decide +kernel, by decide +kernel⟩
set_option maxRecDepth 100000 in
set_option maxHeartbeats 4000000 in
theorem c_X0_rise (l : Launch) (B : Nat) (D : va_G) (cA : Nat → ClassId) (n : Nat) (this : Nat) (h : zH) : ∀ u, f_X0_rise n this h = some u → zM l B D cA yX0_rise cX0_rise 1 none 1 0 0 none [.ref (B + this)] h ((fun h1 : zH => ((none : Option Value), h1)) u).1 ((fun h1 : zH => ((none : Option Value), h1)) u).2 := by
  unfold f_X0_rise
  refine z_met (own := RX0) (fun h1 : zH => ((none : Option Value), h1)) rfl (by decide) rfl (fun Z C hr _ _ => ?_)
  have hz0 : (z00 Z).1 ≤ 0 ∧ (z00 Z).2.1 ≤ 0 := ⟨Nat.le_refl 0, Nat.le_refl 0⟩
  refine z_aload_n (pc := 0) C (zD D_X0_rise_0 0 rfl) rfl 0 rfl ?_
  refine z_getI (pc := 1) C zc0 4 (by decide) q_86 (zD D_X0_rise_0 1 rfl) (fun v1 => ?_)
  refine z_bipush (pc := 4) (v := 11) C (zD D_X0_rise_0 2 rfl) (by decide) ?_
  refine z_icmp_ge (pc := 6) C (zD D_X0_rise_0 3 rfl) (tgt := 19) (by decide) (fun _ => ?_) (fun _ => ?_)
  · exact z_vret (pc := 19) C hr rfl (zD D_X0_rise_0 10 rfl)
  · refine z_aload_n (pc := 9) C (zD D_X0_rise_0 4 rfl) rfl 0 rfl ?_
    refine z_dup (pc := 10) C (zD D_X0_rise_0 5 rfl) rfl ?_
    refine z_getI (pc := 11) C zc0 4 (by decide) q_86 (zD D_X0_rise_0 6 rfl) (fun v11 => ?_)
    refine z_iconst (pc := 14) (v := 1) C (zD D_X0_rise_0 7 rfl) (by decide) ?_
    refine z_iadd (pc := 15) C (zD D_X0_rise_0 8 rfl) ?_
    refine z_putI (pc := 16) C zc0 4 (by decide) q_86 rfl rfl (zD D_X0_rise_0 9 rfl) (fun h16 => ?_)
    exact z_vret (pc := 19) C hr rfl (zD D_X0_rise_0 10 rfl)
def f_X0_close (n : Nat) (this : Nat) (h : zH) : Option (zH) := (zgR h this 0 0).bind fun (v1 : Nat) => (f_J7_fill_53178 n v1 (0 : Int32) h).bind fun (h5 : zH) => (zp h5 this 0 1 (.int (0 : Int32))).bind fun (h10 : zH) => (zp h10 this 0 2 (.int (0 : Int32))).bind fun (h15 : zH) => (zp h15 this 0 3 (.int (0 : Int32))).bind fun (h20 : zH) => (zp h20 this 0 4 (.int (0 : Int32))).bind fun (h25 : zH) => (zp h25 this 0 5 (.int (0 : Int32))).bind fun (h30 : zH) => (zp h30 this 0 6 (.int (-1 : Int32))).bind fun (h35 : zH) => (zp h35 this 0 7 (.int (0 : Int32))).bind fun (h40 : zH) => some h40
theorem zn_X0_close : zNm yX0_close 0 := ⟨by decide +kernel, by decide +kernel⟩
set_option maxRecDepth 100000 in
set_option maxHeartbeats 4000000 in
theorem c_X0_close (l : Launch) (B : Nat) (D : va_G) (cA : Nat → ClassId) (n : Nat) (this : Nat) (h : zH) : ∀ u, f_X0_close n this h = some u → zM l B D cA yX0_close cX0_close 1 none 2 0 0 none [.ref (B + this)] h ((fun h1 : zH => ((none : Option Value), h1)) u).1 ((fun h1 : zH => ((none : Option Value), h1)) u).2 := by
  unfold f_X0_close
  refine z_met (own := RX0) (fun h1 : zH => ((none : Option Value), h1)) rfl (by decide) rfl (fun Z C hr _ _ => ?_)
  have hz0 : (z00 Z).1 ≤ 0 ∧ (z00 Z).2.1 ≤ 0 := ⟨Nat.le_refl 0, Nat.le_refl 0⟩
  refine z_aload_n (pc := 0) C (zD D_X0_close_0 0 rfl) rfl 0 rfl ?_
  refine z_getR (pc := 1) C zc0 0 (by decide) q_56 (zD D_X0_close_0 1 rfl) (fun v1 => ?_)
  refine z_iconst (pc := 4) (v := 0) C (zD D_X0_close_0 2 rfl) (by decide) ?_
  refine z_csV (pc := 5) (As := [.ref (B + v1), .int (0 : Int32)]) C [] (c_J7_fill_53178 _ _ _ _ n v1 (0 : Int32) h) zn_J7_fill_53178 (by decide) (by decide) hz0 q_90 q_76 q_77 q_78 rfl rfl rfl (zD D_X0_close_0 3 rfl) (fun h5 => ?_)
  refine z_aload_n (pc := 8) C (zD D_X0_close_0 4 rfl) rfl 0 rfl ?_
  refine z_iconst (pc := 9) (v := 0) C (zD D_X0_close_0 5 rfl) (by decide) ?_
  refine z_putZ (pc := 10) C zc0 1 (by decide) q_83 rfl rfl (zD D_X0_close_0 6 rfl) (by decide) (fun h10 => ?_)
  refine z_aload_n (pc := 13) C (zD D_X0_close_0 7 rfl) rfl 0 rfl ?_
  refine z_iconst (pc := 14) (v := 0) C (zD D_X0_close_0 8 rfl) (by decide) ?_
  refine z_putI (pc := 15) C zc0 2 (by decide) q_84 rfl rfl (zD D_X0_close_0 9 rfl) (fun h15 => ?_)
  refine z_aload_n (pc := 18) C (zD D_X0_close_0 10 rfl) rfl 0 rfl ?_
  refine z_iconst (pc := 19) (v := 0) C (zD D_X0_close_0 11 rfl) (by decide) ?_
  refine z_putI (pc := 20) C zc0 3 (by decide) q_85 rfl rfl (zD D_X0_close_0 12 rfl) (fun h20 => ?_)
  refine z_aload_n (pc := 23) C (zD D_X0_close_0 13 rfl) rfl 0 rfl ?_
  refine z_iconst (pc := 24) (v := 0) C (zD D_X0_close_0 14 rfl) (by decide) ?_
  refine z_putI (pc := 25) C zc0 4 (by decide) q_86 rfl rfl (zD D_X0_close_0 15 rfl) (fun h25 => ?_)
  refine z_aload_n (pc := 28) C (zD D_X0_close_0 16 rfl) rfl 0 rfl ?_
  refine z_iconst (pc := 29) (v := 0) C (zD D_X0_close_0 17 rfl) (by decide) ?_
  refine z_putI (pc := 30) C zc0 5 (by decide) q_87 rfl rfl (zD D_X0_close_0 18 rfl) (fun h30 => ?_)
  refine z_aload_n (pc := 33) C (zD D_X0_close_0 19 rfl) rfl 0 rfl ?_
  refine z_iconst (pc := 34) (v := -1) C (zD D_X0_close_0 20 rfl) (by decide) ?_
  refine z_putI (pc := 35) C zc0 6 (by decide) q_88 rfl rfl (zD D_X0_close_0 21 rfl) (fun h35 => ?_)
  refine z_aload_n (pc := 38) C (zD D_X0_close_0 22 rfl) rfl 0 rfl ?_
  refine z_iconst (pc := 39) (v := 0) C (zD D_X0_close_0 23 rfl) (by decide) ?_
  refine z_putI (pc := 40) C zc0 7 (by decide) q_89 rfl rfl (zD D_X0_close_0 24 rfl) (fun h40 => ?_)
  exact z_vret (pc := 43) C hr rfl (zD D_X0_close_0 25 rfl)
def f_X0_price (n : Nat) (this : Nat) (h : zH) : Option (Int32) := (zgI h this 0 4).bind fun (v1 : Int32) => (f_X0_priceAt n v1 h).bind fun (r4 : Int32) => some r4
theorem zn_X0_price : zNm yX0_price 0 := ⟨by decide +kernel, by decide +kernel⟩
set_option maxRecDepth 100000 in
set_option maxHeartbeats 4000000 in
theorem c_X0_price (l : Launch) (B : Nat) (D : va_G) (cA : Nat → ClassId) (n : Nat) (this : Nat) (h : zH) : ∀ u, f_X0_price n this h = some u → zM l B D cA yX0_price cX0_price 1 (some .int) 2 0 0 none [.ref (B + this)] h ((fun r : Int32 => (some (Value.int r), h)) u).1 ((fun r : Int32 => (some (Value.int r), h)) u).2 := by
  unfold f_X0_price
  refine z_met (own := RX0) (fun r : Int32 => (some (Value.int r), h)) rfl (by decide) rfl (fun Z C hr _ _ => ?_)
  have hz0 : (z00 Z).1 ≤ 0 ∧ (z00 Z).2.1 ≤ 0 := ⟨Nat.le_refl 0, Nat.le_refl 0⟩
  refine z_aload_n (pc := 0) C (zD D_X0_price_0 0 rfl) rfl 0 rfl ?_
  refine z_getI (pc := 1) C zc0 4 (by decide) q_86 (zD D_X0_price_0 1 rfl) (fun v1 => ?_)
  refine z_csR (pc := 4) (As := [.int v1]) C [] (c_X0_priceAt _ _ _ _ n v1 h) zn_X0_priceAt (by decide) (by decide) hz0 q_179 q_180 q_45 q_181 rfl rfl rfl (zD D_X0_price_0 2 rfl) (fun r4 => ?_)
  exact z_iret (pc := 7) C hr rfl (zD D_X0_price_0 3 rfl)
def f_X0_number (n : Nat) (this : Nat) (p0 : Int32) (h : zH) : Option (Int32) := if p0 = 1 then ((zgI h this 0 2).bind fun (v41 : Int32) => some v41) else if p0 = 2 then ((zgI h this 0 3).bind fun (v46 : Int32) => some v46) else if p0 = 3 then (zrc h this 0 <| (f_X0_price n this h).bind fun (r51 : Int32) => some r51) else if p0 = 4 then ((zgI h this 0 5).bind fun (v56 : Int32) => some v56) else if p0 = 5 then ((zgI h this 0 6).bind fun (v61 : Int32) => some v61) else if p0 = 6 then (zrc h this 0 <| (f_X0_bankShares n this h).bind fun (r66 : Int32) => some r66) else ((zgI h this 0 7).bind fun (v71 : Int32) => some v71)
theorem zn_X0_number : zNm yX0_number 1 := ⟨by decide +kernel, by decide +kernel⟩
set_option maxRecDepth 100000 in
set_option maxHeartbeats 4000000 in
theorem c_X0_number (l : Launch) (B : Nat) (D : va_G) (cA : Nat → ClassId) (n : Nat) (this : Nat) (p0 : Int32) (h : zH) : ∀ u, f_X0_number n this p0 h = some u → zM l B D cA yX0_number cX0_number 2 (some .int) 3 0 0 none [.ref (B + this), .int p0] h ((fun r : Int32 => (some (Value.int r), h)) u).1 ((fun r : Int32 => (some (Value.int r), h)) u).2 := by
  unfold f_X0_number
  refine z_met (own := RX0) (fun r : Int32 => (some (Value.int r), h)) rfl (by decide) rfl (fun Z C hr _ _ => ?_)
  have hz0 : (z00 Z).1 ≤ 0 ∧ (z00 Z).2.1 ≤ 0 := ⟨Nat.le_refl 0, Nat.le_refl 0⟩
  refine z_iload_n (pc := 0) C (zD D_X0_number_0 0 rfl) rfl 1 rfl ?_
  refine z_ite (fun c0 => ?_) (fun c0 => ?_)
  · refine z_tblIn (pc := 1) C (zD D_X0_number_0 1 rfl) (by rw [c0]; decide) (by rw [c0]; decide) (by rw [c0]; rfl) (tgt := 40) (by decide) ?_
    refine z_aload_n (pc := 40) C (zD D_X0_number_0 2 rfl) rfl 0 rfl ?_
    refine z_getI (pc := 41) C zc0 2 (by decide) q_84 (zD D_X0_number_0 3 rfl) (fun v41 => ?_)
    exact z_iret (pc := 44) C hr rfl (zD D_X0_number_0 4 rfl)
  refine z_ite (fun c1 => ?_) (fun c1 => ?_)
  · refine z_tblIn (pc := 1) C (zD D_X0_number_0 1 rfl) (by rw [c1]; decide) (by rw [c1]; decide) (by rw [c1]; rfl) (tgt := 45) (by decide) ?_
    refine z_aload_n (pc := 45) C (zD D_X0_number_0 5 rfl) rfl 0 rfl ?_
    refine z_getI (pc := 46) C zc0 3 (by decide) q_85 (zD D_X0_number_0 6 rfl) (fun v46 => ?_)
    exact z_iret (pc := 49) C hr rfl (zD D_X0_number_0 7 rfl)
  refine z_ite (fun c2 => ?_) (fun c2 => ?_)
  · refine z_tblIn (pc := 1) C (zD D_X0_number_0 1 rfl) (by rw [c2]; decide) (by rw [c2]; decide) (by rw [c2]; rfl) (tgt := 50) (by decide) ?_
    refine z_aload_n (pc := 50) C (zD D_X0_number_0 8 rfl) rfl 0 rfl ?_
    refine z_cvR (pc := 51) (As := []) C [] (c_X0_price _ _ _ _ n this h) zn_X0_price (by decide) (by decide) hz0 zc0 rfl q_244 q_176 q_177 q_45 q_178 rfl rfl rfl (zD D_X0_number_0 9 rfl) (fun r51 => ?_)
    exact z_iret (pc := 54) C hr rfl (zD D_X0_number_0 10 rfl)
  refine z_ite (fun c3 => ?_) (fun c3 => ?_)
  · refine z_tblIn (pc := 1) C (zD D_X0_number_0 1 rfl) (by rw [c3]; decide) (by rw [c3]; decide) (by rw [c3]; rfl) (tgt := 55) (by decide) ?_
    refine z_aload_n (pc := 55) C (zD D_X0_number_0 11 rfl) rfl 0 rfl ?_
    refine z_getI (pc := 56) C zc0 5 (by decide) q_87 (zD D_X0_number_0 12 rfl) (fun v56 => ?_)
    exact z_iret (pc := 59) C hr rfl (zD D_X0_number_0 13 rfl)
  refine z_ite (fun c4 => ?_) (fun c4 => ?_)
  · refine z_tblIn (pc := 1) C (zD D_X0_number_0 1 rfl) (by rw [c4]; decide) (by rw [c4]; decide) (by rw [c4]; rfl) (tgt := 60) (by decide) ?_
    refine z_aload_n (pc := 60) C (zD D_X0_number_0 14 rfl) rfl 0 rfl ?_
    refine z_getI (pc := 61) C zc0 6 (by decide) q_88 (zD D_X0_number_0 15 rfl) (fun v61 => ?_)
    exact z_iret (pc := 64) C hr rfl (zD D_X0_number_0 16 rfl)
  refine z_ite (fun c5 => ?_) (fun c5 => ?_)
  · refine z_tblIn (pc := 1) C (zD D_X0_number_0 1 rfl) (by rw [c5]; decide) (by rw [c5]; decide) (by rw [c5]; rfl) (tgt := 65) (by decide) ?_
    refine z_aload_n (pc := 65) C (zD D_X0_number_0 17 rfl) rfl 0 rfl ?_
    refine z_cvR (pc := 66) (As := []) C [] (c_X0_bankShares _ _ _ _ n this h) zn_X0_bankShares (by decide) (by decide) hz0 zc0 rfl q_245 q_246 q_247 q_45 q_248 rfl rfl rfl (zD D_X0_number_0 18 rfl) (fun r66 => ?_)
    exact z_iret (pc := 69) C hr rfl (zD D_X0_number_0 19 rfl)
  refine z_tblOut (pc := 1) C (zD D_X0_number_0 1 rfl) (z_out _ (fun k h1 h2 => by rcases (show k = 1 ∨ k = 2 ∨ k = 3 ∨ k = 4 ∨ k = 5 ∨ k = 6 by omega) with rfl | rfl | rfl | rfl | rfl | rfl; exact fun e => c0 (e.trans (by decide)); exact fun e => c1 (e.trans (by decide)); exact fun e => c2 (e.trans (by decide)); exact fun e => c3 (e.trans (by decide)); exact fun e => c4 (e.trans (by decide)); exact fun e => c5 (e.trans (by decide)))) (tgt := 70) (by decide) ?_
  refine z_aload_n (pc := 70) C (zD D_X0_number_0 20 rfl) rfl 0 rfl ?_
  refine z_getI (pc := 71) C zc0 7 (by decide) q_89 (zD D_X0_number_0 21 rfl) (fun v71 => ?_)
  exact z_iret (pc := 74) C hr rfl (zD D_X0_number_0 22 rfl)
