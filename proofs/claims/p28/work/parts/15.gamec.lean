def f_X1_operateNext (n : Nat) (this : Nat) (p0 : Int32) (p1 : Int32) (p2 : Int32) (h : zH) : Option (Int32 × zH) := zrc h this 1 <| (f_X1_nextCompany n this h).bind fun (r1 : Int32) => if r1 = (-1 : Int32) then (some ((0 : Int32), h)) else ((zgR h this 1 2).bind fun (v15 : Nat) => (zar h v15 3 r1).bind fun (v20 : Nat) => zlet (fun (h75 : zH) => zrc h75 this 1 <| zb2 (f_X1_incomeOf n this v20 h75) fun (r78 : Int32) (h78 : zH) => (zp h78 v20 0 7 (.int r78)).bind fun (h87 : zH) => zlet (fun (h119 : zH) => zrc h119 this 1 <| (f_X1_payUpkeep n this v20 h119).bind fun (h122 : zH) => (zp h122 this 1 7 (.int (0 : Int32))).bind fun (h127 : zH) => (zgI h127 this 1 6).bind fun (v132 : Int32) => (zp h127 this 1 6 (.int (v132 + (1 : Int32)))).bind fun (h137 : zH) => zrc h137 this 1 <| (f_X1_endOperatingIfOver n this h137).bind fun (h141 : zH) => some (r78, h141)) fun K119 => if p2 = 0 then (zrc h87 this 1 <| (f_X1_companyPays n this v20 (-r78) h87).bind fun (h111 : zH) => zrc h111 v20 0 <| (f_X0_fall n v20 h111).bind fun (h116 : zH) => K119 h116) else (zrc h87 this 1 <| (f_X1_payOut n this v20 r78 h87).bind fun (h99 : zH) => K119 h99)) fun K75 => if p0 = (-1 : Int32) then (K75 h) else (if p1 = (-1 : Int32) then (K75 h) else ((zgR h this 1 1).bind fun (v34 : Nat) => (zgR h this 1 1).bind fun (v40 : Nat) => (zgR h v40 2 1).bind fun (v43 : Nat) => (zar h v43 2 p0).bind fun (v47 : Nat) => (zai h v47 p1).bind fun (v49 : Int32) => zrc h v34 2 <| (f_X2_setLevel n v34 p0 p1 (v49 + (1 : Int32)) h).bind fun (h52 : zH) => (zgR h52 this 1 1).bind fun (v61 : Nat) => (zgR h52 v61 2 1).bind fun (v64 : Nat) => (zar h52 v64 2 p0).bind fun (v68 : Nat) => (zai h52 v68 p1).bind fun (v70 : Int32) => zrc h52 this 1 <| (f_X1_companyPays n this v20 ((20 : Int32) * v70) h52).bind fun (h72 : zH) => K75 h72)))
theorem zn_X1_operateNext : zNm yX1_operateNext 3 := ⟨by decide +kernel, by decide +kernel⟩
set_option maxRecDepth 100000 in
set_option maxHeartbeats 4000000 in
theorem c_X1_operateNext (l : Launch) (B : Nat) (D : va_G) (cA : Nat → ClassId) (n : Nat) (this : Nat) (p0 : Int32) (p1 : Int32) (p2 : Int32) (h : zH) : ∀ u, f_X1_operateNext n this p0 p1 p2 h = some u → zM l B D cA yX1_operateNext cX1_operateNext 7 (some .int) 12 0 0 none [.ref (B + this), .int p0, .int p1, .int p2] h ((fun u : Int32 × zH => (some (Value.int u.1), u.2)) u).1 ((fun u : Int32 × zH => (some (Value.int u.1), u.2)) u).2 := by
  unfold f_X1_operateNext
  refine z_met (own := RX1) (fun u : Int32 × zH => (some (Value.int u.1), u.2)) rfl (by decide) rfl (fun Z C hr _ _ => ?_)
  have hz0 : (z00 Z).1 ≤ 0 ∧ (z00 Z).2.1 ≤ 0 := ⟨Nat.le_refl 0, Nat.le_refl 0⟩
  refine z_aload_n (pc := 0) C (zD D_X1_operateNext_0 0 rfl) rfl 0 rfl ?_
  refine z_cvR (pc := 1) (As := []) C [] (c_X1_nextCompany _ _ _ _ n this h) zn_X1_nextCompany (by decide) (by decide) hz0 zc1 rfl q_148 q_149 q_150 q_16 q_151 rfl rfl rfl (zD D_X1_operateNext_0 1 rfl) (fun r1 => ?_)
  refine z_istore (pc := 4) (lv' := [(4, .int r1), (0, .ref (B + this)), (1, .int p0), (2, .int p1), (3, .int p2)]) C (zD D_X1_operateNext_0 2 rfl) (by decide) rfl ?_
  refine z_iload (pc := 6) C (zD D_X1_operateNext_0 3 rfl) 0 rfl ?_
  refine z_iconst (pc := 8) (v := -1) C (zD D_X1_operateNext_0 4 rfl) (by decide) ?_
  refine z_icmp_ne (pc := 9) C (zD D_X1_operateNext_0 5 rfl) (tgt := 14) (by decide) (fun _ => ?_) (fun _ => ?_)
  · refine z_aload_n (pc := 14) C (zD D_X1_operateNext_0 8 rfl) rfl 1 rfl ?_
    refine z_getR (pc := 15) C zc1 2 (by decide) q_40 (zD D_X1_operateNext_0 9 rfl) (fun v15 => ?_)
    refine z_iload (pc := 18) C (zD D_X1_operateNext_0 10 rfl) 0 rfl ?_
    refine z_arload (pc := 20) C (c := 3) (by decide) rfl (zD D_X1_operateNext_0 11 rfl) (fun v20 => ?_)
    refine z_astore (pc := 21) (lv' := [(5, .ref (B + v20)), (4, .int r1), (0, .ref (B + this)), (1, .int p0), (2, .int p1), (3, .int p2)]) C (zD D_X1_operateNext_0 12 rfl) (by decide) rfl ?_
    refine z_iload_n (pc := 23) C (zD D_X1_operateNext_0 13 rfl) rfl 3 rfl ?_
    refine z_iconst (pc := 24) (v := -1) C (zD D_X1_operateNext_0 14 rfl) (by decide) ?_
    refine z_letg (fun K75 => ∀ (h75 : zH), zJ B Z (zEnd B Z (fun u : Int32 × zH => (some (Value.int u.1), u.2)) 0 0) (K75 h75) 75 [(0, .ref (B + this)), (3, .int p2), (5, .ref (B + v20))] [] h75 (z00 Z)) (fun h75 => ?_) (fun K75 hK75 => ?_)
    · refine z_aload_n (pc := 75) C (zD D_X1_operateNext_0 45 rfl) rfl 0 rfl ?_
      refine z_aload (pc := 76) C (zD D_X1_operateNext_0 46 rfl) 2 rfl ?_
      refine z_cvI (pc := 78) (As := [.ref (B + v20)]) C [] (c_X1_incomeOf _ _ _ _ n this v20 h75) zn_X1_incomeOf (by decide) (by decide) hz0 zc1 rfl q_417 q_196 q_197 q_16 q_198 rfl rfl rfl (zD D_X1_operateNext_0 47 rfl) (fun r78 h78 => ?_)
      refine z_istore (pc := 81) (lv' := [(6, .int r78), (0, .ref (B + this)), (3, .int p2), (5, .ref (B + v20))]) C (zD D_X1_operateNext_0 48 rfl) (by decide) rfl ?_
      refine z_aload (pc := 83) C (zD D_X1_operateNext_0 49 rfl) 3 rfl ?_
      refine z_iload (pc := 85) C (zD D_X1_operateNext_0 50 rfl) 0 rfl ?_
      refine z_putI (pc := 87) C zc0 7 (by decide) q_408 rfl rfl (zD D_X1_operateNext_0 51 rfl) (fun h87 => ?_)
      refine z_iload_n (pc := 90) C (zD D_X1_operateNext_0 52 rfl) rfl 2 rfl ?_
      refine z_letg (fun K119 => ∀ (h119 : zH), zJ B Z (zEnd B Z (fun u : Int32 × zH => (some (Value.int u.1), u.2)) 0 0) (K119 h119) 119 [(0, .ref (B + this)), (5, .ref (B + v20)), (6, .int r78)] [] h119 (z00 Z)) (fun h119 => ?_) (fun K119 hK119 => ?_)
      · refine z_aload_n (pc := 119) C (zD D_X1_operateNext_1 6 rfl) rfl 0 rfl ?_
        refine z_aload (pc := 120) C (zD D_X1_operateNext_1 7 rfl) 1 rfl ?_
        refine z_cvV (pc := 122) (As := [.ref (B + v20)]) C [] (c_X1_payUpkeep _ _ _ _ n this v20 h119) zn_X1_payUpkeep (by decide) (by decide) hz0 zc1 rfl q_426 q_427 q_428 q_16 q_429 rfl rfl rfl (zD D_X1_operateNext_1 8 rfl) (fun h122 => ?_)
        refine z_aload_n (pc := 125) C (zD D_X1_operateNext_1 9 rfl) rfl 0 rfl ?_
        refine z_iconst (pc := 126) (v := 0) C (zD D_X1_operateNext_1 10 rfl) (by decide) ?_
        refine z_putZ (pc := 127) C zc1 7 (by decide) q_63 rfl rfl (zD D_X1_operateNext_1 11 rfl) (by decide) (fun h127 => ?_)
        refine z_aload_n (pc := 130) C (zD D_X1_operateNext_1 12 rfl) rfl 0 rfl ?_
        refine z_dup (pc := 131) C (zD D_X1_operateNext_1 13 rfl) rfl ?_
        refine z_getI (pc := 132) C zc1 6 (by decide) q_62 (zD D_X1_operateNext_1 14 rfl) (fun v132 => ?_)
        refine z_iconst (pc := 135) (v := 1) C (zD D_X1_operateNext_1 15 rfl) (by decide) ?_
        refine z_iadd (pc := 136) C (zD D_X1_operateNext_1 16 rfl) ?_
        refine z_putI (pc := 137) C zc1 6 (by decide) q_62 rfl rfl (zD D_X1_operateNext_1 17 rfl) (fun h137 => ?_)
        refine z_aload_n (pc := 140) C (zD D_X1_operateNext_1 18 rfl) rfl 0 rfl ?_
        refine z_cvV (pc := 141) (As := []) C [] (c_X1_endOperatingIfOver _ _ _ _ n this h137) zn_X1_endOperatingIfOver (by decide) (by decide) hz0 zc1 rfl q_440 q_441 q_442 q_16 q_443 rfl rfl rfl (zD D_X1_operateNext_1 19 rfl) (fun h141 => ?_)
        refine z_iload (pc := 144) C (zD D_X1_operateNext_1 20 rfl) 2 rfl ?_
        exact z_iret (pc := 146) C hr rfl (zD D_X1_operateNext_1 21 rfl)
      refine z_if_eq (pc := 91) C (zD D_X1_operateNext_0 53 rfl) (tgt := 105) (by decide) (fun _ => ?_) (fun _ => ?_)
      · refine z_aload_n (pc := 105) C (zD D_X1_operateNext_0 59 rfl) rfl 1 rfl ?_
        refine z_aload (pc := 106) C (zD D_X1_operateNext_1 0 rfl) 3 rfl ?_
        refine z_iload (pc := 108) C (zD D_X1_operateNext_1 1 rfl) 0 rfl ?_
        refine z_ineg (pc := 110) C (zD D_X1_operateNext_1 2 rfl) ?_
        refine z_cvV (pc := 111) (As := [.ref (B + v20), .int (-r78)]) C [] (c_X1_companyPays _ _ _ _ n this v20 (-r78) h87) zn_X1_companyPays (by decide) (by decide) hz0 zc1 rfl q_413 q_414 q_415 q_16 q_416 rfl rfl rfl (zD D_X1_operateNext_1 3 rfl) (fun h111 => ?_)
        refine z_aload (pc := 114) C (zD D_X1_operateNext_1 4 rfl) 3 rfl ?_
        refine z_cvV (pc := 116) (As := []) C [] (c_X0_fall _ _ _ _ n v20 h111) zn_X0_fall (by decide) (by decide) hz0 zc0 rfl q_360 q_361 q_362 q_45 q_363 rfl rfl rfl (zD D_X1_operateNext_1 5 rfl) (fun h116 => ?_)
        refine z_sub [1, 3, 0] (lv' := [(0, .ref (B + this)), (5, .ref (B + v20)), (6, .int r78)]) rfl ?_
        exact hK119 h116
      · refine z_aload_n (pc := 94) C (zD D_X1_operateNext_0 54 rfl) rfl 1 rfl ?_
        refine z_aload (pc := 95) C (zD D_X1_operateNext_0 55 rfl) 3 rfl ?_
        refine z_iload (pc := 97) C (zD D_X1_operateNext_0 56 rfl) 0 rfl ?_
        refine z_cvV (pc := 99) (As := [.ref (B + v20), .int r78]) C [] (c_X1_payOut _ _ _ _ n this v20 r78 h87) zn_X1_payOut (by decide) (by decide) hz0 zc1 rfl q_418 q_419 q_420 q_16 q_421 rfl rfl rfl (zD D_X1_operateNext_0 57 rfl) (fun h99 => ?_)
        refine z_goto (pc := 102) C (zD D_X1_operateNext_0 58 rfl) (tgt := 119) (by decide) ?_
        refine z_sub [1, 3, 0] (lv' := [(0, .ref (B + this)), (5, .ref (B + v20)), (6, .int r78)]) rfl ?_
        exact hK119 h99
    refine z_icmp_eq (pc := 25) C (zD D_X1_operateNext_0 15 rfl) (tgt := 75) (by decide) (fun _ => ?_) (fun _ => ?_)
    · refine z_sub [2, 5, 0] (lv' := [(0, .ref (B + this)), (3, .int p2), (5, .ref (B + v20))]) rfl ?_
      exact hK75 h
    · refine z_iload_n (pc := 28) C (zD D_X1_operateNext_0 16 rfl) rfl 4 rfl ?_
      refine z_iconst (pc := 29) (v := -1) C (zD D_X1_operateNext_0 17 rfl) (by decide) ?_
      refine z_icmp_eq (pc := 30) C (zD D_X1_operateNext_0 18 rfl) (tgt := 75) (by decide) (fun _ => ?_) (fun _ => ?_)
      · refine z_sub [2, 5, 0] (lv' := [(0, .ref (B + this)), (3, .int p2), (5, .ref (B + v20))]) rfl ?_
        exact hK75 h
      · refine z_aload_n (pc := 33) C (zD D_X1_operateNext_0 19 rfl) rfl 2 rfl ?_
        refine z_getR (pc := 34) C zc1 1 (by decide) q_38 (zD D_X1_operateNext_0 20 rfl) (fun v34 => ?_)
        refine z_iload_n (pc := 37) C (zD D_X1_operateNext_0 21 rfl) rfl 3 rfl ?_
        refine z_iload_n (pc := 38) C (zD D_X1_operateNext_0 22 rfl) rfl 4 rfl ?_
        refine z_aload_n (pc := 39) C (zD D_X1_operateNext_0 23 rfl) rfl 2 rfl ?_
        refine z_getR (pc := 40) C zc1 1 (by decide) q_38 (zD D_X1_operateNext_0 24 rfl) (fun v40 => ?_)
        refine z_getR (pc := 43) C zc2 1 (by decide) q_398 (zD D_X1_operateNext_0 25 rfl) (fun v43 => ?_)
        refine z_iload_n (pc := 46) C (zD D_X1_operateNext_0 26 rfl) rfl 3 rfl ?_
        refine z_arload (pc := 47) C (c := 2) (by decide) rfl (zD D_X1_operateNext_0 27 rfl) (fun v47 => ?_)
        refine z_iload_n (pc := 48) C (zD D_X1_operateNext_0 28 rfl) rfl 4 rfl ?_
        refine z_aiload (pc := 49) C (zD D_X1_operateNext_0 29 rfl) (fun v49 => ?_)
        refine z_iconst (pc := 50) (v := 1) C (zD D_X1_operateNext_0 30 rfl) (by decide) ?_
        refine z_iadd (pc := 51) C (zD D_X1_operateNext_0 31 rfl) ?_
        refine z_cvV (pc := 52) (As := [.int p0, .int p1, .int (v49 + (1 : Int32))]) C [] (c_X2_setLevel _ _ _ _ n v34 p0 p1 (v49 + (1 : Int32)) h) zn_X2_setLevel (by decide) (by decide) hz0 zc2 rfl q_409 q_410 q_411 q_37 q_412 rfl rfl rfl (zD D_X1_operateNext_0 32 rfl) (fun h52 => ?_)
        refine z_aload_n (pc := 55) C (zD D_X1_operateNext_0 33 rfl) rfl 2 rfl ?_
        refine z_aload (pc := 56) C (zD D_X1_operateNext_0 34 rfl) 0 rfl ?_
        refine z_bipush (pc := 58) (v := 20) C (zD D_X1_operateNext_0 35 rfl) (by decide) ?_
        refine z_aload_n (pc := 60) C (zD D_X1_operateNext_0 36 rfl) rfl 2 rfl ?_
        refine z_getR (pc := 61) C zc1 1 (by decide) q_38 (zD D_X1_operateNext_0 37 rfl) (fun v61 => ?_)
        refine z_getR (pc := 64) C zc2 1 (by decide) q_398 (zD D_X1_operateNext_0 38 rfl) (fun v64 => ?_)
        refine z_iload_n (pc := 67) C (zD D_X1_operateNext_0 39 rfl) rfl 3 rfl ?_
        refine z_arload (pc := 68) C (c := 2) (by decide) rfl (zD D_X1_operateNext_0 40 rfl) (fun v68 => ?_)
        refine z_iload_n (pc := 69) C (zD D_X1_operateNext_0 41 rfl) rfl 4 rfl ?_
        refine z_aiload (pc := 70) C (zD D_X1_operateNext_0 42 rfl) (fun v70 => ?_)
        refine z_imul (pc := 71) C (zD D_X1_operateNext_0 43 rfl) ?_
        refine z_cvV (pc := 72) (As := [.ref (B + v20), .int ((20 : Int32) * v70)]) C [] (c_X1_companyPays _ _ _ _ n this v20 ((20 : Int32) * v70) h52) zn_X1_companyPays (by decide) (by decide) hz0 zc1 rfl q_413 q_414 q_415 q_16 q_416 rfl rfl rfl (zD D_X1_operateNext_0 44 rfl) (fun h72 => ?_)
        refine z_sub [2, 5, 0] (lv' := [(0, .ref (B + this)), (3, .int p2), (5, .ref (B + v20))]) rfl ?_
        exact hK75 h72
  · refine z_iconst (pc := 12) (v := 0) C (zD D_X1_operateNext_0 6 rfl) (by decide) ?_
    exact z_iret (pc := 13) C hr rfl (zD D_X1_operateNext_0 7 rfl)
def f_X1_bestTrackOf (n : Nat) (this : Nat) (p0 : Nat) (h : zH) : Option (Int32 × zH) := zfix4 (fun rec7 (a2_7 : Int32) (a3_7 : Int32) (a4_7 : Int32) (h7 : zH) => if (8 : Int32) ≤ a4_7 then (some (a2_7, h7)) else ((zgI h7 p0 0 1).bind fun (v15 : Int32) => if v15 = 0 then (some (a2_7, h7)) else (zlet ((a4_7 + (1 : Int32))) fun (x25 : Int32) => zfix4 (fun rec27 (a2_27 : Int32) (a3_27 : Int32) (a5_27 : Int32) (h27 : zH) => if (8 : Int32) ≤ a5_27 then (zlet (a4_7 + 1) fun (x85 : Int32) => rec7 a2_27 a3_27 x85 h27) else (zrc h27 this 1 <| zb2 (f_X1_canLay n this p0 a4_7 a5_27 h27) fun (r40 : Int32) (h40 : zH) => zlet (fun (s0_59 : Int32) (h59 : zH) => zlet (fun (a2_79 : Int32) (a3_79 : Int32) => zlet (a5_27 + 1) fun (x79 : Int32) => rec27 a2_79 a3_79 x79 h59) fun K79 => if s0_59 ≤ a3_27 then (K79 a2_27 a3_27) else (zlet ((((10 : Int32) * a4_7) + a5_27)) fun (x78 : Int32) => K79 x78 s0_59)) fun K59 => if r40 = 0 then (K59 (-1 : Int32) h40) else (zrc h40 this 1 <| zb2 (f_X1_incomeIfRaised n this p0 a4_7 a5_27 h40) fun (r52 : Int32) (h52 : zH) => K59 r52 h52))) n a2_7 a3_7 x25 h7))) n (-1 : Int32) (-1 : Int32) (0 : Int32) h
theorem zn_X1_bestTrackOf : zNm yX1_bestTrackOf 1 := ⟨by decide +kernel, by decide +kernel⟩
set_option maxRecDepth 100000 in
set_option maxHeartbeats 4000000 in
theorem c_X1_bestTrackOf (l : Launch) (B : Nat) (D : va_G) (cA : Nat → ClassId) (n : Nat) (this : Nat) (p0 : Nat) (h : zH) : ∀ u, f_X1_bestTrackOf n this p0 h = some u → zM l B D cA yX1_bestTrackOf cX1_bestTrackOf 7 (some .int) 13 0 0 none [.ref (B + this), .ref (B + p0)] h ((fun u : Int32 × zH => (some (Value.int u.1), u.2)) u).1 ((fun u : Int32 × zH => (some (Value.int u.1), u.2)) u).2 := by
  unfold f_X1_bestTrackOf
  refine z_met (own := RX1) (fun u : Int32 × zH => (some (Value.int u.1), u.2)) rfl (by decide) rfl (fun Z C hr _ _ => ?_)
  have hz0 : (z00 Z).1 ≤ 0 ∧ (z00 Z).2.1 ≤ 0 := ⟨Nat.le_refl 0, Nat.le_refl 0⟩
  refine z_iconst (pc := 0) (v := -1) C (zD D_X1_bestTrackOf_0 0 rfl) (by decide) ?_
  refine z_istore_n (pc := 1) (lv' := [(2, .int (-1 : Int32)), (0, .ref (B + this)), (1, .ref (B + p0))]) C (zD D_X1_bestTrackOf_0 1 rfl) rfl (by decide) rfl ?_
  refine z_iconst (pc := 2) (v := -1) C (zD D_X1_bestTrackOf_0 2 rfl) (by decide) ?_
  refine z_istore_n (pc := 3) (lv' := [(3, .int (-1 : Int32)), (2, .int (-1 : Int32)), (0, .ref (B + this)), (1, .ref (B + p0))]) C (zD D_X1_bestTrackOf_0 3 rfl) rfl (by decide) rfl ?_
  refine z_iconst (pc := 4) (v := 0) C (zD D_X1_bestTrackOf_0 4 rfl) (by decide) ?_
  refine z_istore (pc := 5) (lv' := [(4, .int (0 : Int32)), (3, .int (-1 : Int32)), (2, .int (-1 : Int32)), (0, .ref (B + this)), (1, .ref (B + p0))]) C (zD D_X1_bestTrackOf_0 5 rfl) (by decide) rfl ?_
  refine z_sub [3, 4, 2, 1, 0] (lv' := [(0, .ref (B + this)), (1, .ref (B + p0)), (2, .int (-1 : Int32)), (3, .int (-1 : Int32)), (4, .int (0 : Int32))]) rfl ?_
  refine z_fix4 (fun g7 => ∀ (a2_7 : Int32) (a3_7 : Int32) (a4_7 : Int32) (h7 : zH), zJ B Z (zEnd B Z (fun u : Int32 × zH => (some (Value.int u.1), u.2)) 0 0) (g7 a2_7 a3_7 a4_7 h7) 7 [(0, .ref (B + this)), (1, .ref (B + p0)), (2, .int a2_7), (3, .int a3_7), (4, .int a4_7)] [] h7 (z00 Z)) (fun _ _ _ _ => z_none) (fun rec7 hrec7 a2_7 a3_7 a4_7 h7 => ?_) n (-1 : Int32) (-1 : Int32) (0 : Int32) h
  refine z_iload (pc := 7) C (zD D_X1_bestTrackOf_0 6 rfl) 4 rfl ?_
  refine z_bipush (pc := 9) (v := 8) C (zD D_X1_bestTrackOf_0 7 rfl) (by decide) ?_
  refine z_icmp_ge (pc := 11) C (zD D_X1_bestTrackOf_0 8 rfl) (tgt := 91) (by decide) (fun _ => ?_) (fun _ => ?_)
  · refine z_iload_n (pc := 91) C (zD D_X1_bestTrackOf_0 48 rfl) rfl 2 rfl ?_
    exact z_iret (pc := 92) C hr rfl (zD D_X1_bestTrackOf_0 49 rfl)
  · refine z_aload_n (pc := 14) C (zD D_X1_bestTrackOf_0 9 rfl) rfl 1 rfl ?_
    refine z_getI (pc := 15) C zc0 1 (by decide) q_160 (zD D_X1_bestTrackOf_0 10 rfl) (fun v15 => ?_)
    refine z_if_eq (pc := 18) C (zD D_X1_bestTrackOf_0 11 rfl) (tgt := 91) (by decide) (fun _ => ?_) (fun _ => ?_)
    · refine z_iload_n (pc := 91) C (zD D_X1_bestTrackOf_0 48 rfl) rfl 2 rfl ?_
      exact z_iret (pc := 92) C hr rfl (zD D_X1_bestTrackOf_0 49 rfl)
    · refine z_iload (pc := 21) C (zD D_X1_bestTrackOf_0 12 rfl) 4 rfl ?_
      refine z_iconst (pc := 23) (v := 1) C (zD D_X1_bestTrackOf_0 13 rfl) (by decide) ?_
      refine z_iadd (pc := 24) C (zD D_X1_bestTrackOf_0 14 rfl) ?_
      refine z_istoreL (pc := 25) (lv' := fun x25 => [(5, .int x25), (0, .ref (B + this)), (1, .ref (B + p0)), (2, .int a2_7), (3, .int a3_7), (4, .int a4_7)]) C (zD D_X1_bestTrackOf_0 15 rfl) (by decide) (fun _ => rfl) (fun x25 => ?_)
      refine z_sub [1, 2, 3, 4, 5, 0] (lv' := [(0, .ref (B + this)), (1, .ref (B + p0)), (2, .int a2_7), (3, .int a3_7), (4, .int a4_7), (5, .int x25)]) rfl ?_
      refine z_fix4 (fun g27 => ∀ (a2_27 : Int32) (a3_27 : Int32) (a5_27 : Int32) (h27 : zH), zJ B Z (zEnd B Z (fun u : Int32 × zH => (some (Value.int u.1), u.2)) 0 0) (g27 a2_27 a3_27 a5_27 h27) 27 [(0, .ref (B + this)), (1, .ref (B + p0)), (2, .int a2_27), (3, .int a3_27), (4, .int a4_7), (5, .int a5_27)] [] h27 (z00 Z)) (fun _ _ _ _ => z_none) (fun rec27 hrec27 a2_27 a3_27 a5_27 h27 => ?_) n a2_7 a3_7 x25 h7
      refine z_iload (pc := 27) C (zD D_X1_bestTrackOf_0 16 rfl) 5 rfl ?_
      refine z_bipush (pc := 29) (v := 8) C (zD D_X1_bestTrackOf_0 17 rfl) (by decide) ?_
      refine z_icmp_ge (pc := 31) C (zD D_X1_bestTrackOf_0 18 rfl) (tgt := 85) (by decide) (fun _ => ?_) (fun _ => ?_)
      · refine z_iincL (pc := 85) (lv' := fun x85 => [(4, .int x85), (0, .ref (B + this)), (1, .ref (B + p0)), (2, .int a2_27), (3, .int a3_27), (5, .int a5_27)]) C (zD D_X1_bestTrackOf_0 46 rfl) 4 rfl (v := a4_7 + 1) rfl (by decide) (fun _ => rfl) (fun x85 => ?_)
        refine z_goto (pc := 88) C (zD D_X1_bestTrackOf_0 47 rfl) (tgt := 7) (by decide) ?_
        refine z_sub [1, 2, 3, 4, 0] (lv' := [(0, .ref (B + this)), (1, .ref (B + p0)), (2, .int a2_27), (3, .int a3_27), (4, .int x85)]) rfl ?_
        exact hrec7 a2_27 a3_27 x85 h27
      · refine z_aload_n (pc := 34) C (zD D_X1_bestTrackOf_0 19 rfl) rfl 0 rfl ?_
        refine z_aload_n (pc := 35) C (zD D_X1_bestTrackOf_0 20 rfl) rfl 1 rfl ?_
        refine z_iload (pc := 36) C (zD D_X1_bestTrackOf_0 21 rfl) 4 rfl ?_
        refine z_iload (pc := 38) C (zD D_X1_bestTrackOf_0 22 rfl) 5 rfl ?_
        refine z_cvI (pc := 40) (As := [.ref (B + p0), .int a4_7, .int a5_27]) C [] (c_X1_canLay _ _ _ _ n this p0 a4_7 a5_27 h27) zn_X1_canLay (by decide) (by decide) hz0 zc1 rfl q_394 q_395 q_396 q_16 q_397 rfl rfl rfl (zD D_X1_bestTrackOf_0 23 rfl) (fun r40 h40 => ?_)
        refine z_letg (fun K59 => ∀ (s0_59 : Int32) (h59 : zH), zJ B Z (zEnd B Z (fun u : Int32 × zH => (some (Value.int u.1), u.2)) 0 0) (K59 s0_59 h59) 59 [(0, .ref (B + this)), (1, .ref (B + p0)), (2, .int a2_27), (3, .int a3_27), (4, .int a4_7), (5, .int a5_27)] [.int s0_59] h59 (z00 Z)) (fun s0_59 h59 => ?_) (fun K59 hK59 => ?_)
        · refine z_istore (pc := 59) (lv' := [(6, .int s0_59), (0, .ref (B + this)), (1, .ref (B + p0)), (2, .int a2_27), (3, .int a3_27), (4, .int a4_7), (5, .int a5_27)]) C (zD D_X1_bestTrackOf_0 32 rfl) (by decide) rfl ?_
          refine z_iload (pc := 61) C (zD D_X1_bestTrackOf_0 33 rfl) 0 rfl ?_
          refine z_iload_n (pc := 63) C (zD D_X1_bestTrackOf_0 34 rfl) rfl 4 rfl ?_
          refine z_letg (fun K79 => ∀ (a2_79 : Int32) (a3_79 : Int32), zJ B Z (zEnd B Z (fun u : Int32 × zH => (some (Value.int u.1), u.2)) 0 0) (K79 a2_79 a3_79) 79 [(0, .ref (B + this)), (1, .ref (B + p0)), (2, .int a2_79), (3, .int a3_79), (4, .int a4_7), (5, .int a5_27)] [] h59 (z00 Z)) (fun a2_79 a3_79 => ?_) (fun K79 hK79 => ?_)
          · refine z_iincL (pc := 79) (lv' := fun x79 => [(5, .int x79), (0, .ref (B + this)), (1, .ref (B + p0)), (2, .int a2_79), (3, .int a3_79), (4, .int a4_7)]) C (zD D_X1_bestTrackOf_0 44 rfl) 5 rfl (v := a5_27 + 1) rfl (by decide) (fun _ => rfl) (fun x79 => ?_)
            refine z_goto (pc := 82) C (zD D_X1_bestTrackOf_0 45 rfl) (tgt := 27) (by decide) ?_
            refine z_sub [1, 2, 3, 4, 5, 0] (lv' := [(0, .ref (B + this)), (1, .ref (B + p0)), (2, .int a2_79), (3, .int a3_79), (4, .int a4_7), (5, .int x79)]) rfl ?_
            exact hrec27 a2_79 a3_79 x79 h59
          refine z_icmp_le (pc := 64) C (zD D_X1_bestTrackOf_0 35 rfl) (tgt := 79) (by decide) (fun _ => ?_) (fun _ => ?_)
          · refine z_sub [1, 2, 3, 4, 5, 6] (lv' := [(0, .ref (B + this)), (1, .ref (B + p0)), (2, .int a2_27), (3, .int a3_27), (4, .int a4_7), (5, .int a5_27)]) rfl ?_
            exact hK79 a2_27 a3_27
          · refine z_iload (pc := 67) C (zD D_X1_bestTrackOf_0 36 rfl) 0 rfl ?_
            refine z_istore_n (pc := 69) (lv' := [(3, .int s0_59), (6, .int s0_59), (0, .ref (B + this)), (1, .ref (B + p0)), (2, .int a2_27), (4, .int a4_7), (5, .int a5_27)]) C (zD D_X1_bestTrackOf_0 37 rfl) rfl (by decide) rfl ?_
            refine z_bipush (pc := 70) (v := 10) C (zD D_X1_bestTrackOf_0 38 rfl) (by decide) ?_
            refine z_iload (pc := 72) C (zD D_X1_bestTrackOf_0 39 rfl) 5 rfl ?_
            refine z_imul (pc := 74) C (zD D_X1_bestTrackOf_0 40 rfl) ?_
            refine z_iload (pc := 75) C (zD D_X1_bestTrackOf_0 41 rfl) 6 rfl ?_
            refine z_iadd (pc := 77) C (zD D_X1_bestTrackOf_0 42 rfl) ?_
            refine z_istore_nL (pc := 78) (lv' := fun x78 => [(2, .int x78), (3, .int s0_59), (6, .int s0_59), (0, .ref (B + this)), (1, .ref (B + p0)), (4, .int a4_7), (5, .int a5_27)]) C (zD D_X1_bestTrackOf_0 43 rfl) rfl (by decide) (fun _ => rfl) (fun x78 => ?_)
            refine z_sub [3, 4, 0, 1, 5, 6] (lv' := [(0, .ref (B + this)), (1, .ref (B + p0)), (2, .int x78), (3, .int s0_59), (4, .int a4_7), (5, .int a5_27)]) rfl ?_
            exact hK79 x78 s0_59
        refine z_if_eq (pc := 43) C (zD D_X1_bestTrackOf_0 24 rfl) (tgt := 58) (by decide) (fun _ => ?_) (fun _ => ?_)
        · refine z_iconst (pc := 58) (v := -1) C (zD D_X1_bestTrackOf_0 31 rfl) (by decide) ?_
          exact hK59 (-1 : Int32) h40
        · refine z_aload_n (pc := 46) C (zD D_X1_bestTrackOf_0 25 rfl) rfl 0 rfl ?_
          refine z_aload_n (pc := 47) C (zD D_X1_bestTrackOf_0 26 rfl) rfl 1 rfl ?_
          refine z_iload (pc := 48) C (zD D_X1_bestTrackOf_0 27 rfl) 4 rfl ?_
          refine z_iload (pc := 50) C (zD D_X1_bestTrackOf_0 28 rfl) 5 rfl ?_
          refine z_cvI (pc := 52) (As := [.ref (B + p0), .int a4_7, .int a5_27]) C [] (c_X1_incomeIfRaised _ _ _ _ n this p0 a4_7 a5_27 h40) zn_X1_incomeIfRaised (by decide) (by decide) hz0 zc1 rfl q_497 q_483 q_484 q_16 q_485 rfl rfl rfl (zD D_X1_bestTrackOf_0 29 rfl) (fun r52 h52 => ?_)
          refine z_goto (pc := 55) C (zD D_X1_bestTrackOf_0 30 rfl) (tgt := 59) (by decide) ?_
          exact hK59 r52 h52
