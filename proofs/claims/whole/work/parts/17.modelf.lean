def f_X6_digest (n : Nat) (this : Nat) (h : zH) : Option (Int64 × zH) := (zp h this 6 5 (.int (0 : Int32))).bind fun (h2 : zH) => (zp h2 this 6 16 (.long (3583 : Int64))).bind fun (h9 : zH) => (zgI h9 this 6 4).bind fun (v14 : Int32) => zrc h9 this 6 <| (f_X6_mix n this v14 h9).bind fun (h17 : zH) => zfix2 (fun rec22 (a1_22 : Int32) (h22 : zH) => if (9 : Int32) < a1_22 then (zfix2 (fun rec45 (a1_45 : Int32) (h45 : zH) => (zgR h45 this 6 0).bind fun (v47 : Nat) => (zai h45 v47 (0 : Int32)).bind fun (v51 : Int32) => if v51 ≤ a1_45 then (zfix2 (fun rec87 (a1_87 : Int32) (h87 : zH) => if (4 : Int32) ≤ a1_87 then (zfix2 (fun rec124 (a1_124 : Int32) (h124 : zH) => if (64 : Int32) ≤ a1_124 then (zfix2 (fun rec162 (a1_162 : Int32) (h162 : zH) => if (8 : Int32) ≤ a1_162 then ((zgI h162 this 6 2).bind fun (v189 : Int32) => zrc h162 this 6 <| (f_X6_mix n this v189 h162).bind fun (h192 : zH) => (zgL h192 this 6 16).bind fun (v196 : Int64) => some (v196, h192)) else ((zgR h162 this 6 0).bind fun (v170 : Nat) => (zai h162 v170 ((126 : Int32) + a1_162)).bind fun (v177 : Int32) => zrc h162 this 6 <| (f_X6_mix n this v177 h162).bind fun (h178 : zH) => zlet (a1_162 + 1) fun (x181 : Int32) => rec162 x181 h178)) n (0 : Int32) h124) else (zlet (fun (h154 : zH) => zlet (a1_124 + 1) fun (x154 : Int32) => rec124 x154 h154) fun K154 => if (zrem a1_124 (8 : Int32)) ≤ (a1_124 / (8 : Int32)) then (K154 h124) else ((zgR h124 this 6 0).bind fun (v143 : Nat) => (zai h124 v143 ((62 : Int32) + a1_124)).bind fun (v150 : Int32) => zrc h124 this 6 <| (f_X6_mix n this v150 h124).bind fun (h151 : zH) => K154 h151))) n (0 : Int32) h87) else (zfix2 (fun rec94 (a2_94 : Int32) (h94 : zH) => if (8 : Int32) < a2_94 then (zlet (a1_87 + 1) fun (x116 : Int32) => rec87 x116 h94) else (zrc h94 this 6 <| zb2 (f_X6_tellCompany n this a1_87 a2_94 h94) fun (r104 : Int32) (h104 : zH) => zrc h104 this 6 <| (f_X6_mix n this r104 h104).bind fun (h107 : zH) => zlet (a2_94 + 1) fun (x110 : Int32) => rec94 x110 h107)) n (0 : Int32) h87)) n (0 : Int32) h45) else (zfix2 (fun rec57 (a2_57 : Int32) (h57 : zH) => if (6 : Int32) < a2_57 then (zlet (a1_45 + 1) fun (x79 : Int32) => rec45 x79 h57) else (zrc h57 this 6 <| (f_X6_tellPlayer n this a1_45 a2_57 h57).bind fun (r67 : Int32) => zrc h57 this 6 <| (f_X6_mix n this r67 h57).bind fun (h70 : zH) => zlet (a2_57 + 1) fun (x73 : Int32) => rec57 x73 h70)) n (0 : Int32) h45)) n (0 : Int32) h22) else (zrc h22 this 6 <| (f_X6_tellValue n this a1_22 h22).bind fun (r31 : Int32) => zrc h22 this 6 <| (f_X6_mix n this r31 h22).bind fun (h34 : zH) => zlet (a1_22 + 1) fun (x37 : Int32) => rec22 x37 h34)) n (0 : Int32) h17
theorem zn_X6_digest : zNm yX6_digest 0 := ⟨by decide +kernel, by decide +kernel⟩
set_option maxRecDepth 100000 in
set_option maxHeartbeats 4000000 in
theorem c_X6_digest (l : Launch) (B : Nat) (D : va_G) (cA : Nat → ClassId) (n : Nat) (this : Nat) (h : zH) : ∀ u, f_X6_digest n this h = some u → zM l B D cA yX6_digest cX6_digest 3 (some .long) 6 0 0 none [.ref (B + this)] h ((fun u : Int64 × zH => (some (Value.long u.1), u.2)) u).1 ((fun u : Int64 × zH => (some (Value.long u.1), u.2)) u).2 := by
  unfold f_X6_digest
  refine z_met (own := RX6) (fun u : Int64 × zH => (some (Value.long u.1), u.2)) rfl (by decide) rfl (fun Z C hr _ _ => ?_)
  have hz0 : (z00 Z).1 ≤ 0 ∧ (z00 Z).2.1 ≤ 0 := ⟨Nat.le_refl 0, Nat.le_refl 0⟩
  refine z_aload_n (pc := 0) C (zD D_X6_digest_0 0 rfl) rfl 0 rfl ?_
  refine z_iconst (pc := 1) (v := 0) C (zD D_X6_digest_0 1 rfl) (by decide) ?_
  refine z_putI (pc := 2) C zc6 5 (by decide) q_159 rfl rfl (zD D_X6_digest_0 2 rfl) (fun h2 => ?_)
  refine z_aload_n (pc := 5) C (zD D_X6_digest_0 3 rfl) rfl 0 rfl ?_
  refine z_ldc2 (pc := 6) (v := 3583) C q_960 (zD D_X6_digest_0 4 rfl) ?_
  refine z_putL (pc := 9) C zc6 16 (by decide) q_961 rfl rfl (zD D_X6_digest_0 5 rfl) (fun h9 => ?_)
  refine z_aload_n (pc := 12) C (zD D_X6_digest_0 6 rfl) rfl 0 rfl ?_
  refine z_aload_n (pc := 13) C (zD D_X6_digest_0 7 rfl) rfl 0 rfl ?_
  refine z_getI (pc := 14) C zc6 4 (by decide) q_863 (zD D_X6_digest_0 8 rfl) (fun v14 => ?_)
  refine z_cvV (pc := 17) (As := [.int v14]) C [] (c_X6_mix _ _ _ _ n this v14 h9) zn_X6_mix (by decide) (by decide) hz0 zc6 rfl q_962 q_963 q_964 q_5 q_965 rfl rfl rfl (zD D_X6_digest_0 9 rfl) (fun h17 => ?_)
  refine z_iconst (pc := 20) (v := 0) C (zD D_X6_digest_0 10 rfl) (by decide) ?_
  refine z_istore_n (pc := 21) (lv' := [(1, .int (0 : Int32)), (0, .ref (B + this))]) C (zD D_X6_digest_0 11 rfl) rfl (by decide) rfl ?_
  refine z_sub [1, 0] (lv' := [(0, .ref (B + this)), (1, .int (0 : Int32))]) rfl ?_
  refine z_fix2 (fun g22 => ∀ (a1_22 : Int32) (h22 : zH), zJ B Z (zEnd B Z (fun u : Int64 × zH => (some (Value.long u.1), u.2)) 0 0) (g22 a1_22 h22) 22 [(0, .ref (B + this)), (1, .int a1_22)] [] h22 (z00 Z)) (fun _ _ => z_none) (fun rec22 hrec22 a1_22 h22 => ?_) n (0 : Int32) h17
  refine z_iload_n (pc := 22) C (zD D_X6_digest_0 12 rfl) rfl 1 rfl ?_
  refine z_bipush (pc := 23) (v := 9) C (zD D_X6_digest_0 13 rfl) (by decide) ?_
  refine z_icmp_gt (pc := 25) C (zD D_X6_digest_0 14 rfl) (tgt := 43) (by decide) (fun _ => ?_) (fun _ => ?_)
  · refine z_iconst (pc := 43) (v := 0) C (zD D_X6_digest_0 22 rfl) (by decide) ?_
    refine z_istore_n (pc := 44) (lv' := [(1, .int (0 : Int32)), (0, .ref (B + this))]) C (zD D_X6_digest_0 23 rfl) rfl (by decide) rfl ?_
    refine z_sub [1, 0] (lv' := [(0, .ref (B + this)), (1, .int (0 : Int32))]) rfl ?_
    refine z_fix2 (fun g45 => ∀ (a1_45 : Int32) (h45 : zH), zJ B Z (zEnd B Z (fun u : Int64 × zH => (some (Value.long u.1), u.2)) 0 0) (g45 a1_45 h45) 45 [(0, .ref (B + this)), (1, .int a1_45)] [] h45 (z00 Z)) (fun _ _ => z_none) (fun rec45 hrec45 a1_45 h45 => ?_) n (0 : Int32) h22
    refine z_iload_n (pc := 45) C (zD D_X6_digest_0 24 rfl) rfl 1 rfl ?_
    refine z_aload_n (pc := 46) C (zD D_X6_digest_0 25 rfl) rfl 0 rfl ?_
    refine z_getR (pc := 47) C zc6 0 (by decide) q_102 (zD D_X6_digest_0 26 rfl) (fun v47 => ?_)
    refine z_iconst (pc := 50) (v := 0) C (zD D_X6_digest_0 27 rfl) (by decide) ?_
    refine z_aiload (pc := 51) C (zD D_X6_digest_0 28 rfl) (fun v51 => ?_)
    refine z_icmp_ge (pc := 52) C (zD D_X6_digest_0 29 rfl) (tgt := 85) (by decide) (fun _ => ?_) (fun _ => ?_)
    · refine z_iconst (pc := 85) (v := 0) C (zD D_X6_digest_0 45 rfl) (by decide) ?_
      refine z_istore_n (pc := 86) (lv' := [(1, .int (0 : Int32)), (0, .ref (B + this))]) C (zD D_X6_digest_0 46 rfl) rfl (by decide) rfl ?_
      refine z_sub [1, 0] (lv' := [(0, .ref (B + this)), (1, .int (0 : Int32))]) rfl ?_
      refine z_fix2 (fun g87 => ∀ (a1_87 : Int32) (h87 : zH), zJ B Z (zEnd B Z (fun u : Int64 × zH => (some (Value.long u.1), u.2)) 0 0) (g87 a1_87 h87) 87 [(0, .ref (B + this)), (1, .int a1_87)] [] h87 (z00 Z)) (fun _ _ => z_none) (fun rec87 hrec87 a1_87 h87 => ?_) n (0 : Int32) h45
      refine z_iload_n (pc := 87) C (zD D_X6_digest_0 47 rfl) rfl 1 rfl ?_
      refine z_iconst (pc := 88) (v := 4) C (zD D_X6_digest_0 48 rfl) (by decide) ?_
      refine z_icmp_ge (pc := 89) C (zD D_X6_digest_0 49 rfl) (tgt := 122) (by decide) (fun _ => ?_) (fun _ => ?_)
      · refine z_iconst (pc := 122) (v := 0) C (zD D_X6_digest_1 5 rfl) (by decide) ?_
        refine z_istore_n (pc := 123) (lv' := [(1, .int (0 : Int32)), (0, .ref (B + this))]) C (zD D_X6_digest_1 6 rfl) rfl (by decide) rfl ?_
        refine z_sub [1, 0] (lv' := [(0, .ref (B + this)), (1, .int (0 : Int32))]) rfl ?_
        refine z_fix2 (fun g124 => ∀ (a1_124 : Int32) (h124 : zH), zJ B Z (zEnd B Z (fun u : Int64 × zH => (some (Value.long u.1), u.2)) 0 0) (g124 a1_124 h124) 124 [(0, .ref (B + this)), (1, .int a1_124)] [] h124 (z00 Z)) (fun _ _ => z_none) (fun rec124 hrec124 a1_124 h124 => ?_) n (0 : Int32) h87
        refine z_iload_n (pc := 124) C (zD D_X6_digest_1 7 rfl) rfl 1 rfl ?_
        refine z_bipush (pc := 125) (v := 64) C (zD D_X6_digest_1 8 rfl) (by decide) ?_
        refine z_icmp_ge (pc := 127) C (zD D_X6_digest_1 9 rfl) (tgt := 160) (by decide) (fun _ => ?_) (fun _ => ?_)
        · refine z_iconst (pc := 160) (v := 0) C (zD D_X6_digest_1 27 rfl) (by decide) ?_
          refine z_istore_n (pc := 161) (lv' := [(1, .int (0 : Int32)), (0, .ref (B + this))]) C (zD D_X6_digest_1 28 rfl) rfl (by decide) rfl ?_
          refine z_sub [1, 0] (lv' := [(0, .ref (B + this)), (1, .int (0 : Int32))]) rfl ?_
          refine z_fix2 (fun g162 => ∀ (a1_162 : Int32) (h162 : zH), zJ B Z (zEnd B Z (fun u : Int64 × zH => (some (Value.long u.1), u.2)) 0 0) (g162 a1_162 h162) 162 [(0, .ref (B + this)), (1, .int a1_162)] [] h162 (z00 Z)) (fun _ _ => z_none) (fun rec162 hrec162 a1_162 h162 => ?_) n (0 : Int32) h124
          refine z_iload_n (pc := 162) C (zD D_X6_digest_1 29 rfl) rfl 1 rfl ?_
          refine z_bipush (pc := 163) (v := 8) C (zD D_X6_digest_1 30 rfl) (by decide) ?_
          refine z_icmp_ge (pc := 165) C (zD D_X6_digest_1 31 rfl) (tgt := 187) (by decide) (fun _ => ?_) (fun _ => ?_)
          · refine z_aload_n (pc := 187) C (zD D_X6_digest_1 42 rfl) rfl 0 rfl ?_
            refine z_aload_n (pc := 188) C (zD D_X6_digest_1 43 rfl) rfl 0 rfl ?_
            refine z_getI (pc := 189) C zc6 2 (by decide) q_164 (zD D_X6_digest_1 44 rfl) (fun v189 => ?_)
            refine z_cvV (pc := 192) (As := [.int v189]) C [] (c_X6_mix _ _ _ _ n this v189 h162) zn_X6_mix (by decide) (by decide) hz0 zc6 rfl q_962 q_963 q_964 q_5 q_965 rfl rfl rfl (zD D_X6_digest_1 45 rfl) (fun h192 => ?_)
            refine z_aload_n (pc := 195) C (zD D_X6_digest_1 46 rfl) rfl 0 rfl ?_
            refine z_getL (pc := 196) C zc6 16 (by decide) q_961 (zD D_X6_digest_1 47 rfl) (fun v196 => ?_)
            exact z_lret (pc := 199) C hr rfl (zD D_X6_digest_1 48 rfl)
          · refine z_aload_n (pc := 168) C (zD D_X6_digest_1 32 rfl) rfl 0 rfl ?_
            refine z_aload_n (pc := 169) C (zD D_X6_digest_1 33 rfl) rfl 0 rfl ?_
            refine z_getR (pc := 170) C zc6 0 (by decide) q_102 (zD D_X6_digest_1 34 rfl) (fun v170 => ?_)
            refine z_bipush (pc := 173) (v := 126) C (zD D_X6_digest_1 35 rfl) (by decide) ?_
            refine z_iload_n (pc := 175) C (zD D_X6_digest_1 36 rfl) rfl 1 rfl ?_
            refine z_iadd (pc := 176) C (zD D_X6_digest_1 37 rfl) ?_
            refine z_aiload (pc := 177) C (zD D_X6_digest_1 38 rfl) (fun v177 => ?_)
            refine z_cvV (pc := 178) (As := [.int v177]) C [] (c_X6_mix _ _ _ _ n this v177 h162) zn_X6_mix (by decide) (by decide) hz0 zc6 rfl q_962 q_963 q_964 q_5 q_965 rfl rfl rfl (zD D_X6_digest_1 39 rfl) (fun h178 => ?_)
            refine z_iincL (pc := 181) (lv' := fun x181 => [(1, .int x181), (0, .ref (B + this))]) C (zD D_X6_digest_1 40 rfl) 1 rfl (v := a1_162 + 1) rfl (by decide) (fun _ => rfl) (fun x181 => ?_)
            refine z_goto (pc := 184) C (zD D_X6_digest_1 41 rfl) (tgt := 162) (by decide) ?_
            refine z_sub [1, 0] (lv' := [(0, .ref (B + this)), (1, .int x181)]) rfl ?_
            exact hrec162 x181 h178
        · refine z_iload_n (pc := 130) C (zD D_X6_digest_1 10 rfl) rfl 1 rfl ?_
          refine z_bipush (pc := 131) (v := 8) C (zD D_X6_digest_1 11 rfl) (by decide) ?_
          refine z_idivc (pc := 133) C (zD D_X6_digest_1 12 rfl) (by decide) ?_
          refine z_iload_n (pc := 134) C (zD D_X6_digest_1 13 rfl) rfl 1 rfl ?_
          refine z_bipush (pc := 135) (v := 8) C (zD D_X6_digest_1 14 rfl) (by decide) ?_
          refine z_iremc (pc := 137) C (zD D_X6_digest_1 15 rfl) (by decide) ?_
          refine z_letg (fun K154 => ∀ (h154 : zH), zJ B Z (zEnd B Z (fun u : Int64 × zH => (some (Value.long u.1), u.2)) 0 0) (K154 h154) 154 [(0, .ref (B + this)), (1, .int a1_124)] [] h154 (z00 Z)) (fun h154 => ?_) (fun K154 hK154 => ?_)
          · refine z_iincL (pc := 154) (lv' := fun x154 => [(1, .int x154), (0, .ref (B + this))]) C (zD D_X6_digest_1 25 rfl) 1 rfl (v := a1_124 + 1) rfl (by decide) (fun _ => rfl) (fun x154 => ?_)
            refine z_goto (pc := 157) C (zD D_X6_digest_1 26 rfl) (tgt := 124) (by decide) ?_
            refine z_sub [1, 0] (lv' := [(0, .ref (B + this)), (1, .int x154)]) rfl ?_
            exact hrec124 x154 h154
          refine z_icmp_ge (pc := 138) C (zD D_X6_digest_1 16 rfl) (tgt := 154) (by decide) (fun _ => ?_) (fun _ => ?_)
          · exact hK154 h124
          · refine z_aload_n (pc := 141) C (zD D_X6_digest_1 17 rfl) rfl 0 rfl ?_
            refine z_aload_n (pc := 142) C (zD D_X6_digest_1 18 rfl) rfl 0 rfl ?_
            refine z_getR (pc := 143) C zc6 0 (by decide) q_102 (zD D_X6_digest_1 19 rfl) (fun v143 => ?_)
            refine z_bipush (pc := 146) (v := 62) C (zD D_X6_digest_1 20 rfl) (by decide) ?_
            refine z_iload_n (pc := 148) C (zD D_X6_digest_1 21 rfl) rfl 1 rfl ?_
            refine z_iadd (pc := 149) C (zD D_X6_digest_1 22 rfl) ?_
            refine z_aiload (pc := 150) C (zD D_X6_digest_1 23 rfl) (fun v150 => ?_)
            refine z_cvV (pc := 151) (As := [.int v150]) C [] (c_X6_mix _ _ _ _ n this v150 h124) zn_X6_mix (by decide) (by decide) hz0 zc6 rfl q_962 q_963 q_964 q_5 q_965 rfl rfl rfl (zD D_X6_digest_1 24 rfl) (fun h151 => ?_)
            exact hK154 h151
      · refine z_iconst (pc := 92) (v := 0) C (zD D_X6_digest_0 50 rfl) (by decide) ?_
        refine z_istore_n (pc := 93) (lv' := [(2, .int (0 : Int32)), (0, .ref (B + this)), (1, .int a1_87)]) C (zD D_X6_digest_0 51 rfl) rfl (by decide) rfl ?_
        refine z_sub [1, 2, 0] (lv' := [(0, .ref (B + this)), (1, .int a1_87), (2, .int (0 : Int32))]) rfl ?_
        refine z_fix2 (fun g94 => ∀ (a2_94 : Int32) (h94 : zH), zJ B Z (zEnd B Z (fun u : Int64 × zH => (some (Value.long u.1), u.2)) 0 0) (g94 a2_94 h94) 94 [(0, .ref (B + this)), (1, .int a1_87), (2, .int a2_94)] [] h94 (z00 Z)) (fun _ _ => z_none) (fun rec94 hrec94 a2_94 h94 => ?_) n (0 : Int32) h87
        refine z_iload_n (pc := 94) C (zD D_X6_digest_0 52 rfl) rfl 2 rfl ?_
        refine z_bipush (pc := 95) (v := 8) C (zD D_X6_digest_0 53 rfl) (by decide) ?_
        refine z_icmp_gt (pc := 97) C (zD D_X6_digest_0 54 rfl) (tgt := 116) (by decide) (fun _ => ?_) (fun _ => ?_)
        · refine z_iincL (pc := 116) (lv' := fun x116 => [(1, .int x116), (0, .ref (B + this)), (2, .int a2_94)]) C (zD D_X6_digest_1 3 rfl) 1 rfl (v := a1_87 + 1) rfl (by decide) (fun _ => rfl) (fun x116 => ?_)
          refine z_goto (pc := 119) C (zD D_X6_digest_1 4 rfl) (tgt := 87) (by decide) ?_
          refine z_sub [1, 0] (lv' := [(0, .ref (B + this)), (1, .int x116)]) rfl ?_
          exact hrec87 x116 h94
        · refine z_aload_n (pc := 100) C (zD D_X6_digest_0 55 rfl) rfl 0 rfl ?_
          refine z_aload_n (pc := 101) C (zD D_X6_digest_0 56 rfl) rfl 0 rfl ?_
          refine z_iload_n (pc := 102) C (zD D_X6_digest_0 57 rfl) rfl 1 rfl ?_
          refine z_iload_n (pc := 103) C (zD D_X6_digest_0 58 rfl) rfl 2 rfl ?_
          refine z_cvI (pc := 104) (As := [.int a1_87, .int a2_94]) C [.ref (B + this)] (c_X6_tellCompany _ _ _ _ n this a1_87 a2_94 h94) zn_X6_tellCompany (by decide) (by decide) hz0 zc6 rfl q_698 q_699 q_700 q_5 q_701 rfl rfl rfl (zD D_X6_digest_0 59 rfl) (fun r104 h104 => ?_)
          refine z_cvV (pc := 107) (As := [.int r104]) C [] (c_X6_mix _ _ _ _ n this r104 h104) zn_X6_mix (by decide) (by decide) hz0 zc6 rfl q_962 q_963 q_964 q_5 q_965 rfl rfl rfl (zD D_X6_digest_1 0 rfl) (fun h107 => ?_)
          refine z_iincL (pc := 110) (lv' := fun x110 => [(2, .int x110), (0, .ref (B + this)), (1, .int a1_87)]) C (zD D_X6_digest_1 1 rfl) 2 rfl (v := a2_94 + 1) rfl (by decide) (fun _ => rfl) (fun x110 => ?_)
          refine z_goto (pc := 113) C (zD D_X6_digest_1 2 rfl) (tgt := 94) (by decide) ?_
          refine z_sub [1, 2, 0] (lv' := [(0, .ref (B + this)), (1, .int a1_87), (2, .int x110)]) rfl ?_
          exact hrec94 x110 h107
    · refine z_iconst (pc := 55) (v := 0) C (zD D_X6_digest_0 30 rfl) (by decide) ?_
      refine z_istore_n (pc := 56) (lv' := [(2, .int (0 : Int32)), (0, .ref (B + this)), (1, .int a1_45)]) C (zD D_X6_digest_0 31 rfl) rfl (by decide) rfl ?_
      refine z_sub [1, 2, 0] (lv' := [(0, .ref (B + this)), (1, .int a1_45), (2, .int (0 : Int32))]) rfl ?_
      refine z_fix2 (fun g57 => ∀ (a2_57 : Int32) (h57 : zH), zJ B Z (zEnd B Z (fun u : Int64 × zH => (some (Value.long u.1), u.2)) 0 0) (g57 a2_57 h57) 57 [(0, .ref (B + this)), (1, .int a1_45), (2, .int a2_57)] [] h57 (z00 Z)) (fun _ _ => z_none) (fun rec57 hrec57 a2_57 h57 => ?_) n (0 : Int32) h45
      refine z_iload_n (pc := 57) C (zD D_X6_digest_0 32 rfl) rfl 2 rfl ?_
      refine z_bipush (pc := 58) (v := 6) C (zD D_X6_digest_0 33 rfl) (by decide) ?_
      refine z_icmp_gt (pc := 60) C (zD D_X6_digest_0 34 rfl) (tgt := 79) (by decide) (fun _ => ?_) (fun _ => ?_)
      · refine z_iincL (pc := 79) (lv' := fun x79 => [(1, .int x79), (0, .ref (B + this)), (2, .int a2_57)]) C (zD D_X6_digest_0 43 rfl) 1 rfl (v := a1_45 + 1) rfl (by decide) (fun _ => rfl) (fun x79 => ?_)
        refine z_goto (pc := 82) C (zD D_X6_digest_0 44 rfl) (tgt := 45) (by decide) ?_
        refine z_sub [1, 0] (lv' := [(0, .ref (B + this)), (1, .int x79)]) rfl ?_
        exact hrec45 x79 h57
      · refine z_aload_n (pc := 63) C (zD D_X6_digest_0 35 rfl) rfl 0 rfl ?_
        refine z_aload_n (pc := 64) C (zD D_X6_digest_0 36 rfl) rfl 0 rfl ?_
        refine z_iload_n (pc := 65) C (zD D_X6_digest_0 37 rfl) rfl 1 rfl ?_
        refine z_iload_n (pc := 66) C (zD D_X6_digest_0 38 rfl) rfl 2 rfl ?_
        refine z_cvR (pc := 67) (As := [.int a1_45, .int a2_57]) C [.ref (B + this)] (c_X6_tellPlayer _ _ _ _ n this a1_45 a2_57 h57) zn_X6_tellPlayer (by decide) (by decide) hz0 zc6 rfl q_667 q_668 q_669 q_5 q_670 rfl rfl rfl (zD D_X6_digest_0 39 rfl) (fun r67 => ?_)
        refine z_cvV (pc := 70) (As := [.int r67]) C [] (c_X6_mix _ _ _ _ n this r67 h57) zn_X6_mix (by decide) (by decide) hz0 zc6 rfl q_962 q_963 q_964 q_5 q_965 rfl rfl rfl (zD D_X6_digest_0 40 rfl) (fun h70 => ?_)
        refine z_iincL (pc := 73) (lv' := fun x73 => [(2, .int x73), (0, .ref (B + this)), (1, .int a1_45)]) C (zD D_X6_digest_0 41 rfl) 2 rfl (v := a2_57 + 1) rfl (by decide) (fun _ => rfl) (fun x73 => ?_)
        refine z_goto (pc := 76) C (zD D_X6_digest_0 42 rfl) (tgt := 57) (by decide) ?_
        refine z_sub [1, 2, 0] (lv' := [(0, .ref (B + this)), (1, .int a1_45), (2, .int x73)]) rfl ?_
        exact hrec57 x73 h70
  · refine z_aload_n (pc := 28) C (zD D_X6_digest_0 15 rfl) rfl 0 rfl ?_
    refine z_aload_n (pc := 29) C (zD D_X6_digest_0 16 rfl) rfl 0 rfl ?_
    refine z_iload_n (pc := 30) C (zD D_X6_digest_0 17 rfl) rfl 1 rfl ?_
    refine z_cvR (pc := 31) (As := [.int a1_22]) C [.ref (B + this)] (c_X6_tellValue _ _ _ _ n this a1_22 h22) zn_X6_tellValue (by decide) (by decide) hz0 zc6 rfl q_737 q_738 q_739 q_5 q_740 rfl rfl rfl (zD D_X6_digest_0 18 rfl) (fun r31 => ?_)
    refine z_cvV (pc := 34) (As := [.int r31]) C [] (c_X6_mix _ _ _ _ n this r31 h22) zn_X6_mix (by decide) (by decide) hz0 zc6 rfl q_962 q_963 q_964 q_5 q_965 rfl rfl rfl (zD D_X6_digest_0 19 rfl) (fun h34 => ?_)
    refine z_iincL (pc := 37) (lv' := fun x37 => [(1, .int x37), (0, .ref (B + this))]) C (zD D_X6_digest_0 20 rfl) 1 rfl (v := a1_22 + 1) rfl (by decide) (fun _ => rfl) (fun x37 => ?_)
    refine z_goto (pc := 40) C (zD D_X6_digest_0 21 rfl) (tgt := 22) (by decide) ?_
    refine z_sub [1, 0] (lv' := [(0, .ref (B + this)), (1, .int x37)]) rfl ?_
    exact hrec22 x37 h34
def f_X6_incomeWith (n : Nat) (this : Nat) (p0 : Int32) (p1 : Int32) (p2 : Int32) (h : zH) : Option (Int32 × zH) := (f_X6_isCompany n p0 h).bind fun (r2 : Int32) => zlet (fun (s0_36 : Int32) => zrc h this 6 <| zb2 (f_X6_refused n this s0_36 h) fun (r36 : Int32) (h36 : zH) => if r36 = 0 then (zrc h36 this 6 <| (f_X6_isOpen n this p0 h36).bind fun (r46 : Int32) => zlet (some ((-1 : Int32), h36)) fun K72 => if r46 = 0 then (K72) else (zrc h36 this 6 <| (f_X6_level n this p1 p2 h36).bind fun (r55 : Int32) => if (2 : Int32) ≤ r55 then (K72) else (zrc h36 this 6 <| zb2 (f_X6_incomeBy n this p0 p1 p2 h36) fun (r66 : Int32) (h66 : zH) => some (r66, h66)))) else (some ((0 : Int32), h36))) fun K36 => zlet (K36 (1 : Int32)) fun K22 => if r2 = 0 then (K22) else ((f_X6_isTown n p1 h).bind fun (r9 : Int32) => if r9 = 0 then (K22) else ((f_X6_isTown n p2 h).bind fun (r16 : Int32) => if r16 = 0 then (K22) else (if p1 = p2 then (K36 (2 : Int32)) else (K36 (0 : Int32)))))
theorem zn_X6_incomeWith : zNm yX6_incomeWith 3 := ⟨by decide +kernel, by decide +kernel⟩
set_option maxRecDepth 100000 in
set_option maxHeartbeats 4000000 in
theorem c_X6_incomeWith (l : Launch) (B : Nat) (D : va_G) (cA : Nat → ClassId) (n : Nat) (this : Nat) (p0 : Int32) (p1 : Int32) (p2 : Int32) (h : zH) : ∀ u, f_X6_incomeWith n this p0 p1 p2 h = some u → zM l B D cA yX6_incomeWith cX6_incomeWith 4 (some .int) 6 0 0 none [.ref (B + this), .int p0, .int p1, .int p2] h ((fun u : Int32 × zH => (some (Value.int u.1), u.2)) u).1 ((fun u : Int32 × zH => (some (Value.int u.1), u.2)) u).2 := by
  unfold f_X6_incomeWith
  refine z_met (own := RX6) (fun u : Int32 × zH => (some (Value.int u.1), u.2)) rfl (by decide) rfl (fun Z C hr _ _ => ?_)
  have hz0 : (z00 Z).1 ≤ 0 ∧ (z00 Z).2.1 ≤ 0 := ⟨Nat.le_refl 0, Nat.le_refl 0⟩
  refine z_aload_n (pc := 0) C (zD D_X6_incomeWith_0 0 rfl) rfl 0 rfl ?_
  refine z_iload_n (pc := 1) C (zD D_X6_incomeWith_0 1 rfl) rfl 1 rfl ?_
  refine z_csR (pc := 2) (As := [.int p0]) C [.ref (B + this)] (c_X6_isCompany _ _ _ _ n p0 h) zn_X6_isCompany (by decide) (by decide) hz0 q_249 q_250 q_5 q_251 rfl rfl rfl (zD D_X6_incomeWith_0 2 rfl) (fun r2 => ?_)
  refine z_letg (fun K36 => ∀ (s0_36 : Int32), zJ B Z (zEnd B Z (fun u : Int32 × zH => (some (Value.int u.1), u.2)) 0 0) (K36 s0_36) 36 [(0, .ref (B + this)), (1, .int p0), (2, .int p1), (3, .int p2)] [.int s0_36, .ref (B + this)] h (z00 Z)) (fun s0_36 => ?_) (fun K36 hK36 => ?_)
  · refine z_cvI (pc := 36) (As := [.int s0_36]) C [] (c_X6_refused _ _ _ _ n this s0_36 h) zn_X6_refused (by decide) (by decide) hz0 zc6 rfl q_155 q_156 q_157 q_5 q_158 rfl rfl rfl (zD D_X6_incomeWith_0 18 rfl) (fun r36 h36 => ?_)
    refine z_if_eq (pc := 39) C (zD D_X6_incomeWith_0 19 rfl) (tgt := 44) (by decide) (fun _ => ?_) (fun _ => ?_)
    · refine z_aload_n (pc := 44) C (zD D_X6_incomeWith_0 22 rfl) rfl 0 rfl ?_
      refine z_iload_n (pc := 45) C (zD D_X6_incomeWith_0 23 rfl) rfl 1 rfl ?_
      refine z_cvR (pc := 46) (As := [.int p0]) C [] (c_X6_isOpen _ _ _ _ n this p0 h36) zn_X6_isOpen (by decide) (by decide) hz0 zc6 rfl q_256 q_257 q_258 q_5 q_259 rfl rfl rfl (zD D_X6_incomeWith_0 24 rfl) (fun r46 => ?_)
      refine z_letg (fun K72 => zJ B Z (zEnd B Z (fun u : Int32 × zH => (some (Value.int u.1), u.2)) 0 0) (K72) 72 [] [] h36 (z00 Z)) ?_ (fun K72 hK72 => ?_)
      · refine z_iconst (pc := 72) (v := -1) C (zD D_X6_incomeWith_0 38 rfl) (by decide) ?_
        exact z_iret (pc := 73) C hr rfl (zD D_X6_incomeWith_0 39 rfl)
      refine z_if_eq (pc := 49) C (zD D_X6_incomeWith_0 25 rfl) (tgt := 72) (by decide) (fun _ => ?_) (fun _ => ?_)
      · refine z_sub [] (lv' := []) rfl ?_
        exact hK72
      · refine z_aload_n (pc := 52) C (zD D_X6_incomeWith_0 26 rfl) rfl 0 rfl ?_
        refine z_iload_n (pc := 53) C (zD D_X6_incomeWith_0 27 rfl) rfl 2 rfl ?_
        refine z_iload_n (pc := 54) C (zD D_X6_incomeWith_0 28 rfl) rfl 3 rfl ?_
        refine z_cvR (pc := 55) (As := [.int p1, .int p2]) C [] (c_X6_level _ _ _ _ n this p1 p2 h36) zn_X6_level (by decide) (by decide) hz0 zc6 rfl q_600 q_601 q_602 q_5 q_603 rfl rfl rfl (zD D_X6_incomeWith_0 29 rfl) (fun r55 => ?_)
        refine z_iconst (pc := 58) (v := 2) C (zD D_X6_incomeWith_0 30 rfl) (by decide) ?_
        refine z_icmp_ge (pc := 59) C (zD D_X6_incomeWith_0 31 rfl) (tgt := 72) (by decide) (fun _ => ?_) (fun _ => ?_)
        · refine z_sub [] (lv' := []) rfl ?_
          exact hK72
        · refine z_aload_n (pc := 62) C (zD D_X6_incomeWith_0 32 rfl) rfl 0 rfl ?_
          refine z_iload_n (pc := 63) C (zD D_X6_incomeWith_0 33 rfl) rfl 1 rfl ?_
          refine z_iload_n (pc := 64) C (zD D_X6_incomeWith_0 34 rfl) rfl 2 rfl ?_
          refine z_iload_n (pc := 65) C (zD D_X6_incomeWith_0 35 rfl) rfl 3 rfl ?_
          refine z_cvI (pc := 66) (As := [.int p0, .int p1, .int p2]) C [] (c_X6_incomeBy _ _ _ _ n this p0 p1 p2 h36) zn_X6_incomeBy (by decide) (by decide) hz0 zc6 rfl q_794 q_795 q_796 q_5 q_797 rfl rfl rfl (zD D_X6_incomeWith_0 36 rfl) (fun r66 h66 => ?_)
          refine z_goto (pc := 69) C (zD D_X6_incomeWith_0 37 rfl) (tgt := 73) (by decide) ?_
          exact z_iret (pc := 73) C hr rfl (zD D_X6_incomeWith_0 39 rfl)
    · refine z_iconst (pc := 42) (v := 0) C (zD D_X6_incomeWith_0 20 rfl) (by decide) ?_
      exact z_iret (pc := 43) C hr rfl (zD D_X6_incomeWith_0 21 rfl)
  refine z_letg (fun K22 => zJ B Z (zEnd B Z (fun u : Int32 × zH => (some (Value.int u.1), u.2)) 0 0) (K22) 22 [(0, .ref (B + this)), (1, .int p0), (2, .int p1), (3, .int p2)] [.ref (B + this)] h (z00 Z)) ?_ (fun K22 hK22 => ?_)
  · refine z_iconst (pc := 22) (v := 1) C (zD D_X6_incomeWith_0 10 rfl) (by decide) ?_
    refine z_goto (pc := 23) C (zD D_X6_incomeWith_0 11 rfl) (tgt := 36) (by decide) ?_
    exact hK36 (1 : Int32)
  refine z_if_eq (pc := 5) C (zD D_X6_incomeWith_0 3 rfl) (tgt := 22) (by decide) (fun _ => ?_) (fun _ => ?_)
  · exact hK22
  · refine z_iload_n (pc := 8) C (zD D_X6_incomeWith_0 4 rfl) rfl 2 rfl ?_
    refine z_csR (pc := 9) (As := [.int p1]) C [.ref (B + this)] (c_X6_isTown _ _ _ _ n p1 h) zn_X6_isTown (by decide) (by decide) hz0 q_188 q_189 q_5 q_190 rfl rfl rfl (zD D_X6_incomeWith_0 5 rfl) (fun r9 => ?_)
    refine z_if_eq (pc := 12) C (zD D_X6_incomeWith_0 6 rfl) (tgt := 22) (by decide) (fun _ => ?_) (fun _ => ?_)
    · exact hK22
    · refine z_iload_n (pc := 15) C (zD D_X6_incomeWith_0 7 rfl) rfl 3 rfl ?_
      refine z_csR (pc := 16) (As := [.int p2]) C [.ref (B + this)] (c_X6_isTown _ _ _ _ n p2 h) zn_X6_isTown (by decide) (by decide) hz0 q_188 q_189 q_5 q_190 rfl rfl rfl (zD D_X6_incomeWith_0 8 rfl) (fun r16 => ?_)
      refine z_if_ne (pc := 19) C (zD D_X6_incomeWith_0 9 rfl) (tgt := 26) (by decide) (fun _ => ?_) (fun _ => ?_)
      · refine z_iload_n (pc := 26) C (zD D_X6_incomeWith_0 12 rfl) rfl 2 rfl ?_
        refine z_iload_n (pc := 27) C (zD D_X6_incomeWith_0 13 rfl) rfl 3 rfl ?_
        refine z_icmp_ne (pc := 28) C (zD D_X6_incomeWith_0 14 rfl) (tgt := 35) (by decide) (fun _ => ?_) (fun _ => ?_)
        · refine z_iconst (pc := 35) (v := 0) C (zD D_X6_incomeWith_0 17 rfl) (by decide) ?_
          exact hK36 (0 : Int32)
        · refine z_iconst (pc := 31) (v := 2) C (zD D_X6_incomeWith_0 15 rfl) (by decide) ?_
          refine z_goto (pc := 32) C (zD D_X6_incomeWith_0 16 rfl) (tgt := 36) (by decide) ?_
          exact hK36 (2 : Int32)
      · exact hK22
def f_X6_operates (n : Nat) (this : Nat) (p0 : Int32) (p1 : Int32) (p2 : Int32) (h : zH) : Option (Int32 × zH) := zrc h this 6 <| (f_X6_next n this h).bind fun (r1 : Int32) => zlet (fun (h40 : zH) => zrc h40 this 6 <| zb2 (f_X6_income n this r1 h40) fun (r43 : Int32) (h43 : zH) => zlet (fun (h104 : zH) => zlet (fun (s0_121 : Int32) => zrc h104 this 6 <| (f_X6_shifts n this r1 s0_121 h104).bind fun (h121 : zH) => (zgR h121 this 6 0).bind fun (v125 : Nat) => (zsi h121 v125 (((34 : Int32) + ((7 : Int32) * r1)) + (6 : Int32)) r43).bind fun (h141 : zH) => zrc h141 this 6 <| (f_X6_upkeep n this r1 h141).bind fun (h145 : zH) => (zgR h145 this 6 0).bind fun (v149 : Nat) => (zai h145 v149 (4 : Int32)).bind fun (v154 : Int32) => (zsi h145 v149 (4 : Int32) (v154 + (1 : Int32))).bind fun (h157 : zH) => zrc h157 this 6 <| (f_X6_goesOn n this h157).bind fun (h159 : zH) => some (r43, h159)) fun K121 => zlet (K121 (-1 : Int32)) fun K120 => if p2 = 0 then (K120) else (if r43 ≤ 0 then (K120) else (K121 (1 : Int32)))) fun K104 => if p2 = 0 then (zrc h43 this 6 <| (f_X6_earns n this r1 r43 h43).bind fun (h101 : zH) => K104 h101) else (zfix2 (fun rec55 (a6_55 : Int32) (h55 : zH) => (zgR h55 this 6 0).bind fun (v58 : Nat) => (zai h55 v58 (0 : Int32)).bind fun (v62 : Int32) => if v62 ≤ a6_55 then (K104 h55) else (zrc h55 this 6 <| (f_X6_shares n this a6_55 r1 h55).bind fun (r74 : Int32) => zrc h55 this 6 <| (f_X6_pays n this a6_55 ((-r74) * (r43 / (10 : Int32))) h55).bind fun (h84 : zH) => zlet (a6_55 + 1) fun (x87 : Int32) => rec55 x87 h84)) n (0 : Int32) h43)) fun K40 => if p0 = (-1 : Int32) then (K40 h) else (zrc h this 6 <| (f_X6_level n this p0 p1 h).bind fun (r14 : Int32) => zlet ((r14 + (1 : Int32))) fun (x19 : Int32) => zrc h this 6 <| (f_X6_earns n this r1 ((-20 : Int32) * x19) h).bind fun (h29 : zH) => zrc h29 this 6 <| (f_X6_levels n this p0 p1 x19 h29).bind fun (h37 : zH) => K40 h37)
theorem zn_X6_operates : zNm yX6_operates 3 := ⟨by decide +kernel, by decide +kernel⟩
set_option maxRecDepth 100000 in
set_option maxHeartbeats 4000000 in
theorem c_X6_operates (l : Launch) (B : Nat) (D : va_G) (cA : Nat → ClassId) (n : Nat) (this : Nat) (p0 : Int32) (p1 : Int32) (p2 : Int32) (h : zH) : ∀ u, f_X6_operates n this p0 p1 p2 h = some u → zM l B D cA yX6_operates cX6_operates 7 (some .int) 6 0 0 none [.ref (B + this), .int p0, .int p1, .int p2] h ((fun u : Int32 × zH => (some (Value.int u.1), u.2)) u).1 ((fun u : Int32 × zH => (some (Value.int u.1), u.2)) u).2 := by
  unfold f_X6_operates
  refine z_met (own := RX6) (fun u : Int32 × zH => (some (Value.int u.1), u.2)) rfl (by decide) rfl (fun Z C hr _ _ => ?_)
  have hz0 : (z00 Z).1 ≤ 0 ∧ (z00 Z).2.1 ≤ 0 := ⟨Nat.le_refl 0, Nat.le_refl 0⟩
  refine z_aload_n (pc := 0) C (zD D_X6_operates_0 0 rfl) rfl 0 rfl ?_
  refine z_cvR (pc := 1) (As := []) C [] (c_X6_next _ _ _ _ n this h) zn_X6_next (by decide) (by decide) hz0 zc6 rfl q_481 q_482 q_483 q_5 q_484 rfl rfl rfl (zD D_X6_operates_0 1 rfl) (fun r1 => ?_)
  refine z_istore (pc := 4) (lv' := [(4, .int r1), (0, .ref (B + this)), (1, .int p0), (2, .int p1), (3, .int p2)]) C (zD D_X6_operates_0 2 rfl) (by decide) rfl ?_
  refine z_iload_n (pc := 6) C (zD D_X6_operates_0 3 rfl) rfl 2 rfl ?_
  refine z_iconst (pc := 7) (v := -1) C (zD D_X6_operates_0 4 rfl) (by decide) ?_
  refine z_letg (fun K40 => ∀ (h40 : zH), zJ B Z (zEnd B Z (fun u : Int32 × zH => (some (Value.int u.1), u.2)) 0 0) (K40 h40) 40 [(0, .ref (B + this)), (3, .int p2), (4, .int r1)] [] h40 (z00 Z)) (fun h40 => ?_) (fun K40 hK40 => ?_)
  · refine z_aload_n (pc := 40) C (zD D_X6_operates_0 24 rfl) rfl 0 rfl ?_
    refine z_iload (pc := 41) C (zD D_X6_operates_0 25 rfl) 2 rfl ?_
    refine z_cvI (pc := 43) (As := [.int r1]) C [] (c_X6_income _ _ _ _ n this r1 h40) zn_X6_income (by decide) (by decide) hz0 zc6 rfl q_612 q_613 q_614 q_5 q_615 rfl rfl rfl (zD D_X6_operates_0 26 rfl) (fun r43 h43 => ?_)
    refine z_istore (pc := 46) (lv' := [(5, .int r43), (0, .ref (B + this)), (3, .int p2), (4, .int r1)]) C (zD D_X6_operates_0 27 rfl) (by decide) rfl ?_
    refine z_iload_n (pc := 48) C (zD D_X6_operates_0 28 rfl) rfl 2 rfl ?_
    refine z_letg (fun K104 => ∀ (h104 : zH), zJ B Z (zEnd B Z (fun u : Int32 × zH => (some (Value.int u.1), u.2)) 0 0) (K104 h104) 104 [(0, .ref (B + this)), (3, .int p2), (4, .int r1), (5, .int r43)] [] h104 (z00 Z)) (fun h104 => ?_) (fun K104 hK104 => ?_)
    · refine z_aload_n (pc := 104) C (zD D_X6_operates_0 57 rfl) rfl 0 rfl ?_
      refine z_iload (pc := 105) C (zD D_X6_operates_0 58 rfl) 2 rfl ?_
      refine z_iload_n (pc := 107) C (zD D_X6_operates_0 59 rfl) rfl 1 rfl ?_
      refine z_letg (fun K121 => ∀ (s0_121 : Int32), zJ B Z (zEnd B Z (fun u : Int32 × zH => (some (Value.int u.1), u.2)) 0 0) (K121 s0_121) 121 [(0, .ref (B + this)), (4, .int r1), (5, .int r43)] [.int s0_121, .int r1, .ref (B + this)] h104 (z00 Z)) (fun s0_121 => ?_) (fun K121 hK121 => ?_)
      · refine z_cvV (pc := 121) (As := [.int r1, .int s0_121]) C [] (c_X6_shifts _ _ _ _ n this r1 s0_121 h104) zn_X6_shifts (by decide) (by decide) hz0 zc6 rfl q_369 q_370 q_371 q_5 q_372 rfl rfl rfl (zD D_X6_operates_1 6 rfl) (fun h121 => ?_)
        refine z_aload_n (pc := 124) C (zD D_X6_operates_1 7 rfl) rfl 0 rfl ?_
        refine z_getR (pc := 125) C zc6 0 (by decide) q_102 (zD D_X6_operates_1 8 rfl) (fun v125 => ?_)
        refine z_bipush (pc := 128) (v := 34) C (zD D_X6_operates_1 9 rfl) (by decide) ?_
        refine z_bipush (pc := 130) (v := 7) C (zD D_X6_operates_1 10 rfl) (by decide) ?_
        refine z_iload (pc := 132) C (zD D_X6_operates_1 11 rfl) 1 rfl ?_
        refine z_imul (pc := 134) C (zD D_X6_operates_1 12 rfl) ?_
        refine z_iadd (pc := 135) C (zD D_X6_operates_1 13 rfl) ?_
        refine z_bipush (pc := 136) (v := 6) C (zD D_X6_operates_1 14 rfl) (by decide) ?_
        refine z_iadd (pc := 138) C (zD D_X6_operates_1 15 rfl) ?_
        refine z_iload (pc := 139) C (zD D_X6_operates_1 16 rfl) 2 rfl ?_
        refine z_aistore (pc := 141) C (zD D_X6_operates_1 17 rfl) (fun h141 => ?_)
        refine z_aload_n (pc := 142) C (zD D_X6_operates_1 18 rfl) rfl 0 rfl ?_
        refine z_iload (pc := 143) C (zD D_X6_operates_1 19 rfl) 1 rfl ?_
        refine z_cvV (pc := 145) (As := [.int r1]) C [] (c_X6_upkeep _ _ _ _ n this r1 h141) zn_X6_upkeep (by decide) (by decide) hz0 zc6 rfl q_630 q_631 q_632 q_5 q_633 rfl rfl rfl (zD D_X6_operates_1 20 rfl) (fun h145 => ?_)
        refine z_aload_n (pc := 148) C (zD D_X6_operates_1 21 rfl) rfl 0 rfl ?_
        refine z_getR (pc := 149) C zc6 0 (by decide) q_102 (zD D_X6_operates_1 22 rfl) (fun v149 => ?_)
        refine z_iconst (pc := 152) (v := 4) C (zD D_X6_operates_1 23 rfl) (by decide) ?_
        refine z_dup2 (pc := 153) C (zD D_X6_operates_1 24 rfl) rfl rfl ?_
        refine z_aiload (pc := 154) C (zD D_X6_operates_1 25 rfl) (fun v154 => ?_)
        refine z_iconst (pc := 155) (v := 1) C (zD D_X6_operates_1 26 rfl) (by decide) ?_
        refine z_iadd (pc := 156) C (zD D_X6_operates_1 27 rfl) ?_
        refine z_aistore (pc := 157) C (zD D_X6_operates_1 28 rfl) (fun h157 => ?_)
        refine z_aload_n (pc := 158) C (zD D_X6_operates_1 29 rfl) rfl 0 rfl ?_
        refine z_cvV (pc := 159) (As := []) C [] (c_X6_goesOn _ _ _ _ n this h157) zn_X6_goesOn (by decide) (by decide) hz0 zc6 rfl q_449 q_450 q_451 q_5 q_452 rfl rfl rfl (zD D_X6_operates_1 30 rfl) (fun h159 => ?_)
        refine z_iload (pc := 162) C (zD D_X6_operates_1 31 rfl) 2 rfl ?_
        exact z_iret (pc := 164) C hr rfl (zD D_X6_operates_1 32 rfl)
      refine z_letg (fun K120 => zJ B Z (zEnd B Z (fun u : Int32 × zH => (some (Value.int u.1), u.2)) 0 0) (K120) 120 [(0, .ref (B + this)), (4, .int r1), (5, .int r43)] [.int r1, .ref (B + this)] h104 (z00 Z)) ?_ (fun K120 hK120 => ?_)
      · refine z_iconst (pc := 120) (v := -1) C (zD D_X6_operates_1 5 rfl) (by decide) ?_
        exact hK121 (-1 : Int32)
      refine z_if_eq (pc := 108) C (zD D_X6_operates_1 0 rfl) (tgt := 120) (by decide) (fun _ => ?_) (fun _ => ?_)
      · refine z_sub [0, 2, 3] (lv' := [(0, .ref (B + this)), (4, .int r1), (5, .int r43)]) rfl ?_
        exact hK120
      · refine z_iload (pc := 111) C (zD D_X6_operates_1 1 rfl) 3 rfl ?_
        refine z_if_le (pc := 113) C (zD D_X6_operates_1 2 rfl) (tgt := 120) (by decide) (fun _ => ?_) (fun _ => ?_)
        · refine z_sub [0, 2, 3] (lv' := [(0, .ref (B + this)), (4, .int r1), (5, .int r43)]) rfl ?_
          exact hK120
        · refine z_iconst (pc := 116) (v := 1) C (zD D_X6_operates_1 3 rfl) (by decide) ?_
          refine z_goto (pc := 117) C (zD D_X6_operates_1 4 rfl) (tgt := 121) (by decide) ?_
          refine z_sub [0, 2, 3] (lv' := [(0, .ref (B + this)), (4, .int r1), (5, .int r43)]) rfl ?_
          exact hK121 (1 : Int32)
    refine z_if_eq (pc := 49) C (zD D_X6_operates_0 29 rfl) (tgt := 96) (by decide) (fun _ => ?_) (fun _ => ?_)
    · refine z_aload_n (pc := 96) C (zD D_X6_operates_0 53 rfl) rfl 1 rfl ?_
      refine z_iload (pc := 97) C (zD D_X6_operates_0 54 rfl) 3 rfl ?_
      refine z_iload (pc := 99) C (zD D_X6_operates_0 55 rfl) 0 rfl ?_
      refine z_cvV (pc := 101) (As := [.int r1, .int r43]) C [] (c_X6_earns _ _ _ _ n this r1 r43 h43) zn_X6_earns (by decide) (by decide) hz0 zc6 rfl q_288 q_289 q_290 q_5 q_291 rfl rfl rfl (zD D_X6_operates_0 56 rfl) (fun h101 => ?_)
      refine z_sub [1, 2, 3, 0] (lv' := [(0, .ref (B + this)), (3, .int p2), (4, .int r1), (5, .int r43)]) rfl ?_
      exact hK104 h101
    · refine z_iconst (pc := 52) (v := 0) C (zD D_X6_operates_0 30 rfl) (by decide) ?_
      refine z_istore (pc := 53) (lv' := [(6, .int (0 : Int32)), (5, .int r43), (0, .ref (B + this)), (3, .int p2), (4, .int r1)]) C (zD D_X6_operates_0 31 rfl) (by decide) rfl ?_
      refine z_sub [2, 3, 4, 1, 0] (lv' := [(0, .ref (B + this)), (3, .int p2), (4, .int r1), (5, .int r43), (6, .int (0 : Int32))]) rfl ?_
      refine z_fix2 (fun g55 => ∀ (a6_55 : Int32) (h55 : zH), zJ B Z (zEnd B Z (fun u : Int32 × zH => (some (Value.int u.1), u.2)) 0 0) (g55 a6_55 h55) 55 [(0, .ref (B + this)), (3, .int p2), (4, .int r1), (5, .int r43), (6, .int a6_55)] [] h55 (z00 Z)) (fun _ _ => z_none) (fun rec55 hrec55 a6_55 h55 => ?_) n (0 : Int32) h43
      refine z_iload (pc := 55) C (zD D_X6_operates_0 32 rfl) 4 rfl ?_
      refine z_aload_n (pc := 57) C (zD D_X6_operates_0 33 rfl) rfl 0 rfl ?_
      refine z_getR (pc := 58) C zc6 0 (by decide) q_102 (zD D_X6_operates_0 34 rfl) (fun v58 => ?_)
      refine z_iconst (pc := 61) (v := 0) C (zD D_X6_operates_0 35 rfl) (by decide) ?_
      refine z_aiload (pc := 62) C (zD D_X6_operates_0 36 rfl) (fun v62 => ?_)
      refine z_icmp_ge (pc := 63) C (zD D_X6_operates_0 37 rfl) (tgt := 93) (by decide) (fun _ => ?_) (fun _ => ?_)
      · refine z_goto (pc := 93) C (zD D_X6_operates_0 52 rfl) (tgt := 104) (by decide) ?_
        refine z_sub [0, 1, 2, 3] (lv' := [(0, .ref (B + this)), (3, .int p2), (4, .int r1), (5, .int r43)]) rfl ?_
        exact hK104 h55
      · refine z_aload_n (pc := 66) C (zD D_X6_operates_0 38 rfl) rfl 0 rfl ?_
        refine z_iload (pc := 67) C (zD D_X6_operates_0 39 rfl) 4 rfl ?_
        refine z_aload_n (pc := 69) C (zD D_X6_operates_0 40 rfl) rfl 0 rfl ?_
        refine z_iload (pc := 70) C (zD D_X6_operates_0 41 rfl) 4 rfl ?_
        refine z_iload (pc := 72) C (zD D_X6_operates_0 42 rfl) 2 rfl ?_
        refine z_cvR (pc := 74) (As := [.int a6_55, .int r1]) C [.int a6_55, .ref (B + this)] (c_X6_shares _ _ _ _ n this a6_55 r1 h55) zn_X6_shares (by decide) (by decide) hz0 zc6 rfl q_284 q_285 q_286 q_5 q_287 rfl rfl rfl (zD D_X6_operates_0 43 rfl) (fun r74 => ?_)
        refine z_ineg (pc := 77) C (zD D_X6_operates_0 44 rfl) ?_
        refine z_iload (pc := 78) C (zD D_X6_operates_0 45 rfl) 3 rfl ?_
        refine z_bipush (pc := 80) (v := 10) C (zD D_X6_operates_0 46 rfl) (by decide) ?_
        refine z_idivc (pc := 82) C (zD D_X6_operates_0 47 rfl) (by decide) ?_
        refine z_imul (pc := 83) C (zD D_X6_operates_0 48 rfl) ?_
        refine z_cvV (pc := 84) (As := [.int a6_55, .int ((-r74) * (r43 / (10 : Int32)))]) C [] (c_X6_pays _ _ _ _ n this a6_55 ((-r74) * (r43 / (10 : Int32))) h55) zn_X6_pays (by decide) (by decide) hz0 zc6 rfl q_272 q_273 q_274 q_5 q_275 rfl rfl rfl (zD D_X6_operates_0 49 rfl) (fun h84 => ?_)
        refine z_iincL (pc := 87) (lv' := fun x87 => [(6, .int x87), (0, .ref (B + this)), (3, .int p2), (4, .int r1), (5, .int r43)]) C (zD D_X6_operates_0 50 rfl) 4 rfl (v := a6_55 + 1) rfl (by decide) (fun _ => rfl) (fun x87 => ?_)
        refine z_goto (pc := 90) C (zD D_X6_operates_0 51 rfl) (tgt := 55) (by decide) ?_
        refine z_sub [1, 2, 3, 4, 0] (lv' := [(0, .ref (B + this)), (3, .int p2), (4, .int r1), (5, .int r43), (6, .int x87)]) rfl ?_
        exact hrec55 x87 h84
  refine z_icmp_eq (pc := 8) C (zD D_X6_operates_0 5 rfl) (tgt := 40) (by decide) (fun _ => ?_) (fun _ => ?_)
  · refine z_sub [1, 4, 0] (lv' := [(0, .ref (B + this)), (3, .int p2), (4, .int r1)]) rfl ?_
    exact hK40 h
  · refine z_aload_n (pc := 11) C (zD D_X6_operates_0 6 rfl) rfl 1 rfl ?_
    refine z_iload_n (pc := 12) C (zD D_X6_operates_0 7 rfl) rfl 2 rfl ?_
    refine z_iload_n (pc := 13) C (zD D_X6_operates_0 8 rfl) rfl 3 rfl ?_
    refine z_cvR (pc := 14) (As := [.int p0, .int p1]) C [] (c_X6_level _ _ _ _ n this p0 p1 h) zn_X6_level (by decide) (by decide) hz0 zc6 rfl q_600 q_601 q_602 q_5 q_603 rfl rfl rfl (zD D_X6_operates_0 9 rfl) (fun r14 => ?_)
    refine z_iconst (pc := 17) (v := 1) C (zD D_X6_operates_0 10 rfl) (by decide) ?_
    refine z_iadd (pc := 18) C (zD D_X6_operates_0 11 rfl) ?_
    refine z_istoreL (pc := 19) (lv' := fun x19 => [(5, .int x19), (4, .int r1), (0, .ref (B + this)), (1, .int p0), (2, .int p1), (3, .int p2)]) C (zD D_X6_operates_0 12 rfl) (by decide) (fun _ => rfl) (fun x19 => ?_)
    refine z_aload_n (pc := 21) C (zD D_X6_operates_0 13 rfl) rfl 2 rfl ?_
    refine z_iload (pc := 22) C (zD D_X6_operates_0 14 rfl) 1 rfl ?_
    refine z_bipush (pc := 24) (v := -20) C (zD D_X6_operates_0 15 rfl) (by decide) ?_
    refine z_iload (pc := 26) C (zD D_X6_operates_0 16 rfl) 0 rfl ?_
    refine z_imul (pc := 28) C (zD D_X6_operates_0 17 rfl) ?_
    refine z_cvV (pc := 29) (As := [.int r1, .int ((-20 : Int32) * x19)]) C [] (c_X6_earns _ _ _ _ n this r1 ((-20 : Int32) * x19) h) zn_X6_earns (by decide) (by decide) hz0 zc6 rfl q_288 q_289 q_290 q_5 q_291 rfl rfl rfl (zD D_X6_operates_0 18 rfl) (fun h29 => ?_)
    refine z_aload_n (pc := 32) C (zD D_X6_operates_0 19 rfl) rfl 2 rfl ?_
    refine z_iload_n (pc := 33) C (zD D_X6_operates_0 20 rfl) rfl 3 rfl ?_
    refine z_iload_n (pc := 34) C (zD D_X6_operates_0 21 rfl) rfl 4 rfl ?_
    refine z_iload (pc := 35) C (zD D_X6_operates_0 22 rfl) 0 rfl ?_
    refine z_cvV (pc := 37) (As := [.int p0, .int p1, .int x19]) C [] (c_X6_levels _ _ _ _ n this p0 p1 x19 h29) zn_X6_levels (by decide) (by decide) hz0 zc6 rfl q_608 q_609 q_610 q_5 q_611 rfl rfl rfl (zD D_X6_operates_0 23 rfl) (fun h37 => ?_)
    refine z_sub [2, 5, 1] (lv' := [(0, .ref (B + this)), (3, .int p2), (4, .int r1)]) rfl ?_
    exact hK40 h37
def f_X6_pass (n : Nat) (this : Nat) (h : zH) : Option (Int32 × zH) := zrc h this 6 <| (f_X6_isStock n this h).bind fun (r2 : Int32) => zlet (fun (s0_13 : Int32) => zrc h this 6 <| zb2 (f_X6_refused n this s0_13 h) fun (r13 : Int32) (h13 : zH) => if r13 = 0 then (zrc h13 this 6 <| (f_X6_saves n this h13).bind fun (h22 : zH) => zrc h22 this 6 <| zb2 (f_X6_passes n this h22) fun (r26 : Int32) (h26 : zH) => some (r26, h26)) else (some ((0 : Int32), h13))) fun K13 => if r2 = 0 then (K13 (1 : Int32)) else (K13 (0 : Int32))
theorem zn_X6_pass : zNm yX6_pass 0 := ⟨by decide +kernel, by decide +kernel⟩
set_option maxRecDepth 100000 in
set_option maxHeartbeats 4000000 in
theorem c_X6_pass (l : Launch) (B : Nat) (D : va_G) (cA : Nat → ClassId) (n : Nat) (this : Nat) (h : zH) : ∀ u, f_X6_pass n this h = some u → zM l B D cA yX6_pass cX6_pass 1 (some .int) 6 0 0 none [.ref (B + this)] h ((fun u : Int32 × zH => (some (Value.int u.1), u.2)) u).1 ((fun u : Int32 × zH => (some (Value.int u.1), u.2)) u).2 := by
  unfold f_X6_pass
  refine z_met (own := RX6) (fun u : Int32 × zH => (some (Value.int u.1), u.2)) rfl (by decide) rfl (fun Z C hr _ _ => ?_)
  have hz0 : (z00 Z).1 ≤ 0 ∧ (z00 Z).2.1 ≤ 0 := ⟨Nat.le_refl 0, Nat.le_refl 0⟩
  refine z_aload_n (pc := 0) C (zD D_X6_pass_0 0 rfl) rfl 0 rfl ?_
  refine z_aload_n (pc := 1) C (zD D_X6_pass_0 1 rfl) rfl 0 rfl ?_
  refine z_cvR (pc := 2) (As := []) C [.ref (B + this)] (c_X6_isStock _ _ _ _ n this h) zn_X6_isStock (by decide) (by decide) hz0 zc6 rfl q_252 q_253 q_254 q_5 q_255 rfl rfl rfl (zD D_X6_pass_0 2 rfl) (fun r2 => ?_)
  refine z_letg (fun K13 => ∀ (s0_13 : Int32), zJ B Z (zEnd B Z (fun u : Int32 × zH => (some (Value.int u.1), u.2)) 0 0) (K13 s0_13) 13 [(0, .ref (B + this))] [.int s0_13, .ref (B + this)] h (z00 Z)) (fun s0_13 => ?_) (fun K13 hK13 => ?_)
  · refine z_cvI (pc := 13) (As := [.int s0_13]) C [] (c_X6_refused _ _ _ _ n this s0_13 h) zn_X6_refused (by decide) (by decide) hz0 zc6 rfl q_155 q_156 q_157 q_5 q_158 rfl rfl rfl (zD D_X6_pass_0 7 rfl) (fun r13 h13 => ?_)
    refine z_if_eq (pc := 16) C (zD D_X6_pass_0 8 rfl) (tgt := 21) (by decide) (fun _ => ?_) (fun _ => ?_)
    · refine z_aload_n (pc := 21) C (zD D_X6_pass_0 11 rfl) rfl 0 rfl ?_
      refine z_cvV (pc := 22) (As := []) C [] (c_X6_saves _ _ _ _ n this h13) zn_X6_saves (by decide) (by decide) hz0 zc6 rfl q_160 q_161 q_162 q_5 q_163 rfl rfl rfl (zD D_X6_pass_0 12 rfl) (fun h22 => ?_)
      refine z_aload_n (pc := 25) C (zD D_X6_pass_0 13 rfl) rfl 0 rfl ?_
      refine z_cvI (pc := 26) (As := []) C [] (c_X6_passes _ _ _ _ n this h22) zn_X6_passes (by decide) (by decide) hz0 zc6 rfl q_437 q_438 q_439 q_5 q_440 rfl rfl rfl (zD D_X6_pass_0 14 rfl) (fun r26 h26 => ?_)
      exact z_iret (pc := 29) C hr rfl (zD D_X6_pass_0 15 rfl)
    · refine z_iconst (pc := 19) (v := 0) C (zD D_X6_pass_0 9 rfl) (by decide) ?_
      exact z_iret (pc := 20) C hr rfl (zD D_X6_pass_0 10 rfl)
  refine z_if_eq (pc := 5) C (zD D_X6_pass_0 3 rfl) (tgt := 12) (by decide) (fun _ => ?_) (fun _ => ?_)
  · refine z_iconst (pc := 12) (v := 1) C (zD D_X6_pass_0 6 rfl) (by decide) ?_
    exact hK13 (1 : Int32)
  · refine z_iconst (pc := 8) (v := 0) C (zD D_X6_pass_0 4 rfl) (by decide) ?_
    refine z_goto (pc := 9) C (zD D_X6_pass_0 5 rfl) (tgt := 13) (by decide) ?_
    exact hK13 (0 : Int32)
def f_X6_makes (n : Nat) (this : Nat) (h : zH) : Option (Int32 × zH) := (zgI h this 6 13).bind fun (v1 : Int32) => zlet (fun (s0_72 : Int32) => if s0_72 = 0 then ((zB s0_72).bind fun _ => some (s0_72, h)) else ((zgI h this 6 13).bind fun (v78 : Int32) => zlet (fun (s0_163 : Int32) (h163 : zH) => zlet (fun (s0_173 : Int32) => (zB s0_173).bind fun _ => some (s0_173, h163)) fun K173 => if s0_163 < 0 then (K173 (0 : Int32)) else (K173 (1 : Int32))) fun K163 => if v78 = (112 : Int32) then (zrc h this 6 <| zb2 (f_X6_passes n this h) fun (r87 : Int32) (h87 : zH) => K163 r87 h87) else ((zgI h this 6 13).bind fun (v94 : Int32) => if v94 = (98 : Int32) then ((zgI h this 6 14).bind fun (v104 : Int32) => zrc h this 6 <| zb2 (f_X6_buys n this v104 h) fun (r107 : Int32) (h107 : zH) => K163 r107 h107) else ((zgI h this 6 13).bind fun (v114 : Int32) => if v114 = (120 : Int32) then ((zgI h this 6 14).bind fun (v124 : Int32) => (zgI h this 6 15).bind fun (v128 : Int32) => zrc h this 6 <| zb2 (f_X6_sells n this v124 v128 h) fun (r131 : Int32) (h131 : zH) => K163 r131 h131) else ((zgI h this 6 14).bind fun (v139 : Int32) => (zgI h this 6 15).bind fun (v143 : Int32) => (zgI h this 6 13).bind fun (v147 : Int32) => zlet (fun (s0_160 : Int32) => zrc h this 6 <| zb2 (f_X6_operates n this v139 v143 s0_160 h) fun (r160 : Int32) (h160 : zH) => K163 r160 h160) fun K160 => if v147 = (111 : Int32) then (K160 (1 : Int32)) else (K160 (0 : Int32))))))) fun K72 => if v1 = (112 : Int32) then (zrc h this 6 <| (f_X6_isStock n this h).bind fun (r10 : Int32) => K72 r10) else ((zgI h this 6 13).bind fun (v17 : Int32) => if v17 = (98 : Int32) then ((zgI h this 6 14).bind fun (v27 : Int32) => zrc h this 6 <| (f_X6_canBuy n this v27 h).bind fun (r30 : Int32) => K72 r30) else ((zgI h this 6 13).bind fun (v37 : Int32) => if v37 = (120 : Int32) then ((zgI h this 6 14).bind fun (v47 : Int32) => (zgI h this 6 15).bind fun (v51 : Int32) => zrc h this 6 <| (f_X6_canSell n this v47 v51 h).bind fun (r54 : Int32) => K72 r54) else ((zgI h this 6 14).bind fun (v62 : Int32) => (zgI h this 6 15).bind fun (v66 : Int32) => zrc h this 6 <| (f_X6_canOperate n this v62 v66 h).bind fun (r69 : Int32) => K72 r69)))
theorem zn_X6_makes : zNm yX6_makes 0 := ⟨by decide +kernel, by decide +kernel⟩
set_option maxRecDepth 100000 in
set_option maxHeartbeats 4000000 in
theorem c_X6_makes (l : Launch) (B : Nat) (D : va_G) (cA : Nat → ClassId) (n : Nat) (this : Nat) (h : zH) : ∀ u, f_X6_makes n this h = some u → zM l B D cA yX6_makes cX6_makes 3 (some .boolean) 7 0 0 none [.ref (B + this)] h ((fun u : Int32 × zH => (some (Value.int u.1), u.2)) u).1 ((fun u : Int32 × zH => (some (Value.int u.1), u.2)) u).2 := by
  unfold f_X6_makes
  refine z_met (own := RX6) (fun u : Int32 × zH => (some (Value.int u.1), u.2)) rfl (by decide) rfl (fun Z C hr _ _ => ?_)
  have hz0 : (z00 Z).1 ≤ 0 ∧ (z00 Z).2.1 ≤ 0 := ⟨Nat.le_refl 0, Nat.le_refl 0⟩
  refine z_aload_n (pc := 0) C (zD D_X6_makes_0 0 rfl) rfl 0 rfl ?_
  refine z_getI (pc := 1) C zc6 13 (by decide) q_915 (zD D_X6_makes_0 1 rfl) (fun v1 => ?_)
  refine z_bipush (pc := 4) (v := 112) C (zD D_X6_makes_0 2 rfl) (by decide) ?_
  refine z_letg (fun K72 => ∀ (s0_72 : Int32), zJ B Z (zEnd B Z (fun u : Int32 × zH => (some (Value.int u.1), u.2)) 0 0) (K72 s0_72) 72 [(0, .ref (B + this))] [.int s0_72] h (z00 Z)) (fun s0_72 => ?_) (fun K72 hK72 => ?_)
  · refine z_istore_n (pc := 72) (lv' := [(1, .int s0_72), (0, .ref (B + this))]) C (zD D_X6_makes_0 33 rfl) rfl (by decide) rfl ?_
    refine z_iload_n (pc := 73) C (zD D_X6_makes_0 34 rfl) rfl 0 rfl ?_
    refine z_if_eq (pc := 74) C (zD D_X6_makes_0 35 rfl) (tgt := 174) (by decide) (fun _ => ?_) (fun _ => ?_)
    · refine z_iload_n (pc := 174) C (zD D_X6_makes_1 23 rfl) rfl 0 rfl ?_
      refine z_bool (fun hb => ?_)
      exact z_zret (pc := 175) C hr hb rfl (zD D_X6_makes_1 24 rfl)
    · refine z_aload_n (pc := 77) C (zD D_X6_makes_0 36 rfl) rfl 1 rfl ?_
      refine z_getI (pc := 78) C zc6 13 (by decide) q_915 (zD D_X6_makes_0 37 rfl) (fun v78 => ?_)
      refine z_bipush (pc := 81) (v := 112) C (zD D_X6_makes_0 38 rfl) (by decide) ?_
      refine z_letg (fun K163 => ∀ (s0_163 : Int32) (h163 : zH), zJ B Z (zEnd B Z (fun u : Int32 × zH => (some (Value.int u.1), u.2)) 0 0) (K163 s0_163 h163) 163 [] [.int s0_163] h163 (z00 Z)) (fun s0_163 h163 => ?_) (fun K163 hK163 => ?_)
      · refine z_istore_n (pc := 163) (lv' := [(2, .int s0_163)]) C (zD D_X6_makes_1 16 rfl) rfl (by decide) rfl ?_
        refine z_iload_n (pc := 164) C (zD D_X6_makes_1 17 rfl) rfl 0 rfl ?_
        refine z_letg (fun K173 => ∀ (s0_173 : Int32), zJ B Z (zEnd B Z (fun u : Int32 × zH => (some (Value.int u.1), u.2)) 0 0) (K173 s0_173) 173 [] [.int s0_173] h163 (z00 Z)) (fun s0_173 => ?_) (fun K173 hK173 => ?_)
        · refine z_istore_n (pc := 173) (lv' := [(1, .int s0_173)]) C (zD D_X6_makes_1 22 rfl) rfl (by decide) rfl ?_
          refine z_iload_n (pc := 174) C (zD D_X6_makes_1 23 rfl) rfl 0 rfl ?_
          refine z_bool (fun hb => ?_)
          exact z_zret (pc := 175) C hr hb rfl (zD D_X6_makes_1 24 rfl)
        refine z_if_lt (pc := 165) C (zD D_X6_makes_1 18 rfl) (tgt := 172) (by decide) (fun _ => ?_) (fun _ => ?_)
        · refine z_iconst (pc := 172) (v := 0) C (zD D_X6_makes_1 21 rfl) (by decide) ?_
          refine z_sub [] (lv' := []) rfl ?_
          exact hK173 (0 : Int32)
        · refine z_iconst (pc := 168) (v := 1) C (zD D_X6_makes_1 19 rfl) (by decide) ?_
          refine z_goto (pc := 169) C (zD D_X6_makes_1 20 rfl) (tgt := 173) (by decide) ?_
          refine z_sub [] (lv' := []) rfl ?_
          exact hK173 (1 : Int32)
      refine z_icmp_ne (pc := 83) C (zD D_X6_makes_0 39 rfl) (tgt := 93) (by decide) (fun _ => ?_) (fun _ => ?_)
      · refine z_aload_n (pc := 93) C (zD D_X6_makes_0 43 rfl) rfl 1 rfl ?_
        refine z_getI (pc := 94) C zc6 13 (by decide) q_915 (zD D_X6_makes_0 44 rfl) (fun v94 => ?_)
        refine z_bipush (pc := 97) (v := 98) C (zD D_X6_makes_0 45 rfl) (by decide) ?_
        refine z_icmp_ne (pc := 99) C (zD D_X6_makes_0 46 rfl) (tgt := 113) (by decide) (fun _ => ?_) (fun _ => ?_)
        · refine z_aload_n (pc := 113) C (zD D_X6_makes_0 52 rfl) rfl 1 rfl ?_
          refine z_getI (pc := 114) C zc6 13 (by decide) q_915 (zD D_X6_makes_0 53 rfl) (fun v114 => ?_)
          refine z_bipush (pc := 117) (v := 120) C (zD D_X6_makes_0 54 rfl) (by decide) ?_
          refine z_icmp_ne (pc := 119) C (zD D_X6_makes_0 55 rfl) (tgt := 137) (by decide) (fun _ => ?_) (fun _ => ?_)
          · refine z_aload_n (pc := 137) C (zD D_X6_makes_1 3 rfl) rfl 1 rfl ?_
            refine z_aload_n (pc := 138) C (zD D_X6_makes_1 4 rfl) rfl 1 rfl ?_
            refine z_getI (pc := 139) C zc6 14 (by decide) q_916 (zD D_X6_makes_1 5 rfl) (fun v139 => ?_)
            refine z_aload_n (pc := 142) C (zD D_X6_makes_1 6 rfl) rfl 1 rfl ?_
            refine z_getI (pc := 143) C zc6 15 (by decide) q_917 (zD D_X6_makes_1 7 rfl) (fun v143 => ?_)
            refine z_aload_n (pc := 146) C (zD D_X6_makes_1 8 rfl) rfl 1 rfl ?_
            refine z_getI (pc := 147) C zc6 13 (by decide) q_915 (zD D_X6_makes_1 9 rfl) (fun v147 => ?_)
            refine z_bipush (pc := 150) (v := 111) C (zD D_X6_makes_1 10 rfl) (by decide) ?_
            refine z_letg (fun K160 => ∀ (s0_160 : Int32), zJ B Z (zEnd B Z (fun u : Int32 × zH => (some (Value.int u.1), u.2)) 0 0) (K160 s0_160) 160 [] [.int s0_160, .int v143, .int v139, .ref (B + this)] h (z00 Z)) (fun s0_160 => ?_) (fun K160 hK160 => ?_)
            · refine z_cvI (pc := 160) (As := [.int v139, .int v143, .int s0_160]) C [] (c_X6_operates _ _ _ _ n this v139 v143 s0_160 h) zn_X6_operates (by decide) (by decide) hz0 zc6 rfl q_604 q_605 q_606 q_5 q_607 rfl rfl rfl (zD D_X6_makes_1 15 rfl) (fun r160 h160 => ?_)
              exact hK163 r160 h160
            refine z_icmp_ne (pc := 152) C (zD D_X6_makes_1 11 rfl) (tgt := 159) (by decide) (fun _ => ?_) (fun _ => ?_)
            · refine z_iconst (pc := 159) (v := 0) C (zD D_X6_makes_1 14 rfl) (by decide) ?_
              refine z_sub [] (lv' := []) rfl ?_
              exact hK160 (0 : Int32)
            · refine z_iconst (pc := 155) (v := 1) C (zD D_X6_makes_1 12 rfl) (by decide) ?_
              refine z_goto (pc := 156) C (zD D_X6_makes_1 13 rfl) (tgt := 160) (by decide) ?_
              refine z_sub [] (lv' := []) rfl ?_
              exact hK160 (1 : Int32)
          · refine z_aload_n (pc := 122) C (zD D_X6_makes_0 56 rfl) rfl 1 rfl ?_
            refine z_aload_n (pc := 123) C (zD D_X6_makes_0 57 rfl) rfl 1 rfl ?_
            refine z_getI (pc := 124) C zc6 14 (by decide) q_916 (zD D_X6_makes_0 58 rfl) (fun v124 => ?_)
            refine z_aload_n (pc := 127) C (zD D_X6_makes_0 59 rfl) rfl 1 rfl ?_
            refine z_getI (pc := 128) C zc6 15 (by decide) q_917 (zD D_X6_makes_1 0 rfl) (fun v128 => ?_)
            refine z_cvI (pc := 131) (As := [.int v124, .int v128]) C [] (c_X6_sells _ _ _ _ n this v124 v128 h) zn_X6_sells (by decide) (by decide) hz0 zc6 rfl q_365 q_366 q_367 q_5 q_368 rfl rfl rfl (zD D_X6_makes_1 1 rfl) (fun r131 h131 => ?_)
            refine z_goto (pc := 134) C (zD D_X6_makes_1 2 rfl) (tgt := 163) (by decide) ?_
            refine z_sub [] (lv' := []) rfl ?_
            exact hK163 r131 h131
        · refine z_aload_n (pc := 102) C (zD D_X6_makes_0 47 rfl) rfl 1 rfl ?_
          refine z_aload_n (pc := 103) C (zD D_X6_makes_0 48 rfl) rfl 1 rfl ?_
          refine z_getI (pc := 104) C zc6 14 (by decide) q_916 (zD D_X6_makes_0 49 rfl) (fun v104 => ?_)
          refine z_cvI (pc := 107) (As := [.int v104]) C [] (c_X6_buys _ _ _ _ n this v104 h) zn_X6_buys (by decide) (by decide) hz0 zc6 rfl q_331 q_332 q_333 q_5 q_334 rfl rfl rfl (zD D_X6_makes_0 50 rfl) (fun r107 h107 => ?_)
          refine z_goto (pc := 110) C (zD D_X6_makes_0 51 rfl) (tgt := 163) (by decide) ?_
          refine z_sub [] (lv' := []) rfl ?_
          exact hK163 r107 h107
      · refine z_aload_n (pc := 86) C (zD D_X6_makes_0 40 rfl) rfl 1 rfl ?_
        refine z_cvI (pc := 87) (As := []) C [] (c_X6_passes _ _ _ _ n this h) zn_X6_passes (by decide) (by decide) hz0 zc6 rfl q_437 q_438 q_439 q_5 q_440 rfl rfl rfl (zD D_X6_makes_0 41 rfl) (fun r87 h87 => ?_)
        refine z_goto (pc := 90) C (zD D_X6_makes_0 42 rfl) (tgt := 163) (by decide) ?_
        refine z_sub [] (lv' := []) rfl ?_
        exact hK163 r87 h87
  refine z_icmp_ne (pc := 6) C (zD D_X6_makes_0 3 rfl) (tgt := 16) (by decide) (fun _ => ?_) (fun _ => ?_)
  · refine z_aload_n (pc := 16) C (zD D_X6_makes_0 7 rfl) rfl 0 rfl ?_
    refine z_getI (pc := 17) C zc6 13 (by decide) q_915 (zD D_X6_makes_0 8 rfl) (fun v17 => ?_)
    refine z_bipush (pc := 20) (v := 98) C (zD D_X6_makes_0 9 rfl) (by decide) ?_
    refine z_icmp_ne (pc := 22) C (zD D_X6_makes_0 10 rfl) (tgt := 36) (by decide) (fun _ => ?_) (fun _ => ?_)
    · refine z_aload_n (pc := 36) C (zD D_X6_makes_0 16 rfl) rfl 0 rfl ?_
      refine z_getI (pc := 37) C zc6 13 (by decide) q_915 (zD D_X6_makes_0 17 rfl) (fun v37 => ?_)
      refine z_bipush (pc := 40) (v := 120) C (zD D_X6_makes_0 18 rfl) (by decide) ?_
      refine z_icmp_ne (pc := 42) C (zD D_X6_makes_0 19 rfl) (tgt := 60) (by decide) (fun _ => ?_) (fun _ => ?_)
      · refine z_aload_n (pc := 60) C (zD D_X6_makes_0 27 rfl) rfl 0 rfl ?_
        refine z_aload_n (pc := 61) C (zD D_X6_makes_0 28 rfl) rfl 0 rfl ?_
        refine z_getI (pc := 62) C zc6 14 (by decide) q_916 (zD D_X6_makes_0 29 rfl) (fun v62 => ?_)
        refine z_aload_n (pc := 65) C (zD D_X6_makes_0 30 rfl) rfl 0 rfl ?_
        refine z_getI (pc := 66) C zc6 15 (by decide) q_917 (zD D_X6_makes_0 31 rfl) (fun v66 => ?_)
        refine z_cvR (pc := 69) (As := [.int v62, .int v66]) C [] (c_X6_canOperate _ _ _ _ n this v62 v66 h) zn_X6_canOperate (by decide) (by decide) hz0 zc6 rfl q_585 q_586 q_587 q_5 q_588 rfl rfl rfl (zD D_X6_makes_0 32 rfl) (fun r69 => ?_)
        exact hK72 r69
      · refine z_aload_n (pc := 45) C (zD D_X6_makes_0 20 rfl) rfl 0 rfl ?_
        refine z_aload_n (pc := 46) C (zD D_X6_makes_0 21 rfl) rfl 0 rfl ?_
        refine z_getI (pc := 47) C zc6 14 (by decide) q_916 (zD D_X6_makes_0 22 rfl) (fun v47 => ?_)
        refine z_aload_n (pc := 50) C (zD D_X6_makes_0 23 rfl) rfl 0 rfl ?_
        refine z_getI (pc := 51) C zc6 15 (by decide) q_917 (zD D_X6_makes_0 24 rfl) (fun v51 => ?_)
        refine z_cvR (pc := 54) (As := [.int v47, .int v51]) C [] (c_X6_canSell _ _ _ _ n this v47 v51 h) zn_X6_canSell (by decide) (by decide) hz0 zc6 rfl q_361 q_362 q_363 q_5 q_364 rfl rfl rfl (zD D_X6_makes_0 25 rfl) (fun r54 => ?_)
        refine z_goto (pc := 57) C (zD D_X6_makes_0 26 rfl) (tgt := 72) (by decide) ?_
        exact hK72 r54
    · refine z_aload_n (pc := 25) C (zD D_X6_makes_0 11 rfl) rfl 0 rfl ?_
      refine z_aload_n (pc := 26) C (zD D_X6_makes_0 12 rfl) rfl 0 rfl ?_
      refine z_getI (pc := 27) C zc6 14 (by decide) q_916 (zD D_X6_makes_0 13 rfl) (fun v27 => ?_)
      refine z_cvR (pc := 30) (As := [.int v27]) C [] (c_X6_canBuy _ _ _ _ n this v27 h) zn_X6_canBuy (by decide) (by decide) hz0 zc6 rfl q_323 q_324 q_325 q_5 q_326 rfl rfl rfl (zD D_X6_makes_0 14 rfl) (fun r30 => ?_)
      refine z_goto (pc := 33) C (zD D_X6_makes_0 15 rfl) (tgt := 72) (by decide) ?_
      exact hK72 r30
  · refine z_aload_n (pc := 9) C (zD D_X6_makes_0 4 rfl) rfl 0 rfl ?_
    refine z_cvR (pc := 10) (As := []) C [] (c_X6_isStock _ _ _ _ n this h) zn_X6_isStock (by decide) (by decide) hz0 zc6 rfl q_252 q_253 q_254 q_5 q_255 rfl rfl rfl (zD D_X6_makes_0 5 rfl) (fun r10 => ?_)
    refine z_goto (pc := 13) C (zD D_X6_makes_0 6 rfl) (tgt := 72) (by decide) ?_
    exact hK72 r10
def f_X6_operate (n : Nat) (this : Nat) (p0 : Int32) (p1 : Int32) (p2 : Int32) (h : zH) : Option (Int32 × zH) := zlet (fun (s0_15 : Int32) => zlet (fun (s0_69 : Int32) => zrc h this 6 <| zb2 (f_X6_refused n this s0_69 h) fun (r69 : Int32) (h69 : zH) => if r69 = 0 then (zrc h69 this 6 <| (f_X6_saves n this h69).bind fun (h78 : zH) => zrc h78 this 6 <| zb2 (f_X6_operates n this p0 p1 p2 h78) fun (r85 : Int32) (h85 : zH) => some (r85, h85)) else (some ((0 : Int32), h69))) fun K69 => zlet (zlet (zrc h this 6 <| (f_X6_canOperate n this p0 p1 h).bind fun (r58 : Int32) => if r58 = 0 then (K69 (3 : Int32)) else (K69 (0 : Int32))) fun K55 => if s0_15 = 0 then (if p0 = p1 then (K69 (2 : Int32)) else (K55)) else (K55)) fun K41 => if s0_15 = 0 then ((f_X6_isTown n p0 h).bind fun (r24 : Int32) => zlet (K69 (1 : Int32)) fun K37 => if r24 = 0 then (K37) else ((f_X6_isTown n p1 h).bind fun (r31 : Int32) => if r31 = 0 then (K37) else (K41))) else (K41)) fun K15 => zlet (K15 (0 : Int32)) fun K14 => if p0 = (-1 : Int32) then (if p1 = (-1 : Int32) then (K15 (1 : Int32)) else (K14)) else (K14)
theorem zn_X6_operate : zNm yX6_operate 3 := ⟨by decide +kernel, by decide +kernel⟩
set_option maxRecDepth 100000 in
set_option maxHeartbeats 4000000 in
theorem c_X6_operate (l : Launch) (B : Nat) (D : va_G) (cA : Nat → ClassId) (n : Nat) (this : Nat) (p0 : Int32) (p1 : Int32) (p2 : Int32) (h : zH) : ∀ u, f_X6_operate n this p0 p1 p2 h = some u → zM l B D cA yX6_operate cX6_operate 5 (some .int) 7 0 0 none [.ref (B + this), .int p0, .int p1, .int p2] h ((fun u : Int32 × zH => (some (Value.int u.1), u.2)) u).1 ((fun u : Int32 × zH => (some (Value.int u.1), u.2)) u).2 := by
  unfold f_X6_operate
  refine z_met (own := RX6) (fun u : Int32 × zH => (some (Value.int u.1), u.2)) rfl (by decide) rfl (fun Z C hr _ _ => ?_)
  have hz0 : (z00 Z).1 ≤ 0 ∧ (z00 Z).2.1 ≤ 0 := ⟨Nat.le_refl 0, Nat.le_refl 0⟩
  refine z_iload_n (pc := 0) C (zD D_X6_operate_0 0 rfl) rfl 1 rfl ?_
  refine z_iconst (pc := 1) (v := -1) C (zD D_X6_operate_0 1 rfl) (by decide) ?_
  refine z_letg (fun K15 => ∀ (s0_15 : Int32), zJ B Z (zEnd B Z (fun u : Int32 × zH => (some (Value.int u.1), u.2)) 0 0) (K15 s0_15) 15 [(0, .ref (B + this)), (1, .int p0), (2, .int p1), (3, .int p2)] [.int s0_15] h (z00 Z)) (fun s0_15 => ?_) (fun K15 hK15 => ?_)
  · refine z_istore (pc := 15) (lv' := [(4, .int s0_15), (0, .ref (B + this)), (1, .int p0), (2, .int p1), (3, .int p2)]) C (zD D_X6_operate_0 9 rfl) (by decide) rfl ?_
    refine z_aload_n (pc := 17) C (zD D_X6_operate_0 10 rfl) rfl 1 rfl ?_
    refine z_iload (pc := 18) C (zD D_X6_operate_0 11 rfl) 0 rfl ?_
    refine z_letg (fun K69 => ∀ (s0_69 : Int32), zJ B Z (zEnd B Z (fun u : Int32 × zH => (some (Value.int u.1), u.2)) 0 0) (K69 s0_69) 69 [(0, .ref (B + this)), (1, .int p0), (2, .int p1), (3, .int p2)] [.int s0_69, .ref (B + this)] h (z00 Z)) (fun s0_69 => ?_) (fun K69 hK69 => ?_)
    · refine z_cvI (pc := 69) (As := [.int s0_69]) C [] (c_X6_refused _ _ _ _ n this s0_69 h) zn_X6_refused (by decide) (by decide) hz0 zc6 rfl q_155 q_156 q_157 q_5 q_158 rfl rfl rfl (zD D_X6_operate_0 36 rfl) (fun r69 h69 => ?_)
      refine z_if_eq (pc := 72) C (zD D_X6_operate_0 37 rfl) (tgt := 77) (by decide) (fun _ => ?_) (fun _ => ?_)
      · refine z_aload_n (pc := 77) C (zD D_X6_operate_0 40 rfl) rfl 0 rfl ?_
        refine z_cvV (pc := 78) (As := []) C [] (c_X6_saves _ _ _ _ n this h69) zn_X6_saves (by decide) (by decide) hz0 zc6 rfl q_160 q_161 q_162 q_5 q_163 rfl rfl rfl (zD D_X6_operate_0 41 rfl) (fun h78 => ?_)
        refine z_aload_n (pc := 81) C (zD D_X6_operate_0 42 rfl) rfl 0 rfl ?_
        refine z_iload_n (pc := 82) C (zD D_X6_operate_0 43 rfl) rfl 1 rfl ?_
        refine z_iload_n (pc := 83) C (zD D_X6_operate_0 44 rfl) rfl 2 rfl ?_
        refine z_iload_n (pc := 84) C (zD D_X6_operate_0 45 rfl) rfl 3 rfl ?_
        refine z_cvI (pc := 85) (As := [.int p0, .int p1, .int p2]) C [] (c_X6_operates _ _ _ _ n this p0 p1 p2 h78) zn_X6_operates (by decide) (by decide) hz0 zc6 rfl q_604 q_605 q_606 q_5 q_607 rfl rfl rfl (zD D_X6_operate_0 46 rfl) (fun r85 h85 => ?_)
        exact z_iret (pc := 88) C hr rfl (zD D_X6_operate_0 47 rfl)
      · refine z_iconst (pc := 75) (v := 0) C (zD D_X6_operate_0 38 rfl) (by decide) ?_
        exact z_iret (pc := 76) C hr rfl (zD D_X6_operate_0 39 rfl)
    refine z_letg (fun K41 => zJ B Z (zEnd B Z (fun u : Int32 × zH => (some (Value.int u.1), u.2)) 0 0) (K41) 41 [(0, .ref (B + this)), (1, .int p0), (2, .int p1), (3, .int p2), (4, .int s0_15)] [.ref (B + this)] h (z00 Z)) ?_ (fun K41 hK41 => ?_)
    · refine z_iload (pc := 41) C (zD D_X6_operate_0 21 rfl) 4 rfl ?_
      refine z_letg (fun K55 => zJ B Z (zEnd B Z (fun u : Int32 × zH => (some (Value.int u.1), u.2)) 0 0) (K55) 55 [(0, .ref (B + this)), (1, .int p0), (2, .int p1), (3, .int p2)] [.ref (B + this)] h (z00 Z)) ?_ (fun K55 hK55 => ?_)
      · refine z_aload_n (pc := 55) C (zD D_X6_operate_0 28 rfl) rfl 0 rfl ?_
        refine z_iload_n (pc := 56) C (zD D_X6_operate_0 29 rfl) rfl 1 rfl ?_
        refine z_iload_n (pc := 57) C (zD D_X6_operate_0 30 rfl) rfl 2 rfl ?_
        refine z_cvR (pc := 58) (As := [.int p0, .int p1]) C [.ref (B + this)] (c_X6_canOperate _ _ _ _ n this p0 p1 h) zn_X6_canOperate (by decide) (by decide) hz0 zc6 rfl q_585 q_586 q_587 q_5 q_588 rfl rfl rfl (zD D_X6_operate_0 31 rfl) (fun r58 => ?_)
        refine z_if_eq (pc := 61) C (zD D_X6_operate_0 32 rfl) (tgt := 68) (by decide) (fun _ => ?_) (fun _ => ?_)
        · refine z_iconst (pc := 68) (v := 3) C (zD D_X6_operate_0 35 rfl) (by decide) ?_
          exact hK69 (3 : Int32)
        · refine z_iconst (pc := 64) (v := 0) C (zD D_X6_operate_0 33 rfl) (by decide) ?_
          refine z_goto (pc := 65) C (zD D_X6_operate_0 34 rfl) (tgt := 69) (by decide) ?_
          exact hK69 (0 : Int32)
      refine z_if_ne (pc := 43) C (zD D_X6_operate_0 22 rfl) (tgt := 55) (by decide) (fun _ => ?_) (fun _ => ?_)
      · refine z_sub [0, 1, 2, 3] (lv' := [(0, .ref (B + this)), (1, .int p0), (2, .int p1), (3, .int p2)]) rfl ?_
        exact hK55
      · refine z_iload_n (pc := 46) C (zD D_X6_operate_0 23 rfl) rfl 1 rfl ?_
        refine z_iload_n (pc := 47) C (zD D_X6_operate_0 24 rfl) rfl 2 rfl ?_
        refine z_icmp_ne (pc := 48) C (zD D_X6_operate_0 25 rfl) (tgt := 55) (by decide) (fun _ => ?_) (fun _ => ?_)
        · refine z_sub [0, 1, 2, 3] (lv' := [(0, .ref (B + this)), (1, .int p0), (2, .int p1), (3, .int p2)]) rfl ?_
          exact hK55
        · refine z_iconst (pc := 51) (v := 2) C (zD D_X6_operate_0 26 rfl) (by decide) ?_
          refine z_goto (pc := 52) C (zD D_X6_operate_0 27 rfl) (tgt := 69) (by decide) ?_
          refine z_sub [0, 1, 2, 3] (lv' := [(0, .ref (B + this)), (1, .int p0), (2, .int p1), (3, .int p2)]) rfl ?_
          exact hK69 (2 : Int32)
    refine z_if_ne (pc := 20) C (zD D_X6_operate_0 12 rfl) (tgt := 41) (by decide) (fun _ => ?_) (fun _ => ?_)
    · refine z_sub [1, 2, 3, 4, 0] (lv' := [(0, .ref (B + this)), (1, .int p0), (2, .int p1), (3, .int p2), (4, .int s0_15)]) rfl ?_
      exact hK41
    · refine z_iload_n (pc := 23) C (zD D_X6_operate_0 13 rfl) rfl 2 rfl ?_
      refine z_csR (pc := 24) (As := [.int p0]) C [.ref (B + this)] (c_X6_isTown _ _ _ _ n p0 h) zn_X6_isTown (by decide) (by decide) hz0 q_188 q_189 q_5 q_190 rfl rfl rfl (zD D_X6_operate_0 14 rfl) (fun r24 => ?_)
      refine z_letg (fun K37 => zJ B Z (zEnd B Z (fun u : Int32 × zH => (some (Value.int u.1), u.2)) 0 0) (K37) 37 [(0, .ref (B + this)), (1, .int p0), (2, .int p1), (3, .int p2)] [.ref (B + this)] h (z00 Z)) ?_ (fun K37 hK37 => ?_)
      · refine z_iconst (pc := 37) (v := 1) C (zD D_X6_operate_0 19 rfl) (by decide) ?_
        refine z_goto (pc := 38) C (zD D_X6_operate_0 20 rfl) (tgt := 69) (by decide) ?_
        exact hK69 (1 : Int32)
      refine z_if_eq (pc := 27) C (zD D_X6_operate_0 15 rfl) (tgt := 37) (by decide) (fun _ => ?_) (fun _ => ?_)
      · refine z_sub [1, 2, 3, 4] (lv' := [(0, .ref (B + this)), (1, .int p0), (2, .int p1), (3, .int p2)]) rfl ?_
        exact hK37
      · refine z_iload_n (pc := 30) C (zD D_X6_operate_0 16 rfl) rfl 3 rfl ?_
        refine z_csR (pc := 31) (As := [.int p1]) C [.ref (B + this)] (c_X6_isTown _ _ _ _ n p1 h) zn_X6_isTown (by decide) (by decide) hz0 q_188 q_189 q_5 q_190 rfl rfl rfl (zD D_X6_operate_0 17 rfl) (fun r31 => ?_)
        refine z_if_ne (pc := 34) C (zD D_X6_operate_0 18 rfl) (tgt := 41) (by decide) (fun _ => ?_) (fun _ => ?_)
        · refine z_sub [1, 2, 3, 4, 0] (lv' := [(0, .ref (B + this)), (1, .int p0), (2, .int p1), (3, .int p2), (4, .int s0_15)]) rfl ?_
          exact hK41
        · refine z_sub [1, 2, 3, 4] (lv' := [(0, .ref (B + this)), (1, .int p0), (2, .int p1), (3, .int p2)]) rfl ?_
          exact hK37
  refine z_letg (fun K14 => zJ B Z (zEnd B Z (fun u : Int32 × zH => (some (Value.int u.1), u.2)) 0 0) (K14) 14 [(0, .ref (B + this)), (1, .int p0), (2, .int p1), (3, .int p2)] [] h (z00 Z)) ?_ (fun K14 hK14 => ?_)
  · refine z_iconst (pc := 14) (v := 0) C (zD D_X6_operate_0 8 rfl) (by decide) ?_
    exact hK15 (0 : Int32)
  refine z_icmp_ne (pc := 2) C (zD D_X6_operate_0 2 rfl) (tgt := 14) (by decide) (fun _ => ?_) (fun _ => ?_)
  · exact hK14
  · refine z_iload_n (pc := 5) C (zD D_X6_operate_0 3 rfl) rfl 2 rfl ?_
    refine z_iconst (pc := 6) (v := -1) C (zD D_X6_operate_0 4 rfl) (by decide) ?_
    refine z_icmp_ne (pc := 7) C (zD D_X6_operate_0 5 rfl) (tgt := 14) (by decide) (fun _ => ?_) (fun _ => ?_)
    · exact hK14
    · refine z_iconst (pc := 10) (v := 1) C (zD D_X6_operate_0 6 rfl) (by decide) ?_
      refine z_goto (pc := 11) C (zD D_X6_operate_0 7 rfl) (tgt := 15) (by decide) ?_
      exact hK15 (1 : Int32)
def f_X6_play (n : Nat) (this : Nat) (h : zH) : Option (Int32 × zH) := (zp h this 6 5 (.int (0 : Int32))).bind fun (h2 : zH) => (zp h2 this 6 12 (.int (0 : Int32))).bind fun (h7 : zH) => zfix1 (fun rec10 (h10 : zH) => (zgI h10 this 6 12).bind fun (v11 : Int32) => (zgI h10 this 6 4).bind fun (v15 : Int32) => if v15 ≤ v11 then (zrc h10 this 6 <| (f_X6_saves n this h10).bind fun (h37 : zH) => (zp h37 this 6 12 (.int (0 : Int32))).bind fun (h42 : zH) => zfix2 (fun rec47 (a1_47 : Int32) (h47 : zH) => (zgI h47 this 6 12).bind fun (v48 : Int32) => (zgI h47 this 6 4).bind fun (v52 : Int32) => if v52 ≤ v48 then (some (a1_47, h47)) else (zrc h47 this 6 <| zb2 (f_X6_takesMove n this h47) fun (r59 : Int32) (h59 : zH) => if r59 = 0 then (some (a1_47, h59)) else (zrc h59 this 6 <| zb2 (f_X6_makes n this h59) fun (r66 : Int32) (h66 : zH) => if r66 = 0 then (some (a1_47, h66)) else (zlet (a1_47 + 1) fun (x72 : Int32) => rec47 x72 h66)))) n (0 : Int32) h42) else (zrc h10 this 6 <| zb2 (f_X6_takesMove n this h10) fun (r22 : Int32) (h22 : zH) => if r22 = 0 then ((zgI h22 this 6 12).bind fun (v31 : Int32) => some (((-10 : Int32) - v31), h22)) else (rec10 h22))) n h7
theorem zn_X6_play : zNm yX6_play 0 := ⟨by decide +kernel, by decide +kernel⟩
set_option maxRecDepth 100000 in
set_option maxHeartbeats 4000000 in
theorem c_X6_play (l : Launch) (B : Nat) (D : va_G) (cA : Nat → ClassId) (n : Nat) (this : Nat) (h : zH) : ∀ u, f_X6_play n this h = some u → zM l B D cA yX6_play cX6_play 2 (some .int) 8 0 0 none [.ref (B + this)] h ((fun u : Int32 × zH => (some (Value.int u.1), u.2)) u).1 ((fun u : Int32 × zH => (some (Value.int u.1), u.2)) u).2 := by
  unfold f_X6_play
  refine z_met (own := RX6) (fun u : Int32 × zH => (some (Value.int u.1), u.2)) rfl (by decide) rfl (fun Z C hr _ _ => ?_)
  have hz0 : (z00 Z).1 ≤ 0 ∧ (z00 Z).2.1 ≤ 0 := ⟨Nat.le_refl 0, Nat.le_refl 0⟩
  refine z_aload_n (pc := 0) C (zD D_X6_play_0 0 rfl) rfl 0 rfl ?_
  refine z_iconst (pc := 1) (v := 0) C (zD D_X6_play_0 1 rfl) (by decide) ?_
  refine z_putI (pc := 2) C zc6 5 (by decide) q_159 rfl rfl (zD D_X6_play_0 2 rfl) (fun h2 => ?_)
  refine z_aload_n (pc := 5) C (zD D_X6_play_0 3 rfl) rfl 0 rfl ?_
  refine z_iconst (pc := 6) (v := 0) C (zD D_X6_play_0 4 rfl) (by decide) ?_
  refine z_putI (pc := 7) C zc6 12 (by decide) q_910 rfl rfl (zD D_X6_play_0 5 rfl) (fun h7 => ?_)
  refine z_fix1 (fun g10 => ∀ (h10 : zH), zJ B Z (zEnd B Z (fun u : Int32 × zH => (some (Value.int u.1), u.2)) 0 0) (g10 h10) 10 [(0, .ref (B + this))] [] h10 (z00 Z)) (fun _ => z_none) (fun rec10 hrec10 h10 => ?_) n h7
  refine z_aload_n (pc := 10) C (zD D_X6_play_0 6 rfl) rfl 0 rfl ?_
  refine z_getI (pc := 11) C zc6 12 (by decide) q_910 (zD D_X6_play_0 7 rfl) (fun v11 => ?_)
  refine z_aload_n (pc := 14) C (zD D_X6_play_0 8 rfl) rfl 0 rfl ?_
  refine z_getI (pc := 15) C zc6 4 (by decide) q_863 (zD D_X6_play_0 9 rfl) (fun v15 => ?_)
  refine z_icmp_ge (pc := 18) C (zD D_X6_play_0 10 rfl) (tgt := 36) (by decide) (fun _ => ?_) (fun _ => ?_)
  · refine z_aload_n (pc := 36) C (zD D_X6_play_0 19 rfl) rfl 0 rfl ?_
    refine z_cvV (pc := 37) (As := []) C [] (c_X6_saves _ _ _ _ n this h10) zn_X6_saves (by decide) (by decide) hz0 zc6 rfl q_160 q_161 q_162 q_5 q_163 rfl rfl rfl (zD D_X6_play_0 20 rfl) (fun h37 => ?_)
    refine z_aload_n (pc := 40) C (zD D_X6_play_0 21 rfl) rfl 0 rfl ?_
    refine z_iconst (pc := 41) (v := 0) C (zD D_X6_play_0 22 rfl) (by decide) ?_
    refine z_putI (pc := 42) C zc6 12 (by decide) q_910 rfl rfl (zD D_X6_play_0 23 rfl) (fun h42 => ?_)
    refine z_iconst (pc := 45) (v := 0) C (zD D_X6_play_0 24 rfl) (by decide) ?_
    refine z_istore_n (pc := 46) (lv' := [(1, .int (0 : Int32)), (0, .ref (B + this))]) C (zD D_X6_play_0 25 rfl) rfl (by decide) rfl ?_
    refine z_sub [1, 0] (lv' := [(0, .ref (B + this)), (1, .int (0 : Int32))]) rfl ?_
    refine z_fix2 (fun g47 => ∀ (a1_47 : Int32) (h47 : zH), zJ B Z (zEnd B Z (fun u : Int32 × zH => (some (Value.int u.1), u.2)) 0 0) (g47 a1_47 h47) 47 [(0, .ref (B + this)), (1, .int a1_47)] [] h47 (z00 Z)) (fun _ _ => z_none) (fun rec47 hrec47 a1_47 h47 => ?_) n (0 : Int32) h42
    refine z_aload_n (pc := 47) C (zD D_X6_play_0 26 rfl) rfl 0 rfl ?_
    refine z_getI (pc := 48) C zc6 12 (by decide) q_910 (zD D_X6_play_0 27 rfl) (fun v48 => ?_)
    refine z_aload_n (pc := 51) C (zD D_X6_play_0 28 rfl) rfl 0 rfl ?_
    refine z_getI (pc := 52) C zc6 4 (by decide) q_863 (zD D_X6_play_0 29 rfl) (fun v52 => ?_)
    refine z_icmp_ge (pc := 55) C (zD D_X6_play_0 30 rfl) (tgt := 78) (by decide) (fun _ => ?_) (fun _ => ?_)
    · refine z_iload_n (pc := 78) C (zD D_X6_play_0 39 rfl) rfl 1 rfl ?_
      exact z_iret (pc := 79) C hr rfl (zD D_X6_play_0 40 rfl)
    · refine z_aload_n (pc := 58) C (zD D_X6_play_0 31 rfl) rfl 0 rfl ?_
      refine z_cvI (pc := 59) (As := []) C [] (c_X6_takesMove _ _ _ _ n this h47) zn_X6_takesMove (by decide) (by decide) hz0 zc6 rfl q_911 q_912 q_913 q_5 q_914 rfl rfl rfl (zD D_X6_play_0 32 rfl) (fun r59 h59 => ?_)
      refine z_if_eq (pc := 62) C (zD D_X6_play_0 33 rfl) (tgt := 78) (by decide) (fun _ => ?_) (fun _ => ?_)
      · refine z_iload_n (pc := 78) C (zD D_X6_play_0 39 rfl) rfl 1 rfl ?_
        exact z_iret (pc := 79) C hr rfl (zD D_X6_play_0 40 rfl)
      · refine z_aload_n (pc := 65) C (zD D_X6_play_0 34 rfl) rfl 0 rfl ?_
        refine z_cvI (pc := 66) (As := []) C [] (c_X6_makes _ _ _ _ n this h59) zn_X6_makes (by decide) (by decide) hz0 zc6 rfl q_930 q_931 q_932 q_5 q_933 rfl rfl rfl (zD D_X6_play_0 35 rfl) (fun r66 h66 => ?_)
        refine z_if_eq (pc := 69) C (zD D_X6_play_0 36 rfl) (tgt := 78) (by decide) (fun _ => ?_) (fun _ => ?_)
        · refine z_iload_n (pc := 78) C (zD D_X6_play_0 39 rfl) rfl 1 rfl ?_
          exact z_iret (pc := 79) C hr rfl (zD D_X6_play_0 40 rfl)
        · refine z_iincL (pc := 72) (lv' := fun x72 => [(1, .int x72), (0, .ref (B + this))]) C (zD D_X6_play_0 37 rfl) 1 rfl (v := a1_47 + 1) rfl (by decide) (fun _ => rfl) (fun x72 => ?_)
          refine z_goto (pc := 75) C (zD D_X6_play_0 38 rfl) (tgt := 47) (by decide) ?_
          refine z_sub [1, 0] (lv' := [(0, .ref (B + this)), (1, .int x72)]) rfl ?_
          exact hrec47 x72 h66
  · refine z_aload_n (pc := 21) C (zD D_X6_play_0 11 rfl) rfl 0 rfl ?_
    refine z_cvI (pc := 22) (As := []) C [] (c_X6_takesMove _ _ _ _ n this h10) zn_X6_takesMove (by decide) (by decide) hz0 zc6 rfl q_911 q_912 q_913 q_5 q_914 rfl rfl rfl (zD D_X6_play_0 12 rfl) (fun r22 h22 => ?_)
    refine z_if_ne (pc := 25) C (zD D_X6_play_0 13 rfl) (tgt := 10) (by decide) (fun _ => ?_) (fun _ => ?_)
    · exact hrec10 h22
    · refine z_bipush (pc := 28) (v := -10) C (zD D_X6_play_0 14 rfl) (by decide) ?_
      refine z_aload_n (pc := 30) C (zD D_X6_play_0 15 rfl) rfl 0 rfl ?_
      refine z_getI (pc := 31) C zc6 12 (by decide) q_910 (zD D_X6_play_0 16 rfl) (fun v31 => ?_)
      refine z_isub (pc := 34) C (zD D_X6_play_0 17 rfl) ?_
      exact z_iret (pc := 35) C hr rfl (zD D_X6_play_0 18 rfl)
