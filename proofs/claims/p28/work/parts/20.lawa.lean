def f_L_cell (L : Nat) (xs : Nat → Int32) (p1 : Int32) : Option Int32 := zlet (fun (s0_18 : Int32) => some (s0_18 ^^^ (zushr s0_18 (15 : Int32)))) fun K18 => if (Int32.ofNat L) ≤ p1 then (K18 ((916318735 : Int32) * (p1 + (3 : Int32)))) else ((zsx L xs p1).bind fun (v8 : Int32) => K18 v8)
theorem zn_L_cell : zNm yL_cell 2 := ⟨by decide +kernel, by decide +kernel⟩
set_option maxRecDepth 100000 in
set_option maxHeartbeats 4000000 in
theorem c_L_cell (l : Launch) (B : Nat) (D : va_G) (cA : Nat → ClassId) (b L : Nat) (xs : Nat → Int32) (p1 : Int32) (h : zH) : ∀ u, f_L_cell L xs p1 = some u → zMS l B D cA yL_cell cL_cell 3 (some .int) 1 b L xs [.ref b, .int p1] h (some (.int u)) := by
  unfold f_L_cell
  refine z_metS (own := RL) rfl (by decide) rfl (fun Z C hr hX hbl hbB => ?_)
  refine z_iload_n (pc := 0) C (zD D_L_cell_0 0 rfl) rfl 1 rfl ?_
  refine z_aload_n (pc := 1) C (zD D_L_cell_0 1 rfl) rfl 0 rfl ?_
  refine z_slen (pc := 2) C hX hbl hbB (zD D_L_cell_0 2 rfl) ?_
  refine z_letg (fun K18 => ∀ (s0_18 : Int32), zJ B Z (zEndG B Z (fun r : Int32 => (some (Value.int r), h)) 0 0) (K18 s0_18) 18 [] [.int s0_18] h (z00 Z)) (fun s0_18 => ?_) (fun K18 hK18 => ?_)
  · refine z_istore_n (pc := 18) (lv' := [(2, .int s0_18)]) C (zD D_L_cell_0 13 rfl) rfl (by decide) rfl ?_
    refine z_iload_n (pc := 19) C (zD D_L_cell_0 14 rfl) rfl 0 rfl ?_
    refine z_iload_n (pc := 20) C (zD D_L_cell_0 15 rfl) rfl 0 rfl ?_
    refine z_bipush (pc := 21) (v := 15) C (zD D_L_cell_0 16 rfl) (by decide) ?_
    refine z_iushr (pc := 23) C (zD D_L_cell_0 17 rfl) ?_
    refine z_ixor (pc := 24) C (zD D_L_cell_0 18 rfl) ?_
    exact z_iretG (pc := 25) C hr ⟨Nat.le_refl _, Nat.le_refl _, Nat.le_refl _⟩ rfl (zD D_L_cell_0 19 rfl)
  refine z_icmp_ge (pc := 3) C (zD D_L_cell_0 3 rfl) (tgt := 12) (by decide) (fun _ => ?_) (fun _ => ?_)
  · refine z_ldc (pc := 12) (v := 916318735) C q_565 (zD D_L_cell_0 8 rfl) ?_
    refine z_iload_n (pc := 14) C (zD D_L_cell_0 9 rfl) rfl 1 rfl ?_
    refine z_iconst (pc := 15) (v := 3) C (zD D_L_cell_0 10 rfl) (by decide) ?_
    refine z_iadd (pc := 16) C (zD D_L_cell_0 11 rfl) ?_
    refine z_imul (pc := 17) C (zD D_L_cell_0 12 rfl) ?_
    refine z_sub [] (lv' := []) rfl ?_
    exact hK18 ((916318735 : Int32) * (p1 + (3 : Int32)))
  · refine z_aload_n (pc := 6) C (zD D_L_cell_0 4 rfl) rfl 0 rfl ?_
    refine z_iload_n (pc := 7) C (zD D_L_cell_0 5 rfl) rfl 1 rfl ?_
    refine z_sld (pc := 8) C hX hbl hbB (zD D_L_cell_0 6 rfl) (fun v8 => ?_)
    refine z_goto (pc := 9) C (zD D_L_cell_0 7 rfl) (tgt := 18) (by decide) ?_
    refine z_sub [] (lv' := []) rfl ?_
    exact hK18 v8
def f_L_low (n : Nat) (p0 : Int32) (p1 : Int32) (h : zH) : Option (Int32) := (zdiv (p0 &&& (2147483647 : Int32)) p1).bind fun _ => some (zrem (p0 &&& (2147483647 : Int32)) p1)
theorem zn_L_low : zNm yL_low 2 := ⟨by decide +kernel, by decide +kernel⟩
set_option maxRecDepth 100000 in
set_option maxHeartbeats 4000000 in
theorem c_L_low (l : Launch) (B : Nat) (D : va_G) (cA : Nat → ClassId) (n : Nat) (p0 : Int32) (p1 : Int32) (h : zH) : ∀ u, f_L_low n p0 p1 h = some u → zM l B D cA yL_low cL_low 2 (some .int) 1 0 0 none [.int p0, .int p1] h ((fun r : Int32 => (some (Value.int r), h)) u).1 ((fun r : Int32 => (some (Value.int r), h)) u).2 := by
  unfold f_L_low
  refine z_met (own := RL) (fun r : Int32 => (some (Value.int r), h)) rfl (by decide) rfl (fun Z C hr _ _ => ?_)
  have hz0 : (z00 Z).1 ≤ 0 ∧ (z00 Z).2.1 ≤ 0 := ⟨Nat.le_refl 0, Nat.le_refl 0⟩
  refine z_iload_n (pc := 0) C (zD D_L_low_0 0 rfl) rfl 0 rfl ?_
  refine z_ldc (pc := 1) (v := 2147483647) C q_569 (zD D_L_low_0 1 rfl) ?_
  refine z_iand (pc := 3) C (zD D_L_low_0 2 rfl) ?_
  refine z_iload_n (pc := 4) C (zD D_L_low_0 3 rfl) rfl 1 rfl ?_
  refine z_irem (pc := 5) C (zD D_L_low_0 4 rfl) (fun _ => ?_)
  exact z_iret (pc := 6) C hr rfl (zD D_L_low_0 5 rfl)
def f_L_least (n : Nat) (p0 : Int32) (p1 : Int32) (h : zH) : Option (Int32) := if p1 ≤ p0 then (some p1) else (some p0)
theorem zn_L_least : zNm yL_least 2 := ⟨by decide +kernel, by decide +kernel⟩
set_option maxRecDepth 100000 in
set_option maxHeartbeats 4000000 in
theorem c_L_least (l : Launch) (B : Nat) (D : va_G) (cA : Nat → ClassId) (n : Nat) (p0 : Int32) (p1 : Int32) (h : zH) : ∀ u, f_L_least n p0 p1 h = some u → zM l B D cA yL_least cL_least 2 (some .int) 1 0 0 none [.int p0, .int p1] h ((fun r : Int32 => (some (Value.int r), h)) u).1 ((fun r : Int32 => (some (Value.int r), h)) u).2 := by
  unfold f_L_least
  refine z_met (own := RL) (fun r : Int32 => (some (Value.int r), h)) rfl (by decide) rfl (fun Z C hr _ _ => ?_)
  have hz0 : (z00 Z).1 ≤ 0 ∧ (z00 Z).2.1 ≤ 0 := ⟨Nat.le_refl 0, Nat.le_refl 0⟩
  refine z_iload_n (pc := 0) C (zD D_L_least_0 0 rfl) rfl 0 rfl ?_
  refine z_iload_n (pc := 1) C (zD D_L_least_0 1 rfl) rfl 1 rfl ?_
  refine z_icmp_ge (pc := 2) C (zD D_L_least_0 2 rfl) (tgt := 9) (by decide) (fun _ => ?_) (fun _ => ?_)
  · refine z_iload_n (pc := 9) C (zD D_L_least_0 5 rfl) rfl 1 rfl ?_
    exact z_iret (pc := 10) C hr rfl (zD D_L_least_0 6 rfl)
  · refine z_iload_n (pc := 5) C (zD D_L_least_0 3 rfl) rfl 0 rfl ?_
    refine z_goto (pc := 6) C (zD D_L_least_0 4 rfl) (tgt := 10) (by decide) ?_
    exact z_iret (pc := 10) C hr rfl (zD D_L_least_0 6 rfl)
def f_L_isRoute (n : Nat) (p0 : Nat) (p1 : Int32) (h : zH) : Option (Int32 × zH) := zb2 (f_L_routes' n p0 p1 (0 : Int32) h) fun (r13 : Int32) (h13 : zH) => zfix6 (fun rec18 (a2_18 : Int32) (a3_18 : Int32) (a4_18 : Int32) (a5_18 : Int32) (a6_18 : Int32) (h18 : zH) => zlet (zb2 (f_L_companies' n p0 p1 (1 : Int32) h18) fun (r145 : Int32) (h145 : zH) => zb2 (f_L_companies' n p0 p1 (7 : Int32) h145) fun (r154 : Int32) (h154 : zH) => if a2_18 = 0 then (zfix2 (fun rec166 (a5_166 : Int32) (a8_166 : Int32) => if (8 : Int32) ≤ a8_166 then (zlet (some ((0 : Int32), h154)) fun K216 => if a5_166 = 0 then (K216) else (if r154 = 0 then (some ((1 : Int32), h154)) else (K216))) else (zlet (fun (s0_194 : Int32) => zlet (a8_166 + 1) fun (x196 : Int32) => rec166 s0_194 x196) fun K194 => zlet (K194 (0 : Int32)) fun K193 => if a5_166 = 0 then (K193) else ((f_L_tracks' n p0 r145 a8_166 h154).bind fun (r183 : Int32) => if r183 = 0 then (K194 (1 : Int32)) else (K193)))) n a5_18 (0 : Int32)) else (zlet (fun (h286 : zH) => some ((0 : Int32), h286)) fun K286 => if a5_18 = 0 then (K286 h154) else (if a2_18 ≤ (1 : Int32) then (K286 h154) else (zb2 (f_L_companies' n p0 p1 (4 : Int32) h154) fun (r232 : Int32) (h232 : zH) => if r232 < a2_18 then (K286 h232) else (if ((a3_18 >>> (r145 &&& 31)) &&& (1 : Int32)) = (1 : Int32) then (if a4_18 = r154 then (zb2 (f_L_routes' n p0 p1 a2_18 h232) fun (r258 : Int32) (h258 : zH) => if r258 = (-1 : Int32) then (zb2 (f_L_routes' n p0 p1 (0 : Int32) h258) fun (r268 : Int32) (h268 : zH) => zb2 (f_L_routes' n p0 p1 (a2_18 - (1 : Int32)) h268) fun (r276 : Int32) (h276 : zH) => if r276 < r268 then (K286 h276) else (some ((1 : Int32), h276))) else (K286 h258)) else (K286 h232)) else (K286 h232)))))) fun K142 => if a6_18 < 0 then (K142) else (if a5_18 = 0 then (K142) else (if (6 : Int32) ≤ a2_18 then (K142) else (zlet (fun (s0_50 : Int32) (h50 : zH) => zlet (fun (s0_68 : Int32) => zlet (fun (s0_96 : Int32) => zlet ((a3_18 ||| ((1 : Int32) <<< (a6_18 &&& 31)))) fun (x104 : Int32) => (f_L_towns' n p0 a6_18 h50).bind fun (r110 : Int32) => zlet (fun (s0_124 : Int32) => zlet ((a4_18 + (r110 + s0_124))) fun (x126 : Int32) => zlet (a2_18 + 1) fun (x128 : Int32) => zb2 (f_L_routes' n p0 p1 x128 h50) fun (r134 : Int32) (h134 : zH) => rec18 x128 x104 x126 s0_96 r134 h134) fun K124 => if s0_68 = (2 : Int32) then (K124 (5 : Int32)) else (K124 (0 : Int32))) fun K96 => zlet (K96 (0 : Int32)) fun K95 => if (8 : Int32) ≤ a6_18 then (K95) else (if ((a3_18 >>> (a6_18 &&& 31)) &&& (1 : Int32)) = 0 then (if s0_68 ≤ 0 then (K95) else (K96 (1 : Int32))) else (K95))) fun K68 => if a2_18 = 0 then (K68 (1 : Int32)) else ((f_L_tracks' n p0 s0_50 a6_18 h50).bind fun (r65 : Int32) => K68 r65)) fun K50 => if a2_18 = 0 then (K50 (-1 : Int32) h18) else (zb2 (f_L_routes' n p0 p1 (a2_18 - (1 : Int32)) h18) fun (r47 : Int32) (h47 : zH) => K50 r47 h47))))) n (0 : Int32) (0 : Int32) (0 : Int32) (1 : Int32) r13 h13
theorem zn_L_isRoute : zNm yL_isRoute 2 := ⟨by decide +kernel, by decide +kernel⟩
set_option maxRecDepth 100000 in
set_option maxHeartbeats 4000000 in
theorem c_L_isRoute (l : Launch) (B : Nat) (D : va_G) (cA : Nat → ClassId) (n : Nat) (p0 : Nat) (p1 : Int32) (h : zH) : ∀ u, f_L_isRoute n p0 p1 h = some u → zM l B D cA yL_isRoute cL_isRoute 9 (some .boolean) 14 0 0 none [.ref (B + p0), .int p1] h ((fun u : Int32 × zH => (some (Value.int u.1), u.2)) u).1 ((fun u : Int32 × zH => (some (Value.int u.1), u.2)) u).2 := by
  unfold f_L_isRoute
  refine z_met (own := RL) (fun u : Int32 × zH => (some (Value.int u.1), u.2)) rfl (by decide) rfl (fun Z C hr _ _ => ?_)
  have hz0 : (z00 Z).1 ≤ 0 ∧ (z00 Z).2.1 ≤ 0 := ⟨Nat.le_refl 0, Nat.le_refl 0⟩
  refine z_iconst (pc := 0) (v := 0) C (zD D_L_isRoute_0 0 rfl) (by decide) ?_
  refine z_istore_n (pc := 1) (lv' := [(2, .int (0 : Int32)), (0, .ref (B + p0)), (1, .int p1)]) C (zD D_L_isRoute_0 1 rfl) rfl (by decide) rfl ?_
  refine z_iconst (pc := 2) (v := 0) C (zD D_L_isRoute_0 2 rfl) (by decide) ?_
  refine z_istore_n (pc := 3) (lv' := [(3, .int (0 : Int32)), (2, .int (0 : Int32)), (0, .ref (B + p0)), (1, .int p1)]) C (zD D_L_isRoute_0 3 rfl) rfl (by decide) rfl ?_
  refine z_iconst (pc := 4) (v := 0) C (zD D_L_isRoute_0 4 rfl) (by decide) ?_
  refine z_istore (pc := 5) (lv' := [(4, .int (0 : Int32)), (3, .int (0 : Int32)), (2, .int (0 : Int32)), (0, .ref (B + p0)), (1, .int p1)]) C (zD D_L_isRoute_0 5 rfl) (by decide) rfl ?_
  refine z_iconst (pc := 7) (v := 1) C (zD D_L_isRoute_0 6 rfl) (by decide) ?_
  refine z_istore (pc := 8) (lv' := [(5, .int (1 : Int32)), (4, .int (0 : Int32)), (3, .int (0 : Int32)), (2, .int (0 : Int32)), (0, .ref (B + p0)), (1, .int p1)]) C (zD D_L_isRoute_0 7 rfl) (by decide) rfl ?_
  refine z_aload_n (pc := 10) C (zD D_L_isRoute_0 8 rfl) rfl 4 rfl ?_
  refine z_iload_n (pc := 11) C (zD D_L_isRoute_0 9 rfl) rfl 5 rfl ?_
  refine z_iconst (pc := 12) (v := 0) C (zD D_L_isRoute_0 10 rfl) (by decide) ?_
  refine z_sWI (pc := 13) (z' := (z00 Z)) (As := [.ref (B + p0), .int p1, .int (0 : Int32)]) C [] (c_L_routes' _ _ _ _ n p0 p1 (0 : Int32) h) zn_L_routes (by decide) (by decide) hz0 q_460 q_461 q_98 q_462 rfl rfl rfl (zD D_L_isRoute_0 11 rfl) ⟨Nat.le_refl _, Nat.le_refl _, Nat.le_refl _⟩ (fun r13 h13 => ?_)
  refine z_istore (pc := 16) (lv' := [(6, .int r13), (5, .int (1 : Int32)), (4, .int (0 : Int32)), (3, .int (0 : Int32)), (2, .int (0 : Int32)), (0, .ref (B + p0)), (1, .int p1)]) C (zD D_L_isRoute_0 12 rfl) (by decide) rfl ?_
  refine z_sub [5, 6, 4, 3, 2, 1, 0] (lv' := [(0, .ref (B + p0)), (1, .int p1), (2, .int (0 : Int32)), (3, .int (0 : Int32)), (4, .int (0 : Int32)), (5, .int (1 : Int32)), (6, .int r13)]) rfl ?_
  refine z_fix6 (fun g18 => ∀ (a2_18 : Int32) (a3_18 : Int32) (a4_18 : Int32) (a5_18 : Int32) (a6_18 : Int32) (h18 : zH), zJ B Z (zEnd B Z (fun u : Int32 × zH => (some (Value.int u.1), u.2)) 0 0) (g18 a2_18 a3_18 a4_18 a5_18 a6_18 h18) 18 [(0, .ref (B + p0)), (1, .int p1), (2, .int a2_18), (3, .int a3_18), (4, .int a4_18), (5, .int a5_18), (6, .int a6_18)] [] h18 (z00 Z)) (fun _ _ _ _ _ _ => z_none) (fun rec18 hrec18 a2_18 a3_18 a4_18 a5_18 a6_18 h18 => ?_) n (0 : Int32) (0 : Int32) (0 : Int32) (1 : Int32) r13 h13
  refine z_iload (pc := 18) C (zD D_L_isRoute_0 13 rfl) 6 rfl ?_
  refine z_letg (fun K142 => zJ B Z (zEnd B Z (fun u : Int32 × zH => (some (Value.int u.1), u.2)) 0 0) (K142) 142 [(0, .ref (B + p0)), (1, .int p1), (2, .int a2_18), (3, .int a3_18), (4, .int a4_18), (5, .int a5_18)] [] h18 (z00 Z)) ?_ (fun K142 hK142 => ?_)
  · refine z_aload_n (pc := 142) C (zD D_L_isRoute_1 21 rfl) rfl 0 rfl ?_
    refine z_iload_n (pc := 143) C (zD D_L_isRoute_1 22 rfl) rfl 1 rfl ?_
    refine z_iconst (pc := 144) (v := 1) C (zD D_L_isRoute_1 23 rfl) (by decide) ?_
    refine z_sWI (pc := 145) (z' := (z00 Z)) (As := [.ref (B + p0), .int p1, .int (1 : Int32)]) C [] (c_L_companies' _ _ _ _ n p0 p1 (1 : Int32) h18) zn_L_companies (by decide) (by decide) hz0 q_448 q_449 q_98 q_450 rfl rfl rfl (zD D_L_isRoute_1 24 rfl) ⟨Nat.le_refl _, Nat.le_refl _, Nat.le_refl _⟩ (fun r145 h145 => ?_)
    refine z_istore (pc := 148) (lv' := [(6, .int r145), (0, .ref (B + p0)), (1, .int p1), (2, .int a2_18), (3, .int a3_18), (4, .int a4_18), (5, .int a5_18)]) C (zD D_L_isRoute_1 25 rfl) (by decide) rfl ?_
    refine z_aload_n (pc := 150) C (zD D_L_isRoute_1 26 rfl) rfl 1 rfl ?_
    refine z_iload_n (pc := 151) C (zD D_L_isRoute_1 27 rfl) rfl 2 rfl ?_
    refine z_bipush (pc := 152) (v := 7) C (zD D_L_isRoute_1 28 rfl) (by decide) ?_
    refine z_sWI (pc := 154) (z' := (z00 Z)) (As := [.ref (B + p0), .int p1, .int (7 : Int32)]) C [] (c_L_companies' _ _ _ _ n p0 p1 (7 : Int32) h145) zn_L_companies (by decide) (by decide) hz0 q_448 q_449 q_98 q_450 rfl rfl rfl (zD D_L_isRoute_1 29 rfl) ⟨Nat.le_refl _, Nat.le_refl _, Nat.le_refl _⟩ (fun r154 h154 => ?_)
    refine z_istore (pc := 157) (lv' := [(7, .int r154), (6, .int r145), (0, .ref (B + p0)), (1, .int p1), (2, .int a2_18), (3, .int a3_18), (4, .int a4_18), (5, .int a5_18)]) C (zD D_L_isRoute_1 30 rfl) (by decide) rfl ?_
    refine z_iload_n (pc := 159) C (zD D_L_isRoute_1 31 rfl) rfl 4 rfl ?_
    refine z_if_ne (pc := 160) C (zD D_L_isRoute_1 32 rfl) (tgt := 218) (by decide) (fun _ => ?_) (fun _ => ?_)
    · refine z_iload (pc := 218) C (zD D_L_isRoute_1 59 rfl) 7 rfl ?_
      refine z_letg (fun K286 => ∀ (h286 : zH), zJ B Z (zEnd B Z (fun u : Int32 × zH => (some (Value.int u.1), u.2)) 0 0) (K286 h286) 286 [] [] h286 (z00 Z)) (fun h286 => ?_) (fun K286 hK286 => ?_)
      · refine z_iconst (pc := 286) (v := 0) C (zD D_L_isRoute_2 39 rfl) (by decide) ?_
        exact z_zret (pc := 287) C hr (by decide) rfl (zD D_L_isRoute_2 40 rfl)
      refine z_if_eq (pc := 220) C (zD D_L_isRoute_2 0 rfl) (tgt := 286) (by decide) (fun _ => ?_) (fun _ => ?_)
      · refine z_sub [] (lv' := []) rfl ?_
        exact hK286 h154
      · refine z_iload_n (pc := 223) C (zD D_L_isRoute_2 1 rfl) rfl 4 rfl ?_
        refine z_iconst (pc := 224) (v := 1) C (zD D_L_isRoute_2 2 rfl) (by decide) ?_
        refine z_icmp_le (pc := 225) C (zD D_L_isRoute_2 3 rfl) (tgt := 286) (by decide) (fun _ => ?_) (fun _ => ?_)
        · refine z_sub [] (lv' := []) rfl ?_
          exact hK286 h154
        · refine z_iload_n (pc := 228) C (zD D_L_isRoute_2 4 rfl) rfl 4 rfl ?_
          refine z_aload_n (pc := 229) C (zD D_L_isRoute_2 5 rfl) rfl 2 rfl ?_
          refine z_iload_n (pc := 230) C (zD D_L_isRoute_2 6 rfl) rfl 3 rfl ?_
          refine z_iconst (pc := 231) (v := 4) C (zD D_L_isRoute_2 7 rfl) (by decide) ?_
          refine z_sWI (pc := 232) (z' := (z00 Z)) (As := [.ref (B + p0), .int p1, .int (4 : Int32)]) C [.int a2_18] (c_L_companies' _ _ _ _ n p0 p1 (4 : Int32) h154) zn_L_companies (by decide) (by decide) hz0 q_448 q_449 q_98 q_450 rfl rfl rfl (zD D_L_isRoute_2 8 rfl) ⟨Nat.le_refl _, Nat.le_refl _, Nat.le_refl _⟩ (fun r232 h232 => ?_)
          refine z_icmp_gt (pc := 235) C (zD D_L_isRoute_2 9 rfl) (tgt := 286) (by decide) (fun _ => ?_) (fun _ => ?_)
          · refine z_sub [] (lv' := []) rfl ?_
            exact hK286 h232
          · refine z_iload_n (pc := 238) C (zD D_L_isRoute_2 10 rfl) rfl 5 rfl ?_
            refine z_iload (pc := 239) C (zD D_L_isRoute_2 11 rfl) 1 rfl ?_
            refine z_ishr (pc := 241) C (zD D_L_isRoute_2 12 rfl) ?_
            refine z_iconst (pc := 242) (v := 1) C (zD D_L_isRoute_2 13 rfl) (by decide) ?_
            refine z_iand (pc := 243) C (zD D_L_isRoute_2 14 rfl) ?_
            refine z_iconst (pc := 244) (v := 1) C (zD D_L_isRoute_2 15 rfl) (by decide) ?_
            refine z_icmp_ne (pc := 245) C (zD D_L_isRoute_2 16 rfl) (tgt := 286) (by decide) (fun _ => ?_) (fun _ => ?_)
            · refine z_sub [] (lv' := []) rfl ?_
              exact hK286 h232
            · refine z_iload (pc := 248) C (zD D_L_isRoute_2 17 rfl) 6 rfl ?_
              refine z_iload (pc := 250) C (zD D_L_isRoute_2 18 rfl) 0 rfl ?_
              refine z_icmp_ne (pc := 252) C (zD D_L_isRoute_2 19 rfl) (tgt := 286) (by decide) (fun _ => ?_) (fun _ => ?_)
              · refine z_sub [] (lv' := []) rfl ?_
                exact hK286 h232
              · refine z_aload_n (pc := 255) C (zD D_L_isRoute_2 20 rfl) rfl 2 rfl ?_
                refine z_iload_n (pc := 256) C (zD D_L_isRoute_2 21 rfl) rfl 3 rfl ?_
                refine z_iload_n (pc := 257) C (zD D_L_isRoute_2 22 rfl) rfl 4 rfl ?_
                refine z_sWI (pc := 258) (z' := (z00 Z)) (As := [.ref (B + p0), .int p1, .int a2_18]) C [] (c_L_routes' _ _ _ _ n p0 p1 a2_18 h232) zn_L_routes (by decide) (by decide) hz0 q_460 q_461 q_98 q_462 rfl rfl rfl (zD D_L_isRoute_2 23 rfl) ⟨Nat.le_refl _, Nat.le_refl _, Nat.le_refl _⟩ (fun r258 h258 => ?_)
                refine z_iconst (pc := 261) (v := -1) C (zD D_L_isRoute_2 24 rfl) (by decide) ?_
                refine z_icmp_ne (pc := 262) C (zD D_L_isRoute_2 25 rfl) (tgt := 286) (by decide) (fun _ => ?_) (fun _ => ?_)
                · refine z_sub [] (lv' := []) rfl ?_
                  exact hK286 h258
                · refine z_aload_n (pc := 265) C (zD D_L_isRoute_2 26 rfl) rfl 2 rfl ?_
                  refine z_iload_n (pc := 266) C (zD D_L_isRoute_2 27 rfl) rfl 3 rfl ?_
                  refine z_iconst (pc := 267) (v := 0) C (zD D_L_isRoute_2 28 rfl) (by decide) ?_
                  refine z_sWI (pc := 268) (z' := (z00 Z)) (As := [.ref (B + p0), .int p1, .int (0 : Int32)]) C [] (c_L_routes' _ _ _ _ n p0 p1 (0 : Int32) h258) zn_L_routes (by decide) (by decide) hz0 q_460 q_461 q_98 q_462 rfl rfl rfl (zD D_L_isRoute_2 29 rfl) ⟨Nat.le_refl _, Nat.le_refl _, Nat.le_refl _⟩ (fun r268 h268 => ?_)
                  refine z_aload_n (pc := 271) C (zD D_L_isRoute_2 30 rfl) rfl 2 rfl ?_
                  refine z_iload_n (pc := 272) C (zD D_L_isRoute_2 31 rfl) rfl 3 rfl ?_
                  refine z_iload_n (pc := 273) C (zD D_L_isRoute_2 32 rfl) rfl 4 rfl ?_
                  refine z_iconst (pc := 274) (v := 1) C (zD D_L_isRoute_2 33 rfl) (by decide) ?_
                  refine z_isub (pc := 275) C (zD D_L_isRoute_2 34 rfl) ?_
                  refine z_sWI (pc := 276) (z' := (z00 Z)) (As := [.ref (B + p0), .int p1, .int (a2_18 - (1 : Int32))]) C [.int r268] (c_L_routes' _ _ _ _ n p0 p1 (a2_18 - (1 : Int32)) h268) zn_L_routes (by decide) (by decide) hz0 q_460 q_461 q_98 q_462 rfl rfl rfl (zD D_L_isRoute_2 35 rfl) ⟨Nat.le_refl _, Nat.le_refl _, Nat.le_refl _⟩ (fun r276 h276 => ?_)
                  refine z_icmp_gt (pc := 279) C (zD D_L_isRoute_2 36 rfl) (tgt := 286) (by decide) (fun _ => ?_) (fun _ => ?_)
                  · refine z_sub [] (lv' := []) rfl ?_
                    exact hK286 h276
                  · refine z_iconst (pc := 282) (v := 1) C (zD D_L_isRoute_2 37 rfl) (by decide) ?_
                    refine z_goto (pc := 283) C (zD D_L_isRoute_2 38 rfl) (tgt := 287) (by decide) ?_
                    exact z_zret (pc := 287) C hr (by decide) rfl (zD D_L_isRoute_2 40 rfl)
    · refine z_iconst (pc := 163) (v := 0) C (zD D_L_isRoute_1 33 rfl) (by decide) ?_
      refine z_istore (pc := 164) (lv' := [(8, .int (0 : Int32)), (7, .int r154), (6, .int r145), (0, .ref (B + p0)), (1, .int p1), (2, .int a2_18), (3, .int a3_18), (4, .int a4_18), (5, .int a5_18)]) C (zD D_L_isRoute_1 34 rfl) (by decide) rfl ?_
      refine z_sub [3, 8, 2, 1, 0] (lv' := [(0, .ref (B + p0)), (5, .int a5_18), (6, .int r145), (7, .int r154), (8, .int (0 : Int32))]) rfl ?_
      refine z_fix2 (fun g166 => ∀ (a5_166 : Int32) (a8_166 : Int32), zJ B Z (zEnd B Z (fun u : Int32 × zH => (some (Value.int u.1), u.2)) 0 0) (g166 a5_166 a8_166) 166 [(0, .ref (B + p0)), (5, .int a5_166), (6, .int r145), (7, .int r154), (8, .int a8_166)] [] h154 (z00 Z)) (fun _ _ => z_none) (fun rec166 hrec166 a5_166 a8_166 => ?_) n a5_18 (0 : Int32)
      refine z_iload (pc := 166) C (zD D_L_isRoute_1 35 rfl) 4 rfl ?_
      refine z_bipush (pc := 168) (v := 8) C (zD D_L_isRoute_1 36 rfl) (by decide) ?_
      refine z_icmp_ge (pc := 170) C (zD D_L_isRoute_1 37 rfl) (tgt := 202) (by decide) (fun _ => ?_) (fun _ => ?_)
      · refine z_iload (pc := 202) C (zD D_L_isRoute_1 51 rfl) 1 rfl ?_
        refine z_letg (fun K216 => zJ B Z (zEnd B Z (fun u : Int32 × zH => (some (Value.int u.1), u.2)) 0 0) (K216) 216 [] [] h154 (z00 Z)) ?_ (fun K216 hK216 => ?_)
        · refine z_iconst (pc := 216) (v := 0) C (zD D_L_isRoute_1 57 rfl) (by decide) ?_
          exact z_zret (pc := 217) C hr (by decide) rfl (zD D_L_isRoute_1 58 rfl)
        refine z_if_eq (pc := 204) C (zD D_L_isRoute_1 52 rfl) (tgt := 216) (by decide) (fun _ => ?_) (fun _ => ?_)
        · refine z_sub [] (lv' := []) rfl ?_
          exact hK216
        · refine z_iload (pc := 207) C (zD D_L_isRoute_1 53 rfl) 3 rfl ?_
          refine z_if_ne (pc := 209) C (zD D_L_isRoute_1 54 rfl) (tgt := 216) (by decide) (fun _ => ?_) (fun _ => ?_)
          · refine z_sub [] (lv' := []) rfl ?_
            exact hK216
          · refine z_iconst (pc := 212) (v := 1) C (zD D_L_isRoute_1 55 rfl) (by decide) ?_
            refine z_goto (pc := 213) C (zD D_L_isRoute_1 56 rfl) (tgt := 217) (by decide) ?_
            exact z_zret (pc := 217) C hr (by decide) rfl (zD D_L_isRoute_1 58 rfl)
      · refine z_iload (pc := 173) C (zD D_L_isRoute_1 38 rfl) 1 rfl ?_
        refine z_letg (fun K194 => ∀ (s0_194 : Int32), zJ B Z (zEnd B Z (fun u : Int32 × zH => (some (Value.int u.1), u.2)) 0 0) (K194 s0_194) 194 [(0, .ref (B + p0)), (6, .int r145), (7, .int r154), (8, .int a8_166)] [.int s0_194] h154 (z00 Z)) (fun s0_194 => ?_) (fun K194 hK194 => ?_)
        · refine z_istore (pc := 194) (lv' := [(5, .int s0_194), (0, .ref (B + p0)), (6, .int r145), (7, .int r154), (8, .int a8_166)]) C (zD D_L_isRoute_1 48 rfl) (by decide) rfl ?_
          refine z_iincL (pc := 196) (lv' := fun x196 => [(8, .int x196), (5, .int s0_194), (0, .ref (B + p0)), (6, .int r145), (7, .int r154)]) C (zD D_L_isRoute_1 49 rfl) 4 rfl (v := a8_166 + 1) rfl (by decide) (fun _ => rfl) (fun x196 => ?_)
          refine z_goto (pc := 199) C (zD D_L_isRoute_1 50 rfl) (tgt := 166) (by decide) ?_
          refine z_sub [2, 1, 3, 4, 0] (lv' := [(0, .ref (B + p0)), (5, .int s0_194), (6, .int r145), (7, .int r154), (8, .int x196)]) rfl ?_
          exact hrec166 s0_194 x196
        refine z_letg (fun K193 => zJ B Z (zEnd B Z (fun u : Int32 × zH => (some (Value.int u.1), u.2)) 0 0) (K193) 193 [(0, .ref (B + p0)), (6, .int r145), (7, .int r154), (8, .int a8_166)] [] h154 (z00 Z)) ?_ (fun K193 hK193 => ?_)
        · refine z_iconst (pc := 193) (v := 0) C (zD D_L_isRoute_1 47 rfl) (by decide) ?_
          exact hK194 (0 : Int32)
        refine z_if_eq (pc := 175) C (zD D_L_isRoute_1 39 rfl) (tgt := 193) (by decide) (fun _ => ?_) (fun _ => ?_)
        · refine z_sub [0, 2, 3, 4] (lv' := [(0, .ref (B + p0)), (6, .int r145), (7, .int r154), (8, .int a8_166)]) rfl ?_
          exact hK193
        · refine z_aload_n (pc := 178) C (zD D_L_isRoute_1 40 rfl) rfl 0 rfl ?_
          refine z_iload (pc := 179) C (zD D_L_isRoute_1 41 rfl) 2 rfl ?_
          refine z_iload (pc := 181) C (zD D_L_isRoute_1 42 rfl) 4 rfl ?_
          refine z_sWR (pc := 183) (As := [.ref (B + p0), .int r145, .int a8_166]) C [] (c_L_tracks' _ _ _ _ n p0 r145 a8_166 h154) zn_L_tracks (by decide) (by decide) hz0 q_452 q_453 q_98 q_454 rfl rfl rfl (zD D_L_isRoute_1 43 rfl) (fun r183 => ?_)
          refine z_if_ne (pc := 186) C (zD D_L_isRoute_1 44 rfl) (tgt := 193) (by decide) (fun _ => ?_) (fun _ => ?_)
          · refine z_sub [0, 2, 3, 4] (lv' := [(0, .ref (B + p0)), (6, .int r145), (7, .int r154), (8, .int a8_166)]) rfl ?_
            exact hK193
          · refine z_iconst (pc := 189) (v := 1) C (zD D_L_isRoute_1 45 rfl) (by decide) ?_
            refine z_goto (pc := 190) C (zD D_L_isRoute_1 46 rfl) (tgt := 194) (by decide) ?_
            refine z_sub [0, 2, 3, 4] (lv' := [(0, .ref (B + p0)), (6, .int r145), (7, .int r154), (8, .int a8_166)]) rfl ?_
            exact hK194 (1 : Int32)
  refine z_if_lt (pc := 20) C (zD D_L_isRoute_0 14 rfl) (tgt := 142) (by decide) (fun _ => ?_) (fun _ => ?_)
  · refine z_sub [0, 1, 2, 3, 4, 5] (lv' := [(0, .ref (B + p0)), (1, .int p1), (2, .int a2_18), (3, .int a3_18), (4, .int a4_18), (5, .int a5_18)]) rfl ?_
    exact hK142
  · refine z_iload (pc := 23) C (zD D_L_isRoute_0 15 rfl) 5 rfl ?_
    refine z_if_eq (pc := 25) C (zD D_L_isRoute_0 16 rfl) (tgt := 142) (by decide) (fun _ => ?_) (fun _ => ?_)
    · refine z_sub [0, 1, 2, 3, 4, 5] (lv' := [(0, .ref (B + p0)), (1, .int p1), (2, .int a2_18), (3, .int a3_18), (4, .int a4_18), (5, .int a5_18)]) rfl ?_
      exact hK142
    · refine z_iload_n (pc := 28) C (zD D_L_isRoute_0 17 rfl) rfl 2 rfl ?_
      refine z_bipush (pc := 29) (v := 6) C (zD D_L_isRoute_0 18 rfl) (by decide) ?_
      refine z_icmp_ge (pc := 31) C (zD D_L_isRoute_0 19 rfl) (tgt := 142) (by decide) (fun _ => ?_) (fun _ => ?_)
      · refine z_sub [0, 1, 2, 3, 4, 5] (lv' := [(0, .ref (B + p0)), (1, .int p1), (2, .int a2_18), (3, .int a3_18), (4, .int a4_18), (5, .int a5_18)]) rfl ?_
        exact hK142
      · refine z_iload_n (pc := 34) C (zD D_L_isRoute_0 20 rfl) rfl 2 rfl ?_
        refine z_letg (fun K50 => ∀ (s0_50 : Int32) (h50 : zH), zJ B Z (zEnd B Z (fun u : Int32 × zH => (some (Value.int u.1), u.2)) 0 0) (K50 s0_50 h50) 50 [(0, .ref (B + p0)), (1, .int p1), (2, .int a2_18), (3, .int a3_18), (4, .int a4_18), (6, .int a6_18)] [.int s0_50] h50 (z00 Z)) (fun s0_50 h50 => ?_) (fun K50 hK50 => ?_)
        · refine z_istore (pc := 50) (lv' := [(7, .int s0_50), (0, .ref (B + p0)), (1, .int p1), (2, .int a2_18), (3, .int a3_18), (4, .int a4_18), (6, .int a6_18)]) C (zD D_L_isRoute_0 30 rfl) (by decide) rfl ?_
          refine z_iload_n (pc := 52) C (zD D_L_isRoute_0 31 rfl) rfl 3 rfl ?_
          refine z_letg (fun K68 => ∀ (s0_68 : Int32), zJ B Z (zEnd B Z (fun u : Int32 × zH => (some (Value.int u.1), u.2)) 0 0) (K68 s0_68) 68 [(0, .ref (B + p0)), (1, .int p1), (2, .int a2_18), (3, .int a3_18), (4, .int a4_18), (6, .int a6_18)] [.int s0_68] h50 (z00 Z)) (fun s0_68 => ?_) (fun K68 hK68 => ?_)
          · refine z_istore (pc := 68) (lv' := [(8, .int s0_68), (0, .ref (B + p0)), (1, .int p1), (2, .int a2_18), (3, .int a3_18), (4, .int a4_18), (6, .int a6_18)]) C (zD D_L_isRoute_0 39 rfl) (by decide) rfl ?_
            refine z_iload (pc := 70) C (zD D_L_isRoute_0 40 rfl) 6 rfl ?_
            refine z_bipush (pc := 72) (v := 8) C (zD D_L_isRoute_0 41 rfl) (by decide) ?_
            refine z_letg (fun K96 => ∀ (s0_96 : Int32), zJ B Z (zEnd B Z (fun u : Int32 × zH => (some (Value.int u.1), u.2)) 0 0) (K96 s0_96) 96 [(0, .ref (B + p0)), (1, .int p1), (2, .int a2_18), (3, .int a3_18), (4, .int a4_18), (6, .int a6_18), (8, .int s0_68)] [.int s0_96] h50 (z00 Z)) (fun s0_96 => ?_) (fun K96 hK96 => ?_)
            · refine z_istore (pc := 96) (lv' := [(5, .int s0_96), (0, .ref (B + p0)), (1, .int p1), (2, .int a2_18), (3, .int a3_18), (4, .int a4_18), (6, .int a6_18), (8, .int s0_68)]) C (zD D_L_isRoute_0 54 rfl) (by decide) rfl ?_
              refine z_iload_n (pc := 98) C (zD D_L_isRoute_0 55 rfl) rfl 4 rfl ?_
              refine z_iconst (pc := 99) (v := 1) C (zD D_L_isRoute_0 56 rfl) (by decide) ?_
              refine z_iload (pc := 100) C (zD D_L_isRoute_0 57 rfl) 6 rfl ?_
              refine z_ishl (pc := 102) C (zD D_L_isRoute_0 58 rfl) ?_
              refine z_ior (pc := 103) C (zD D_L_isRoute_0 59 rfl) ?_
              refine z_istore_nL (pc := 104) (lv' := fun x104 => [(3, .int x104), (5, .int s0_96), (0, .ref (B + p0)), (1, .int p1), (2, .int a2_18), (4, .int a4_18), (6, .int a6_18), (8, .int s0_68)]) C (zD D_L_isRoute_1 0 rfl) rfl (by decide) (fun _ => rfl) (fun x104 => ?_)
              refine z_iload (pc := 105) C (zD D_L_isRoute_1 1 rfl) 5 rfl ?_
              refine z_aload_n (pc := 107) C (zD D_L_isRoute_1 2 rfl) rfl 2 rfl ?_
              refine z_iload (pc := 108) C (zD D_L_isRoute_1 3 rfl) 6 rfl ?_
              refine z_sWR (pc := 110) (As := [.ref (B + p0), .int a6_18]) C [.int a4_18] (c_L_towns' _ _ _ _ n p0 a6_18 h50) zn_L_towns (by decide) (by decide) hz0 q_456 q_457 q_98 q_458 rfl rfl rfl (zD D_L_isRoute_1 4 rfl) (fun r110 => ?_)
              refine z_iload (pc := 113) C (zD D_L_isRoute_1 5 rfl) 7 rfl ?_
              refine z_iconst (pc := 115) (v := 2) C (zD D_L_isRoute_1 6 rfl) (by decide) ?_
              refine z_letg (fun K124 => ∀ (s0_124 : Int32), zJ B Z (zEnd B Z (fun u : Int32 × zH => (some (Value.int u.1), u.2)) 0 0) (K124 s0_124) 124 [(0, .ref (B + p0)), (1, .int p1), (2, .int a2_18), (3, .int x104), (5, .int s0_96)] [.int s0_124, .int r110, .int a4_18] h50 (z00 Z)) (fun s0_124 => ?_) (fun K124 hK124 => ?_)
              · refine z_iadd (pc := 124) C (zD D_L_isRoute_1 11 rfl) ?_
                refine z_iadd (pc := 125) C (zD D_L_isRoute_1 12 rfl) ?_
                refine z_istoreL (pc := 126) (lv' := fun x126 => [(4, .int x126), (0, .ref (B + p0)), (1, .int p1), (2, .int a2_18), (3, .int x104), (5, .int s0_96)]) C (zD D_L_isRoute_1 13 rfl) (by decide) (fun _ => rfl) (fun x126 => ?_)
                refine z_iincL (pc := 128) (lv' := fun x128 => [(2, .int x128), (4, .int x126), (0, .ref (B + p0)), (1, .int p1), (3, .int x104), (5, .int s0_96)]) C (zD D_L_isRoute_1 14 rfl) 3 rfl (v := a2_18 + 1) rfl (by decide) (fun _ => rfl) (fun x128 => ?_)
                refine z_aload_n (pc := 131) C (zD D_L_isRoute_1 15 rfl) rfl 2 rfl ?_
                refine z_iload_n (pc := 132) C (zD D_L_isRoute_1 16 rfl) rfl 3 rfl ?_
                refine z_iload_n (pc := 133) C (zD D_L_isRoute_1 17 rfl) rfl 0 rfl ?_
                refine z_sWI (pc := 134) (z' := (z00 Z)) (As := [.ref (B + p0), .int p1, .int x128]) C [] (c_L_routes' _ _ _ _ n p0 p1 x128 h50) zn_L_routes (by decide) (by decide) hz0 q_460 q_461 q_98 q_462 rfl rfl rfl (zD D_L_isRoute_1 18 rfl) ⟨Nat.le_refl _, Nat.le_refl _, Nat.le_refl _⟩ (fun r134 h134 => ?_)
                refine z_istore (pc := 137) (lv' := [(6, .int r134), (2, .int x128), (4, .int x126), (0, .ref (B + p0)), (1, .int p1), (3, .int x104), (5, .int s0_96)]) C (zD D_L_isRoute_1 19 rfl) (by decide) rfl ?_
                refine z_goto (pc := 139) C (zD D_L_isRoute_1 20 rfl) (tgt := 18) (by decide) ?_
                refine z_sub [3, 4, 1, 5, 2, 6, 0] (lv' := [(0, .ref (B + p0)), (1, .int p1), (2, .int x128), (3, .int x104), (4, .int x126), (5, .int s0_96), (6, .int r134)]) rfl ?_
                exact hrec18 x128 x104 x126 s0_96 r134 h134
              refine z_icmp_ne (pc := 116) C (zD D_L_isRoute_1 7 rfl) (tgt := 123) (by decide) (fun _ => ?_) (fun _ => ?_)
              · refine z_iconst (pc := 123) (v := 0) C (zD D_L_isRoute_1 10 rfl) (by decide) ?_
                refine z_sub [2, 3, 4, 0, 1] (lv' := [(0, .ref (B + p0)), (1, .int p1), (2, .int a2_18), (3, .int x104), (5, .int s0_96)]) rfl ?_
                exact hK124 (0 : Int32)
              · refine z_iconst (pc := 119) (v := 5) C (zD D_L_isRoute_1 8 rfl) (by decide) ?_
                refine z_goto (pc := 120) C (zD D_L_isRoute_1 9 rfl) (tgt := 124) (by decide) ?_
                refine z_sub [2, 3, 4, 0, 1] (lv' := [(0, .ref (B + p0)), (1, .int p1), (2, .int a2_18), (3, .int x104), (5, .int s0_96)]) rfl ?_
                exact hK124 (5 : Int32)
            refine z_letg (fun K95 => zJ B Z (zEnd B Z (fun u : Int32 × zH => (some (Value.int u.1), u.2)) 0 0) (K95) 95 [(0, .ref (B + p0)), (1, .int p1), (2, .int a2_18), (3, .int a3_18), (4, .int a4_18), (6, .int a6_18), (8, .int s0_68)] [] h50 (z00 Z)) ?_ (fun K95 hK95 => ?_)
            · refine z_iconst (pc := 95) (v := 0) C (zD D_L_isRoute_0 53 rfl) (by decide) ?_
              exact hK96 (0 : Int32)
            refine z_icmp_ge (pc := 74) C (zD D_L_isRoute_0 42 rfl) (tgt := 95) (by decide) (fun _ => ?_) (fun _ => ?_)
            · refine z_sub [1, 2, 3, 4, 5, 6, 0] (lv' := [(0, .ref (B + p0)), (1, .int p1), (2, .int a2_18), (3, .int a3_18), (4, .int a4_18), (6, .int a6_18), (8, .int s0_68)]) rfl ?_
              exact hK95
            · refine z_iload_n (pc := 77) C (zD D_L_isRoute_0 43 rfl) rfl 4 rfl ?_
              refine z_iload (pc := 78) C (zD D_L_isRoute_0 44 rfl) 6 rfl ?_
              refine z_ishr (pc := 80) C (zD D_L_isRoute_0 45 rfl) ?_
              refine z_iconst (pc := 81) (v := 1) C (zD D_L_isRoute_0 46 rfl) (by decide) ?_
              refine z_iand (pc := 82) C (zD D_L_isRoute_0 47 rfl) ?_
              refine z_if_ne (pc := 83) C (zD D_L_isRoute_0 48 rfl) (tgt := 95) (by decide) (fun _ => ?_) (fun _ => ?_)
              · refine z_sub [1, 2, 3, 4, 5, 6, 0] (lv' := [(0, .ref (B + p0)), (1, .int p1), (2, .int a2_18), (3, .int a3_18), (4, .int a4_18), (6, .int a6_18), (8, .int s0_68)]) rfl ?_
                exact hK95
              · refine z_iload (pc := 86) C (zD D_L_isRoute_0 49 rfl) 0 rfl ?_
                refine z_if_le (pc := 88) C (zD D_L_isRoute_0 50 rfl) (tgt := 95) (by decide) (fun _ => ?_) (fun _ => ?_)
                · refine z_sub [1, 2, 3, 4, 5, 6, 0] (lv' := [(0, .ref (B + p0)), (1, .int p1), (2, .int a2_18), (3, .int a3_18), (4, .int a4_18), (6, .int a6_18), (8, .int s0_68)]) rfl ?_
                  exact hK95
                · refine z_iconst (pc := 91) (v := 1) C (zD D_L_isRoute_0 51 rfl) (by decide) ?_
                  refine z_goto (pc := 92) C (zD D_L_isRoute_0 52 rfl) (tgt := 96) (by decide) ?_
                  refine z_sub [1, 2, 3, 4, 5, 6, 0] (lv' := [(0, .ref (B + p0)), (1, .int p1), (2, .int a2_18), (3, .int a3_18), (4, .int a4_18), (6, .int a6_18), (8, .int s0_68)]) rfl ?_
                  exact hK96 (1 : Int32)
          refine z_if_ne (pc := 53) C (zD D_L_isRoute_0 32 rfl) (tgt := 60) (by decide) (fun _ => ?_) (fun _ => ?_)
          · refine z_aload_n (pc := 60) C (zD D_L_isRoute_0 35 rfl) rfl 1 rfl ?_
            refine z_iload (pc := 61) C (zD D_L_isRoute_0 36 rfl) 0 rfl ?_
            refine z_iload (pc := 63) C (zD D_L_isRoute_0 37 rfl) 6 rfl ?_
            refine z_sWR (pc := 65) (As := [.ref (B + p0), .int s0_50, .int a6_18]) C [] (c_L_tracks' _ _ _ _ n p0 s0_50 a6_18 h50) zn_L_tracks (by decide) (by decide) hz0 q_452 q_453 q_98 q_454 rfl rfl rfl (zD D_L_isRoute_0 38 rfl) (fun r65 => ?_)
            refine z_sub [1, 2, 3, 4, 5, 6] (lv' := [(0, .ref (B + p0)), (1, .int p1), (2, .int a2_18), (3, .int a3_18), (4, .int a4_18), (6, .int a6_18)]) rfl ?_
            exact hK68 r65
          · refine z_iconst (pc := 56) (v := 1) C (zD D_L_isRoute_0 33 rfl) (by decide) ?_
            refine z_goto (pc := 57) C (zD D_L_isRoute_0 34 rfl) (tgt := 68) (by decide) ?_
            refine z_sub [1, 2, 3, 4, 5, 6] (lv' := [(0, .ref (B + p0)), (1, .int p1), (2, .int a2_18), (3, .int a3_18), (4, .int a4_18), (6, .int a6_18)]) rfl ?_
            exact hK68 (1 : Int32)
        refine z_if_ne (pc := 35) C (zD D_L_isRoute_0 21 rfl) (tgt := 42) (by decide) (fun _ => ?_) (fun _ => ?_)
        · refine z_aload_n (pc := 42) C (zD D_L_isRoute_0 24 rfl) rfl 0 rfl ?_
          refine z_iload_n (pc := 43) C (zD D_L_isRoute_0 25 rfl) rfl 1 rfl ?_
          refine z_iload_n (pc := 44) C (zD D_L_isRoute_0 26 rfl) rfl 2 rfl ?_
          refine z_iconst (pc := 45) (v := 1) C (zD D_L_isRoute_0 27 rfl) (by decide) ?_
          refine z_isub (pc := 46) C (zD D_L_isRoute_0 28 rfl) ?_
          refine z_sWI (pc := 47) (z' := (z00 Z)) (As := [.ref (B + p0), .int p1, .int (a2_18 - (1 : Int32))]) C [] (c_L_routes' _ _ _ _ n p0 p1 (a2_18 - (1 : Int32)) h18) zn_L_routes (by decide) (by decide) hz0 q_460 q_461 q_98 q_462 rfl rfl rfl (zD D_L_isRoute_0 29 rfl) ⟨Nat.le_refl _, Nat.le_refl _, Nat.le_refl _⟩ (fun r47 h47 => ?_)
          refine z_sub [0, 1, 2, 3, 4, 6] (lv' := [(0, .ref (B + p0)), (1, .int p1), (2, .int a2_18), (3, .int a3_18), (4, .int a4_18), (6, .int a6_18)]) rfl ?_
          exact hK50 r47 h47
        · refine z_iconst (pc := 38) (v := -1) C (zD D_L_isRoute_0 22 rfl) (by decide) ?_
          refine z_goto (pc := 39) C (zD D_L_isRoute_0 23 rfl) (tgt := 50) (by decide) ?_
          refine z_sub [0, 1, 2, 3, 4, 6] (lv' := [(0, .ref (B + p0)), (1, .int p1), (2, .int a2_18), (3, .int a3_18), (4, .int a4_18), (6, .int a6_18)]) rfl ?_
          exact hK50 (-1 : Int32) h18
def f_L_isBest (n : Nat) (p0 : Nat) (p1 : Int32) (h : zH) : Option (Int32 × zH) := zb2 (f_L_companies' n p0 p1 (1 : Int32) h) fun (r3 : Int32) (h3 : zH) => zb2 (f_L_companies' n p0 p1 (7 : Int32) h3) fun (r11 : Int32) (h11 : zH) => zfix3 (fun rec21 (a4_21 : Int32) (a5_21 : Int32) (h21 : zH) => if (64 : Int32) ≤ a5_21 then ((zB a4_21).bind fun _ => some (a4_21, h21)) else (if a4_21 = 0 then ((zB a4_21).bind fun _ => some (a4_21, h21)) else (zlet ((a5_21 / (8 : Int32))) fun (x38 : Int32) => zlet ((zrem a5_21 (8 : Int32))) fun (x45 : Int32) => zlet (fun (s0_64 : Int32) => zlet (fun (s0_83 : Int32) => zlet (fun (s0_110 : Int32) => (f_L_towns' n p0 r3 h21).bind fun (r114 : Int32) => (f_L_towns' n p0 x38 h21).bind fun (r120 : Int32) => zlet (((r114 + r120) + ((5 : Int32) * (s0_64 - (1 : Int32))))) fun (x131 : Int32) => zlet (fun (s0_149 : Int32) => zb2 (f_L_companies' n p0 p1 (4 : Int32) h21) fun (r154 : Int32) (h154 : zH) => zlet (fun (s0_171 : Int32) => zlet (fun (s0_250 : Int32) => zlet (a5_21 + 1) fun (x252 : Int32) => rec21 s0_250 x252 h154) fun K250 => zlet (K250 (0 : Int32)) fun K249 => if s0_149 = 0 then (K249) else (zlet (zlet (K250 (1 : Int32)) fun K245 => if s0_171 = 0 then (K245) else (if s0_83 = 0 then (K245) else (if x38 = x45 then (K245) else ((f_L_towns' n p0 x45 h154).bind fun (r230 : Int32) => if r11 < ((x131 + r230) + ((5 : Int32) * (s0_83 - (1 : Int32)))) then (K249) else (K245))))) fun K208 => if s0_171 = 0 then (K208) else (if s0_110 = 0 then (K208) else ((f_L_towns' n p0 x45 h154).bind fun (r193 : Int32) => if r11 < ((x131 + r193) + ((5 : Int32) * (s0_110 - (1 : Int32)))) then (K249) else (K208))))) fun K171 => zlet (K171 (0 : Int32)) fun K170 => if r154 ≤ (2 : Int32) then (K170) else (if s0_64 ≤ 0 then (K170) else (K171 (1 : Int32)))) fun K149 => zlet (K149 (1 : Int32)) fun K144 => if s0_64 = 0 then (K144) else (if r11 < x131 then (K149 (0 : Int32)) else (K144))) fun K110 => zlet (K110 (0 : Int32)) fun K98 => if x38 = x45 then (K98) else (if x45 = r3 then (K98) else ((f_L_tracks' n p0 x38 x45 h21).bind fun (r107 : Int32) => K110 r107))) fun K83 => if x45 = r3 then (K83 (0 : Int32)) else ((f_L_tracks' n p0 r3 x45 h21).bind fun (r80 : Int32) => K83 r80)) fun K64 => if x38 = r3 then (K64 (0 : Int32)) else ((f_L_tracks' n p0 r3 x38 h21).bind fun (r61 : Int32) => K64 r61)))) n (1 : Int32) (0 : Int32) h11
theorem zn_L_isBest : zNm yL_isBest 2 := ⟨by decide +kernel, by decide +kernel⟩
set_option maxRecDepth 100000 in
set_option maxHeartbeats 4000000 in
theorem c_L_isBest (l : Launch) (B : Nat) (D : va_G) (cA : Nat → ClassId) (n : Nat) (p0 : Nat) (p1 : Int32) (h : zH) : ∀ u, f_L_isBest n p0 p1 h = some u → zM l B D cA yL_isBest cL_isBest 13 (some .boolean) 14 0 0 none [.ref (B + p0), .int p1] h ((fun u : Int32 × zH => (some (Value.int u.1), u.2)) u).1 ((fun u : Int32 × zH => (some (Value.int u.1), u.2)) u).2 := by
  unfold f_L_isBest
  refine z_met (own := RL) (fun u : Int32 × zH => (some (Value.int u.1), u.2)) rfl (by decide) rfl (fun Z C hr _ _ => ?_)
  have hz0 : (z00 Z).1 ≤ 0 ∧ (z00 Z).2.1 ≤ 0 := ⟨Nat.le_refl 0, Nat.le_refl 0⟩
  refine z_aload_n (pc := 0) C (zD D_L_isBest_0 0 rfl) rfl 0 rfl ?_
  refine z_iload_n (pc := 1) C (zD D_L_isBest_0 1 rfl) rfl 1 rfl ?_
  refine z_iconst (pc := 2) (v := 1) C (zD D_L_isBest_0 2 rfl) (by decide) ?_
  refine z_sWI (pc := 3) (z' := (z00 Z)) (As := [.ref (B + p0), .int p1, .int (1 : Int32)]) C [] (c_L_companies' _ _ _ _ n p0 p1 (1 : Int32) h) zn_L_companies (by decide) (by decide) hz0 q_448 q_449 q_98 q_450 rfl rfl rfl (zD D_L_isBest_0 3 rfl) ⟨Nat.le_refl _, Nat.le_refl _, Nat.le_refl _⟩ (fun r3 h3 => ?_)
  refine z_istore_n (pc := 6) (lv' := [(2, .int r3), (0, .ref (B + p0)), (1, .int p1)]) C (zD D_L_isBest_0 4 rfl) rfl (by decide) rfl ?_
  refine z_aload_n (pc := 7) C (zD D_L_isBest_0 5 rfl) rfl 1 rfl ?_
  refine z_iload_n (pc := 8) C (zD D_L_isBest_0 6 rfl) rfl 2 rfl ?_
  refine z_bipush (pc := 9) (v := 7) C (zD D_L_isBest_0 7 rfl) (by decide) ?_
  refine z_sWI (pc := 11) (z' := (z00 Z)) (As := [.ref (B + p0), .int p1, .int (7 : Int32)]) C [] (c_L_companies' _ _ _ _ n p0 p1 (7 : Int32) h3) zn_L_companies (by decide) (by decide) hz0 q_448 q_449 q_98 q_450 rfl rfl rfl (zD D_L_isBest_0 8 rfl) ⟨Nat.le_refl _, Nat.le_refl _, Nat.le_refl _⟩ (fun r11 h11 => ?_)
  refine z_istore_n (pc := 14) (lv' := [(3, .int r11), (2, .int r3), (0, .ref (B + p0)), (1, .int p1)]) C (zD D_L_isBest_0 9 rfl) rfl (by decide) rfl ?_
  refine z_iconst (pc := 15) (v := 1) C (zD D_L_isBest_0 10 rfl) (by decide) ?_
  refine z_istore (pc := 16) (lv' := [(4, .int (1 : Int32)), (3, .int r11), (2, .int r3), (0, .ref (B + p0)), (1, .int p1)]) C (zD D_L_isBest_0 11 rfl) (by decide) rfl ?_
  refine z_iconst (pc := 18) (v := 0) C (zD D_L_isBest_0 12 rfl) (by decide) ?_
  refine z_istore (pc := 19) (lv' := [(5, .int (0 : Int32)), (4, .int (1 : Int32)), (3, .int r11), (2, .int r3), (0, .ref (B + p0)), (1, .int p1)]) C (zD D_L_isBest_0 13 rfl) (by decide) rfl ?_
  refine z_sub [4, 5, 3, 2, 1, 0] (lv' := [(0, .ref (B + p0)), (1, .int p1), (2, .int r3), (3, .int r11), (4, .int (1 : Int32)), (5, .int (0 : Int32))]) rfl ?_
  refine z_fix3 (fun g21 => ∀ (a4_21 : Int32) (a5_21 : Int32) (h21 : zH), zJ B Z (zEnd B Z (fun u : Int32 × zH => (some (Value.int u.1), u.2)) 0 0) (g21 a4_21 a5_21 h21) 21 [(0, .ref (B + p0)), (1, .int p1), (2, .int r3), (3, .int r11), (4, .int a4_21), (5, .int a5_21)] [] h21 (z00 Z)) (fun _ _ _ => z_none) (fun rec21 hrec21 a4_21 a5_21 h21 => ?_) n (1 : Int32) (0 : Int32) h11
  refine z_iload (pc := 21) C (zD D_L_isBest_0 14 rfl) 5 rfl ?_
  refine z_bipush (pc := 23) (v := 64) C (zD D_L_isBest_0 15 rfl) (by decide) ?_
  refine z_icmp_ge (pc := 25) C (zD D_L_isBest_0 16 rfl) (tgt := 258) (by decide) (fun _ => ?_) (fun _ => ?_)
  · refine z_iload (pc := 258) C (zD D_L_isBest_2 20 rfl) 4 rfl ?_
    refine z_bool (fun hb => ?_)
    exact z_zret (pc := 260) C hr hb rfl (zD D_L_isBest_2 21 rfl)
  · refine z_iload (pc := 28) C (zD D_L_isBest_0 17 rfl) 4 rfl ?_
    refine z_if_eq (pc := 30) C (zD D_L_isBest_0 18 rfl) (tgt := 258) (by decide) (fun _ => ?_) (fun _ => ?_)
    · refine z_iload (pc := 258) C (zD D_L_isBest_2 20 rfl) 4 rfl ?_
      refine z_bool (fun hb => ?_)
      exact z_zret (pc := 260) C hr hb rfl (zD D_L_isBest_2 21 rfl)
    · refine z_iload (pc := 33) C (zD D_L_isBest_0 19 rfl) 5 rfl ?_
      refine z_bipush (pc := 35) (v := 8) C (zD D_L_isBest_0 20 rfl) (by decide) ?_
      refine z_idivc (pc := 37) C (zD D_L_isBest_0 21 rfl) (by decide) ?_
      refine z_istoreL (pc := 38) (lv' := fun x38 => [(6, .int x38), (0, .ref (B + p0)), (1, .int p1), (2, .int r3), (3, .int r11), (4, .int a4_21), (5, .int a5_21)]) C (zD D_L_isBest_0 22 rfl) (by decide) (fun _ => rfl) (fun x38 => ?_)
      refine z_iload (pc := 40) C (zD D_L_isBest_0 23 rfl) 6 rfl ?_
      refine z_bipush (pc := 42) (v := 8) C (zD D_L_isBest_0 24 rfl) (by decide) ?_
      refine z_iremc (pc := 44) C (zD D_L_isBest_0 25 rfl) (by decide) ?_
      refine z_istoreL (pc := 45) (lv' := fun x45 => [(7, .int x45), (6, .int x38), (0, .ref (B + p0)), (1, .int p1), (2, .int r3), (3, .int r11), (4, .int a4_21), (5, .int a5_21)]) C (zD D_L_isBest_0 26 rfl) (by decide) (fun _ => rfl) (fun x45 => ?_)
      refine z_iload (pc := 47) C (zD D_L_isBest_0 27 rfl) 1 rfl ?_
      refine z_iload_n (pc := 49) C (zD D_L_isBest_0 28 rfl) rfl 4 rfl ?_
      refine z_letg (fun K64 => ∀ (s0_64 : Int32), zJ B Z (zEnd B Z (fun u : Int32 × zH => (some (Value.int u.1), u.2)) 0 0) (K64 s0_64) 64 [(0, .ref (B + p0)), (1, .int p1), (2, .int r3), (3, .int r11), (5, .int a5_21), (6, .int x38), (7, .int x45)] [.int s0_64] h21 (z00 Z)) (fun s0_64 => ?_) (fun K64 hK64 => ?_)
      · refine z_istore (pc := 64) (lv' := [(8, .int s0_64), (0, .ref (B + p0)), (1, .int p1), (2, .int r3), (3, .int r11), (5, .int a5_21), (6, .int x38), (7, .int x45)]) C (zD D_L_isBest_0 36 rfl) (by decide) rfl ?_
        refine z_iload (pc := 66) C (zD D_L_isBest_0 37 rfl) 7 rfl ?_
        refine z_iload_n (pc := 68) C (zD D_L_isBest_0 38 rfl) rfl 3 rfl ?_
        refine z_letg (fun K83 => ∀ (s0_83 : Int32), zJ B Z (zEnd B Z (fun u : Int32 × zH => (some (Value.int u.1), u.2)) 0 0) (K83 s0_83) 83 [(0, .ref (B + p0)), (1, .int p1), (2, .int r3), (3, .int r11), (5, .int a5_21), (6, .int x38), (7, .int x45), (8, .int s0_64)] [.int s0_83] h21 (z00 Z)) (fun s0_83 => ?_) (fun K83 hK83 => ?_)
        · refine z_istore (pc := 83) (lv' := [(9, .int s0_83), (0, .ref (B + p0)), (1, .int p1), (2, .int r3), (3, .int r11), (5, .int a5_21), (6, .int x38), (7, .int x45), (8, .int s0_64)]) C (zD D_L_isBest_0 46 rfl) (by decide) rfl ?_
          refine z_iload (pc := 85) C (zD D_L_isBest_0 47 rfl) 6 rfl ?_
          refine z_iload (pc := 87) C (zD D_L_isBest_0 48 rfl) 7 rfl ?_
          refine z_letg (fun K110 => ∀ (s0_110 : Int32), zJ B Z (zEnd B Z (fun u : Int32 × zH => (some (Value.int u.1), u.2)) 0 0) (K110 s0_110) 110 [(0, .ref (B + p0)), (1, .int p1), (2, .int r3), (3, .int r11), (5, .int a5_21), (6, .int x38), (7, .int x45), (8, .int s0_64), (9, .int s0_83)] [.int s0_110] h21 (z00 Z)) (fun s0_110 => ?_) (fun K110 hK110 => ?_)
          · refine z_istore (pc := 110) (lv' := [(10, .int s0_110), (0, .ref (B + p0)), (1, .int p1), (2, .int r3), (3, .int r11), (5, .int a5_21), (6, .int x38), (7, .int x45), (8, .int s0_64), (9, .int s0_83)]) C (zD D_L_isBest_0 59 rfl) (by decide) rfl ?_
            refine z_aload_n (pc := 112) C (zD D_L_isBest_1 0 rfl) rfl 1 rfl ?_
            refine z_iload_n (pc := 113) C (zD D_L_isBest_1 1 rfl) rfl 3 rfl ?_
            refine z_sWR (pc := 114) (As := [.ref (B + p0), .int r3]) C [] (c_L_towns' _ _ _ _ n p0 r3 h21) zn_L_towns (by decide) (by decide) hz0 q_456 q_457 q_98 q_458 rfl rfl rfl (zD D_L_isBest_1 2 rfl) (fun r114 => ?_)
            refine z_aload_n (pc := 117) C (zD D_L_isBest_1 3 rfl) rfl 1 rfl ?_
            refine z_iload (pc := 118) C (zD D_L_isBest_1 4 rfl) 6 rfl ?_
            refine z_sWR (pc := 120) (As := [.ref (B + p0), .int x38]) C [.int r114] (c_L_towns' _ _ _ _ n p0 x38 h21) zn_L_towns (by decide) (by decide) hz0 q_456 q_457 q_98 q_458 rfl rfl rfl (zD D_L_isBest_1 5 rfl) (fun r120 => ?_)
            refine z_iadd (pc := 123) C (zD D_L_isBest_1 6 rfl) ?_
            refine z_iconst (pc := 124) (v := 5) C (zD D_L_isBest_1 7 rfl) (by decide) ?_
            refine z_iload (pc := 125) C (zD D_L_isBest_1 8 rfl) 8 rfl ?_
            refine z_iconst (pc := 127) (v := 1) C (zD D_L_isBest_1 9 rfl) (by decide) ?_
            refine z_isub (pc := 128) C (zD D_L_isBest_1 10 rfl) ?_
            refine z_imul (pc := 129) C (zD D_L_isBest_1 11 rfl) ?_
            refine z_iadd (pc := 130) C (zD D_L_isBest_1 12 rfl) ?_
            refine z_istoreL (pc := 131) (lv' := fun x131 => [(11, .int x131), (10, .int s0_110), (0, .ref (B + p0)), (1, .int p1), (2, .int r3), (3, .int r11), (5, .int a5_21), (6, .int x38), (7, .int x45), (8, .int s0_64), (9, .int s0_83)]) C (zD D_L_isBest_1 13 rfl) (by decide) (fun _ => rfl) (fun x131 => ?_)
            refine z_iload (pc := 133) C (zD D_L_isBest_1 14 rfl) 9 rfl ?_
            refine z_letg (fun K149 => ∀ (s0_149 : Int32), zJ B Z (zEnd B Z (fun u : Int32 × zH => (some (Value.int u.1), u.2)) 0 0) (K149 s0_149) 149 [(0, .ref (B + p0)), (1, .int p1), (2, .int r3), (3, .int r11), (5, .int a5_21), (6, .int x38), (7, .int x45), (8, .int s0_64), (9, .int s0_83), (10, .int s0_110), (11, .int x131)] [.int s0_149] h21 (z00 Z)) (fun s0_149 => ?_) (fun K149 hK149 => ?_)
            · refine z_istore (pc := 149) (lv' := [(4, .int s0_149), (0, .ref (B + p0)), (1, .int p1), (2, .int r3), (3, .int r11), (5, .int a5_21), (6, .int x38), (7, .int x45), (8, .int s0_64), (9, .int s0_83), (10, .int s0_110), (11, .int x131)]) C (zD D_L_isBest_1 22 rfl) (by decide) rfl ?_
              refine z_aload_n (pc := 151) C (zD D_L_isBest_1 23 rfl) rfl 1 rfl ?_
              refine z_iload_n (pc := 152) C (zD D_L_isBest_1 24 rfl) rfl 2 rfl ?_
              refine z_iconst (pc := 153) (v := 4) C (zD D_L_isBest_1 25 rfl) (by decide) ?_
              refine z_sWI (pc := 154) (z' := (z00 Z)) (As := [.ref (B + p0), .int p1, .int (4 : Int32)]) C [] (c_L_companies' _ _ _ _ n p0 p1 (4 : Int32) h21) zn_L_companies (by decide) (by decide) hz0 q_448 q_449 q_98 q_450 rfl rfl rfl (zD D_L_isBest_1 26 rfl) ⟨Nat.le_refl _, Nat.le_refl _, Nat.le_refl _⟩ (fun r154 h154 => ?_)
              refine z_iconst (pc := 157) (v := 2) C (zD D_L_isBest_1 27 rfl) (by decide) ?_
              refine z_letg (fun K171 => ∀ (s0_171 : Int32), zJ B Z (zEnd B Z (fun u : Int32 × zH => (some (Value.int u.1), u.2)) 0 0) (K171 s0_171) 171 [(0, .ref (B + p0)), (1, .int p1), (2, .int r3), (3, .int r11), (4, .int s0_149), (5, .int a5_21), (6, .int x38), (7, .int x45), (9, .int s0_83), (10, .int s0_110), (11, .int x131)] [.int s0_171] h154 (z00 Z)) (fun s0_171 => ?_) (fun K171 hK171 => ?_)
              · refine z_istore (pc := 171) (lv' := [(12, .int s0_171), (0, .ref (B + p0)), (1, .int p1), (2, .int r3), (3, .int r11), (4, .int s0_149), (5, .int a5_21), (6, .int x38), (7, .int x45), (9, .int s0_83), (10, .int s0_110), (11, .int x131)]) C (zD D_L_isBest_1 34 rfl) (by decide) rfl ?_
                refine z_iload (pc := 173) C (zD D_L_isBest_1 35 rfl) 5 rfl ?_
                refine z_letg (fun K250 => ∀ (s0_250 : Int32), zJ B Z (zEnd B Z (fun u : Int32 × zH => (some (Value.int u.1), u.2)) 0 0) (K250 s0_250) 250 [(0, .ref (B + p0)), (1, .int p1), (2, .int r3), (3, .int r11), (5, .int a5_21)] [.int s0_250] h154 (z00 Z)) (fun s0_250 => ?_) (fun K250 hK250 => ?_)
                · refine z_istore (pc := 250) (lv' := [(4, .int s0_250), (0, .ref (B + p0)), (1, .int p1), (2, .int r3), (3, .int r11), (5, .int a5_21)]) C (zD D_L_isBest_2 17 rfl) (by decide) rfl ?_
                  refine z_iincL (pc := 252) (lv' := fun x252 => [(5, .int x252), (4, .int s0_250), (0, .ref (B + p0)), (1, .int p1), (2, .int r3), (3, .int r11)]) C (zD D_L_isBest_2 18 rfl) 5 rfl (v := a5_21 + 1) rfl (by decide) (fun _ => rfl) (fun x252 => ?_)
                  refine z_goto (pc := 255) C (zD D_L_isBest_2 19 rfl) (tgt := 21) (by decide) ?_
                  refine z_sub [2, 3, 4, 5, 1, 0] (lv' := [(0, .ref (B + p0)), (1, .int p1), (2, .int r3), (3, .int r11), (4, .int s0_250), (5, .int x252)]) rfl ?_
                  exact hrec21 s0_250 x252 h154
                refine z_letg (fun K249 => zJ B Z (zEnd B Z (fun u : Int32 × zH => (some (Value.int u.1), u.2)) 0 0) (K249) 249 [(0, .ref (B + p0)), (1, .int p1), (2, .int r3), (3, .int r11), (5, .int a5_21)] [] h154 (z00 Z)) ?_ (fun K249 hK249 => ?_)
                · refine z_iconst (pc := 249) (v := 0) C (zD D_L_isBest_2 16 rfl) (by decide) ?_
                  exact hK250 (0 : Int32)
                refine z_if_eq (pc := 175) C (zD D_L_isBest_1 36 rfl) (tgt := 249) (by decide) (fun _ => ?_) (fun _ => ?_)
                · refine z_sub [1, 2, 3, 4, 6] (lv' := [(0, .ref (B + p0)), (1, .int p1), (2, .int r3), (3, .int r11), (5, .int a5_21)]) rfl ?_
                  exact hK249
                · refine z_iload (pc := 178) C (zD D_L_isBest_1 37 rfl) 0 rfl ?_
                  refine z_letg (fun K208 => zJ B Z (zEnd B Z (fun u : Int32 × zH => (some (Value.int u.1), u.2)) 0 0) (K208) 208 [(0, .ref (B + p0)), (1, .int p1), (2, .int r3), (3, .int r11), (5, .int a5_21), (6, .int x38), (7, .int x45), (9, .int s0_83), (11, .int x131), (12, .int s0_171)] [] h154 (z00 Z)) ?_ (fun K208 hK208 => ?_)
                  · refine z_iload (pc := 208) C (zD D_L_isBest_1 54 rfl) 9 rfl ?_
                    refine z_letg (fun K245 => zJ B Z (zEnd B Z (fun u : Int32 × zH => (some (Value.int u.1), u.2)) 0 0) (K245) 245 [(0, .ref (B + p0)), (1, .int p1), (2, .int r3), (3, .int r11), (5, .int a5_21)] [] h154 (z00 Z)) ?_ (fun K245 hK245 => ?_)
                    · refine z_iconst (pc := 245) (v := 1) C (zD D_L_isBest_2 14 rfl) (by decide) ?_
                      refine z_goto (pc := 246) C (zD D_L_isBest_2 15 rfl) (tgt := 250) (by decide) ?_
                      exact hK250 (1 : Int32)
                    refine z_if_eq (pc := 210) C (zD D_L_isBest_1 55 rfl) (tgt := 245) (by decide) (fun _ => ?_) (fun _ => ?_)
                    · refine z_sub [0, 1, 2, 3, 4] (lv' := [(0, .ref (B + p0)), (1, .int p1), (2, .int r3), (3, .int r11), (5, .int a5_21)]) rfl ?_
                      exact hK245
                    · refine z_iload (pc := 213) C (zD D_L_isBest_1 56 rfl) 7 rfl ?_
                      refine z_if_eq (pc := 215) C (zD D_L_isBest_1 57 rfl) (tgt := 245) (by decide) (fun _ => ?_) (fun _ => ?_)
                      · refine z_sub [0, 1, 2, 3, 4] (lv' := [(0, .ref (B + p0)), (1, .int p1), (2, .int r3), (3, .int r11), (5, .int a5_21)]) rfl ?_
                        exact hK245
                      · refine z_iload (pc := 218) C (zD D_L_isBest_1 58 rfl) 5 rfl ?_
                        refine z_iload (pc := 220) C (zD D_L_isBest_1 59 rfl) 6 rfl ?_
                        refine z_icmp_eq (pc := 222) C (zD D_L_isBest_2 0 rfl) (tgt := 245) (by decide) (fun _ => ?_) (fun _ => ?_)
                        · refine z_sub [0, 1, 2, 3, 4] (lv' := [(0, .ref (B + p0)), (1, .int p1), (2, .int r3), (3, .int r11), (5, .int a5_21)]) rfl ?_
                          exact hK245
                        · refine z_iload (pc := 225) C (zD D_L_isBest_2 1 rfl) 8 rfl ?_
                          refine z_aload_n (pc := 227) C (zD D_L_isBest_2 2 rfl) rfl 0 rfl ?_
                          refine z_iload (pc := 228) C (zD D_L_isBest_2 3 rfl) 6 rfl ?_
                          refine z_sWR (pc := 230) (As := [.ref (B + p0), .int x45]) C [.int x131] (c_L_towns' _ _ _ _ n p0 x45 h154) zn_L_towns (by decide) (by decide) hz0 q_456 q_457 q_98 q_458 rfl rfl rfl (zD D_L_isBest_2 4 rfl) (fun r230 => ?_)
                          refine z_iadd (pc := 233) C (zD D_L_isBest_2 5 rfl) ?_
                          refine z_iconst (pc := 234) (v := 5) C (zD D_L_isBest_2 6 rfl) (by decide) ?_
                          refine z_iload (pc := 235) C (zD D_L_isBest_2 7 rfl) 7 rfl ?_
                          refine z_iconst (pc := 237) (v := 1) C (zD D_L_isBest_2 8 rfl) (by decide) ?_
                          refine z_isub (pc := 238) C (zD D_L_isBest_2 9 rfl) ?_
                          refine z_imul (pc := 239) C (zD D_L_isBest_2 10 rfl) ?_
                          refine z_iadd (pc := 240) C (zD D_L_isBest_2 11 rfl) ?_
                          refine z_iload_n (pc := 241) C (zD D_L_isBest_2 12 rfl) rfl 3 rfl ?_
                          refine z_icmp_gt (pc := 242) C (zD D_L_isBest_2 13 rfl) (tgt := 249) (by decide) (fun _ => ?_) (fun _ => ?_)
                          · refine z_sub [0, 1, 2, 3, 4] (lv' := [(0, .ref (B + p0)), (1, .int p1), (2, .int r3), (3, .int r11), (5, .int a5_21)]) rfl ?_
                            exact hK249
                          · refine z_sub [0, 1, 2, 3, 4] (lv' := [(0, .ref (B + p0)), (1, .int p1), (2, .int r3), (3, .int r11), (5, .int a5_21)]) rfl ?_
                            exact hK245
                  refine z_if_eq (pc := 180) C (zD D_L_isBest_1 38 rfl) (tgt := 208) (by decide) (fun _ => ?_) (fun _ => ?_)
                  · refine z_sub [1, 2, 3, 4, 6, 7, 8, 9, 11, 0] (lv' := [(0, .ref (B + p0)), (1, .int p1), (2, .int r3), (3, .int r11), (5, .int a5_21), (6, .int x38), (7, .int x45), (9, .int s0_83), (11, .int x131), (12, .int s0_171)]) rfl ?_
                    exact hK208
                  · refine z_iload (pc := 183) C (zD D_L_isBest_1 39 rfl) 10 rfl ?_
                    refine z_if_eq (pc := 185) C (zD D_L_isBest_1 40 rfl) (tgt := 208) (by decide) (fun _ => ?_) (fun _ => ?_)
                    · refine z_sub [1, 2, 3, 4, 6, 7, 8, 9, 11, 0] (lv' := [(0, .ref (B + p0)), (1, .int p1), (2, .int r3), (3, .int r11), (5, .int a5_21), (6, .int x38), (7, .int x45), (9, .int s0_83), (11, .int x131), (12, .int s0_171)]) rfl ?_
                      exact hK208
                    · refine z_iload (pc := 188) C (zD D_L_isBest_1 41 rfl) 11 rfl ?_
                      refine z_aload_n (pc := 190) C (zD D_L_isBest_1 42 rfl) rfl 1 rfl ?_
                      refine z_iload (pc := 191) C (zD D_L_isBest_1 43 rfl) 8 rfl ?_
                      refine z_sWR (pc := 193) (As := [.ref (B + p0), .int x45]) C [.int x131] (c_L_towns' _ _ _ _ n p0 x45 h154) zn_L_towns (by decide) (by decide) hz0 q_456 q_457 q_98 q_458 rfl rfl rfl (zD D_L_isBest_1 44 rfl) (fun r193 => ?_)
                      refine z_iadd (pc := 196) C (zD D_L_isBest_1 45 rfl) ?_
                      refine z_iconst (pc := 197) (v := 5) C (zD D_L_isBest_1 46 rfl) (by decide) ?_
                      refine z_iload (pc := 198) C (zD D_L_isBest_1 47 rfl) 10 rfl ?_
                      refine z_iconst (pc := 200) (v := 1) C (zD D_L_isBest_1 48 rfl) (by decide) ?_
                      refine z_isub (pc := 201) C (zD D_L_isBest_1 49 rfl) ?_
                      refine z_imul (pc := 202) C (zD D_L_isBest_1 50 rfl) ?_
                      refine z_iadd (pc := 203) C (zD D_L_isBest_1 51 rfl) ?_
                      refine z_iload_n (pc := 204) C (zD D_L_isBest_1 52 rfl) rfl 4 rfl ?_
                      refine z_icmp_gt (pc := 205) C (zD D_L_isBest_1 53 rfl) (tgt := 249) (by decide) (fun _ => ?_) (fun _ => ?_)
                      · refine z_sub [1, 2, 3, 4, 6] (lv' := [(0, .ref (B + p0)), (1, .int p1), (2, .int r3), (3, .int r11), (5, .int a5_21)]) rfl ?_
                        exact hK249
                      · refine z_sub [1, 2, 3, 4, 6, 7, 8, 9, 11, 0] (lv' := [(0, .ref (B + p0)), (1, .int p1), (2, .int r3), (3, .int r11), (5, .int a5_21), (6, .int x38), (7, .int x45), (9, .int s0_83), (11, .int x131), (12, .int s0_171)]) rfl ?_
                        exact hK208
              refine z_letg (fun K170 => zJ B Z (zEnd B Z (fun u : Int32 × zH => (some (Value.int u.1), u.2)) 0 0) (K170) 170 [(0, .ref (B + p0)), (1, .int p1), (2, .int r3), (3, .int r11), (4, .int s0_149), (5, .int a5_21), (6, .int x38), (7, .int x45), (9, .int s0_83), (10, .int s0_110), (11, .int x131)] [] h154 (z00 Z)) ?_ (fun K170 hK170 => ?_)
              · refine z_iconst (pc := 170) (v := 0) C (zD D_L_isBest_1 33 rfl) (by decide) ?_
                exact hK171 (0 : Int32)
              refine z_icmp_le (pc := 158) C (zD D_L_isBest_1 28 rfl) (tgt := 170) (by decide) (fun _ => ?_) (fun _ => ?_)
              · refine z_sub [1, 2, 3, 4, 0, 5, 6, 7, 9, 10, 11] (lv' := [(0, .ref (B + p0)), (1, .int p1), (2, .int r3), (3, .int r11), (4, .int s0_149), (5, .int a5_21), (6, .int x38), (7, .int x45), (9, .int s0_83), (10, .int s0_110), (11, .int x131)]) rfl ?_
                exact hK170
              · refine z_iload (pc := 161) C (zD D_L_isBest_1 29 rfl) 8 rfl ?_
                refine z_if_le (pc := 163) C (zD D_L_isBest_1 30 rfl) (tgt := 170) (by decide) (fun _ => ?_) (fun _ => ?_)
                · refine z_sub [1, 2, 3, 4, 0, 5, 6, 7, 9, 10, 11] (lv' := [(0, .ref (B + p0)), (1, .int p1), (2, .int r3), (3, .int r11), (4, .int s0_149), (5, .int a5_21), (6, .int x38), (7, .int x45), (9, .int s0_83), (10, .int s0_110), (11, .int x131)]) rfl ?_
                  exact hK170
                · refine z_iconst (pc := 166) (v := 1) C (zD D_L_isBest_1 31 rfl) (by decide) ?_
                  refine z_goto (pc := 167) C (zD D_L_isBest_1 32 rfl) (tgt := 171) (by decide) ?_
                  refine z_sub [1, 2, 3, 4, 0, 5, 6, 7, 9, 10, 11] (lv' := [(0, .ref (B + p0)), (1, .int p1), (2, .int r3), (3, .int r11), (4, .int s0_149), (5, .int a5_21), (6, .int x38), (7, .int x45), (9, .int s0_83), (10, .int s0_110), (11, .int x131)]) rfl ?_
                  exact hK171 (1 : Int32)
            refine z_letg (fun K144 => zJ B Z (zEnd B Z (fun u : Int32 × zH => (some (Value.int u.1), u.2)) 0 0) (K144) 144 [(0, .ref (B + p0)), (1, .int p1), (2, .int r3), (3, .int r11), (5, .int a5_21), (6, .int x38), (7, .int x45), (8, .int s0_64), (9, .int s0_83), (10, .int s0_110), (11, .int x131)] [] h21 (z00 Z)) ?_ (fun K144 hK144 => ?_)
            · refine z_iconst (pc := 144) (v := 1) C (zD D_L_isBest_1 19 rfl) (by decide) ?_
              refine z_goto (pc := 145) C (zD D_L_isBest_1 20 rfl) (tgt := 149) (by decide) ?_
              exact hK149 (1 : Int32)
            refine z_if_eq (pc := 135) C (zD D_L_isBest_1 15 rfl) (tgt := 144) (by decide) (fun _ => ?_) (fun _ => ?_)
            · refine z_sub [2, 3, 4, 5, 6, 7, 8, 9, 10, 1, 0] (lv' := [(0, .ref (B + p0)), (1, .int p1), (2, .int r3), (3, .int r11), (5, .int a5_21), (6, .int x38), (7, .int x45), (8, .int s0_64), (9, .int s0_83), (10, .int s0_110), (11, .int x131)]) rfl ?_
              exact hK144
            · refine z_iload (pc := 138) C (zD D_L_isBest_1 16 rfl) 0 rfl ?_
              refine z_iload_n (pc := 140) C (zD D_L_isBest_1 17 rfl) rfl 5 rfl ?_
              refine z_icmp_gt (pc := 141) C (zD D_L_isBest_1 18 rfl) (tgt := 148) (by decide) (fun _ => ?_) (fun _ => ?_)
              · refine z_iconst (pc := 148) (v := 0) C (zD D_L_isBest_1 21 rfl) (by decide) ?_
                refine z_sub [2, 3, 4, 5, 6, 7, 8, 9, 10, 1, 0] (lv' := [(0, .ref (B + p0)), (1, .int p1), (2, .int r3), (3, .int r11), (5, .int a5_21), (6, .int x38), (7, .int x45), (8, .int s0_64), (9, .int s0_83), (10, .int s0_110), (11, .int x131)]) rfl ?_
                exact hK149 (0 : Int32)
              · refine z_sub [2, 3, 4, 5, 6, 7, 8, 9, 10, 1, 0] (lv' := [(0, .ref (B + p0)), (1, .int p1), (2, .int r3), (3, .int r11), (5, .int a5_21), (6, .int x38), (7, .int x45), (8, .int s0_64), (9, .int s0_83), (10, .int s0_110), (11, .int x131)]) rfl ?_
                exact hK144
          refine z_letg (fun K98 => zJ B Z (zEnd B Z (fun u : Int32 × zH => (some (Value.int u.1), u.2)) 0 0) (K98) 98 [(0, .ref (B + p0)), (1, .int p1), (2, .int r3), (3, .int r11), (5, .int a5_21), (6, .int x38), (7, .int x45), (8, .int s0_64), (9, .int s0_83)] [] h21 (z00 Z)) ?_ (fun K98 hK98 => ?_)
          · refine z_iconst (pc := 98) (v := 0) C (zD D_L_isBest_0 53 rfl) (by decide) ?_
            refine z_goto (pc := 99) C (zD D_L_isBest_0 54 rfl) (tgt := 110) (by decide) ?_
            exact hK110 (0 : Int32)
          refine z_icmp_eq (pc := 89) C (zD D_L_isBest_0 49 rfl) (tgt := 98) (by decide) (fun _ => ?_) (fun _ => ?_)
          · refine z_sub [1, 2, 3, 4, 5, 6, 7, 8, 0] (lv' := [(0, .ref (B + p0)), (1, .int p1), (2, .int r3), (3, .int r11), (5, .int a5_21), (6, .int x38), (7, .int x45), (8, .int s0_64), (9, .int s0_83)]) rfl ?_
            exact hK98
          · refine z_iload (pc := 92) C (zD D_L_isBest_0 50 rfl) 7 rfl ?_
            refine z_iload_n (pc := 94) C (zD D_L_isBest_0 51 rfl) rfl 3 rfl ?_
            refine z_icmp_ne (pc := 95) C (zD D_L_isBest_0 52 rfl) (tgt := 102) (by decide) (fun _ => ?_) (fun _ => ?_)
            · refine z_aload_n (pc := 102) C (zD D_L_isBest_0 55 rfl) rfl 1 rfl ?_
              refine z_iload (pc := 103) C (zD D_L_isBest_0 56 rfl) 6 rfl ?_
              refine z_iload (pc := 105) C (zD D_L_isBest_0 57 rfl) 7 rfl ?_
              refine z_sWR (pc := 107) (As := [.ref (B + p0), .int x38, .int x45]) C [] (c_L_tracks' _ _ _ _ n p0 x38 x45 h21) zn_L_tracks (by decide) (by decide) hz0 q_452 q_453 q_98 q_454 rfl rfl rfl (zD D_L_isBest_0 58 rfl) (fun r107 => ?_)
              refine z_sub [1, 2, 3, 4, 5, 6, 7, 8, 0] (lv' := [(0, .ref (B + p0)), (1, .int p1), (2, .int r3), (3, .int r11), (5, .int a5_21), (6, .int x38), (7, .int x45), (8, .int s0_64), (9, .int s0_83)]) rfl ?_
              exact hK110 r107
            · refine z_sub [1, 2, 3, 4, 5, 6, 7, 8, 0] (lv' := [(0, .ref (B + p0)), (1, .int p1), (2, .int r3), (3, .int r11), (5, .int a5_21), (6, .int x38), (7, .int x45), (8, .int s0_64), (9, .int s0_83)]) rfl ?_
              exact hK98
        refine z_icmp_ne (pc := 69) C (zD D_L_isBest_0 39 rfl) (tgt := 76) (by decide) (fun _ => ?_) (fun _ => ?_)
        · refine z_aload_n (pc := 76) C (zD D_L_isBest_0 42 rfl) rfl 1 rfl ?_
          refine z_iload_n (pc := 77) C (zD D_L_isBest_0 43 rfl) rfl 3 rfl ?_
          refine z_iload (pc := 78) C (zD D_L_isBest_0 44 rfl) 7 rfl ?_
          refine z_sWR (pc := 80) (As := [.ref (B + p0), .int r3, .int x45]) C [] (c_L_tracks' _ _ _ _ n p0 r3 x45 h21) zn_L_tracks (by decide) (by decide) hz0 q_452 q_453 q_98 q_454 rfl rfl rfl (zD D_L_isBest_0 45 rfl) (fun r80 => ?_)
          refine z_sub [1, 2, 3, 4, 5, 6, 7, 0] (lv' := [(0, .ref (B + p0)), (1, .int p1), (2, .int r3), (3, .int r11), (5, .int a5_21), (6, .int x38), (7, .int x45), (8, .int s0_64)]) rfl ?_
          exact hK83 r80
        · refine z_iconst (pc := 72) (v := 0) C (zD D_L_isBest_0 40 rfl) (by decide) ?_
          refine z_goto (pc := 73) C (zD D_L_isBest_0 41 rfl) (tgt := 83) (by decide) ?_
          refine z_sub [1, 2, 3, 4, 5, 6, 7, 0] (lv' := [(0, .ref (B + p0)), (1, .int p1), (2, .int r3), (3, .int r11), (5, .int a5_21), (6, .int x38), (7, .int x45), (8, .int s0_64)]) rfl ?_
          exact hK83 (0 : Int32)
      refine z_icmp_ne (pc := 50) C (zD D_L_isBest_0 29 rfl) (tgt := 57) (by decide) (fun _ => ?_) (fun _ => ?_)
      · refine z_aload_n (pc := 57) C (zD D_L_isBest_0 32 rfl) rfl 2 rfl ?_
        refine z_iload_n (pc := 58) C (zD D_L_isBest_0 33 rfl) rfl 4 rfl ?_
        refine z_iload (pc := 59) C (zD D_L_isBest_0 34 rfl) 1 rfl ?_
        refine z_sWR (pc := 61) (As := [.ref (B + p0), .int r3, .int x38]) C [] (c_L_tracks' _ _ _ _ n p0 r3 x38 h21) zn_L_tracks (by decide) (by decide) hz0 q_452 q_453 q_98 q_454 rfl rfl rfl (zD D_L_isBest_0 35 rfl) (fun r61 => ?_)
        refine z_sub [2, 3, 4, 5, 7, 1, 0] (lv' := [(0, .ref (B + p0)), (1, .int p1), (2, .int r3), (3, .int r11), (5, .int a5_21), (6, .int x38), (7, .int x45)]) rfl ?_
        exact hK64 r61
      · refine z_iconst (pc := 53) (v := 0) C (zD D_L_isBest_0 30 rfl) (by decide) ?_
        refine z_goto (pc := 54) C (zD D_L_isBest_0 31 rfl) (tgt := 64) (by decide) ?_
        refine z_sub [2, 3, 4, 5, 7, 1, 0] (lv' := [(0, .ref (B + p0)), (1, .int p1), (2, .int r3), (3, .int r11), (5, .int a5_21), (6, .int x38), (7, .int x45)]) rfl ?_
        exact hK64 (0 : Int32)
def f_L_fits (n : Nat) (p0 : Nat) (h : zH) : Option (Int32 × zH) := (f_L_values' n p0 (0 : Int32) h).bind fun (r2 : Int32) => (f_L_values' n p0 (6 : Int32) h).bind fun (r9 : Int32) => zlet ((r9 - ((500 : Int32) * r2))) fun (x18 : Int32) => zlet (fun (s0_76 : Int32) => zfix5 (fun rec81 (a2_81 : Int32) (a5_81 : Int32) (a6_81 : Int32) (a7_81 : Int32) (h81 : zH) => zlet (zfix6 (fun rec305 (a2_305 : Int32) (a3_305 : Int32) (a4_305 : Int32) (a6_305 : Int32) (a7_305 : Int32) (h305 : zH) => zlet (zrc h305 p0 5 <| (f_X5_leader n p0 h305).bind fun (r681 : Int32) => zfix3 (fun rec692 (a6_692 : Int32) (a8_692 : Int32) (a9_692 : Int32) => zlet (zfix2 (fun rec799 (a6_799 : Int32) (a9_799 : Int32) => zlet (zlet (fun (h961 : zH) => some ((0 : Int32), h961)) fun K961 => if a6_799 = 0 then (K961 h305) else (if a2_305 = 0 then ((f_L_players' n p0 r681 (5 : Int32) h305).bind fun (r849 : Int32) => if r849 = a5_81 then ((f_L_values' n p0 (8 : Int32) h305).bind fun (r860 : Int32) => if r860 = a3_305 then ((f_L_values' n p0 (7 : Int32) h305).bind fun (r870 : Int32) => if r870 = (a8_692 / (2 : Int32)) then (zrc h305 p0 5 <| (f_X5_unsold n p0 h305).bind fun (r881 : UInt64) => zlet (fun (s0_901 : UInt64) => if (Op.cmpValue (FP.dcmp r881 s0_901) .l) = 0 then ((f_L_values' n p0 (3 : Int32) h305).bind fun (r907 : Int32) => zlet (fun (s0_918 : Int32) => (f_L_values' n p0 (4 : Int32) h305).bind fun (r920 : Int32) => zlet (fun (s0_932 : Int32) => if s0_918 = s0_932 then ((f_L_values' n p0 (3 : Int32) h305).bind fun (r937 : Int32) => zlet (fun (h957 : zH) => some ((1 : Int32), h957)) fun K957 => if r937 = 0 then (K957 h305) else ((f_L_values' n p0 (4 : Int32) h305).bind fun (r946 : Int32) => zb2 (f_L_companies' n p0 r946 (0 : Int32) h305) fun (r950 : Int32) (h950 : zH) => if r950 = (1 : Int32) then (K957 h950) else (K961 h950))) else (K961 h305)) fun K932 => if r920 = (-1 : Int32) then (K932 (1 : Int32)) else (K932 (0 : Int32))) fun K918 => if r907 = 0 then (K918 (1 : Int32)) else (K918 (0 : Int32))) else (K961 h305)) fun K901 => if a3_305 = 0 then (K901 FP.dconst0) else ((zdd (FP.i2d a4_305) (FP.i2d ((10 : Int32) * a3_305))).bind fun (v900 : UInt64) => K901 v900)) else (K961 h305)) else (K961 h305)) else (K961 h305)) else (K961 h305))) fun K836 => if r681 ≤ a9_799 then (K836) else (if a6_799 = 0 then (K836) else ((f_L_players' n p0 a9_799 (5 : Int32) h305).bind fun (r815 : Int32) => zlet (fun (s0_828 : Int32) => zlet (a9_799 + 1) fun (x830 : Int32) => rec799 s0_828 x830) fun K828 => if a5_81 ≤ r815 then (K828 (0 : Int32)) else (K828 (1 : Int32))))) n a6_692 (0 : Int32)) fun K796 => if (64 : Int32) ≤ a9_692 then (K796) else (if a6_692 = 0 then (K796) else ((f_L_tracks' n p0 (a9_692 / (8 : Int32)) (zrem a9_692 (8 : Int32)) h305).bind fun (r715 : Int32) => (f_L_tracks' n p0 (zrem a9_692 (8 : Int32)) (a9_692 / (8 : Int32)) h305).bind fun (r733 : Int32) => zlet (fun (s0_773 : Int32) => zlet (fun (s0_787 : Int32) => zlet ((a8_692 + s0_787)) fun (x788 : Int32) => zlet (a9_692 + 1) fun (x790 : Int32) => rec692 s0_773 x788 x790) fun K787 => if r715 ≤ 0 then (K787 (0 : Int32)) else (K787 (1 : Int32))) fun K773 => zlet (K773 (0 : Int32)) fun K772 => if r715 = r733 then (if r715 < 0 then (K772) else (if (3 : Int32) ≤ r715 then (K772) else (zlet (K773 (1 : Int32)) fun K768 => if r715 = 0 then (K768) else (if (a9_692 / (8 : Int32)) = (zrem a9_692 (8 : Int32)) then (K772) else (K768))))) else (K772)))) n a6_305 (0 : Int32) (0 : Int32)) fun K680 => if (4 : Int32) ≤ a7_305 then (K680) else (if a6_305 = 0 then (K680) else (zb2 (f_L_companies' n p0 a7_305 (0 : Int32) h305) fun (r320 : Int32) (h320 : zH) => zlet (fun (a2_674 : Int32) (a3_674 : Int32) (a4_674 : Int32) (a6_674 : Int32) (h674 : zH) => zlet (a7_305 + 1) fun (x674 : Int32) => rec305 a2_674 a3_674 a4_674 a6_674 x674 h674) fun K674 => if r320 = 0 then (zfix3 (fun rec329 (a6_329 : Int32) (a8_329 : Int32) (h329 : zH) => if (9 : Int32) ≤ a8_329 then (zlet (fun (s0_406 : Int32) (h406 : zH) => K674 a2_305 a3_305 a4_305 s0_406 h406) fun K406 => zlet (fun (h405 : zH) => K406 (0 : Int32) h405) fun K405 => if a6_329 = 0 then (K405 h329) else (zb2 (f_L_routes' n p0 a7_305 (0 : Int32) h329) fun (r375 : Int32) (h375 : zH) => if r375 = (-1 : Int32) then (zb2 (f_L_bestOf' n p0 a7_305 h375) fun (r385 : Int32) (h385 : zH) => if r385 = (-1 : Int32) then (zb2 (f_L_dividends' n p0 a7_305 h385) fun (r395 : Int32) (h395 : zH) => if r395 = 0 then (K406 (1 : Int32) h395) else (K405 h395)) else (K405 h385)) else (K405 h375))) else (zlet (fun (s0_358 : Int32) (h358 : zH) => zlet (a8_329 + 1) fun (x360 : Int32) => rec329 s0_358 x360 h358) fun K358 => zlet (fun (h357 : zH) => K358 (0 : Int32) h357) fun K357 => if a6_329 = 0 then (K357 h329) else (zb2 (f_L_companies' n p0 a7_305 a8_329 h329) fun (r346 : Int32) (h346 : zH) => if r346 = (-1 : Int32) then (K358 (1 : Int32) h346) else (K357 h346)))) n a6_305 (1 : Int32) h320) else (zb2 (f_L_companies' n p0 a7_305 (5 : Int32) h320) fun (r415 : Int32) (h415 : zH) => zb2 (f_L_companies' n p0 a7_305 (6 : Int32) h415) fun (r425 : Int32) (h425 : zH) => zfix3 (fun rec433 (a6_433 : Int32) (a9_433 : Int32) (a10_433 : Int32) => if r2 ≤ a10_433 then (zlet (fun (s0_646 : Int32) (h646 : zH) => zlet (a3_305 + 1) fun (x648 : Int32) => zb2 (f_L_companies' n p0 a7_305 (6 : Int32) h646) fun (r658 : Int32) (h658 : zH) => zlet ((a4_305 + r658)) fun (x662 : Int32) => zb2 (f_L_companies' n p0 a7_305 (2 : Int32) h658) fun (r669 : Int32) (h669 : zH) => zlet ((a2_305 + r669)) fun (x673 : Int32) => K674 x673 x648 x662 s0_646 h669) fun K646 => zlet (fun (h645 : zH) => K646 (0 : Int32) h645) fun K645 => if a6_433 = 0 then (K645 h425) else (if a9_433 = (10 : Int32) then (zlet (zb2 (f_L_companies' n p0 a7_305 (3 : Int32) h425) fun (r536 : Int32) (h536 : zH) => if r536 < (20 : Int32) then (K645 h536) else (zb2 (f_L_companies' n p0 a7_305 (3 : Int32) h536) fun (r548 : Int32) (h548 : zH) => if (130 : Int32) < r548 then (K645 h548) else (zb2 (f_L_companies' n p0 a7_305 (3 : Int32) h548) fun (r561 : Int32) (h561 : zH) => if (zrem r561 (10 : Int32)) = 0 then (zb2 (f_L_companies' n p0 a7_305 (4 : Int32) h561) fun (r574 : Int32) (h574 : zH) => if r574 ≤ (1 : Int32) then (K645 h574) else (zb2 (f_L_companies' n p0 a7_305 (4 : Int32) h574) fun (r585 : Int32) (h585 : zH) => if (6 : Int32) ≤ r585 then (K645 h585) else (zb2 (f_L_companies' n p0 a7_305 (2 : Int32) h585) fun (r597 : Int32) (h597 : zH) => if r597 < 0 then (K645 h597) else (zb2 (f_L_dividends' n p0 a7_305 h597) fun (r606 : Int32) (h606 : zH) => zb2 (f_L_companies' n p0 a7_305 (7 : Int32) h606) fun (r614 : Int32) (h614 : zH) => if r606 = (r614 / (10 : Int32)) then (zb2 (f_L_isRoute n p0 a7_305 h614) fun (r626 : Int32) (h626 : zH) => if r626 = 0 then (K645 h626) else (zb2 (f_L_isBest n p0 a7_305 h626) fun (r635 : Int32) (h635 : zH) => if r635 = 0 then (K645 h635) else (K646 (1 : Int32) h635))) else (K645 h614))))) else (K645 h561)))) fun K532 => if r415 = (-1 : Int32) then (K532) else ((f_L_players' n p0 r415 ((1 : Int32) + a7_305) h425).bind fun (r526 : Int32) => if r526 ≤ 0 then (K645 h425) else (K532))) else (K645 h425))) else ((f_L_players' n p0 a10_433 ((1 : Int32) + a7_305) h425).bind fun (r446 : Int32) => zlet ((a9_433 + r446)) fun (x456 : Int32) => zlet (fun (s0_493 : Int32) => zlet (a10_433 + 1) fun (x495 : Int32) => rec433 s0_493 x456 x495) fun K493 => zlet (K493 (0 : Int32)) fun K492 => if a6_433 = 0 then (K492) else (zlet (fun (s0_485 : Int32) => if s0_485 < r446 then (K492) else (K493 (1 : Int32))) fun K485 => if r415 = (-1 : Int32) then (K485 (0 : Int32)) else ((f_L_players' n p0 r415 ((1 : Int32) + a7_305) h425).bind fun (r482 : Int32) => K485 r482)))) n a6_305 r425 (0 : Int32))))) n a2_81 (0 : Int32) (0 : Int32) a6_81 (0 : Int32) h81) fun K302 => if r2 ≤ a7_81 then (K302) else (if a6_81 = 0 then (K302) else ((f_L_players' n p0 a7_81 (0 : Int32) h81).bind fun (r96 : Int32) => zfix4 (fun rec104 (a6_104 : Int32) (a8_104 : Int32) (a9_104 : Int32) (h104 : zH) => if (4 : Int32) ≤ a9_104 then (zlet (fun (s0_268 : Int32) => (f_L_players' n p0 a7_81 (0 : Int32) h104).bind fun (r275 : Int32) => zlet ((a2_81 + r275)) fun (x279 : Int32) => zlet (fun (s0_294 : Int32) => zlet (a7_81 + 1) fun (x296 : Int32) => rec81 x279 s0_294 s0_268 x296 h104) fun K294 => if a8_104 ≤ a5_81 then (K294 a5_81) else (K294 a8_104)) fun K268 => zlet (K268 (0 : Int32)) fun K267 => if a6_104 = 0 then (K267) else ((f_L_players' n p0 a7_81 (0 : Int32) h104).bind fun (r245 : Int32) => if r245 < 0 then (K267) else ((f_L_players' n p0 a7_81 (5 : Int32) h104).bind fun (r255 : Int32) => if r255 = a8_104 then (K268 (1 : Int32)) else (K267)))) else ((f_L_players' n p0 a7_81 ((1 : Int32) + a9_104) h104).bind fun (r117 : Int32) => zlet (fun (s0_159 : Int32) (h159 : zH) => zlet (fun (s0_181 : Int32) (h181 : zH) => zlet ((a8_104 + (r117 * s0_181))) fun (x183 : Int32) => zlet (fun (s0_228 : Int32) (h228 : zH) => zlet (a9_104 + 1) fun (x230 : Int32) => rec104 s0_228 x183 x230 h228) fun K228 => zlet (fun (h227 : zH) => K228 (0 : Int32) h227) fun K227 => if s0_159 = 0 then (K227 h181) else ((f_L_players' n p0 a7_81 (6 : Int32) h181).bind fun (r195 : Int32) => zb2 (f_L_companies' n p0 a9_104 (5 : Int32) h181) fun (r207 : Int32) (h207 : zH) => zlet (fun (s0_220 : Int32) => if ((r195 >>> (a9_104 &&& 31)) &&& (1 : Int32)) = s0_220 then (K228 (1 : Int32) h207) else (K227 h207)) fun K220 => if r207 = a7_81 then (K220 (1 : Int32)) else (K220 (0 : Int32)))) fun K181 => if r117 = 0 then (K181 (0 : Int32) h159) else (zb2 (f_L_companies' n p0 a9_104 (3 : Int32) h159) fun (r178 : Int32) (h178 : zH) => K181 r178 h178)) fun K159 => zlet (fun (h158 : zH) => K159 (0 : Int32) h158) fun K158 => if a6_104 = 0 then (K158 h104) else (if r117 < 0 then (K158 h104) else (zb2 (f_L_companies' n p0 a9_104 (0 : Int32) h104) fun (r138 : Int32) (h138 : zH) => zlet (fun (s0_151 : Int32) => if s0_151 < r117 then (K158 h138) else (K159 (1 : Int32) h138)) fun K151 => if r138 = (1 : Int32) then (K151 (10 : Int32)) else (K151 (0 : Int32)))))) n a6_81 r96 (0 : Int32) h81))) n x18 (0 : Int32) s0_76 (0 : Int32) h) fun K76 => zlet (K76 (0 : Int32)) fun K75 => if r2 ≤ (1 : Int32) then (K75) else (if (5 : Int32) ≤ r2 then (K75) else ((f_L_values' n p0 (1 : Int32) h).bind fun (r39 : Int32) => if r39 < 0 then (K75) else ((f_L_values' n p0 (1 : Int32) h).bind fun (r47 : Int32) => if r2 ≤ r47 then (K75) else ((f_L_values' n p0 (2 : Int32) h).bind fun (r56 : Int32) => if r56 < 0 then (K75) else ((f_L_values' n p0 (2 : Int32) h).bind fun (r64 : Int32) => if r2 < r64 then (K75) else (K76 (1 : Int32)))))))
theorem zn_L_fits : zNm yL_fits 1 := ⟨by decide +kernel, by decide +kernel⟩
set_option maxRecDepth 100000 in
set_option maxHeartbeats 4000000 in
theorem c_L_fits (l : Launch) (B : Nat) (D : va_G) (cA : Nat → ClassId) (n : Nat) (p0 : Nat) (h : zH) : ∀ u, f_L_fits n p0 h = some u → zM l B D cA yL_fits cL_fits 12 (some .boolean) 16 0 0 none [.ref (B + p0)] h ((fun u : Int32 × zH => (some (Value.int u.1), u.2)) u).1 ((fun u : Int32 × zH => (some (Value.int u.1), u.2)) u).2 := by
  unfold f_L_fits
  refine z_met (own := RL) (fun u : Int32 × zH => (some (Value.int u.1), u.2)) rfl (by decide) rfl (fun Z C hr _ _ => ?_)
  have hz0 : (z00 Z).1 ≤ 0 ∧ (z00 Z).2.1 ≤ 0 := ⟨Nat.le_refl 0, Nat.le_refl 0⟩
  refine z_aload_n (pc := 0) C (zD D_L_fits_0 0 rfl) rfl 0 rfl ?_
  refine z_iconst (pc := 1) (v := 0) C (zD D_L_fits_0 1 rfl) (by decide) ?_
  refine z_sWR (pc := 2) (As := [.ref (B + p0), .int (0 : Int32)]) C [] (c_L_values' _ _ _ _ n p0 (0 : Int32) h) zn_L_values (by decide) (by decide) hz0 q_263 q_264 q_98 q_265 rfl rfl rfl (zD D_L_fits_0 2 rfl) (fun r2 => ?_)
  refine z_istore_n (pc := 5) (lv' := [(1, .int r2), (0, .ref (B + p0))]) C (zD D_L_fits_0 3 rfl) rfl (by decide) rfl ?_
  refine z_aload_n (pc := 6) C (zD D_L_fits_0 4 rfl) rfl 1 rfl ?_
  refine z_bipush (pc := 7) (v := 6) C (zD D_L_fits_0 5 rfl) (by decide) ?_
  refine z_sWR (pc := 9) (As := [.ref (B + p0), .int (6 : Int32)]) C [] (c_L_values' _ _ _ _ n p0 (6 : Int32) h) zn_L_values (by decide) (by decide) hz0 q_263 q_264 q_98 q_265 rfl rfl rfl (zD D_L_fits_0 6 rfl) (fun r9 => ?_)
  refine z_sipush (pc := 12) (v := 500) C (zD D_L_fits_0 7 rfl) (by decide) ?_
  refine z_iload_n (pc := 15) C (zD D_L_fits_0 8 rfl) rfl 0 rfl ?_
  refine z_imul (pc := 16) C (zD D_L_fits_0 9 rfl) ?_
  refine z_isub (pc := 17) C (zD D_L_fits_0 10 rfl) ?_
  refine z_istore_nL (pc := 18) (lv' := fun x18 => [(2, .int x18), (1, .int r2), (0, .ref (B + p0))]) C (zD D_L_fits_0 11 rfl) rfl (by decide) (fun _ => rfl) (fun x18 => ?_)
  refine z_iconst (pc := 19) (v := 0) C (zD D_L_fits_0 12 rfl) (by decide) ?_
  refine z_istore_n (pc := 20) (lv' := [(3, .int (0 : Int32)), (2, .int x18), (1, .int r2), (0, .ref (B + p0))]) C (zD D_L_fits_0 13 rfl) rfl (by decide) rfl ?_
  refine z_iconst (pc := 21) (v := 0) C (zD D_L_fits_0 14 rfl) (by decide) ?_
  refine z_istore (pc := 22) (lv' := [(4, .int (0 : Int32)), (3, .int (0 : Int32)), (2, .int x18), (1, .int r2), (0, .ref (B + p0))]) C (zD D_L_fits_0 15 rfl) (by decide) rfl ?_
  refine z_iconst (pc := 24) (v := 0) C (zD D_L_fits_0 16 rfl) (by decide) ?_
  refine z_istore (pc := 25) (lv' := [(5, .int (0 : Int32)), (4, .int (0 : Int32)), (3, .int (0 : Int32)), (2, .int x18), (1, .int r2), (0, .ref (B + p0))]) C (zD D_L_fits_0 17 rfl) (by decide) rfl ?_
  refine z_iload_n (pc := 27) C (zD D_L_fits_0 18 rfl) rfl 4 rfl ?_
  refine z_iconst (pc := 28) (v := 1) C (zD D_L_fits_0 19 rfl) (by decide) ?_
  refine z_letg (fun K76 => ∀ (s0_76 : Int32), zJ B Z (zEnd B Z (fun u : Int32 × zH => (some (Value.int u.1), u.2)) 0 0) (K76 s0_76) 76 [(0, .ref (B + p0)), (1, .int r2), (2, .int x18), (3, .int (0 : Int32)), (4, .int (0 : Int32)), (5, .int (0 : Int32))] [.int s0_76] h (z00 Z)) (fun s0_76 => ?_) (fun K76 hK76 => ?_)
  · refine z_istore (pc := 76) (lv' := [(6, .int s0_76), (0, .ref (B + p0)), (1, .int r2), (2, .int x18), (3, .int (0 : Int32)), (4, .int (0 : Int32)), (5, .int (0 : Int32))]) C (zD D_L_fits_0 45 rfl) (by decide) rfl ?_
    refine z_iconst (pc := 78) (v := 0) C (zD D_L_fits_0 46 rfl) (by decide) ?_
    refine z_istore (pc := 79) (lv' := [(7, .int (0 : Int32)), (6, .int s0_76), (0, .ref (B + p0)), (1, .int r2), (2, .int x18), (3, .int (0 : Int32)), (4, .int (0 : Int32)), (5, .int (0 : Int32))]) C (zD D_L_fits_0 47 rfl) (by decide) rfl ?_
    refine z_sub [2, 3, 4, 5, 6, 7, 1, 0] (lv' := [(0, .ref (B + p0)), (1, .int r2), (2, .int x18), (3, .int (0 : Int32)), (4, .int (0 : Int32)), (5, .int (0 : Int32)), (6, .int s0_76), (7, .int (0 : Int32))]) rfl ?_
    refine z_fix5 (fun g81 => ∀ (a2_81 : Int32) (a5_81 : Int32) (a6_81 : Int32) (a7_81 : Int32) (h81 : zH), zJ B Z (zEnd B Z (fun u : Int32 × zH => (some (Value.int u.1), u.2)) 0 0) (g81 a2_81 a5_81 a6_81 a7_81 h81) 81 [(0, .ref (B + p0)), (1, .int r2), (2, .int a2_81), (3, .int (0 : Int32)), (4, .int (0 : Int32)), (5, .int a5_81), (6, .int a6_81), (7, .int a7_81)] [] h81 (z00 Z)) (fun _ _ _ _ _ => z_none) (fun rec81 hrec81 a2_81 a5_81 a6_81 a7_81 h81 => ?_) n x18 (0 : Int32) s0_76 (0 : Int32) h
    refine z_iload (pc := 81) C (zD D_L_fits_0 48 rfl) 7 rfl ?_
    refine z_iload_n (pc := 83) C (zD D_L_fits_0 49 rfl) rfl 1 rfl ?_
    refine z_letg (fun K302 => zJ B Z (zEnd B Z (fun u : Int32 × zH => (some (Value.int u.1), u.2)) 0 0) (K302) 302 [(0, .ref (B + p0)), (1, .int r2), (2, .int a2_81), (3, .int (0 : Int32)), (4, .int (0 : Int32)), (5, .int a5_81), (6, .int a6_81)] [] h81 (z00 Z)) ?_ (fun K302 hK302 => ?_)
    · refine z_iconst (pc := 302) (v := 0) C (zD D_L_fits_2 41 rfl) (by decide) ?_
      refine z_istore (pc := 303) (lv' := [(7, .int (0 : Int32)), (0, .ref (B + p0)), (1, .int r2), (2, .int a2_81), (3, .int (0 : Int32)), (4, .int (0 : Int32)), (5, .int a5_81), (6, .int a6_81)]) C (zD D_L_fits_2 42 rfl) (by decide) rfl ?_
      refine z_sub [1, 2, 3, 4, 5, 6, 7, 0] (lv' := [(0, .ref (B + p0)), (1, .int r2), (2, .int a2_81), (3, .int (0 : Int32)), (4, .int (0 : Int32)), (5, .int a5_81), (6, .int a6_81), (7, .int (0 : Int32))]) rfl ?_
      refine z_fix6 (fun g305 => ∀ (a2_305 : Int32) (a3_305 : Int32) (a4_305 : Int32) (a6_305 : Int32) (a7_305 : Int32) (h305 : zH), zJ B Z (zEnd B Z (fun u : Int32 × zH => (some (Value.int u.1), u.2)) 0 0) (g305 a2_305 a3_305 a4_305 a6_305 a7_305 h305) 305 [(0, .ref (B + p0)), (1, .int r2), (2, .int a2_305), (3, .int a3_305), (4, .int a4_305), (5, .int a5_81), (6, .int a6_305), (7, .int a7_305)] [] h305 (z00 Z)) (fun _ _ _ _ _ _ => z_none) (fun rec305 hrec305 a2_305 a3_305 a4_305 a6_305 a7_305 h305 => ?_) n a2_81 (0 : Int32) (0 : Int32) a6_81 (0 : Int32) h81
      refine z_iload (pc := 305) C (zD D_L_fits_2 43 rfl) 7 rfl ?_
      refine z_iconst (pc := 307) (v := 4) C (zD D_L_fits_2 44 rfl) (by decide) ?_
      refine z_letg (fun K680 => zJ B Z (zEnd B Z (fun u : Int32 × zH => (some (Value.int u.1), u.2)) 0 0) (K680) 680 [(0, .ref (B + p0)), (2, .int a2_305), (3, .int a3_305), (4, .int a4_305), (5, .int a5_81), (6, .int a6_305)] [] h305 (z00 Z)) ?_ (fun K680 hK680 => ?_)
      · refine z_aload_n (pc := 680) C (zD D_L_fits_5 51 rfl) rfl 0 rfl ?_
        refine z_cvR (pc := 681) (As := []) C [] (c_X5_leader _ _ _ _ n p0 h305) zn_X5_leader (by decide) (by decide) hz0 zc5 rfl q_549 q_550 q_551 q_2 q_552 rfl rfl rfl (zD D_L_fits_5 52 rfl) (fun r681 => ?_)
        refine z_istore (pc := 684) (lv' := [(7, .int r681), (0, .ref (B + p0)), (2, .int a2_305), (3, .int a3_305), (4, .int a4_305), (5, .int a5_81), (6, .int a6_305)]) C (zD D_L_fits_5 53 rfl) (by decide) rfl ?_
        refine z_iconst (pc := 686) (v := 0) C (zD D_L_fits_5 54 rfl) (by decide) ?_
        refine z_istore (pc := 687) (lv' := [(8, .int (0 : Int32)), (7, .int r681), (0, .ref (B + p0)), (2, .int a2_305), (3, .int a3_305), (4, .int a4_305), (5, .int a5_81), (6, .int a6_305)]) C (zD D_L_fits_5 55 rfl) (by decide) rfl ?_
        refine z_iconst (pc := 689) (v := 0) C (zD D_L_fits_5 56 rfl) (by decide) ?_
        refine z_istore (pc := 690) (lv' := [(9, .int (0 : Int32)), (8, .int (0 : Int32)), (7, .int r681), (0, .ref (B + p0)), (2, .int a2_305), (3, .int a3_305), (4, .int a4_305), (5, .int a5_81), (6, .int a6_305)]) C (zD D_L_fits_5 57 rfl) (by decide) rfl ?_
        refine z_sub [3, 4, 5, 6, 7, 8, 2, 1, 0] (lv' := [(0, .ref (B + p0)), (2, .int a2_305), (3, .int a3_305), (4, .int a4_305), (5, .int a5_81), (6, .int a6_305), (7, .int r681), (8, .int (0 : Int32)), (9, .int (0 : Int32))]) rfl ?_
        refine z_fix3 (fun g692 => ∀ (a6_692 : Int32) (a8_692 : Int32) (a9_692 : Int32), zJ B Z (zEnd B Z (fun u : Int32 × zH => (some (Value.int u.1), u.2)) 0 0) (g692 a6_692 a8_692 a9_692) 692 [(0, .ref (B + p0)), (2, .int a2_305), (3, .int a3_305), (4, .int a4_305), (5, .int a5_81), (6, .int a6_692), (7, .int r681), (8, .int a8_692), (9, .int a9_692)] [] h305 (z00 Z)) (fun _ _ _ => z_none) (fun rec692 hrec692 a6_692 a8_692 a9_692 => ?_) n a6_305 (0 : Int32) (0 : Int32)
        refine z_iload (pc := 692) C (zD D_L_fits_5 58 rfl) 8 rfl ?_
        refine z_bipush (pc := 694) (v := 64) C (zD D_L_fits_5 59 rfl) (by decide) ?_
        refine z_letg (fun K796 => zJ B Z (zEnd B Z (fun u : Int32 × zH => (some (Value.int u.1), u.2)) 0 0) (K796) 796 [(0, .ref (B + p0)), (2, .int a2_305), (3, .int a3_305), (4, .int a4_305), (5, .int a5_81), (6, .int a6_692), (7, .int r681), (8, .int a8_692)] [] h305 (z00 Z)) ?_ (fun K796 hK796 => ?_)
        · refine z_iconst (pc := 796) (v := 0) C (zD D_L_fits_6 50 rfl) (by decide) ?_
          refine z_istore (pc := 797) (lv' := [(9, .int (0 : Int32)), (0, .ref (B + p0)), (2, .int a2_305), (3, .int a3_305), (4, .int a4_305), (5, .int a5_81), (6, .int a6_692), (7, .int r681), (8, .int a8_692)]) C (zD D_L_fits_6 51 rfl) (by decide) rfl ?_
          refine z_sub [1, 2, 3, 4, 5, 6, 7, 8, 0] (lv' := [(0, .ref (B + p0)), (2, .int a2_305), (3, .int a3_305), (4, .int a4_305), (5, .int a5_81), (6, .int a6_692), (7, .int r681), (8, .int a8_692), (9, .int (0 : Int32))]) rfl ?_
          refine z_fix2 (fun g799 => ∀ (a6_799 : Int32) (a9_799 : Int32), zJ B Z (zEnd B Z (fun u : Int32 × zH => (some (Value.int u.1), u.2)) 0 0) (g799 a6_799 a9_799) 799 [(0, .ref (B + p0)), (2, .int a2_305), (3, .int a3_305), (4, .int a4_305), (5, .int a5_81), (6, .int a6_799), (7, .int r681), (8, .int a8_692), (9, .int a9_799)] [] h305 (z00 Z)) (fun _ _ => z_none) (fun rec799 hrec799 a6_799 a9_799 => ?_) n a6_692 (0 : Int32)
          refine z_iload (pc := 799) C (zD D_L_fits_6 52 rfl) 8 rfl ?_
          refine z_iload (pc := 801) C (zD D_L_fits_6 53 rfl) 6 rfl ?_
          refine z_letg (fun K836 => zJ B Z (zEnd B Z (fun u : Int32 × zH => (some (Value.int u.1), u.2)) 0 0) (K836) 836 [(0, .ref (B + p0)), (2, .int a2_305), (3, .int a3_305), (4, .int a4_305), (5, .int a5_81), (6, .int a6_799), (7, .int r681), (8, .int a8_692)] [] h305 (z00 Z)) ?_ (fun K836 hK836 => ?_)
          · refine z_iload (pc := 836) C (zD D_L_fits_7 9 rfl) 5 rfl ?_
            refine z_letg (fun K961 => ∀ (h961 : zH), zJ B Z (zEnd B Z (fun u : Int32 × zH => (some (Value.int u.1), u.2)) 0 0) (K961 h961) 961 [] [] h961 (z00 Z)) (fun h961 => ?_) (fun K961 hK961 => ?_)
            · refine z_iconst (pc := 961) (v := 0) C (zD D_L_fits_8 16 rfl) (by decide) ?_
              exact z_zret (pc := 962) C hr (by decide) rfl (zD D_L_fits_8 17 rfl)
            refine z_if_eq (pc := 838) C (zD D_L_fits_7 10 rfl) (tgt := 961) (by decide) (fun _ => ?_) (fun _ => ?_)
            · refine z_sub [] (lv' := []) rfl ?_
              exact hK961 h305
            · refine z_iload_n (pc := 841) C (zD D_L_fits_7 11 rfl) rfl 1 rfl ?_
              refine z_if_ne (pc := 842) C (zD D_L_fits_7 12 rfl) (tgt := 961) (by decide) (fun _ => ?_) (fun _ => ?_)
              · refine z_sub [] (lv' := []) rfl ?_
                exact hK961 h305
              · refine z_aload_n (pc := 845) C (zD D_L_fits_7 13 rfl) rfl 0 rfl ?_
                refine z_iload (pc := 846) C (zD D_L_fits_7 14 rfl) 6 rfl ?_
                refine z_iconst (pc := 848) (v := 5) C (zD D_L_fits_7 15 rfl) (by decide) ?_
                refine z_sWR (pc := 849) (As := [.ref (B + p0), .int r681, .int (5 : Int32)]) C [] (c_L_players' _ _ _ _ n p0 r681 (5 : Int32) h305) zn_L_players (by decide) (by decide) hz0 q_444 q_445 q_98 q_446 rfl rfl rfl (zD D_L_fits_7 16 rfl) (fun r849 => ?_)
                refine z_iload (pc := 852) C (zD D_L_fits_7 17 rfl) 4 rfl ?_
                refine z_icmp_ne (pc := 854) C (zD D_L_fits_7 18 rfl) (tgt := 961) (by decide) (fun _ => ?_) (fun _ => ?_)
                · refine z_sub [] (lv' := []) rfl ?_
                  exact hK961 h305
                · refine z_aload_n (pc := 857) C (zD D_L_fits_7 19 rfl) rfl 0 rfl ?_
                  refine z_bipush (pc := 858) (v := 8) C (zD D_L_fits_7 20 rfl) (by decide) ?_
                  refine z_sWR (pc := 860) (As := [.ref (B + p0), .int (8 : Int32)]) C [] (c_L_values' _ _ _ _ n p0 (8 : Int32) h305) zn_L_values (by decide) (by decide) hz0 q_263 q_264 q_98 q_265 rfl rfl rfl (zD D_L_fits_7 21 rfl) (fun r860 => ?_)
                  refine z_iload_n (pc := 863) C (zD D_L_fits_7 22 rfl) rfl 2 rfl ?_
                  refine z_icmp_ne (pc := 864) C (zD D_L_fits_7 23 rfl) (tgt := 961) (by decide) (fun _ => ?_) (fun _ => ?_)
                  · refine z_sub [] (lv' := []) rfl ?_
                    exact hK961 h305
                  · refine z_aload_n (pc := 867) C (zD D_L_fits_7 24 rfl) rfl 0 rfl ?_
                    refine z_bipush (pc := 868) (v := 7) C (zD D_L_fits_7 25 rfl) (by decide) ?_
                    refine z_sWR (pc := 870) (As := [.ref (B + p0), .int (7 : Int32)]) C [] (c_L_values' _ _ _ _ n p0 (7 : Int32) h305) zn_L_values (by decide) (by decide) hz0 q_263 q_264 q_98 q_265 rfl rfl rfl (zD D_L_fits_7 26 rfl) (fun r870 => ?_)
                    refine z_iload (pc := 873) C (zD D_L_fits_7 27 rfl) 7 rfl ?_
                    refine z_iconst (pc := 875) (v := 2) C (zD D_L_fits_7 28 rfl) (by decide) ?_
                    refine z_idivc (pc := 876) C (zD D_L_fits_7 29 rfl) (by decide) ?_
                    refine z_icmp_ne (pc := 877) C (zD D_L_fits_7 30 rfl) (tgt := 961) (by decide) (fun _ => ?_) (fun _ => ?_)
                    · refine z_sub [] (lv' := []) rfl ?_
                      exact hK961 h305
                    · refine z_aload_n (pc := 880) C (zD D_L_fits_7 31 rfl) rfl 0 rfl ?_
                      refine z_cvD (pc := 881) (As := []) C [] (c_X5_unsold _ _ _ _ n p0 h305) zn_X5_unsold (by decide) (by decide) hz0 zc5 rfl q_553 q_554 q_555 q_2 q_556 rfl rfl rfl (zD D_L_fits_7 32 rfl) (fun r881 => ?_)
                      refine z_iload_n (pc := 884) C (zD D_L_fits_7 33 rfl) rfl 2 rfl ?_
                      refine z_letg (fun K901 => ∀ (s0_901 : UInt64), zJ B Z (zEnd B Z (fun u : Int32 × zH => (some (Value.int u.1), u.2)) 0 0) (K901 s0_901) 901 [(0, .ref (B + p0))] [.double s0_901, .double r881] h305 (z00 Z)) (fun s0_901 => ?_) (fun K901 hK901 => ?_)
                      · refine z_dcmp (pc := 901) C (zD D_L_fits_7 44 rfl) ?_
                        refine z_if_ne (pc := 902) C (zD D_L_fits_7 45 rfl) (tgt := 961) (by decide) (fun _ => ?_) (fun _ => ?_)
                        · refine z_sub [] (lv' := []) rfl ?_
                          exact hK961 h305
                        · refine z_aload_n (pc := 905) C (zD D_L_fits_7 46 rfl) rfl 0 rfl ?_
                          refine z_iconst (pc := 906) (v := 3) C (zD D_L_fits_7 47 rfl) (by decide) ?_
                          refine z_sWR (pc := 907) (As := [.ref (B + p0), .int (3 : Int32)]) C [] (c_L_values' _ _ _ _ n p0 (3 : Int32) h305) zn_L_values (by decide) (by decide) hz0 q_263 q_264 q_98 q_265 rfl rfl rfl (zD D_L_fits_7 48 rfl) (fun r907 => ?_)
                          refine z_letg (fun K918 => ∀ (s0_918 : Int32), zJ B Z (zEnd B Z (fun u : Int32 × zH => (some (Value.int u.1), u.2)) 0 0) (K918 s0_918) 918 [(0, .ref (B + p0))] [.int s0_918] h305 (z00 Z)) (fun s0_918 => ?_) (fun K918 hK918 => ?_)
                          · refine z_aload_n (pc := 918) C (zD D_L_fits_7 53 rfl) rfl 0 rfl ?_
                            refine z_iconst (pc := 919) (v := 4) C (zD D_L_fits_7 54 rfl) (by decide) ?_
                            refine z_sWR (pc := 920) (As := [.ref (B + p0), .int (4 : Int32)]) C [.int s0_918] (c_L_values' _ _ _ _ n p0 (4 : Int32) h305) zn_L_values (by decide) (by decide) hz0 q_263 q_264 q_98 q_265 rfl rfl rfl (zD D_L_fits_7 55 rfl) (fun r920 => ?_)
                            refine z_iconst (pc := 923) (v := -1) C (zD D_L_fits_7 56 rfl) (by decide) ?_
                            refine z_letg (fun K932 => ∀ (s0_932 : Int32), zJ B Z (zEnd B Z (fun u : Int32 × zH => (some (Value.int u.1), u.2)) 0 0) (K932 s0_932) 932 [(0, .ref (B + p0))] [.int s0_932, .int s0_918] h305 (z00 Z)) (fun s0_932 => ?_) (fun K932 hK932 => ?_)
                            · refine z_icmp_ne (pc := 932) C (zD D_L_fits_8 1 rfl) (tgt := 961) (by decide) (fun _ => ?_) (fun _ => ?_)
                              · refine z_sub [] (lv' := []) rfl ?_
                                exact hK961 h305
                              · refine z_aload_n (pc := 935) C (zD D_L_fits_8 2 rfl) rfl 0 rfl ?_
                                refine z_iconst (pc := 936) (v := 3) C (zD D_L_fits_8 3 rfl) (by decide) ?_
                                refine z_sWR (pc := 937) (As := [.ref (B + p0), .int (3 : Int32)]) C [] (c_L_values' _ _ _ _ n p0 (3 : Int32) h305) zn_L_values (by decide) (by decide) hz0 q_263 q_264 q_98 q_265 rfl rfl rfl (zD D_L_fits_8 4 rfl) (fun r937 => ?_)
                                refine z_letg (fun K957 => ∀ (h957 : zH), zJ B Z (zEnd B Z (fun u : Int32 × zH => (some (Value.int u.1), u.2)) 0 0) (K957 h957) 957 [] [] h957 (z00 Z)) (fun h957 => ?_) (fun K957 hK957 => ?_)
                                · refine z_iconst (pc := 957) (v := 1) C (zD D_L_fits_8 14 rfl) (by decide) ?_
                                  refine z_goto (pc := 958) C (zD D_L_fits_8 15 rfl) (tgt := 962) (by decide) ?_
                                  exact z_zret (pc := 962) C hr (by decide) rfl (zD D_L_fits_8 17 rfl)
                                refine z_if_eq (pc := 940) C (zD D_L_fits_8 5 rfl) (tgt := 957) (by decide) (fun _ => ?_) (fun _ => ?_)
                                · refine z_sub [] (lv' := []) rfl ?_
                                  exact hK957 h305
                                · refine z_aload_n (pc := 943) C (zD D_L_fits_8 6 rfl) rfl 0 rfl ?_
                                  refine z_aload_n (pc := 944) C (zD D_L_fits_8 7 rfl) rfl 0 rfl ?_
                                  refine z_iconst (pc := 945) (v := 4) C (zD D_L_fits_8 8 rfl) (by decide) ?_
                                  refine z_sWR (pc := 946) (As := [.ref (B + p0), .int (4 : Int32)]) C [.ref (B + p0)] (c_L_values' _ _ _ _ n p0 (4 : Int32) h305) zn_L_values (by decide) (by decide) hz0 q_263 q_264 q_98 q_265 rfl rfl rfl (zD D_L_fits_8 9 rfl) (fun r946 => ?_)
                                  refine z_iconst (pc := 949) (v := 0) C (zD D_L_fits_8 10 rfl) (by decide) ?_
                                  refine z_sWI (pc := 950) (z' := (z00 Z)) (As := [.ref (B + p0), .int r946, .int (0 : Int32)]) C [] (c_L_companies' _ _ _ _ n p0 r946 (0 : Int32) h305) zn_L_companies (by decide) (by decide) hz0 q_448 q_449 q_98 q_450 rfl rfl rfl (zD D_L_fits_8 11 rfl) ⟨Nat.le_refl _, Nat.le_refl _, Nat.le_refl _⟩ (fun r950 h950 => ?_)
                                  refine z_iconst (pc := 953) (v := 1) C (zD D_L_fits_8 12 rfl) (by decide) ?_
                                  refine z_icmp_ne (pc := 954) C (zD D_L_fits_8 13 rfl) (tgt := 961) (by decide) (fun _ => ?_) (fun _ => ?_)
                                  · refine z_sub [] (lv' := []) rfl ?_
                                    exact hK961 h950
                                  · refine z_sub [] (lv' := []) rfl ?_
                                    exact hK957 h950
                            refine z_icmp_ne (pc := 924) C (zD D_L_fits_7 57 rfl) (tgt := 931) (by decide) (fun _ => ?_) (fun _ => ?_)
                            · refine z_iconst (pc := 931) (v := 0) C (zD D_L_fits_8 0 rfl) (by decide) ?_
                              exact hK932 (0 : Int32)
                            · refine z_iconst (pc := 927) (v := 1) C (zD D_L_fits_7 58 rfl) (by decide) ?_
                              refine z_goto (pc := 928) C (zD D_L_fits_7 59 rfl) (tgt := 932) (by decide) ?_
                              exact hK932 (1 : Int32)
                          refine z_if_ne (pc := 910) C (zD D_L_fits_7 49 rfl) (tgt := 917) (by decide) (fun _ => ?_) (fun _ => ?_)
                          · refine z_iconst (pc := 917) (v := 0) C (zD D_L_fits_7 52 rfl) (by decide) ?_
                            exact hK918 (0 : Int32)
                          · refine z_iconst (pc := 913) (v := 1) C (zD D_L_fits_7 50 rfl) (by decide) ?_
                            refine z_goto (pc := 914) C (zD D_L_fits_7 51 rfl) (tgt := 918) (by decide) ?_
                            exact hK918 (1 : Int32)
                      refine z_if_ne (pc := 885) C (zD D_L_fits_7 34 rfl) (tgt := 892) (by decide) (fun _ => ?_) (fun _ => ?_)
                      · refine z_iload (pc := 892) C (zD D_L_fits_7 37 rfl) 3 rfl ?_
                        refine z_i2d (pc := 894) C (zD D_L_fits_7 38 rfl) ?_
                        refine z_bipush (pc := 895) (v := 10) C (zD D_L_fits_7 39 rfl) (by decide) ?_
                        refine z_iload_n (pc := 897) C (zD D_L_fits_7 40 rfl) rfl 2 rfl ?_
                        refine z_imul (pc := 898) C (zD D_L_fits_7 41 rfl) ?_
                        refine z_i2d (pc := 899) C (zD D_L_fits_7 42 rfl) ?_
                        refine z_dd (pc := 900) C (zD D_L_fits_7 43 rfl) (fun v900 => ?_)
                        refine z_sub [0] (lv' := [(0, .ref (B + p0))]) rfl ?_
                        exact hK901 v900
                      · refine z_dconst0 (pc := 888) C (zD D_L_fits_7 35 rfl) ?_
                        refine z_goto (pc := 889) C (zD D_L_fits_7 36 rfl) (tgt := 901) (by decide) ?_
                        refine z_sub [0] (lv' := [(0, .ref (B + p0))]) rfl ?_
                        exact hK901 FP.dconst0
          refine z_icmp_ge (pc := 803) C (zD D_L_fits_6 54 rfl) (tgt := 836) (by decide) (fun _ => ?_) (fun _ => ?_)
          · refine z_sub [0, 1, 2, 3, 4, 5, 6, 7] (lv' := [(0, .ref (B + p0)), (2, .int a2_305), (3, .int a3_305), (4, .int a4_305), (5, .int a5_81), (6, .int a6_799), (7, .int r681), (8, .int a8_692)]) rfl ?_
            exact hK836
          · refine z_iload (pc := 806) C (zD D_L_fits_6 55 rfl) 5 rfl ?_
            refine z_if_eq (pc := 808) C (zD D_L_fits_6 56 rfl) (tgt := 836) (by decide) (fun _ => ?_) (fun _ => ?_)
            · refine z_sub [0, 1, 2, 3, 4, 5, 6, 7] (lv' := [(0, .ref (B + p0)), (2, .int a2_305), (3, .int a3_305), (4, .int a4_305), (5, .int a5_81), (6, .int a6_799), (7, .int r681), (8, .int a8_692)]) rfl ?_
              exact hK836
            · refine z_aload_n (pc := 811) C (zD D_L_fits_6 57 rfl) rfl 0 rfl ?_
              refine z_iload (pc := 812) C (zD D_L_fits_6 58 rfl) 8 rfl ?_
              refine z_iconst (pc := 814) (v := 5) C (zD D_L_fits_6 59 rfl) (by decide) ?_
              refine z_sWR (pc := 815) (As := [.ref (B + p0), .int a9_799, .int (5 : Int32)]) C [] (c_L_players' _ _ _ _ n p0 a9_799 (5 : Int32) h305) zn_L_players (by decide) (by decide) hz0 q_444 q_445 q_98 q_446 rfl rfl rfl (zD D_L_fits_7 0 rfl) (fun r815 => ?_)
              refine z_iload (pc := 818) C (zD D_L_fits_7 1 rfl) 4 rfl ?_
              refine z_letg (fun K828 => ∀ (s0_828 : Int32), zJ B Z (zEnd B Z (fun u : Int32 × zH => (some (Value.int u.1), u.2)) 0 0) (K828 s0_828) 828 [(0, .ref (B + p0)), (2, .int a2_305), (3, .int a3_305), (4, .int a4_305), (5, .int a5_81), (7, .int r681), (8, .int a8_692), (9, .int a9_799)] [.int s0_828] h305 (z00 Z)) (fun s0_828 => ?_) (fun K828 hK828 => ?_)
              · refine z_istore (pc := 828) (lv' := [(6, .int s0_828), (0, .ref (B + p0)), (2, .int a2_305), (3, .int a3_305), (4, .int a4_305), (5, .int a5_81), (7, .int r681), (8, .int a8_692), (9, .int a9_799)]) C (zD D_L_fits_7 6 rfl) (by decide) rfl ?_
                refine z_iincL (pc := 830) (lv' := fun x830 => [(9, .int x830), (6, .int s0_828), (0, .ref (B + p0)), (2, .int a2_305), (3, .int a3_305), (4, .int a4_305), (5, .int a5_81), (7, .int r681), (8, .int a8_692)]) C (zD D_L_fits_7 7 rfl) 8 rfl (v := a9_799 + 1) rfl (by decide) (fun _ => rfl) (fun x830 => ?_)
                refine z_goto (pc := 833) C (zD D_L_fits_7 8 rfl) (tgt := 799) (by decide) ?_
                refine z_sub [2, 3, 4, 5, 6, 1, 7, 8, 0] (lv' := [(0, .ref (B + p0)), (2, .int a2_305), (3, .int a3_305), (4, .int a4_305), (5, .int a5_81), (6, .int s0_828), (7, .int r681), (8, .int a8_692), (9, .int x830)]) rfl ?_
                exact hrec799 s0_828 x830
              refine z_icmp_ge (pc := 820) C (zD D_L_fits_7 2 rfl) (tgt := 827) (by decide) (fun _ => ?_) (fun _ => ?_)
              · refine z_iconst (pc := 827) (v := 0) C (zD D_L_fits_7 5 rfl) (by decide) ?_
                refine z_sub [0, 1, 2, 3, 4, 6, 7, 8] (lv' := [(0, .ref (B + p0)), (2, .int a2_305), (3, .int a3_305), (4, .int a4_305), (5, .int a5_81), (7, .int r681), (8, .int a8_692), (9, .int a9_799)]) rfl ?_
                exact hK828 (0 : Int32)
              · refine z_iconst (pc := 823) (v := 1) C (zD D_L_fits_7 3 rfl) (by decide) ?_
                refine z_goto (pc := 824) C (zD D_L_fits_7 4 rfl) (tgt := 828) (by decide) ?_
                refine z_sub [0, 1, 2, 3, 4, 6, 7, 8] (lv' := [(0, .ref (B + p0)), (2, .int a2_305), (3, .int a3_305), (4, .int a4_305), (5, .int a5_81), (7, .int r681), (8, .int a8_692), (9, .int a9_799)]) rfl ?_
                exact hK828 (1 : Int32)
        refine z_icmp_ge (pc := 696) C (zD D_L_fits_6 0 rfl) (tgt := 796) (by decide) (fun _ => ?_) (fun _ => ?_)
        · refine z_sub [0, 1, 2, 3, 4, 5, 6, 7] (lv' := [(0, .ref (B + p0)), (2, .int a2_305), (3, .int a3_305), (4, .int a4_305), (5, .int a5_81), (6, .int a6_692), (7, .int r681), (8, .int a8_692)]) rfl ?_
          exact hK796
        · refine z_iload (pc := 699) C (zD D_L_fits_6 1 rfl) 5 rfl ?_
          refine z_if_eq (pc := 701) C (zD D_L_fits_6 2 rfl) (tgt := 796) (by decide) (fun _ => ?_) (fun _ => ?_)
          · refine z_sub [0, 1, 2, 3, 4, 5, 6, 7] (lv' := [(0, .ref (B + p0)), (2, .int a2_305), (3, .int a3_305), (4, .int a4_305), (5, .int a5_81), (6, .int a6_692), (7, .int r681), (8, .int a8_692)]) rfl ?_
            exact hK796
          · refine z_aload_n (pc := 704) C (zD D_L_fits_6 3 rfl) rfl 0 rfl ?_
            refine z_iload (pc := 705) C (zD D_L_fits_6 4 rfl) 8 rfl ?_
            refine z_bipush (pc := 707) (v := 8) C (zD D_L_fits_6 5 rfl) (by decide) ?_
            refine z_idivc (pc := 709) C (zD D_L_fits_6 6 rfl) (by decide) ?_
            refine z_iload (pc := 710) C (zD D_L_fits_6 7 rfl) 8 rfl ?_
            refine z_bipush (pc := 712) (v := 8) C (zD D_L_fits_6 8 rfl) (by decide) ?_
            refine z_iremc (pc := 714) C (zD D_L_fits_6 9 rfl) (by decide) ?_
            refine z_sWR (pc := 715) (As := [.ref (B + p0), .int (a9_692 / (8 : Int32)), .int (zrem a9_692 (8 : Int32))]) C [] (c_L_tracks' _ _ _ _ n p0 (a9_692 / (8 : Int32)) (zrem a9_692 (8 : Int32)) h305) zn_L_tracks (by decide) (by decide) hz0 q_452 q_453 q_98 q_454 rfl rfl rfl (zD D_L_fits_6 10 rfl) (fun r715 => ?_)
            refine z_istore (pc := 718) (lv' := [(10, .int r715), (0, .ref (B + p0)), (2, .int a2_305), (3, .int a3_305), (4, .int a4_305), (5, .int a5_81), (6, .int a6_692), (7, .int r681), (8, .int a8_692), (9, .int a9_692)]) C (zD D_L_fits_6 11 rfl) (by decide) rfl ?_
            refine z_iload (pc := 720) C (zD D_L_fits_6 12 rfl) 0 rfl ?_
            refine z_aload_n (pc := 722) C (zD D_L_fits_6 13 rfl) rfl 1 rfl ?_
            refine z_iload (pc := 723) C (zD D_L_fits_6 14 rfl) 9 rfl ?_
            refine z_bipush (pc := 725) (v := 8) C (zD D_L_fits_6 15 rfl) (by decide) ?_
            refine z_iremc (pc := 727) C (zD D_L_fits_6 16 rfl) (by decide) ?_
            refine z_iload (pc := 728) C (zD D_L_fits_6 17 rfl) 9 rfl ?_
            refine z_bipush (pc := 730) (v := 8) C (zD D_L_fits_6 18 rfl) (by decide) ?_
            refine z_idivc (pc := 732) C (zD D_L_fits_6 19 rfl) (by decide) ?_
            refine z_sWR (pc := 733) (As := [.ref (B + p0), .int (zrem a9_692 (8 : Int32)), .int (a9_692 / (8 : Int32))]) C [.int r715] (c_L_tracks' _ _ _ _ n p0 (zrem a9_692 (8 : Int32)) (a9_692 / (8 : Int32)) h305) zn_L_tracks (by decide) (by decide) hz0 q_452 q_453 q_98 q_454 rfl rfl rfl (zD D_L_fits_6 20 rfl) (fun r733 => ?_)
            refine z_letg (fun K773 => ∀ (s0_773 : Int32), zJ B Z (zEnd B Z (fun u : Int32 × zH => (some (Value.int u.1), u.2)) 0 0) (K773 s0_773) 773 [(0, .ref (B + p0)), (2, .int a2_305), (3, .int a3_305), (4, .int a4_305), (5, .int a5_81), (7, .int r681), (8, .int a8_692), (9, .int a9_692), (10, .int r715)] [.int s0_773] h305 (z00 Z)) (fun s0_773 => ?_) (fun K773 hK773 => ?_)
            · refine z_istore (pc := 773) (lv' := [(6, .int s0_773), (0, .ref (B + p0)), (2, .int a2_305), (3, .int a3_305), (4, .int a4_305), (5, .int a5_81), (7, .int r681), (8, .int a8_692), (9, .int a9_692), (10, .int r715)]) C (zD D_L_fits_6 39 rfl) (by decide) rfl ?_
              refine z_iload (pc := 775) C (zD D_L_fits_6 40 rfl) 7 rfl ?_
              refine z_iload (pc := 777) C (zD D_L_fits_6 41 rfl) 9 rfl ?_
              refine z_letg (fun K787 => ∀ (s0_787 : Int32), zJ B Z (zEnd B Z (fun u : Int32 × zH => (some (Value.int u.1), u.2)) 0 0) (K787 s0_787) 787 [(0, .ref (B + p0)), (2, .int a2_305), (3, .int a3_305), (4, .int a4_305), (5, .int a5_81), (6, .int s0_773), (7, .int r681), (9, .int a9_692)] [.int s0_787, .int a8_692] h305 (z00 Z)) (fun s0_787 => ?_) (fun K787 hK787 => ?_)
              · refine z_iadd (pc := 787) C (zD D_L_fits_6 46 rfl) ?_
                refine z_istoreL (pc := 788) (lv' := fun x788 => [(8, .int x788), (0, .ref (B + p0)), (2, .int a2_305), (3, .int a3_305), (4, .int a4_305), (5, .int a5_81), (6, .int s0_773), (7, .int r681), (9, .int a9_692)]) C (zD D_L_fits_6 47 rfl) (by decide) (fun _ => rfl) (fun x788 => ?_)
                refine z_iincL (pc := 790) (lv' := fun x790 => [(9, .int x790), (8, .int x788), (0, .ref (B + p0)), (2, .int a2_305), (3, .int a3_305), (4, .int a4_305), (5, .int a5_81), (6, .int s0_773), (7, .int r681)]) C (zD D_L_fits_6 48 rfl) 8 rfl (v := a9_692 + 1) rfl (by decide) (fun _ => rfl) (fun x790 => ?_)
                refine z_goto (pc := 793) C (zD D_L_fits_6 49 rfl) (tgt := 692) (by decide) ?_
                refine z_sub [2, 3, 4, 5, 6, 7, 8, 1, 0] (lv' := [(0, .ref (B + p0)), (2, .int a2_305), (3, .int a3_305), (4, .int a4_305), (5, .int a5_81), (6, .int s0_773), (7, .int r681), (8, .int x788), (9, .int x790)]) rfl ?_
                exact hrec692 s0_773 x788 x790
              refine z_if_le (pc := 779) C (zD D_L_fits_6 42 rfl) (tgt := 786) (by decide) (fun _ => ?_) (fun _ => ?_)
              · refine z_iconst (pc := 786) (v := 0) C (zD D_L_fits_6 45 rfl) (by decide) ?_
                refine z_sub [1, 2, 3, 4, 5, 0, 6, 8] (lv' := [(0, .ref (B + p0)), (2, .int a2_305), (3, .int a3_305), (4, .int a4_305), (5, .int a5_81), (6, .int s0_773), (7, .int r681), (9, .int a9_692)]) rfl ?_
                exact hK787 (0 : Int32)
              · refine z_iconst (pc := 782) (v := 1) C (zD D_L_fits_6 43 rfl) (by decide) ?_
                refine z_goto (pc := 783) C (zD D_L_fits_6 44 rfl) (tgt := 787) (by decide) ?_
                refine z_sub [1, 2, 3, 4, 5, 0, 6, 8] (lv' := [(0, .ref (B + p0)), (2, .int a2_305), (3, .int a3_305), (4, .int a4_305), (5, .int a5_81), (6, .int s0_773), (7, .int r681), (9, .int a9_692)]) rfl ?_
                exact hK787 (1 : Int32)
            refine z_letg (fun K772 => zJ B Z (zEnd B Z (fun u : Int32 × zH => (some (Value.int u.1), u.2)) 0 0) (K772) 772 [(0, .ref (B + p0)), (2, .int a2_305), (3, .int a3_305), (4, .int a4_305), (5, .int a5_81), (7, .int r681), (8, .int a8_692), (9, .int a9_692), (10, .int r715)] [] h305 (z00 Z)) ?_ (fun K772 hK772 => ?_)
            · refine z_iconst (pc := 772) (v := 0) C (zD D_L_fits_6 38 rfl) (by decide) ?_
              exact hK773 (0 : Int32)
            refine z_icmp_ne (pc := 736) C (zD D_L_fits_6 21 rfl) (tgt := 772) (by decide) (fun _ => ?_) (fun _ => ?_)
            · refine z_sub [1, 2, 3, 4, 5, 7, 8, 9, 0] (lv' := [(0, .ref (B + p0)), (2, .int a2_305), (3, .int a3_305), (4, .int a4_305), (5, .int a5_81), (7, .int r681), (8, .int a8_692), (9, .int a9_692), (10, .int r715)]) rfl ?_
              exact hK772
            · refine z_iload (pc := 739) C (zD D_L_fits_6 22 rfl) 0 rfl ?_
              refine z_if_lt (pc := 741) C (zD D_L_fits_6 23 rfl) (tgt := 772) (by decide) (fun _ => ?_) (fun _ => ?_)
              · refine z_sub [1, 2, 3, 4, 5, 7, 8, 9, 0] (lv' := [(0, .ref (B + p0)), (2, .int a2_305), (3, .int a3_305), (4, .int a4_305), (5, .int a5_81), (7, .int r681), (8, .int a8_692), (9, .int a9_692), (10, .int r715)]) rfl ?_
                exact hK772
              · refine z_iload (pc := 744) C (zD D_L_fits_6 24 rfl) 0 rfl ?_
                refine z_iconst (pc := 746) (v := 3) C (zD D_L_fits_6 25 rfl) (by decide) ?_
                refine z_icmp_ge (pc := 747) C (zD D_L_fits_6 26 rfl) (tgt := 772) (by decide) (fun _ => ?_) (fun _ => ?_)
                · refine z_sub [1, 2, 3, 4, 5, 7, 8, 9, 0] (lv' := [(0, .ref (B + p0)), (2, .int a2_305), (3, .int a3_305), (4, .int a4_305), (5, .int a5_81), (7, .int r681), (8, .int a8_692), (9, .int a9_692), (10, .int r715)]) rfl ?_
                  exact hK772
                · refine z_iload (pc := 750) C (zD D_L_fits_6 27 rfl) 0 rfl ?_
                  refine z_letg (fun K768 => zJ B Z (zEnd B Z (fun u : Int32 × zH => (some (Value.int u.1), u.2)) 0 0) (K768) 768 [(0, .ref (B + p0)), (2, .int a2_305), (3, .int a3_305), (4, .int a4_305), (5, .int a5_81), (7, .int r681), (8, .int a8_692), (9, .int a9_692), (10, .int r715)] [] h305 (z00 Z)) ?_ (fun K768 hK768 => ?_)
                  · refine z_iconst (pc := 768) (v := 1) C (zD D_L_fits_6 36 rfl) (by decide) ?_
                    refine z_goto (pc := 769) C (zD D_L_fits_6 37 rfl) (tgt := 773) (by decide) ?_
                    exact hK773 (1 : Int32)
                  refine z_if_eq (pc := 752) C (zD D_L_fits_6 28 rfl) (tgt := 768) (by decide) (fun _ => ?_) (fun _ => ?_)
                  · refine z_sub [1, 2, 3, 4, 5, 7, 8, 9, 0] (lv' := [(0, .ref (B + p0)), (2, .int a2_305), (3, .int a3_305), (4, .int a4_305), (5, .int a5_81), (7, .int r681), (8, .int a8_692), (9, .int a9_692), (10, .int r715)]) rfl ?_
                    exact hK768
                  · refine z_iload (pc := 755) C (zD D_L_fits_6 29 rfl) 9 rfl ?_
                    refine z_bipush (pc := 757) (v := 8) C (zD D_L_fits_6 30 rfl) (by decide) ?_
                    refine z_idivc (pc := 759) C (zD D_L_fits_6 31 rfl) (by decide) ?_
                    refine z_iload (pc := 760) C (zD D_L_fits_6 32 rfl) 9 rfl ?_
                    refine z_bipush (pc := 762) (v := 8) C (zD D_L_fits_6 33 rfl) (by decide) ?_
                    refine z_iremc (pc := 764) C (zD D_L_fits_6 34 rfl) (by decide) ?_
                    refine z_icmp_eq (pc := 765) C (zD D_L_fits_6 35 rfl) (tgt := 772) (by decide) (fun _ => ?_) (fun _ => ?_)
                    · refine z_sub [1, 2, 3, 4, 5, 7, 8, 9, 0] (lv' := [(0, .ref (B + p0)), (2, .int a2_305), (3, .int a3_305), (4, .int a4_305), (5, .int a5_81), (7, .int r681), (8, .int a8_692), (9, .int a9_692), (10, .int r715)]) rfl ?_
                      exact hK772
                    · refine z_sub [1, 2, 3, 4, 5, 7, 8, 9, 0] (lv' := [(0, .ref (B + p0)), (2, .int a2_305), (3, .int a3_305), (4, .int a4_305), (5, .int a5_81), (7, .int r681), (8, .int a8_692), (9, .int a9_692), (10, .int r715)]) rfl ?_
                      exact hK768
      refine z_icmp_ge (pc := 308) C (zD D_L_fits_2 45 rfl) (tgt := 680) (by decide) (fun _ => ?_) (fun _ => ?_)
      · refine z_sub [0, 2, 3, 4, 5, 6] (lv' := [(0, .ref (B + p0)), (2, .int a2_305), (3, .int a3_305), (4, .int a4_305), (5, .int a5_81), (6, .int a6_305)]) rfl ?_
        exact hK680
      · refine z_iload (pc := 311) C (zD D_L_fits_2 46 rfl) 6 rfl ?_
        refine z_if_eq (pc := 313) C (zD D_L_fits_2 47 rfl) (tgt := 680) (by decide) (fun _ => ?_) (fun _ => ?_)
        · refine z_sub [0, 2, 3, 4, 5, 6] (lv' := [(0, .ref (B + p0)), (2, .int a2_305), (3, .int a3_305), (4, .int a4_305), (5, .int a5_81), (6, .int a6_305)]) rfl ?_
          exact hK680
        · refine z_aload_n (pc := 316) C (zD D_L_fits_2 48 rfl) rfl 0 rfl ?_
          refine z_iload (pc := 317) C (zD D_L_fits_2 49 rfl) 7 rfl ?_
          refine z_iconst (pc := 319) (v := 0) C (zD D_L_fits_2 50 rfl) (by decide) ?_
          refine z_sWI (pc := 320) (z' := (z00 Z)) (As := [.ref (B + p0), .int a7_305, .int (0 : Int32)]) C [] (c_L_companies' _ _ _ _ n p0 a7_305 (0 : Int32) h305) zn_L_companies (by decide) (by decide) hz0 q_448 q_449 q_98 q_450 rfl rfl rfl (zD D_L_fits_2 51 rfl) ⟨Nat.le_refl _, Nat.le_refl _, Nat.le_refl _⟩ (fun r320 h320 => ?_)
          refine z_letg (fun K674 => ∀ (a2_674 : Int32) (a3_674 : Int32) (a4_674 : Int32) (a6_674 : Int32) (h674 : zH), zJ B Z (zEnd B Z (fun u : Int32 × zH => (some (Value.int u.1), u.2)) 0 0) (K674 a2_674 a3_674 a4_674 a6_674 h674) 674 [(0, .ref (B + p0)), (1, .int r2), (2, .int a2_674), (3, .int a3_674), (4, .int a4_674), (5, .int a5_81), (6, .int a6_674), (7, .int a7_305)] [] h674 (z00 Z)) (fun a2_674 a3_674 a4_674 a6_674 h674 => ?_) (fun K674 hK674 => ?_)
          · refine z_iincL (pc := 674) (lv' := fun x674 => [(7, .int x674), (0, .ref (B + p0)), (1, .int r2), (2, .int a2_674), (3, .int a3_674), (4, .int a4_674), (5, .int a5_81), (6, .int a6_674)]) C (zD D_L_fits_5 49 rfl) 7 rfl (v := a7_305 + 1) rfl (by decide) (fun _ => rfl) (fun x674 => ?_)
            refine z_goto (pc := 677) C (zD D_L_fits_5 50 rfl) (tgt := 305) (by decide) ?_
            refine z_sub [1, 2, 3, 4, 5, 6, 7, 0] (lv' := [(0, .ref (B + p0)), (1, .int r2), (2, .int a2_674), (3, .int a3_674), (4, .int a4_674), (5, .int a5_81), (6, .int a6_674), (7, .int x674)]) rfl ?_
            exact hrec305 a2_674 a3_674 a4_674 a6_674 x674 h674
          refine z_if_ne (pc := 323) C (zD D_L_fits_2 52 rfl) (tgt := 411) (by decide) (fun _ => ?_) (fun _ => ?_)
          · refine z_aload_n (pc := 411) C (zD D_L_fits_3 34 rfl) rfl 0 rfl ?_
            refine z_iload (pc := 412) C (zD D_L_fits_3 35 rfl) 7 rfl ?_
            refine z_iconst (pc := 414) (v := 5) C (zD D_L_fits_3 36 rfl) (by decide) ?_
            refine z_sWI (pc := 415) (z' := (z00 Z)) (As := [.ref (B + p0), .int a7_305, .int (5 : Int32)]) C [] (c_L_companies' _ _ _ _ n p0 a7_305 (5 : Int32) h320) zn_L_companies (by decide) (by decide) hz0 q_448 q_449 q_98 q_450 rfl rfl rfl (zD D_L_fits_3 37 rfl) ⟨Nat.le_refl _, Nat.le_refl _, Nat.le_refl _⟩ (fun r415 h415 => ?_)
            refine z_istore (pc := 418) (lv' := [(8, .int r415), (0, .ref (B + p0)), (1, .int r2), (2, .int a2_305), (3, .int a3_305), (4, .int a4_305), (5, .int a5_81), (6, .int a6_305), (7, .int a7_305)]) C (zD D_L_fits_3 38 rfl) (by decide) rfl ?_
            refine z_aload_n (pc := 420) C (zD D_L_fits_3 39 rfl) rfl 1 rfl ?_
            refine z_iload (pc := 421) C (zD D_L_fits_3 40 rfl) 8 rfl ?_
            refine z_bipush (pc := 423) (v := 6) C (zD D_L_fits_3 41 rfl) (by decide) ?_
            refine z_sWI (pc := 425) (z' := (z00 Z)) (As := [.ref (B + p0), .int a7_305, .int (6 : Int32)]) C [] (c_L_companies' _ _ _ _ n p0 a7_305 (6 : Int32) h415) zn_L_companies (by decide) (by decide) hz0 q_448 q_449 q_98 q_450 rfl rfl rfl (zD D_L_fits_3 42 rfl) ⟨Nat.le_refl _, Nat.le_refl _, Nat.le_refl _⟩ (fun r425 h425 => ?_)
            refine z_istore (pc := 428) (lv' := [(9, .int r425), (8, .int r415), (0, .ref (B + p0)), (1, .int r2), (2, .int a2_305), (3, .int a3_305), (4, .int a4_305), (5, .int a5_81), (6, .int a6_305), (7, .int a7_305)]) C (zD D_L_fits_3 43 rfl) (by decide) rfl ?_
            refine z_iconst (pc := 430) (v := 0) C (zD D_L_fits_3 44 rfl) (by decide) ?_
            refine z_istore (pc := 431) (lv' := [(10, .int (0 : Int32)), (9, .int r425), (8, .int r415), (0, .ref (B + p0)), (1, .int r2), (2, .int a2_305), (3, .int a3_305), (4, .int a4_305), (5, .int a5_81), (6, .int a6_305), (7, .int a7_305)]) C (zD D_L_fits_3 45 rfl) (by decide) rfl ?_
            refine z_sub [3, 4, 5, 6, 7, 8, 9, 10, 2, 1, 0] (lv' := [(0, .ref (B + p0)), (1, .int r2), (2, .int a2_305), (3, .int a3_305), (4, .int a4_305), (5, .int a5_81), (6, .int a6_305), (7, .int a7_305), (8, .int r415), (9, .int r425), (10, .int (0 : Int32))]) rfl ?_
            refine z_fix3 (fun g433 => ∀ (a6_433 : Int32) (a9_433 : Int32) (a10_433 : Int32), zJ B Z (zEnd B Z (fun u : Int32 × zH => (some (Value.int u.1), u.2)) 0 0) (g433 a6_433 a9_433 a10_433) 433 [(0, .ref (B + p0)), (1, .int r2), (2, .int a2_305), (3, .int a3_305), (4, .int a4_305), (5, .int a5_81), (6, .int a6_433), (7, .int a7_305), (8, .int r415), (9, .int a9_433), (10, .int a10_433)] [] h425 (z00 Z)) (fun _ _ _ => z_none) (fun rec433 hrec433 a6_433 a9_433 a10_433 => ?_) n a6_305 r425 (0 : Int32)
            refine z_iload (pc := 433) C (zD D_L_fits_3 46 rfl) 10 rfl ?_
            refine z_iload_n (pc := 435) C (zD D_L_fits_3 47 rfl) rfl 1 rfl ?_
            refine z_icmp_ge (pc := 436) C (zD D_L_fits_3 48 rfl) (tgt := 501) (by decide) (fun _ => ?_) (fun _ => ?_)
            · refine z_iload (pc := 501) C (zD D_L_fits_4 21 rfl) 6 rfl ?_
              refine z_letg (fun K646 => ∀ (s0_646 : Int32) (h646 : zH), zJ B Z (zEnd B Z (fun u : Int32 × zH => (some (Value.int u.1), u.2)) 0 0) (K646 s0_646 h646) 646 [(0, .ref (B + p0)), (1, .int r2), (2, .int a2_305), (3, .int a3_305), (4, .int a4_305), (5, .int a5_81), (7, .int a7_305)] [.int s0_646] h646 (z00 Z)) (fun s0_646 h646 => ?_) (fun K646 hK646 => ?_)
              · refine z_istore (pc := 646) (lv' := [(6, .int s0_646), (0, .ref (B + p0)), (1, .int r2), (2, .int a2_305), (3, .int a3_305), (4, .int a4_305), (5, .int a5_81), (7, .int a7_305)]) C (zD D_L_fits_5 33 rfl) (by decide) rfl ?_
                refine z_iincL (pc := 648) (lv' := fun x648 => [(3, .int x648), (6, .int s0_646), (0, .ref (B + p0)), (1, .int r2), (2, .int a2_305), (4, .int a4_305), (5, .int a5_81), (7, .int a7_305)]) C (zD D_L_fits_5 34 rfl) 4 rfl (v := a3_305 + 1) rfl (by decide) (fun _ => rfl) (fun x648 => ?_)
                refine z_iload (pc := 651) C (zD D_L_fits_5 35 rfl) 5 rfl ?_
                refine z_aload_n (pc := 653) C (zD D_L_fits_5 36 rfl) rfl 2 rfl ?_
                refine z_iload (pc := 654) C (zD D_L_fits_5 37 rfl) 7 rfl ?_
                refine z_bipush (pc := 656) (v := 6) C (zD D_L_fits_5 38 rfl) (by decide) ?_
                refine z_sWI (pc := 658) (z' := (z00 Z)) (As := [.ref (B + p0), .int a7_305, .int (6 : Int32)]) C [.int a4_305] (c_L_companies' _ _ _ _ n p0 a7_305 (6 : Int32) h646) zn_L_companies (by decide) (by decide) hz0 q_448 q_449 q_98 q_450 rfl rfl rfl (zD D_L_fits_5 39 rfl) ⟨Nat.le_refl _, Nat.le_refl _, Nat.le_refl _⟩ (fun r658 h658 => ?_)
                refine z_iadd (pc := 661) C (zD D_L_fits_5 40 rfl) ?_
                refine z_istoreL (pc := 662) (lv' := fun x662 => [(4, .int x662), (3, .int x648), (6, .int s0_646), (0, .ref (B + p0)), (1, .int r2), (2, .int a2_305), (5, .int a5_81), (7, .int a7_305)]) C (zD D_L_fits_5 41 rfl) (by decide) (fun _ => rfl) (fun x662 => ?_)
                refine z_iload_n (pc := 664) C (zD D_L_fits_5 42 rfl) rfl 5 rfl ?_
                refine z_aload_n (pc := 665) C (zD D_L_fits_5 43 rfl) rfl 3 rfl ?_
                refine z_iload (pc := 666) C (zD D_L_fits_5 44 rfl) 7 rfl ?_
                refine z_iconst (pc := 668) (v := 2) C (zD D_L_fits_5 45 rfl) (by decide) ?_
                refine z_sWI (pc := 669) (z' := (z00 Z)) (As := [.ref (B + p0), .int a7_305, .int (2 : Int32)]) C [.int a2_305] (c_L_companies' _ _ _ _ n p0 a7_305 (2 : Int32) h658) zn_L_companies (by decide) (by decide) hz0 q_448 q_449 q_98 q_450 rfl rfl rfl (zD D_L_fits_5 46 rfl) ⟨Nat.le_refl _, Nat.le_refl _, Nat.le_refl _⟩ (fun r669 h669 => ?_)
                refine z_iadd (pc := 672) C (zD D_L_fits_5 47 rfl) ?_
                refine z_istore_nL (pc := 673) (lv' := fun x673 => [(2, .int x673), (4, .int x662), (3, .int x648), (6, .int s0_646), (0, .ref (B + p0)), (1, .int r2), (5, .int a5_81), (7, .int a7_305)]) C (zD D_L_fits_5 48 rfl) rfl (by decide) (fun _ => rfl) (fun x673 => ?_)
                refine z_sub [4, 5, 0, 2, 1, 6, 3, 7] (lv' := [(0, .ref (B + p0)), (1, .int r2), (2, .int x673), (3, .int x648), (4, .int x662), (5, .int a5_81), (6, .int s0_646), (7, .int a7_305)]) rfl ?_
                exact hK674 x673 x648 x662 s0_646 h669
              refine z_letg (fun K645 => ∀ (h645 : zH), zJ B Z (zEnd B Z (fun u : Int32 × zH => (some (Value.int u.1), u.2)) 0 0) (K645 h645) 645 [(0, .ref (B + p0)), (1, .int r2), (2, .int a2_305), (3, .int a3_305), (4, .int a4_305), (5, .int a5_81), (7, .int a7_305)] [] h645 (z00 Z)) (fun h645 => ?_) (fun K645 hK645 => ?_)
              · refine z_iconst (pc := 645) (v := 0) C (zD D_L_fits_5 32 rfl) (by decide) ?_
                exact hK646 (0 : Int32) h645
              refine z_if_eq (pc := 503) C (zD D_L_fits_4 22 rfl) (tgt := 645) (by decide) (fun _ => ?_) (fun _ => ?_)
              · refine z_sub [0, 1, 2, 3, 4, 5, 7] (lv' := [(0, .ref (B + p0)), (1, .int r2), (2, .int a2_305), (3, .int a3_305), (4, .int a4_305), (5, .int a5_81), (7, .int a7_305)]) rfl ?_
                exact hK645 h425
              · refine z_iload (pc := 506) C (zD D_L_fits_4 23 rfl) 9 rfl ?_
                refine z_bipush (pc := 508) (v := 10) C (zD D_L_fits_4 24 rfl) (by decide) ?_
                refine z_icmp_ne (pc := 510) C (zD D_L_fits_4 25 rfl) (tgt := 645) (by decide) (fun _ => ?_) (fun _ => ?_)
                · refine z_sub [0, 1, 2, 3, 4, 5, 7] (lv' := [(0, .ref (B + p0)), (1, .int r2), (2, .int a2_305), (3, .int a3_305), (4, .int a4_305), (5, .int a5_81), (7, .int a7_305)]) rfl ?_
                  exact hK645 h425
                · refine z_iload (pc := 513) C (zD D_L_fits_4 26 rfl) 8 rfl ?_
                  refine z_iconst (pc := 515) (v := -1) C (zD D_L_fits_4 27 rfl) (by decide) ?_
                  refine z_letg (fun K532 => zJ B Z (zEnd B Z (fun u : Int32 × zH => (some (Value.int u.1), u.2)) 0 0) (K532) 532 [(0, .ref (B + p0)), (1, .int r2), (2, .int a2_305), (3, .int a3_305), (4, .int a4_305), (5, .int a5_81), (7, .int a7_305)] [] h425 (z00 Z)) ?_ (fun K532 hK532 => ?_)
                  · refine z_aload_n (pc := 532) C (zD D_L_fits_4 36 rfl) rfl 0 rfl ?_
                    refine z_iload (pc := 533) C (zD D_L_fits_4 37 rfl) 6 rfl ?_
                    refine z_iconst (pc := 535) (v := 3) C (zD D_L_fits_4 38 rfl) (by decide) ?_
                    refine z_sWI (pc := 536) (z' := (z00 Z)) (As := [.ref (B + p0), .int a7_305, .int (3 : Int32)]) C [] (c_L_companies' _ _ _ _ n p0 a7_305 (3 : Int32) h425) zn_L_companies (by decide) (by decide) hz0 q_448 q_449 q_98 q_450 rfl rfl rfl (zD D_L_fits_4 39 rfl) ⟨Nat.le_refl _, Nat.le_refl _, Nat.le_refl _⟩ (fun r536 h536 => ?_)
                    refine z_bipush (pc := 539) (v := 20) C (zD D_L_fits_4 40 rfl) (by decide) ?_
                    refine z_icmp_lt (pc := 541) C (zD D_L_fits_4 41 rfl) (tgt := 645) (by decide) (fun _ => ?_) (fun _ => ?_)
                    · exact hK645 h536
                    · refine z_aload_n (pc := 544) C (zD D_L_fits_4 42 rfl) rfl 0 rfl ?_
                      refine z_iload (pc := 545) C (zD D_L_fits_4 43 rfl) 6 rfl ?_
                      refine z_iconst (pc := 547) (v := 3) C (zD D_L_fits_4 44 rfl) (by decide) ?_
                      refine z_sWI (pc := 548) (z' := (z00 Z)) (As := [.ref (B + p0), .int a7_305, .int (3 : Int32)]) C [] (c_L_companies' _ _ _ _ n p0 a7_305 (3 : Int32) h536) zn_L_companies (by decide) (by decide) hz0 q_448 q_449 q_98 q_450 rfl rfl rfl (zD D_L_fits_4 45 rfl) ⟨Nat.le_refl _, Nat.le_refl _, Nat.le_refl _⟩ (fun r548 h548 => ?_)
                      refine z_sipush (pc := 551) (v := 130) C (zD D_L_fits_4 46 rfl) (by decide) ?_
                      refine z_icmp_gt (pc := 554) C (zD D_L_fits_4 47 rfl) (tgt := 645) (by decide) (fun _ => ?_) (fun _ => ?_)
                      · exact hK645 h548
                      · refine z_aload_n (pc := 557) C (zD D_L_fits_4 48 rfl) rfl 0 rfl ?_
                        refine z_iload (pc := 558) C (zD D_L_fits_4 49 rfl) 6 rfl ?_
                        refine z_iconst (pc := 560) (v := 3) C (zD D_L_fits_4 50 rfl) (by decide) ?_
                        refine z_sWI (pc := 561) (z' := (z00 Z)) (As := [.ref (B + p0), .int a7_305, .int (3 : Int32)]) C [] (c_L_companies' _ _ _ _ n p0 a7_305 (3 : Int32) h548) zn_L_companies (by decide) (by decide) hz0 q_448 q_449 q_98 q_450 rfl rfl rfl (zD D_L_fits_4 51 rfl) ⟨Nat.le_refl _, Nat.le_refl _, Nat.le_refl _⟩ (fun r561 h561 => ?_)
                        refine z_bipush (pc := 564) (v := 10) C (zD D_L_fits_4 52 rfl) (by decide) ?_
                        refine z_iremc (pc := 566) C (zD D_L_fits_4 53 rfl) (by decide) ?_
                        refine z_if_ne (pc := 567) C (zD D_L_fits_4 54 rfl) (tgt := 645) (by decide) (fun _ => ?_) (fun _ => ?_)
                        · exact hK645 h561
                        · refine z_aload_n (pc := 570) C (zD D_L_fits_4 55 rfl) rfl 0 rfl ?_
                          refine z_iload (pc := 571) C (zD D_L_fits_4 56 rfl) 6 rfl ?_
                          refine z_iconst (pc := 573) (v := 4) C (zD D_L_fits_4 57 rfl) (by decide) ?_
                          refine z_sWI (pc := 574) (z' := (z00 Z)) (As := [.ref (B + p0), .int a7_305, .int (4 : Int32)]) C [] (c_L_companies' _ _ _ _ n p0 a7_305 (4 : Int32) h561) zn_L_companies (by decide) (by decide) hz0 q_448 q_449 q_98 q_450 rfl rfl rfl (zD D_L_fits_4 58 rfl) ⟨Nat.le_refl _, Nat.le_refl _, Nat.le_refl _⟩ (fun r574 h574 => ?_)
                          refine z_iconst (pc := 577) (v := 1) C (zD D_L_fits_4 59 rfl) (by decide) ?_
                          refine z_icmp_le (pc := 578) C (zD D_L_fits_5 0 rfl) (tgt := 645) (by decide) (fun _ => ?_) (fun _ => ?_)
                          · exact hK645 h574
                          · refine z_aload_n (pc := 581) C (zD D_L_fits_5 1 rfl) rfl 0 rfl ?_
                            refine z_iload (pc := 582) C (zD D_L_fits_5 2 rfl) 6 rfl ?_
                            refine z_iconst (pc := 584) (v := 4) C (zD D_L_fits_5 3 rfl) (by decide) ?_
                            refine z_sWI (pc := 585) (z' := (z00 Z)) (As := [.ref (B + p0), .int a7_305, .int (4 : Int32)]) C [] (c_L_companies' _ _ _ _ n p0 a7_305 (4 : Int32) h574) zn_L_companies (by decide) (by decide) hz0 q_448 q_449 q_98 q_450 rfl rfl rfl (zD D_L_fits_5 4 rfl) ⟨Nat.le_refl _, Nat.le_refl _, Nat.le_refl _⟩ (fun r585 h585 => ?_)
                            refine z_bipush (pc := 588) (v := 6) C (zD D_L_fits_5 5 rfl) (by decide) ?_
                            refine z_icmp_ge (pc := 590) C (zD D_L_fits_5 6 rfl) (tgt := 645) (by decide) (fun _ => ?_) (fun _ => ?_)
                            · exact hK645 h585
                            · refine z_aload_n (pc := 593) C (zD D_L_fits_5 7 rfl) rfl 0 rfl ?_
                              refine z_iload (pc := 594) C (zD D_L_fits_5 8 rfl) 6 rfl ?_
                              refine z_iconst (pc := 596) (v := 2) C (zD D_L_fits_5 9 rfl) (by decide) ?_
                              refine z_sWI (pc := 597) (z' := (z00 Z)) (As := [.ref (B + p0), .int a7_305, .int (2 : Int32)]) C [] (c_L_companies' _ _ _ _ n p0 a7_305 (2 : Int32) h585) zn_L_companies (by decide) (by decide) hz0 q_448 q_449 q_98 q_450 rfl rfl rfl (zD D_L_fits_5 10 rfl) ⟨Nat.le_refl _, Nat.le_refl _, Nat.le_refl _⟩ (fun r597 h597 => ?_)
                              refine z_if_lt (pc := 600) C (zD D_L_fits_5 11 rfl) (tgt := 645) (by decide) (fun _ => ?_) (fun _ => ?_)
                              · exact hK645 h597
                              · refine z_aload_n (pc := 603) C (zD D_L_fits_5 12 rfl) rfl 0 rfl ?_
                                refine z_iload (pc := 604) C (zD D_L_fits_5 13 rfl) 6 rfl ?_
                                refine z_sWI (pc := 606) (z' := (z00 Z)) (As := [.ref (B + p0), .int a7_305]) C [] (c_L_dividends' _ _ _ _ n p0 a7_305 h597) zn_L_dividends (by decide) (by decide) hz0 q_498 q_499 q_98 q_500 rfl rfl rfl (zD D_L_fits_5 14 rfl) ⟨Nat.le_refl _, Nat.le_refl _, Nat.le_refl _⟩ (fun r606 h606 => ?_)
                                refine z_aload_n (pc := 609) C (zD D_L_fits_5 15 rfl) rfl 0 rfl ?_
                                refine z_iload (pc := 610) C (zD D_L_fits_5 16 rfl) 6 rfl ?_
                                refine z_bipush (pc := 612) (v := 7) C (zD D_L_fits_5 17 rfl) (by decide) ?_
                                refine z_sWI (pc := 614) (z' := (z00 Z)) (As := [.ref (B + p0), .int a7_305, .int (7 : Int32)]) C [.int r606] (c_L_companies' _ _ _ _ n p0 a7_305 (7 : Int32) h606) zn_L_companies (by decide) (by decide) hz0 q_448 q_449 q_98 q_450 rfl rfl rfl (zD D_L_fits_5 18 rfl) ⟨Nat.le_refl _, Nat.le_refl _, Nat.le_refl _⟩ (fun r614 h614 => ?_)
                                refine z_bipush (pc := 617) (v := 10) C (zD D_L_fits_5 19 rfl) (by decide) ?_
                                refine z_idivc (pc := 619) C (zD D_L_fits_5 20 rfl) (by decide) ?_
                                refine z_icmp_ne (pc := 620) C (zD D_L_fits_5 21 rfl) (tgt := 645) (by decide) (fun _ => ?_) (fun _ => ?_)
                                · exact hK645 h614
                                · refine z_aload_n (pc := 623) C (zD D_L_fits_5 22 rfl) rfl 0 rfl ?_
                                  refine z_iload (pc := 624) C (zD D_L_fits_5 23 rfl) 6 rfl ?_
                                  refine z_csI (pc := 626) (As := [.ref (B + p0), .int a7_305]) C [] (c_L_isRoute _ _ _ _ n p0 a7_305 h614) zn_L_isRoute (by decide) (by decide) hz0 q_543 q_544 q_98 q_545 rfl rfl rfl (zD D_L_fits_5 24 rfl) (fun r626 h626 => ?_)
                                  refine z_if_eq (pc := 629) C (zD D_L_fits_5 25 rfl) (tgt := 645) (by decide) (fun _ => ?_) (fun _ => ?_)
                                  · exact hK645 h626
                                  · refine z_aload_n (pc := 632) C (zD D_L_fits_5 26 rfl) rfl 0 rfl ?_
                                    refine z_iload (pc := 633) C (zD D_L_fits_5 27 rfl) 6 rfl ?_
                                    refine z_csI (pc := 635) (As := [.ref (B + p0), .int a7_305]) C [] (c_L_isBest _ _ _ _ n p0 a7_305 h626) zn_L_isBest (by decide) (by decide) hz0 q_546 q_547 q_98 q_548 rfl rfl rfl (zD D_L_fits_5 28 rfl) (fun r635 h635 => ?_)
                                    refine z_if_eq (pc := 638) C (zD D_L_fits_5 29 rfl) (tgt := 645) (by decide) (fun _ => ?_) (fun _ => ?_)
                                    · exact hK645 h635
                                    · refine z_iconst (pc := 641) (v := 1) C (zD D_L_fits_5 30 rfl) (by decide) ?_
                                      refine z_goto (pc := 642) C (zD D_L_fits_5 31 rfl) (tgt := 646) (by decide) ?_
                                      exact hK646 (1 : Int32) h635
                  refine z_icmp_eq (pc := 516) C (zD D_L_fits_4 28 rfl) (tgt := 532) (by decide) (fun _ => ?_) (fun _ => ?_)
                  · refine z_sub [0, 1, 2, 3, 4, 5, 7] (lv' := [(0, .ref (B + p0)), (1, .int r2), (2, .int a2_305), (3, .int a3_305), (4, .int a4_305), (5, .int a5_81), (7, .int a7_305)]) rfl ?_
                    exact hK532
                  · refine z_aload_n (pc := 519) C (zD D_L_fits_4 29 rfl) rfl 0 rfl ?_
                    refine z_iload (pc := 520) C (zD D_L_fits_4 30 rfl) 8 rfl ?_
                    refine z_iconst (pc := 522) (v := 1) C (zD D_L_fits_4 31 rfl) (by decide) ?_
                    refine z_iload (pc := 523) C (zD D_L_fits_4 32 rfl) 7 rfl ?_
                    refine z_iadd (pc := 525) C (zD D_L_fits_4 33 rfl) ?_
                    refine z_sWR (pc := 526) (As := [.ref (B + p0), .int r415, .int ((1 : Int32) + a7_305)]) C [] (c_L_players' _ _ _ _ n p0 r415 ((1 : Int32) + a7_305) h425) zn_L_players (by decide) (by decide) hz0 q_444 q_445 q_98 q_446 rfl rfl rfl (zD D_L_fits_4 34 rfl) (fun r526 => ?_)
                    refine z_if_le (pc := 529) C (zD D_L_fits_4 35 rfl) (tgt := 645) (by decide) (fun _ => ?_) (fun _ => ?_)
                    · refine z_sub [0, 1, 2, 3, 4, 5, 7] (lv' := [(0, .ref (B + p0)), (1, .int r2), (2, .int a2_305), (3, .int a3_305), (4, .int a4_305), (5, .int a5_81), (7, .int a7_305)]) rfl ?_
                      exact hK645 h425
                    · refine z_sub [0, 1, 2, 3, 4, 5, 7] (lv' := [(0, .ref (B + p0)), (1, .int r2), (2, .int a2_305), (3, .int a3_305), (4, .int a4_305), (5, .int a5_81), (7, .int a7_305)]) rfl ?_
                      exact hK532
            · refine z_aload_n (pc := 439) C (zD D_L_fits_3 49 rfl) rfl 0 rfl ?_
              refine z_iload (pc := 440) C (zD D_L_fits_3 50 rfl) 10 rfl ?_
              refine z_iconst (pc := 442) (v := 1) C (zD D_L_fits_3 51 rfl) (by decide) ?_
              refine z_iload (pc := 443) C (zD D_L_fits_3 52 rfl) 7 rfl ?_
              refine z_iadd (pc := 445) C (zD D_L_fits_3 53 rfl) ?_
              refine z_sWR (pc := 446) (As := [.ref (B + p0), .int a10_433, .int ((1 : Int32) + a7_305)]) C [] (c_L_players' _ _ _ _ n p0 a10_433 ((1 : Int32) + a7_305) h425) zn_L_players (by decide) (by decide) hz0 q_444 q_445 q_98 q_446 rfl rfl rfl (zD D_L_fits_3 54 rfl) (fun r446 => ?_)
              refine z_istore (pc := 449) (lv' := [(11, .int r446), (0, .ref (B + p0)), (1, .int r2), (2, .int a2_305), (3, .int a3_305), (4, .int a4_305), (5, .int a5_81), (6, .int a6_433), (7, .int a7_305), (8, .int r415), (9, .int a9_433), (10, .int a10_433)]) C (zD D_L_fits_3 55 rfl) (by decide) rfl ?_
              refine z_iload (pc := 451) C (zD D_L_fits_3 56 rfl) 10 rfl ?_
              refine z_iload (pc := 453) C (zD D_L_fits_3 57 rfl) 0 rfl ?_
              refine z_iadd (pc := 455) C (zD D_L_fits_3 58 rfl) ?_
              refine z_istoreL (pc := 456) (lv' := fun x456 => [(9, .int x456), (11, .int r446), (0, .ref (B + p0)), (1, .int r2), (2, .int a2_305), (3, .int a3_305), (4, .int a4_305), (5, .int a5_81), (6, .int a6_433), (7, .int a7_305), (8, .int r415), (10, .int a10_433)]) C (zD D_L_fits_3 59 rfl) (by decide) (fun _ => rfl) (fun x456 => ?_)
              refine z_iload (pc := 458) C (zD D_L_fits_4 0 rfl) 8 rfl ?_
              refine z_letg (fun K493 => ∀ (s0_493 : Int32), zJ B Z (zEnd B Z (fun u : Int32 × zH => (some (Value.int u.1), u.2)) 0 0) (K493 s0_493) 493 [(0, .ref (B + p0)), (1, .int r2), (2, .int a2_305), (3, .int a3_305), (4, .int a4_305), (5, .int a5_81), (7, .int a7_305), (8, .int r415), (9, .int x456), (10, .int a10_433)] [.int s0_493] h425 (z00 Z)) (fun s0_493 => ?_) (fun K493 hK493 => ?_)
              · refine z_istore (pc := 493) (lv' := [(6, .int s0_493), (0, .ref (B + p0)), (1, .int r2), (2, .int a2_305), (3, .int a3_305), (4, .int a4_305), (5, .int a5_81), (7, .int a7_305), (8, .int r415), (9, .int x456), (10, .int a10_433)]) C (zD D_L_fits_4 18 rfl) (by decide) rfl ?_
                refine z_iincL (pc := 495) (lv' := fun x495 => [(10, .int x495), (6, .int s0_493), (0, .ref (B + p0)), (1, .int r2), (2, .int a2_305), (3, .int a3_305), (4, .int a4_305), (5, .int a5_81), (7, .int a7_305), (8, .int r415), (9, .int x456)]) C (zD D_L_fits_4 19 rfl) 10 rfl (v := a10_433 + 1) rfl (by decide) (fun _ => rfl) (fun x495 => ?_)
                refine z_goto (pc := 498) C (zD D_L_fits_4 20 rfl) (tgt := 433) (by decide) ?_
                refine z_sub [2, 3, 4, 5, 6, 7, 1, 8, 9, 10, 0] (lv' := [(0, .ref (B + p0)), (1, .int r2), (2, .int a2_305), (3, .int a3_305), (4, .int a4_305), (5, .int a5_81), (6, .int s0_493), (7, .int a7_305), (8, .int r415), (9, .int x456), (10, .int x495)]) rfl ?_
                exact hrec433 s0_493 x456 x495
              refine z_letg (fun K492 => zJ B Z (zEnd B Z (fun u : Int32 × zH => (some (Value.int u.1), u.2)) 0 0) (K492) 492 [(0, .ref (B + p0)), (1, .int r2), (2, .int a2_305), (3, .int a3_305), (4, .int a4_305), (5, .int a5_81), (7, .int a7_305), (8, .int r415), (9, .int x456), (10, .int a10_433)] [] h425 (z00 Z)) ?_ (fun K492 hK492 => ?_)
              · refine z_iconst (pc := 492) (v := 0) C (zD D_L_fits_4 17 rfl) (by decide) ?_
                exact hK493 (0 : Int32)
              refine z_if_eq (pc := 460) C (zD D_L_fits_4 1 rfl) (tgt := 492) (by decide) (fun _ => ?_) (fun _ => ?_)
              · refine z_sub [2, 3, 4, 5, 6, 7, 9, 10, 0, 11] (lv' := [(0, .ref (B + p0)), (1, .int r2), (2, .int a2_305), (3, .int a3_305), (4, .int a4_305), (5, .int a5_81), (7, .int a7_305), (8, .int r415), (9, .int x456), (10, .int a10_433)]) rfl ?_
                exact hK492
              · refine z_iload (pc := 463) C (zD D_L_fits_4 2 rfl) 1 rfl ?_
                refine z_iload (pc := 465) C (zD D_L_fits_4 3 rfl) 10 rfl ?_
                refine z_iconst (pc := 467) (v := -1) C (zD D_L_fits_4 4 rfl) (by decide) ?_
                refine z_letg (fun K485 => ∀ (s0_485 : Int32), zJ B Z (zEnd B Z (fun u : Int32 × zH => (some (Value.int u.1), u.2)) 0 0) (K485 s0_485) 485 [(0, .ref (B + p0)), (1, .int r2), (2, .int a2_305), (3, .int a3_305), (4, .int a4_305), (5, .int a5_81), (7, .int a7_305), (8, .int r415), (9, .int x456), (10, .int a10_433)] [.int s0_485, .int r446] h425 (z00 Z)) (fun s0_485 => ?_) (fun K485 hK485 => ?_)
                · refine z_icmp_gt (pc := 485) C (zD D_L_fits_4 14 rfl) (tgt := 492) (by decide) (fun _ => ?_) (fun _ => ?_)
                  · exact hK492
                  · refine z_iconst (pc := 488) (v := 1) C (zD D_L_fits_4 15 rfl) (by decide) ?_
                    refine z_goto (pc := 489) C (zD D_L_fits_4 16 rfl) (tgt := 493) (by decide) ?_
                    exact hK493 (1 : Int32)
                refine z_icmp_ne (pc := 468) C (zD D_L_fits_4 5 rfl) (tgt := 475) (by decide) (fun _ => ?_) (fun _ => ?_)
                · refine z_aload_n (pc := 475) C (zD D_L_fits_4 8 rfl) rfl 2 rfl ?_
                  refine z_iload (pc := 476) C (zD D_L_fits_4 9 rfl) 10 rfl ?_
                  refine z_iconst (pc := 478) (v := 1) C (zD D_L_fits_4 10 rfl) (by decide) ?_
                  refine z_iload (pc := 479) C (zD D_L_fits_4 11 rfl) 9 rfl ?_
                  refine z_iadd (pc := 481) C (zD D_L_fits_4 12 rfl) ?_
                  refine z_sWR (pc := 482) (As := [.ref (B + p0), .int r415, .int ((1 : Int32) + a7_305)]) C [.int r446] (c_L_players' _ _ _ _ n p0 r415 ((1 : Int32) + a7_305) h425) zn_L_players (by decide) (by decide) hz0 q_444 q_445 q_98 q_446 rfl rfl rfl (zD D_L_fits_4 13 rfl) (fun r482 => ?_)
                  refine z_sub [2, 3, 4, 5, 6, 7, 9, 10, 0, 11] (lv' := [(0, .ref (B + p0)), (1, .int r2), (2, .int a2_305), (3, .int a3_305), (4, .int a4_305), (5, .int a5_81), (7, .int a7_305), (8, .int r415), (9, .int x456), (10, .int a10_433)]) rfl ?_
                  exact hK485 r482
                · refine z_iconst (pc := 471) (v := 0) C (zD D_L_fits_4 6 rfl) (by decide) ?_
                  refine z_goto (pc := 472) C (zD D_L_fits_4 7 rfl) (tgt := 485) (by decide) ?_
                  refine z_sub [2, 3, 4, 5, 6, 7, 9, 10, 0, 11] (lv' := [(0, .ref (B + p0)), (1, .int r2), (2, .int a2_305), (3, .int a3_305), (4, .int a4_305), (5, .int a5_81), (7, .int a7_305), (8, .int r415), (9, .int x456), (10, .int a10_433)]) rfl ?_
                  exact hK485 (0 : Int32)
          · refine z_iconst (pc := 326) (v := 1) C (zD D_L_fits_2 53 rfl) (by decide) ?_
            refine z_istore (pc := 327) (lv' := [(8, .int (1 : Int32)), (0, .ref (B + p0)), (1, .int r2), (2, .int a2_305), (3, .int a3_305), (4, .int a4_305), (5, .int a5_81), (6, .int a6_305), (7, .int a7_305)]) C (zD D_L_fits_2 54 rfl) (by decide) rfl ?_
            refine z_sub [1, 2, 3, 4, 5, 6, 7, 8, 0] (lv' := [(0, .ref (B + p0)), (1, .int r2), (2, .int a2_305), (3, .int a3_305), (4, .int a4_305), (5, .int a5_81), (6, .int a6_305), (7, .int a7_305), (8, .int (1 : Int32))]) rfl ?_
            refine z_fix3 (fun g329 => ∀ (a6_329 : Int32) (a8_329 : Int32) (h329 : zH), zJ B Z (zEnd B Z (fun u : Int32 × zH => (some (Value.int u.1), u.2)) 0 0) (g329 a6_329 a8_329 h329) 329 [(0, .ref (B + p0)), (1, .int r2), (2, .int a2_305), (3, .int a3_305), (4, .int a4_305), (5, .int a5_81), (6, .int a6_329), (7, .int a7_305), (8, .int a8_329)] [] h329 (z00 Z)) (fun _ _ _ => z_none) (fun rec329 hrec329 a6_329 a8_329 h329 => ?_) n a6_305 (1 : Int32) h320
            refine z_iload (pc := 329) C (zD D_L_fits_2 55 rfl) 8 rfl ?_
            refine z_bipush (pc := 331) (v := 9) C (zD D_L_fits_2 56 rfl) (by decide) ?_
            refine z_icmp_ge (pc := 333) C (zD D_L_fits_2 57 rfl) (tgt := 366) (by decide) (fun _ => ?_) (fun _ => ?_)
            · refine z_iload (pc := 366) C (zD D_L_fits_3 12 rfl) 6 rfl ?_
              refine z_letg (fun K406 => ∀ (s0_406 : Int32) (h406 : zH), zJ B Z (zEnd B Z (fun u : Int32 × zH => (some (Value.int u.1), u.2)) 0 0) (K406 s0_406 h406) 406 [(0, .ref (B + p0)), (1, .int r2), (2, .int a2_305), (3, .int a3_305), (4, .int a4_305), (5, .int a5_81), (7, .int a7_305)] [.int s0_406] h406 (z00 Z)) (fun s0_406 h406 => ?_) (fun K406 hK406 => ?_)
              · refine z_istore (pc := 406) (lv' := [(6, .int s0_406), (0, .ref (B + p0)), (1, .int r2), (2, .int a2_305), (3, .int a3_305), (4, .int a4_305), (5, .int a5_81), (7, .int a7_305)]) C (zD D_L_fits_3 32 rfl) (by decide) rfl ?_
                refine z_goto (pc := 408) C (zD D_L_fits_3 33 rfl) (tgt := 674) (by decide) ?_
                refine z_sub [1, 2, 3, 4, 5, 6, 0, 7] (lv' := [(0, .ref (B + p0)), (1, .int r2), (2, .int a2_305), (3, .int a3_305), (4, .int a4_305), (5, .int a5_81), (6, .int s0_406), (7, .int a7_305)]) rfl ?_
                exact hK674 a2_305 a3_305 a4_305 s0_406 h406
              refine z_letg (fun K405 => ∀ (h405 : zH), zJ B Z (zEnd B Z (fun u : Int32 × zH => (some (Value.int u.1), u.2)) 0 0) (K405 h405) 405 [(0, .ref (B + p0)), (1, .int r2), (2, .int a2_305), (3, .int a3_305), (4, .int a4_305), (5, .int a5_81), (7, .int a7_305)] [] h405 (z00 Z)) (fun h405 => ?_) (fun K405 hK405 => ?_)
              · refine z_iconst (pc := 405) (v := 0) C (zD D_L_fits_3 31 rfl) (by decide) ?_
                exact hK406 (0 : Int32) h405
              refine z_if_eq (pc := 368) C (zD D_L_fits_3 13 rfl) (tgt := 405) (by decide) (fun _ => ?_) (fun _ => ?_)
              · refine z_sub [0, 1, 2, 3, 4, 5, 7] (lv' := [(0, .ref (B + p0)), (1, .int r2), (2, .int a2_305), (3, .int a3_305), (4, .int a4_305), (5, .int a5_81), (7, .int a7_305)]) rfl ?_
                exact hK405 h329
              · refine z_aload_n (pc := 371) C (zD D_L_fits_3 14 rfl) rfl 0 rfl ?_
                refine z_iload (pc := 372) C (zD D_L_fits_3 15 rfl) 7 rfl ?_
                refine z_iconst (pc := 374) (v := 0) C (zD D_L_fits_3 16 rfl) (by decide) ?_
                refine z_sWI (pc := 375) (z' := (z00 Z)) (As := [.ref (B + p0), .int a7_305, .int (0 : Int32)]) C [] (c_L_routes' _ _ _ _ n p0 a7_305 (0 : Int32) h329) zn_L_routes (by decide) (by decide) hz0 q_460 q_461 q_98 q_462 rfl rfl rfl (zD D_L_fits_3 17 rfl) ⟨Nat.le_refl _, Nat.le_refl _, Nat.le_refl _⟩ (fun r375 h375 => ?_)
                refine z_iconst (pc := 378) (v := -1) C (zD D_L_fits_3 18 rfl) (by decide) ?_
                refine z_icmp_ne (pc := 379) C (zD D_L_fits_3 19 rfl) (tgt := 405) (by decide) (fun _ => ?_) (fun _ => ?_)
                · refine z_sub [0, 1, 2, 3, 4, 5, 7] (lv' := [(0, .ref (B + p0)), (1, .int r2), (2, .int a2_305), (3, .int a3_305), (4, .int a4_305), (5, .int a5_81), (7, .int a7_305)]) rfl ?_
                  exact hK405 h375
                · refine z_aload_n (pc := 382) C (zD D_L_fits_3 20 rfl) rfl 0 rfl ?_
                  refine z_iload (pc := 383) C (zD D_L_fits_3 21 rfl) 7 rfl ?_
                  refine z_sWI (pc := 385) (z' := (z00 Z)) (As := [.ref (B + p0), .int a7_305]) C [] (c_L_bestOf' _ _ _ _ n p0 a7_305 h375) zn_L_bestOf (by decide) (by decide) hz0 q_486 q_487 q_98 q_488 rfl rfl rfl (zD D_L_fits_3 22 rfl) ⟨Nat.le_refl _, Nat.le_refl _, Nat.le_refl _⟩ (fun r385 h385 => ?_)
                  refine z_iconst (pc := 388) (v := -1) C (zD D_L_fits_3 23 rfl) (by decide) ?_
                  refine z_icmp_ne (pc := 389) C (zD D_L_fits_3 24 rfl) (tgt := 405) (by decide) (fun _ => ?_) (fun _ => ?_)
                  · refine z_sub [0, 1, 2, 3, 4, 5, 7] (lv' := [(0, .ref (B + p0)), (1, .int r2), (2, .int a2_305), (3, .int a3_305), (4, .int a4_305), (5, .int a5_81), (7, .int a7_305)]) rfl ?_
                    exact hK405 h385
                  · refine z_aload_n (pc := 392) C (zD D_L_fits_3 25 rfl) rfl 0 rfl ?_
                    refine z_iload (pc := 393) C (zD D_L_fits_3 26 rfl) 7 rfl ?_
                    refine z_sWI (pc := 395) (z' := (z00 Z)) (As := [.ref (B + p0), .int a7_305]) C [] (c_L_dividends' _ _ _ _ n p0 a7_305 h385) zn_L_dividends (by decide) (by decide) hz0 q_498 q_499 q_98 q_500 rfl rfl rfl (zD D_L_fits_3 27 rfl) ⟨Nat.le_refl _, Nat.le_refl _, Nat.le_refl _⟩ (fun r395 h395 => ?_)
                    refine z_if_ne (pc := 398) C (zD D_L_fits_3 28 rfl) (tgt := 405) (by decide) (fun _ => ?_) (fun _ => ?_)
                    · refine z_sub [0, 1, 2, 3, 4, 5, 7] (lv' := [(0, .ref (B + p0)), (1, .int r2), (2, .int a2_305), (3, .int a3_305), (4, .int a4_305), (5, .int a5_81), (7, .int a7_305)]) rfl ?_
                      exact hK405 h395
                    · refine z_iconst (pc := 401) (v := 1) C (zD D_L_fits_3 29 rfl) (by decide) ?_
                      refine z_goto (pc := 402) C (zD D_L_fits_3 30 rfl) (tgt := 406) (by decide) ?_
                      refine z_sub [0, 1, 2, 3, 4, 5, 7] (lv' := [(0, .ref (B + p0)), (1, .int r2), (2, .int a2_305), (3, .int a3_305), (4, .int a4_305), (5, .int a5_81), (7, .int a7_305)]) rfl ?_
                      exact hK406 (1 : Int32) h395
            · refine z_iload (pc := 336) C (zD D_L_fits_2 58 rfl) 6 rfl ?_
              refine z_letg (fun K358 => ∀ (s0_358 : Int32) (h358 : zH), zJ B Z (zEnd B Z (fun u : Int32 × zH => (some (Value.int u.1), u.2)) 0 0) (K358 s0_358 h358) 358 [(0, .ref (B + p0)), (1, .int r2), (2, .int a2_305), (3, .int a3_305), (4, .int a4_305), (5, .int a5_81), (7, .int a7_305), (8, .int a8_329)] [.int s0_358] h358 (z00 Z)) (fun s0_358 h358 => ?_) (fun K358 hK358 => ?_)
              · refine z_istore (pc := 358) (lv' := [(6, .int s0_358), (0, .ref (B + p0)), (1, .int r2), (2, .int a2_305), (3, .int a3_305), (4, .int a4_305), (5, .int a5_81), (7, .int a7_305), (8, .int a8_329)]) C (zD D_L_fits_3 9 rfl) (by decide) rfl ?_
                refine z_iincL (pc := 360) (lv' := fun x360 => [(8, .int x360), (6, .int s0_358), (0, .ref (B + p0)), (1, .int r2), (2, .int a2_305), (3, .int a3_305), (4, .int a4_305), (5, .int a5_81), (7, .int a7_305)]) C (zD D_L_fits_3 10 rfl) 8 rfl (v := a8_329 + 1) rfl (by decide) (fun _ => rfl) (fun x360 => ?_)
                refine z_goto (pc := 363) C (zD D_L_fits_3 11 rfl) (tgt := 329) (by decide) ?_
                refine z_sub [2, 3, 4, 5, 6, 7, 1, 8, 0] (lv' := [(0, .ref (B + p0)), (1, .int r2), (2, .int a2_305), (3, .int a3_305), (4, .int a4_305), (5, .int a5_81), (6, .int s0_358), (7, .int a7_305), (8, .int x360)]) rfl ?_
                exact hrec329 s0_358 x360 h358
              refine z_letg (fun K357 => ∀ (h357 : zH), zJ B Z (zEnd B Z (fun u : Int32 × zH => (some (Value.int u.1), u.2)) 0 0) (K357 h357) 357 [(0, .ref (B + p0)), (1, .int r2), (2, .int a2_305), (3, .int a3_305), (4, .int a4_305), (5, .int a5_81), (7, .int a7_305), (8, .int a8_329)] [] h357 (z00 Z)) (fun h357 => ?_) (fun K357 hK357 => ?_)
              · refine z_iconst (pc := 357) (v := 0) C (zD D_L_fits_3 8 rfl) (by decide) ?_
                exact hK358 (0 : Int32) h357
              refine z_if_eq (pc := 338) C (zD D_L_fits_2 59 rfl) (tgt := 357) (by decide) (fun _ => ?_) (fun _ => ?_)
              · refine z_sub [0, 1, 2, 3, 4, 5, 7, 8] (lv' := [(0, .ref (B + p0)), (1, .int r2), (2, .int a2_305), (3, .int a3_305), (4, .int a4_305), (5, .int a5_81), (7, .int a7_305), (8, .int a8_329)]) rfl ?_
                exact hK357 h329
              · refine z_aload_n (pc := 341) C (zD D_L_fits_3 0 rfl) rfl 0 rfl ?_
                refine z_iload (pc := 342) C (zD D_L_fits_3 1 rfl) 7 rfl ?_
                refine z_iload (pc := 344) C (zD D_L_fits_3 2 rfl) 8 rfl ?_
                refine z_sWI (pc := 346) (z' := (z00 Z)) (As := [.ref (B + p0), .int a7_305, .int a8_329]) C [] (c_L_companies' _ _ _ _ n p0 a7_305 a8_329 h329) zn_L_companies (by decide) (by decide) hz0 q_448 q_449 q_98 q_450 rfl rfl rfl (zD D_L_fits_3 3 rfl) ⟨Nat.le_refl _, Nat.le_refl _, Nat.le_refl _⟩ (fun r346 h346 => ?_)
                refine z_iconst (pc := 349) (v := -1) C (zD D_L_fits_3 4 rfl) (by decide) ?_
                refine z_icmp_ne (pc := 350) C (zD D_L_fits_3 5 rfl) (tgt := 357) (by decide) (fun _ => ?_) (fun _ => ?_)
                · refine z_sub [0, 1, 2, 3, 4, 5, 7, 8] (lv' := [(0, .ref (B + p0)), (1, .int r2), (2, .int a2_305), (3, .int a3_305), (4, .int a4_305), (5, .int a5_81), (7, .int a7_305), (8, .int a8_329)]) rfl ?_
                  exact hK357 h346
                · refine z_iconst (pc := 353) (v := 1) C (zD D_L_fits_3 6 rfl) (by decide) ?_
                  refine z_goto (pc := 354) C (zD D_L_fits_3 7 rfl) (tgt := 358) (by decide) ?_
                  refine z_sub [0, 1, 2, 3, 4, 5, 7, 8] (lv' := [(0, .ref (B + p0)), (1, .int r2), (2, .int a2_305), (3, .int a3_305), (4, .int a4_305), (5, .int a5_81), (7, .int a7_305), (8, .int a8_329)]) rfl ?_
                  exact hK358 (1 : Int32) h346
    refine z_icmp_ge (pc := 84) C (zD D_L_fits_0 50 rfl) (tgt := 302) (by decide) (fun _ => ?_) (fun _ => ?_)
    · refine z_sub [0, 1, 2, 3, 4, 5, 6] (lv' := [(0, .ref (B + p0)), (1, .int r2), (2, .int a2_81), (3, .int (0 : Int32)), (4, .int (0 : Int32)), (5, .int a5_81), (6, .int a6_81)]) rfl ?_
      exact hK302
    · refine z_iload (pc := 87) C (zD D_L_fits_0 51 rfl) 6 rfl ?_
      refine z_if_eq (pc := 89) C (zD D_L_fits_0 52 rfl) (tgt := 302) (by decide) (fun _ => ?_) (fun _ => ?_)
      · refine z_sub [0, 1, 2, 3, 4, 5, 6] (lv' := [(0, .ref (B + p0)), (1, .int r2), (2, .int a2_81), (3, .int (0 : Int32)), (4, .int (0 : Int32)), (5, .int a5_81), (6, .int a6_81)]) rfl ?_
        exact hK302
      · refine z_aload_n (pc := 92) C (zD D_L_fits_0 53 rfl) rfl 0 rfl ?_
        refine z_iload (pc := 93) C (zD D_L_fits_0 54 rfl) 7 rfl ?_
        refine z_iconst (pc := 95) (v := 0) C (zD D_L_fits_0 55 rfl) (by decide) ?_
        refine z_sWR (pc := 96) (As := [.ref (B + p0), .int a7_81, .int (0 : Int32)]) C [] (c_L_players' _ _ _ _ n p0 a7_81 (0 : Int32) h81) zn_L_players (by decide) (by decide) hz0 q_444 q_445 q_98 q_446 rfl rfl rfl (zD D_L_fits_0 56 rfl) (fun r96 => ?_)
        refine z_istore (pc := 99) (lv' := [(8, .int r96), (0, .ref (B + p0)), (1, .int r2), (2, .int a2_81), (3, .int (0 : Int32)), (4, .int (0 : Int32)), (5, .int a5_81), (6, .int a6_81), (7, .int a7_81)]) C (zD D_L_fits_0 57 rfl) (by decide) rfl ?_
        refine z_iconst (pc := 101) (v := 0) C (zD D_L_fits_0 58 rfl) (by decide) ?_
        refine z_istore (pc := 102) (lv' := [(9, .int (0 : Int32)), (8, .int r96), (0, .ref (B + p0)), (1, .int r2), (2, .int a2_81), (3, .int (0 : Int32)), (4, .int (0 : Int32)), (5, .int a5_81), (6, .int a6_81), (7, .int a7_81)]) C (zD D_L_fits_0 59 rfl) (by decide) rfl ?_
        refine z_sub [2, 3, 4, 5, 6, 7, 8, 9, 1, 0] (lv' := [(0, .ref (B + p0)), (1, .int r2), (2, .int a2_81), (3, .int (0 : Int32)), (4, .int (0 : Int32)), (5, .int a5_81), (6, .int a6_81), (7, .int a7_81), (8, .int r96), (9, .int (0 : Int32))]) rfl ?_
        refine z_fix4 (fun g104 => ∀ (a6_104 : Int32) (a8_104 : Int32) (a9_104 : Int32) (h104 : zH), zJ B Z (zEnd B Z (fun u : Int32 × zH => (some (Value.int u.1), u.2)) 0 0) (g104 a6_104 a8_104 a9_104 h104) 104 [(0, .ref (B + p0)), (1, .int r2), (2, .int a2_81), (3, .int (0 : Int32)), (4, .int (0 : Int32)), (5, .int a5_81), (6, .int a6_104), (7, .int a7_81), (8, .int a8_104), (9, .int a9_104)] [] h104 (z00 Z)) (fun _ _ _ _ => z_none) (fun rec104 hrec104 a6_104 a8_104 a9_104 h104 => ?_) n a6_81 r96 (0 : Int32) h81
        refine z_iload (pc := 104) C (zD D_L_fits_1 0 rfl) 9 rfl ?_
        refine z_iconst (pc := 106) (v := 4) C (zD D_L_fits_1 1 rfl) (by decide) ?_
        refine z_icmp_ge (pc := 107) C (zD D_L_fits_1 2 rfl) (tgt := 236) (by decide) (fun _ => ?_) (fun _ => ?_)
        · refine z_iload (pc := 236) C (zD D_L_fits_2 8 rfl) 6 rfl ?_
          refine z_letg (fun K268 => ∀ (s0_268 : Int32), zJ B Z (zEnd B Z (fun u : Int32 × zH => (some (Value.int u.1), u.2)) 0 0) (K268 s0_268) 268 [(0, .ref (B + p0)), (1, .int r2), (2, .int a2_81), (3, .int (0 : Int32)), (4, .int (0 : Int32)), (5, .int a5_81), (7, .int a7_81), (8, .int a8_104)] [.int s0_268] h104 (z00 Z)) (fun s0_268 => ?_) (fun K268 hK268 => ?_)
          · refine z_istore (pc := 268) (lv' := [(6, .int s0_268), (0, .ref (B + p0)), (1, .int r2), (2, .int a2_81), (3, .int (0 : Int32)), (4, .int (0 : Int32)), (5, .int a5_81), (7, .int a7_81), (8, .int a8_104)]) C (zD D_L_fits_2 24 rfl) (by decide) rfl ?_
            refine z_iload_n (pc := 270) C (zD D_L_fits_2 25 rfl) rfl 3 rfl ?_
            refine z_aload_n (pc := 271) C (zD D_L_fits_2 26 rfl) rfl 1 rfl ?_
            refine z_iload (pc := 272) C (zD D_L_fits_2 27 rfl) 7 rfl ?_
            refine z_iconst (pc := 274) (v := 0) C (zD D_L_fits_2 28 rfl) (by decide) ?_
            refine z_sWR (pc := 275) (As := [.ref (B + p0), .int a7_81, .int (0 : Int32)]) C [.int a2_81] (c_L_players' _ _ _ _ n p0 a7_81 (0 : Int32) h104) zn_L_players (by decide) (by decide) hz0 q_444 q_445 q_98 q_446 rfl rfl rfl (zD D_L_fits_2 29 rfl) (fun r275 => ?_)
            refine z_iadd (pc := 278) C (zD D_L_fits_2 30 rfl) ?_
            refine z_istore_nL (pc := 279) (lv' := fun x279 => [(2, .int x279), (6, .int s0_268), (0, .ref (B + p0)), (1, .int r2), (3, .int (0 : Int32)), (4, .int (0 : Int32)), (5, .int a5_81), (7, .int a7_81), (8, .int a8_104)]) C (zD D_L_fits_2 31 rfl) rfl (by decide) (fun _ => rfl) (fun x279 => ?_)
            refine z_iload (pc := 280) C (zD D_L_fits_2 32 rfl) 8 rfl ?_
            refine z_iload (pc := 282) C (zD D_L_fits_2 33 rfl) 6 rfl ?_
            refine z_letg (fun K294 => ∀ (s0_294 : Int32), zJ B Z (zEnd B Z (fun u : Int32 × zH => (some (Value.int u.1), u.2)) 0 0) (K294 s0_294) 294 [(0, .ref (B + p0)), (1, .int r2), (2, .int x279), (3, .int (0 : Int32)), (4, .int (0 : Int32)), (6, .int s0_268), (7, .int a7_81)] [.int s0_294] h104 (z00 Z)) (fun s0_294 => ?_) (fun K294 hK294 => ?_)
            · refine z_istore (pc := 294) (lv' := [(5, .int s0_294), (0, .ref (B + p0)), (1, .int r2), (2, .int x279), (3, .int (0 : Int32)), (4, .int (0 : Int32)), (6, .int s0_268), (7, .int a7_81)]) C (zD D_L_fits_2 38 rfl) (by decide) rfl ?_
              refine z_iincL (pc := 296) (lv' := fun x296 => [(7, .int x296), (5, .int s0_294), (0, .ref (B + p0)), (1, .int r2), (2, .int x279), (3, .int (0 : Int32)), (4, .int (0 : Int32)), (6, .int s0_268)]) C (zD D_L_fits_2 39 rfl) 7 rfl (v := a7_81 + 1) rfl (by decide) (fun _ => rfl) (fun x296 => ?_)
              refine z_goto (pc := 299) C (zD D_L_fits_2 40 rfl) (tgt := 81) (by decide) ?_
              refine z_sub [2, 3, 4, 5, 6, 1, 7, 0] (lv' := [(0, .ref (B + p0)), (1, .int r2), (2, .int x279), (3, .int (0 : Int32)), (4, .int (0 : Int32)), (5, .int s0_294), (6, .int s0_268), (7, .int x296)]) rfl ?_
              exact hrec81 x279 s0_294 s0_268 x296 h104
            refine z_icmp_le (pc := 284) C (zD D_L_fits_2 34 rfl) (tgt := 292) (by decide) (fun _ => ?_) (fun _ => ?_)
            · refine z_iload (pc := 292) C (zD D_L_fits_2 37 rfl) 6 rfl ?_
              refine z_sub [2, 3, 0, 4, 5, 1, 7] (lv' := [(0, .ref (B + p0)), (1, .int r2), (2, .int x279), (3, .int (0 : Int32)), (4, .int (0 : Int32)), (6, .int s0_268), (7, .int a7_81)]) rfl ?_
              exact hK294 a5_81
            · refine z_iload (pc := 287) C (zD D_L_fits_2 35 rfl) 8 rfl ?_
              refine z_goto (pc := 289) C (zD D_L_fits_2 36 rfl) (tgt := 294) (by decide) ?_
              refine z_sub [2, 3, 0, 4, 5, 1, 7] (lv' := [(0, .ref (B + p0)), (1, .int r2), (2, .int x279), (3, .int (0 : Int32)), (4, .int (0 : Int32)), (6, .int s0_268), (7, .int a7_81)]) rfl ?_
              exact hK294 a8_104
          refine z_letg (fun K267 => zJ B Z (zEnd B Z (fun u : Int32 × zH => (some (Value.int u.1), u.2)) 0 0) (K267) 267 [(0, .ref (B + p0)), (1, .int r2), (2, .int a2_81), (3, .int (0 : Int32)), (4, .int (0 : Int32)), (5, .int a5_81), (7, .int a7_81), (8, .int a8_104)] [] h104 (z00 Z)) ?_ (fun K267 hK267 => ?_)
          · refine z_iconst (pc := 267) (v := 0) C (zD D_L_fits_2 23 rfl) (by decide) ?_
            exact hK268 (0 : Int32)
          refine z_if_eq (pc := 238) C (zD D_L_fits_2 9 rfl) (tgt := 267) (by decide) (fun _ => ?_) (fun _ => ?_)
          · refine z_sub [0, 1, 2, 3, 4, 5, 7, 8] (lv' := [(0, .ref (B + p0)), (1, .int r2), (2, .int a2_81), (3, .int (0 : Int32)), (4, .int (0 : Int32)), (5, .int a5_81), (7, .int a7_81), (8, .int a8_104)]) rfl ?_
            exact hK267
          · refine z_aload_n (pc := 241) C (zD D_L_fits_2 10 rfl) rfl 0 rfl ?_
            refine z_iload (pc := 242) C (zD D_L_fits_2 11 rfl) 7 rfl ?_
            refine z_iconst (pc := 244) (v := 0) C (zD D_L_fits_2 12 rfl) (by decide) ?_
            refine z_sWR (pc := 245) (As := [.ref (B + p0), .int a7_81, .int (0 : Int32)]) C [] (c_L_players' _ _ _ _ n p0 a7_81 (0 : Int32) h104) zn_L_players (by decide) (by decide) hz0 q_444 q_445 q_98 q_446 rfl rfl rfl (zD D_L_fits_2 13 rfl) (fun r245 => ?_)
            refine z_if_lt (pc := 248) C (zD D_L_fits_2 14 rfl) (tgt := 267) (by decide) (fun _ => ?_) (fun _ => ?_)
            · refine z_sub [0, 1, 2, 3, 4, 5, 7, 8] (lv' := [(0, .ref (B + p0)), (1, .int r2), (2, .int a2_81), (3, .int (0 : Int32)), (4, .int (0 : Int32)), (5, .int a5_81), (7, .int a7_81), (8, .int a8_104)]) rfl ?_
              exact hK267
            · refine z_aload_n (pc := 251) C (zD D_L_fits_2 15 rfl) rfl 0 rfl ?_
              refine z_iload (pc := 252) C (zD D_L_fits_2 16 rfl) 7 rfl ?_
              refine z_iconst (pc := 254) (v := 5) C (zD D_L_fits_2 17 rfl) (by decide) ?_
              refine z_sWR (pc := 255) (As := [.ref (B + p0), .int a7_81, .int (5 : Int32)]) C [] (c_L_players' _ _ _ _ n p0 a7_81 (5 : Int32) h104) zn_L_players (by decide) (by decide) hz0 q_444 q_445 q_98 q_446 rfl rfl rfl (zD D_L_fits_2 18 rfl) (fun r255 => ?_)
              refine z_iload (pc := 258) C (zD D_L_fits_2 19 rfl) 8 rfl ?_
              refine z_icmp_ne (pc := 260) C (zD D_L_fits_2 20 rfl) (tgt := 267) (by decide) (fun _ => ?_) (fun _ => ?_)
              · refine z_sub [0, 1, 2, 3, 4, 5, 7, 8] (lv' := [(0, .ref (B + p0)), (1, .int r2), (2, .int a2_81), (3, .int (0 : Int32)), (4, .int (0 : Int32)), (5, .int a5_81), (7, .int a7_81), (8, .int a8_104)]) rfl ?_
                exact hK267
              · refine z_iconst (pc := 263) (v := 1) C (zD D_L_fits_2 21 rfl) (by decide) ?_
                refine z_goto (pc := 264) C (zD D_L_fits_2 22 rfl) (tgt := 268) (by decide) ?_
                refine z_sub [0, 1, 2, 3, 4, 5, 7, 8] (lv' := [(0, .ref (B + p0)), (1, .int r2), (2, .int a2_81), (3, .int (0 : Int32)), (4, .int (0 : Int32)), (5, .int a5_81), (7, .int a7_81), (8, .int a8_104)]) rfl ?_
                exact hK268 (1 : Int32)
        · refine z_aload_n (pc := 110) C (zD D_L_fits_1 3 rfl) rfl 0 rfl ?_
          refine z_iload (pc := 111) C (zD D_L_fits_1 4 rfl) 7 rfl ?_
          refine z_iconst (pc := 113) (v := 1) C (zD D_L_fits_1 5 rfl) (by decide) ?_
          refine z_iload (pc := 114) C (zD D_L_fits_1 6 rfl) 9 rfl ?_
          refine z_iadd (pc := 116) C (zD D_L_fits_1 7 rfl) ?_
          refine z_sWR (pc := 117) (As := [.ref (B + p0), .int a7_81, .int ((1 : Int32) + a9_104)]) C [] (c_L_players' _ _ _ _ n p0 a7_81 ((1 : Int32) + a9_104) h104) zn_L_players (by decide) (by decide) hz0 q_444 q_445 q_98 q_446 rfl rfl rfl (zD D_L_fits_1 8 rfl) (fun r117 => ?_)
          refine z_istore (pc := 120) (lv' := [(10, .int r117), (0, .ref (B + p0)), (1, .int r2), (2, .int a2_81), (3, .int (0 : Int32)), (4, .int (0 : Int32)), (5, .int a5_81), (6, .int a6_104), (7, .int a7_81), (8, .int a8_104), (9, .int a9_104)]) C (zD D_L_fits_1 9 rfl) (by decide) rfl ?_
          refine z_iload (pc := 122) C (zD D_L_fits_1 10 rfl) 7 rfl ?_
          refine z_letg (fun K159 => ∀ (s0_159 : Int32) (h159 : zH), zJ B Z (zEnd B Z (fun u : Int32 × zH => (some (Value.int u.1), u.2)) 0 0) (K159 s0_159 h159) 159 [(0, .ref (B + p0)), (1, .int r2), (2, .int a2_81), (3, .int (0 : Int32)), (4, .int (0 : Int32)), (5, .int a5_81), (7, .int a7_81), (8, .int a8_104), (9, .int a9_104), (10, .int r117)] [.int s0_159] h159 (z00 Z)) (fun s0_159 h159 => ?_) (fun K159 hK159 => ?_)
          · refine z_istore (pc := 159) (lv' := [(6, .int s0_159), (0, .ref (B + p0)), (1, .int r2), (2, .int a2_81), (3, .int (0 : Int32)), (4, .int (0 : Int32)), (5, .int a5_81), (7, .int a7_81), (8, .int a8_104), (9, .int a9_104), (10, .int r117)]) C (zD D_L_fits_1 28 rfl) (by decide) rfl ?_
            refine z_iload (pc := 161) C (zD D_L_fits_1 29 rfl) 8 rfl ?_
            refine z_iload (pc := 163) C (zD D_L_fits_1 30 rfl) 10 rfl ?_
            refine z_iload (pc := 165) C (zD D_L_fits_1 31 rfl) 10 rfl ?_
            refine z_letg (fun K181 => ∀ (s0_181 : Int32) (h181 : zH), zJ B Z (zEnd B Z (fun u : Int32 × zH => (some (Value.int u.1), u.2)) 0 0) (K181 s0_181 h181) 181 [(0, .ref (B + p0)), (1, .int r2), (2, .int a2_81), (3, .int (0 : Int32)), (4, .int (0 : Int32)), (5, .int a5_81), (6, .int s0_159), (7, .int a7_81), (9, .int a9_104)] [.int s0_181, .int r117, .int a8_104] h181 (z00 Z)) (fun s0_181 h181 => ?_) (fun K181 hK181 => ?_)
            · refine z_imul (pc := 181) C (zD D_L_fits_1 39 rfl) ?_
              refine z_iadd (pc := 182) C (zD D_L_fits_1 40 rfl) ?_
              refine z_istoreL (pc := 183) (lv' := fun x183 => [(8, .int x183), (0, .ref (B + p0)), (1, .int r2), (2, .int a2_81), (3, .int (0 : Int32)), (4, .int (0 : Int32)), (5, .int a5_81), (6, .int s0_159), (7, .int a7_81), (9, .int a9_104)]) C (zD D_L_fits_1 41 rfl) (by decide) (fun _ => rfl) (fun x183 => ?_)
              refine z_iload (pc := 185) C (zD D_L_fits_1 42 rfl) 7 rfl ?_
              refine z_letg (fun K228 => ∀ (s0_228 : Int32) (h228 : zH), zJ B Z (zEnd B Z (fun u : Int32 × zH => (some (Value.int u.1), u.2)) 0 0) (K228 s0_228 h228) 228 [(0, .ref (B + p0)), (1, .int r2), (2, .int a2_81), (3, .int (0 : Int32)), (4, .int (0 : Int32)), (5, .int a5_81), (7, .int a7_81), (8, .int x183), (9, .int a9_104)] [.int s0_228] h228 (z00 Z)) (fun s0_228 h228 => ?_) (fun K228 hK228 => ?_)
              · refine z_istore (pc := 228) (lv' := [(6, .int s0_228), (0, .ref (B + p0)), (1, .int r2), (2, .int a2_81), (3, .int (0 : Int32)), (4, .int (0 : Int32)), (5, .int a5_81), (7, .int a7_81), (8, .int x183), (9, .int a9_104)]) C (zD D_L_fits_2 5 rfl) (by decide) rfl ?_
                refine z_iincL (pc := 230) (lv' := fun x230 => [(9, .int x230), (6, .int s0_228), (0, .ref (B + p0)), (1, .int r2), (2, .int a2_81), (3, .int (0 : Int32)), (4, .int (0 : Int32)), (5, .int a5_81), (7, .int a7_81), (8, .int x183)]) C (zD D_L_fits_2 6 rfl) 9 rfl (v := a9_104 + 1) rfl (by decide) (fun _ => rfl) (fun x230 => ?_)
                refine z_goto (pc := 233) C (zD D_L_fits_2 7 rfl) (tgt := 104) (by decide) ?_
                refine z_sub [2, 3, 4, 5, 6, 7, 1, 8, 9, 0] (lv' := [(0, .ref (B + p0)), (1, .int r2), (2, .int a2_81), (3, .int (0 : Int32)), (4, .int (0 : Int32)), (5, .int a5_81), (6, .int s0_228), (7, .int a7_81), (8, .int x183), (9, .int x230)]) rfl ?_
                exact hrec104 s0_228 x183 x230 h228
              refine z_letg (fun K227 => ∀ (h227 : zH), zJ B Z (zEnd B Z (fun u : Int32 × zH => (some (Value.int u.1), u.2)) 0 0) (K227 h227) 227 [(0, .ref (B + p0)), (1, .int r2), (2, .int a2_81), (3, .int (0 : Int32)), (4, .int (0 : Int32)), (5, .int a5_81), (7, .int a7_81), (8, .int x183), (9, .int a9_104)] [] h227 (z00 Z)) (fun h227 => ?_) (fun K227 hK227 => ?_)
              · refine z_iconst (pc := 227) (v := 0) C (zD D_L_fits_2 4 rfl) (by decide) ?_
                exact hK228 (0 : Int32) h227
              refine z_if_eq (pc := 187) C (zD D_L_fits_1 43 rfl) (tgt := 227) (by decide) (fun _ => ?_) (fun _ => ?_)
              · refine z_sub [1, 2, 3, 4, 5, 6, 8, 0, 9] (lv' := [(0, .ref (B + p0)), (1, .int r2), (2, .int a2_81), (3, .int (0 : Int32)), (4, .int (0 : Int32)), (5, .int a5_81), (7, .int a7_81), (8, .int x183), (9, .int a9_104)]) rfl ?_
                exact hK227 h181
              · refine z_aload_n (pc := 190) C (zD D_L_fits_1 44 rfl) rfl 1 rfl ?_
                refine z_iload (pc := 191) C (zD D_L_fits_1 45 rfl) 8 rfl ?_
                refine z_bipush (pc := 193) (v := 6) C (zD D_L_fits_1 46 rfl) (by decide) ?_
                refine z_sWR (pc := 195) (As := [.ref (B + p0), .int a7_81, .int (6 : Int32)]) C [] (c_L_players' _ _ _ _ n p0 a7_81 (6 : Int32) h181) zn_L_players (by decide) (by decide) hz0 q_444 q_445 q_98 q_446 rfl rfl rfl (zD D_L_fits_1 47 rfl) (fun r195 => ?_)
                refine z_iload (pc := 198) C (zD D_L_fits_1 48 rfl) 9 rfl ?_
                refine z_ishr (pc := 200) C (zD D_L_fits_1 49 rfl) ?_
                refine z_iconst (pc := 201) (v := 1) C (zD D_L_fits_1 50 rfl) (by decide) ?_
                refine z_iand (pc := 202) C (zD D_L_fits_1 51 rfl) ?_
                refine z_aload_n (pc := 203) C (zD D_L_fits_1 52 rfl) rfl 1 rfl ?_
                refine z_iload (pc := 204) C (zD D_L_fits_1 53 rfl) 9 rfl ?_
                refine z_iconst (pc := 206) (v := 5) C (zD D_L_fits_1 54 rfl) (by decide) ?_
                refine z_sWI (pc := 207) (z' := (z00 Z)) (As := [.ref (B + p0), .int a9_104, .int (5 : Int32)]) C [.int ((r195 >>> (a9_104 &&& 31)) &&& (1 : Int32))] (c_L_companies' _ _ _ _ n p0 a9_104 (5 : Int32) h181) zn_L_companies (by decide) (by decide) hz0 q_448 q_449 q_98 q_450 rfl rfl rfl (zD D_L_fits_1 55 rfl) ⟨Nat.le_refl _, Nat.le_refl _, Nat.le_refl _⟩ (fun r207 h207 => ?_)
                refine z_iload (pc := 210) C (zD D_L_fits_1 56 rfl) 8 rfl ?_
                refine z_letg (fun K220 => ∀ (s0_220 : Int32), zJ B Z (zEnd B Z (fun u : Int32 × zH => (some (Value.int u.1), u.2)) 0 0) (K220 s0_220) 220 [(0, .ref (B + p0)), (1, .int r2), (2, .int a2_81), (3, .int (0 : Int32)), (4, .int (0 : Int32)), (5, .int a5_81), (7, .int a7_81), (8, .int x183), (9, .int a9_104)] [.int s0_220, .int ((r195 >>> (a9_104 &&& 31)) &&& (1 : Int32))] h207 (z00 Z)) (fun s0_220 => ?_) (fun K220 hK220 => ?_)
                · refine z_icmp_ne (pc := 220) C (zD D_L_fits_2 1 rfl) (tgt := 227) (by decide) (fun _ => ?_) (fun _ => ?_)
                  · exact hK227 h207
                  · refine z_iconst (pc := 223) (v := 1) C (zD D_L_fits_2 2 rfl) (by decide) ?_
                    refine z_goto (pc := 224) C (zD D_L_fits_2 3 rfl) (tgt := 228) (by decide) ?_
                    exact hK228 (1 : Int32) h207
                refine z_icmp_ne (pc := 212) C (zD D_L_fits_1 57 rfl) (tgt := 219) (by decide) (fun _ => ?_) (fun _ => ?_)
                · refine z_iconst (pc := 219) (v := 0) C (zD D_L_fits_2 0 rfl) (by decide) ?_
                  refine z_sub [1, 2, 3, 4, 5, 6, 8, 0, 9] (lv' := [(0, .ref (B + p0)), (1, .int r2), (2, .int a2_81), (3, .int (0 : Int32)), (4, .int (0 : Int32)), (5, .int a5_81), (7, .int a7_81), (8, .int x183), (9, .int a9_104)]) rfl ?_
                  exact hK220 (0 : Int32)
                · refine z_iconst (pc := 215) (v := 1) C (zD D_L_fits_1 58 rfl) (by decide) ?_
                  refine z_goto (pc := 216) C (zD D_L_fits_1 59 rfl) (tgt := 220) (by decide) ?_
                  refine z_sub [1, 2, 3, 4, 5, 6, 8, 0, 9] (lv' := [(0, .ref (B + p0)), (1, .int r2), (2, .int a2_81), (3, .int (0 : Int32)), (4, .int (0 : Int32)), (5, .int a5_81), (7, .int a7_81), (8, .int x183), (9, .int a9_104)]) rfl ?_
                  exact hK220 (1 : Int32)
            refine z_if_ne (pc := 167) C (zD D_L_fits_1 32 rfl) (tgt := 174) (by decide) (fun _ => ?_) (fun _ => ?_)
            · refine z_aload_n (pc := 174) C (zD D_L_fits_1 35 rfl) rfl 1 rfl ?_
              refine z_iload (pc := 175) C (zD D_L_fits_1 36 rfl) 9 rfl ?_
              refine z_iconst (pc := 177) (v := 3) C (zD D_L_fits_1 37 rfl) (by decide) ?_
              refine z_sWI (pc := 178) (z' := (z00 Z)) (As := [.ref (B + p0), .int a9_104, .int (3 : Int32)]) C [.int r117, .int a8_104] (c_L_companies' _ _ _ _ n p0 a9_104 (3 : Int32) h159) zn_L_companies (by decide) (by decide) hz0 q_448 q_449 q_98 q_450 rfl rfl rfl (zD D_L_fits_1 38 rfl) ⟨Nat.le_refl _, Nat.le_refl _, Nat.le_refl _⟩ (fun r178 h178 => ?_)
              refine z_sub [1, 2, 3, 4, 5, 6, 0, 7, 9] (lv' := [(0, .ref (B + p0)), (1, .int r2), (2, .int a2_81), (3, .int (0 : Int32)), (4, .int (0 : Int32)), (5, .int a5_81), (6, .int s0_159), (7, .int a7_81), (9, .int a9_104)]) rfl ?_
              exact hK181 r178 h178
            · refine z_iconst (pc := 170) (v := 0) C (zD D_L_fits_1 33 rfl) (by decide) ?_
              refine z_goto (pc := 171) C (zD D_L_fits_1 34 rfl) (tgt := 181) (by decide) ?_
              refine z_sub [1, 2, 3, 4, 5, 6, 0, 7, 9] (lv' := [(0, .ref (B + p0)), (1, .int r2), (2, .int a2_81), (3, .int (0 : Int32)), (4, .int (0 : Int32)), (5, .int a5_81), (6, .int s0_159), (7, .int a7_81), (9, .int a9_104)]) rfl ?_
              exact hK181 (0 : Int32) h159
          refine z_letg (fun K158 => ∀ (h158 : zH), zJ B Z (zEnd B Z (fun u : Int32 × zH => (some (Value.int u.1), u.2)) 0 0) (K158 h158) 158 [(0, .ref (B + p0)), (1, .int r2), (2, .int a2_81), (3, .int (0 : Int32)), (4, .int (0 : Int32)), (5, .int a5_81), (7, .int a7_81), (8, .int a8_104), (9, .int a9_104), (10, .int r117)] [] h158 (z00 Z)) (fun h158 => ?_) (fun K158 hK158 => ?_)
          · refine z_iconst (pc := 158) (v := 0) C (zD D_L_fits_1 27 rfl) (by decide) ?_
            exact hK159 (0 : Int32) h158
          refine z_if_eq (pc := 124) C (zD D_L_fits_1 11 rfl) (tgt := 158) (by decide) (fun _ => ?_) (fun _ => ?_)
          · refine z_sub [1, 2, 3, 4, 5, 6, 8, 9, 10, 0] (lv' := [(0, .ref (B + p0)), (1, .int r2), (2, .int a2_81), (3, .int (0 : Int32)), (4, .int (0 : Int32)), (5, .int a5_81), (7, .int a7_81), (8, .int a8_104), (9, .int a9_104), (10, .int r117)]) rfl ?_
            exact hK158 h104
          · refine z_iload (pc := 127) C (zD D_L_fits_1 12 rfl) 0 rfl ?_
            refine z_if_lt (pc := 129) C (zD D_L_fits_1 13 rfl) (tgt := 158) (by decide) (fun _ => ?_) (fun _ => ?_)
            · refine z_sub [1, 2, 3, 4, 5, 6, 8, 9, 10, 0] (lv' := [(0, .ref (B + p0)), (1, .int r2), (2, .int a2_81), (3, .int (0 : Int32)), (4, .int (0 : Int32)), (5, .int a5_81), (7, .int a7_81), (8, .int a8_104), (9, .int a9_104), (10, .int r117)]) rfl ?_
              exact hK158 h104
            · refine z_iload (pc := 132) C (zD D_L_fits_1 14 rfl) 0 rfl ?_
              refine z_aload_n (pc := 134) C (zD D_L_fits_1 15 rfl) rfl 1 rfl ?_
              refine z_iload (pc := 135) C (zD D_L_fits_1 16 rfl) 10 rfl ?_
              refine z_iconst (pc := 137) (v := 0) C (zD D_L_fits_1 17 rfl) (by decide) ?_
              refine z_sWI (pc := 138) (z' := (z00 Z)) (As := [.ref (B + p0), .int a9_104, .int (0 : Int32)]) C [.int r117] (c_L_companies' _ _ _ _ n p0 a9_104 (0 : Int32) h104) zn_L_companies (by decide) (by decide) hz0 q_448 q_449 q_98 q_450 rfl rfl rfl (zD D_L_fits_1 18 rfl) ⟨Nat.le_refl _, Nat.le_refl _, Nat.le_refl _⟩ (fun r138 h138 => ?_)
              refine z_iconst (pc := 141) (v := 1) C (zD D_L_fits_1 19 rfl) (by decide) ?_
              refine z_letg (fun K151 => ∀ (s0_151 : Int32), zJ B Z (zEnd B Z (fun u : Int32 × zH => (some (Value.int u.1), u.2)) 0 0) (K151 s0_151) 151 [(0, .ref (B + p0)), (1, .int r2), (2, .int a2_81), (3, .int (0 : Int32)), (4, .int (0 : Int32)), (5, .int a5_81), (7, .int a7_81), (8, .int a8_104), (9, .int a9_104), (10, .int r117)] [.int s0_151, .int r117] h138 (z00 Z)) (fun s0_151 => ?_) (fun K151 hK151 => ?_)
              · refine z_icmp_gt (pc := 151) C (zD D_L_fits_1 24 rfl) (tgt := 158) (by decide) (fun _ => ?_) (fun _ => ?_)
                · exact hK158 h138
                · refine z_iconst (pc := 154) (v := 1) C (zD D_L_fits_1 25 rfl) (by decide) ?_
                  refine z_goto (pc := 155) C (zD D_L_fits_1 26 rfl) (tgt := 159) (by decide) ?_
                  exact hK159 (1 : Int32) h138
              refine z_icmp_ne (pc := 142) C (zD D_L_fits_1 20 rfl) (tgt := 150) (by decide) (fun _ => ?_) (fun _ => ?_)
              · refine z_iconst (pc := 150) (v := 0) C (zD D_L_fits_1 23 rfl) (by decide) ?_
                refine z_sub [1, 2, 3, 4, 5, 6, 8, 9, 10, 0] (lv' := [(0, .ref (B + p0)), (1, .int r2), (2, .int a2_81), (3, .int (0 : Int32)), (4, .int (0 : Int32)), (5, .int a5_81), (7, .int a7_81), (8, .int a8_104), (9, .int a9_104), (10, .int r117)]) rfl ?_
                exact hK151 (0 : Int32)
              · refine z_bipush (pc := 145) (v := 10) C (zD D_L_fits_1 21 rfl) (by decide) ?_
                refine z_goto (pc := 147) C (zD D_L_fits_1 22 rfl) (tgt := 151) (by decide) ?_
                refine z_sub [1, 2, 3, 4, 5, 6, 8, 9, 10, 0] (lv' := [(0, .ref (B + p0)), (1, .int r2), (2, .int a2_81), (3, .int (0 : Int32)), (4, .int (0 : Int32)), (5, .int a5_81), (7, .int a7_81), (8, .int a8_104), (9, .int a9_104), (10, .int r117)]) rfl ?_
                exact hK151 (10 : Int32)
  refine z_letg (fun K75 => zJ B Z (zEnd B Z (fun u : Int32 × zH => (some (Value.int u.1), u.2)) 0 0) (K75) 75 [(0, .ref (B + p0)), (1, .int r2), (2, .int x18), (3, .int (0 : Int32)), (4, .int (0 : Int32)), (5, .int (0 : Int32))] [] h (z00 Z)) ?_ (fun K75 hK75 => ?_)
  · refine z_iconst (pc := 75) (v := 0) C (zD D_L_fits_0 44 rfl) (by decide) ?_
    exact hK76 (0 : Int32)
  refine z_icmp_le (pc := 29) C (zD D_L_fits_0 20 rfl) (tgt := 75) (by decide) (fun _ => ?_) (fun _ => ?_)
  · refine z_sub [5, 4, 3, 2, 1, 0] (lv' := [(0, .ref (B + p0)), (1, .int r2), (2, .int x18), (3, .int (0 : Int32)), (4, .int (0 : Int32)), (5, .int (0 : Int32))]) rfl ?_
    exact hK75
  · refine z_iload_n (pc := 32) C (zD D_L_fits_0 21 rfl) rfl 4 rfl ?_
    refine z_iconst (pc := 33) (v := 5) C (zD D_L_fits_0 22 rfl) (by decide) ?_
    refine z_icmp_ge (pc := 34) C (zD D_L_fits_0 23 rfl) (tgt := 75) (by decide) (fun _ => ?_) (fun _ => ?_)
    · refine z_sub [5, 4, 3, 2, 1, 0] (lv' := [(0, .ref (B + p0)), (1, .int r2), (2, .int x18), (3, .int (0 : Int32)), (4, .int (0 : Int32)), (5, .int (0 : Int32))]) rfl ?_
      exact hK75
    · refine z_aload_n (pc := 37) C (zD D_L_fits_0 24 rfl) rfl 5 rfl ?_
      refine z_iconst (pc := 38) (v := 1) C (zD D_L_fits_0 25 rfl) (by decide) ?_
      refine z_sWR (pc := 39) (As := [.ref (B + p0), .int (1 : Int32)]) C [] (c_L_values' _ _ _ _ n p0 (1 : Int32) h) zn_L_values (by decide) (by decide) hz0 q_263 q_264 q_98 q_265 rfl rfl rfl (zD D_L_fits_0 26 rfl) (fun r39 => ?_)
      refine z_if_lt (pc := 42) C (zD D_L_fits_0 27 rfl) (tgt := 75) (by decide) (fun _ => ?_) (fun _ => ?_)
      · refine z_sub [5, 4, 3, 2, 1, 0] (lv' := [(0, .ref (B + p0)), (1, .int r2), (2, .int x18), (3, .int (0 : Int32)), (4, .int (0 : Int32)), (5, .int (0 : Int32))]) rfl ?_
        exact hK75
      · refine z_aload_n (pc := 45) C (zD D_L_fits_0 28 rfl) rfl 5 rfl ?_
        refine z_iconst (pc := 46) (v := 1) C (zD D_L_fits_0 29 rfl) (by decide) ?_
        refine z_sWR (pc := 47) (As := [.ref (B + p0), .int (1 : Int32)]) C [] (c_L_values' _ _ _ _ n p0 (1 : Int32) h) zn_L_values (by decide) (by decide) hz0 q_263 q_264 q_98 q_265 rfl rfl rfl (zD D_L_fits_0 30 rfl) (fun r47 => ?_)
        refine z_iload_n (pc := 50) C (zD D_L_fits_0 31 rfl) rfl 4 rfl ?_
        refine z_icmp_ge (pc := 51) C (zD D_L_fits_0 32 rfl) (tgt := 75) (by decide) (fun _ => ?_) (fun _ => ?_)
        · refine z_sub [5, 4, 3, 2, 1, 0] (lv' := [(0, .ref (B + p0)), (1, .int r2), (2, .int x18), (3, .int (0 : Int32)), (4, .int (0 : Int32)), (5, .int (0 : Int32))]) rfl ?_
          exact hK75
        · refine z_aload_n (pc := 54) C (zD D_L_fits_0 33 rfl) rfl 5 rfl ?_
          refine z_iconst (pc := 55) (v := 2) C (zD D_L_fits_0 34 rfl) (by decide) ?_
          refine z_sWR (pc := 56) (As := [.ref (B + p0), .int (2 : Int32)]) C [] (c_L_values' _ _ _ _ n p0 (2 : Int32) h) zn_L_values (by decide) (by decide) hz0 q_263 q_264 q_98 q_265 rfl rfl rfl (zD D_L_fits_0 35 rfl) (fun r56 => ?_)
          refine z_if_lt (pc := 59) C (zD D_L_fits_0 36 rfl) (tgt := 75) (by decide) (fun _ => ?_) (fun _ => ?_)
          · refine z_sub [5, 4, 3, 2, 1, 0] (lv' := [(0, .ref (B + p0)), (1, .int r2), (2, .int x18), (3, .int (0 : Int32)), (4, .int (0 : Int32)), (5, .int (0 : Int32))]) rfl ?_
            exact hK75
          · refine z_aload_n (pc := 62) C (zD D_L_fits_0 37 rfl) rfl 5 rfl ?_
            refine z_iconst (pc := 63) (v := 2) C (zD D_L_fits_0 38 rfl) (by decide) ?_
            refine z_sWR (pc := 64) (As := [.ref (B + p0), .int (2 : Int32)]) C [] (c_L_values' _ _ _ _ n p0 (2 : Int32) h) zn_L_values (by decide) (by decide) hz0 q_263 q_264 q_98 q_265 rfl rfl rfl (zD D_L_fits_0 39 rfl) (fun r64 => ?_)
            refine z_iload_n (pc := 67) C (zD D_L_fits_0 40 rfl) rfl 4 rfl ?_
            refine z_icmp_gt (pc := 68) C (zD D_L_fits_0 41 rfl) (tgt := 75) (by decide) (fun _ => ?_) (fun _ => ?_)
            · refine z_sub [5, 4, 3, 2, 1, 0] (lv' := [(0, .ref (B + p0)), (1, .int r2), (2, .int x18), (3, .int (0 : Int32)), (4, .int (0 : Int32)), (5, .int (0 : Int32))]) rfl ?_
              exact hK75
            · refine z_iconst (pc := 71) (v := 1) C (zD D_L_fits_0 42 rfl) (by decide) ?_
              refine z_goto (pc := 72) C (zD D_L_fits_0 43 rfl) (tgt := 76) (by decide) ?_
              refine z_sub [5, 4, 3, 2, 1, 0] (lv' := [(0, .ref (B + p0)), (1, .int r2), (2, .int x18), (3, .int (0 : Int32)), (4, .int (0 : Int32)), (5, .int (0 : Int32))]) rfl ?_
              exact hK76 (1 : Int32)
def f_L_isForetold (n : Nat) (p0 : Nat) (p1 : Int32) (h : zH) : Option (Int32 × zH) := zb2 (f_L_companies' n p0 p1 (0 : Int32) h) fun (r3 : Int32) (h3 : zH) => if r3 = 0 then (zb2 (f_L_withTrack' n p0 p1 (0 : Int32) (1 : Int32) h3) fun (r13 : Int32) (h13 : zH) => if r13 = (-1 : Int32) then (some ((1 : Int32), h13)) else (some ((0 : Int32), h13))) else (zb2 (f_L_companies' n p0 p1 (7 : Int32) h3) fun (r30 : Int32) (h30 : zH) => zb2 (f_L_bestOf' n p0 p1 h30) fun (r36 : Int32) (h36 : zH) => zlet (fun (s0_61 : Int32) (h61 : zH) => zlet (fun (s0_125 : Int32) (h125 : zH) => zb2 (f_L_companies' n p0 p1 (1 : Int32) h125) fun (r130 : Int32) (h130 : zH) => zfix3 (fun rec138 (a5_138 : Int32) (a7_138 : Int32) (h138 : zH) => if (64 : Int32) ≤ a7_138 then ((zB a5_138).bind fun _ => some (a5_138, h138)) else (if a5_138 = 0 then ((zB a5_138).bind fun _ => some (a5_138, h138)) else (zlet ((a7_138 / (8 : Int32))) fun (x155 : Int32) => zlet ((zrem a7_138 (8 : Int32))) fun (x162 : Int32) => zlet (fun (a5_334 : Int32) (h334 : zH) => zlet (a7_138 + 1) fun (x334 : Int32) => rec138 a5_334 x334 h334) fun K334 => if x162 ≤ x155 then (K334 a5_138 h138) else ((f_L_tracks' n p0 x155 x162 h138).bind fun (r176 : Int32) => zb2 (f_L_withTrack' n p0 p1 x155 x162 h138) fun (r187 : Int32) (h187 : zH) => zlet (fun (s0_255 : Int32) (h255 : zH) => zb2 (f_L_withTrack' n p0 p1 x162 x155 h255) fun (r265 : Int32) (h265 : zH) => zlet (fun (s0_332 : Int32) => K334 s0_332 h265) fun K332 => zlet (K332 (0 : Int32)) fun K331 => if r187 = r265 then (zlet (zlet (K332 (1 : Int32)) fun K327 => if s0_255 = 0 then (K327) else (if r36 < 0 then (K331) else (if s0_61 < r187 then (K331) else (if r187 < s0_61 then (K327) else (if (((10 : Int32) * x155) + x162) < r36 then (K331) else (K327)))))) fun K292 => if r176 = (2 : Int32) then (if r187 = (-1 : Int32) then (K292) else (K331)) else (if r187 < r30 then (K331) else (K292))) else (K331)) fun K255 => zlet (fun (h254 : zH) => K255 (0 : Int32) h254) fun K254 => if (2 : Int32) ≤ r176 then (K254 h187) else (zb2 (f_L_companies' n p0 p1 (2 : Int32) h187) fun (r201 : Int32) (h201 : zH) => if r201 < ((20 : Int32) * (r176 + (1 : Int32))) then (K254 h201) else (zlet (K255 (1 : Int32) h201) fun K250 => if x155 = r130 then (K250) else (if x162 = r130 then (K250) else ((f_L_tracks' n p0 r130 x155 h201).bind fun (r233 : Int32) => if 0 < r233 then (K250) else ((f_L_tracks' n p0 r130 x162 h201).bind fun (r244 : Int32) => if r244 ≤ 0 then (K254 h201) else (K250)))))))))) n s0_125 (0 : Int32) h130) fun K125 => zlet (fun (h120 : zH) => K125 (1 : Int32) h120) fun K120 => if r36 < 0 then (K120 h61) else (zlet (fun (h124 : zH) => K125 (0 : Int32) h124) fun K124 => if (zrem r36 (10 : Int32)) ≤ (r36 / (10 : Int32)) then (K124 h61) else ((f_L_tracks' n p0 (r36 / (10 : Int32)) (zrem r36 (10 : Int32)) h61).bind fun (r87 : Int32) => if (2 : Int32) ≤ r87 then (K124 h61) else (zb2 (f_L_companies' n p0 p1 (2 : Int32) h61) fun (r97 : Int32) (h97 : zH) => (f_L_tracks' n p0 (r36 / (10 : Int32)) (zrem r36 (10 : Int32)) h97).bind fun (r112 : Int32) => if r97 < ((20 : Int32) * ((1 : Int32) + r112)) then (K124 h97) else (K120 h97))))) fun K61 => if 0 ≤ r36 then (zb2 (f_L_withTrack' n p0 p1 (r36 / (10 : Int32)) (zrem r36 (10 : Int32)) h36) fun (r58 : Int32) (h58 : zH) => K61 r58 h58) else (K61 (0 : Int32) h36))
theorem zn_L_isForetold : zNm yL_isForetold 2 := ⟨by decide +kernel, by decide +kernel⟩
set_option maxRecDepth 100000 in
set_option maxHeartbeats 4000000 in
theorem c_L_isForetold (l : Launch) (B : Nat) (D : va_G) (cA : Nat → ClassId) (n : Nat) (p0 : Nat) (p1 : Int32) (h : zH) : ∀ u, f_L_isForetold n p0 p1 h = some u → zM l B D cA yL_isForetold cL_isForetold 13 (some .boolean) 16 0 0 none [.ref (B + p0), .int p1] h ((fun u : Int32 × zH => (some (Value.int u.1), u.2)) u).1 ((fun u : Int32 × zH => (some (Value.int u.1), u.2)) u).2 := by
  unfold f_L_isForetold
  refine z_met (own := RL) (fun u : Int32 × zH => (some (Value.int u.1), u.2)) rfl (by decide) rfl (fun Z C hr _ _ => ?_)
  have hz0 : (z00 Z).1 ≤ 0 ∧ (z00 Z).2.1 ≤ 0 := ⟨Nat.le_refl 0, Nat.le_refl 0⟩
  refine z_aload_n (pc := 0) C (zD D_L_isForetold_0 0 rfl) rfl 0 rfl ?_
  refine z_iload_n (pc := 1) C (zD D_L_isForetold_0 1 rfl) rfl 1 rfl ?_
  refine z_iconst (pc := 2) (v := 0) C (zD D_L_isForetold_0 2 rfl) (by decide) ?_
  refine z_sWI (pc := 3) (z' := (z00 Z)) (As := [.ref (B + p0), .int p1, .int (0 : Int32)]) C [] (c_L_companies' _ _ _ _ n p0 p1 (0 : Int32) h) zn_L_companies (by decide) (by decide) hz0 q_448 q_449 q_98 q_450 rfl rfl rfl (zD D_L_isForetold_0 3 rfl) ⟨Nat.le_refl _, Nat.le_refl _, Nat.le_refl _⟩ (fun r3 h3 => ?_)
  refine z_if_ne (pc := 6) C (zD D_L_isForetold_0 4 rfl) (tgt := 26) (by decide) (fun _ => ?_) (fun _ => ?_)
  · refine z_aload_n (pc := 26) C (zD D_L_isForetold_0 16 rfl) rfl 0 rfl ?_
    refine z_iload_n (pc := 27) C (zD D_L_isForetold_0 17 rfl) rfl 1 rfl ?_
    refine z_bipush (pc := 28) (v := 7) C (zD D_L_isForetold_0 18 rfl) (by decide) ?_
    refine z_sWI (pc := 30) (z' := (z00 Z)) (As := [.ref (B + p0), .int p1, .int (7 : Int32)]) C [] (c_L_companies' _ _ _ _ n p0 p1 (7 : Int32) h3) zn_L_companies (by decide) (by decide) hz0 q_448 q_449 q_98 q_450 rfl rfl rfl (zD D_L_isForetold_0 19 rfl) ⟨Nat.le_refl _, Nat.le_refl _, Nat.le_refl _⟩ (fun r30 h30 => ?_)
    refine z_istore_n (pc := 33) (lv' := [(2, .int r30), (0, .ref (B + p0)), (1, .int p1)]) C (zD D_L_isForetold_0 20 rfl) rfl (by decide) rfl ?_
    refine z_aload_n (pc := 34) C (zD D_L_isForetold_0 21 rfl) rfl 1 rfl ?_
    refine z_iload_n (pc := 35) C (zD D_L_isForetold_0 22 rfl) rfl 2 rfl ?_
    refine z_sWI (pc := 36) (z' := (z00 Z)) (As := [.ref (B + p0), .int p1]) C [] (c_L_bestOf' _ _ _ _ n p0 p1 h30) zn_L_bestOf (by decide) (by decide) hz0 q_486 q_487 q_98 q_488 rfl rfl rfl (zD D_L_isForetold_0 23 rfl) ⟨Nat.le_refl _, Nat.le_refl _, Nat.le_refl _⟩ (fun r36 h36 => ?_)
    refine z_istore_n (pc := 39) (lv' := [(3, .int r36), (2, .int r30), (0, .ref (B + p0)), (1, .int p1)]) C (zD D_L_isForetold_0 24 rfl) rfl (by decide) rfl ?_
    refine z_iload_n (pc := 40) C (zD D_L_isForetold_0 25 rfl) rfl 0 rfl ?_
    refine z_letg (fun K61 => ∀ (s0_61 : Int32) (h61 : zH), zJ B Z (zEnd B Z (fun u : Int32 × zH => (some (Value.int u.1), u.2)) 0 0) (K61 s0_61 h61) 61 [(0, .ref (B + p0)), (1, .int p1), (2, .int r30), (3, .int r36)] [.int s0_61] h61 (z00 Z)) (fun s0_61 h61 => ?_) (fun K61 hK61 => ?_)
    · refine z_istore (pc := 61) (lv' := [(4, .int s0_61), (0, .ref (B + p0)), (1, .int p1), (2, .int r30), (3, .int r36)]) C (zD D_L_isForetold_0 38 rfl) (by decide) rfl ?_
      refine z_iload_n (pc := 63) C (zD D_L_isForetold_0 39 rfl) rfl 4 rfl ?_
      refine z_letg (fun K125 => ∀ (s0_125 : Int32) (h125 : zH), zJ B Z (zEnd B Z (fun u : Int32 × zH => (some (Value.int u.1), u.2)) 0 0) (K125 s0_125 h125) 125 [(0, .ref (B + p0)), (1, .int p1), (2, .int r30), (3, .int r36), (4, .int s0_61)] [.int s0_125] h125 (z00 Z)) (fun s0_125 h125 => ?_) (fun K125 hK125 => ?_)
      · refine z_istore (pc := 125) (lv' := [(5, .int s0_125), (0, .ref (B + p0)), (1, .int p1), (2, .int r30), (3, .int r36), (4, .int s0_61)]) C (zD D_L_isForetold_1 18 rfl) (by decide) rfl ?_
        refine z_aload_n (pc := 127) C (zD D_L_isForetold_1 19 rfl) rfl 1 rfl ?_
        refine z_iload_n (pc := 128) C (zD D_L_isForetold_1 20 rfl) rfl 2 rfl ?_
        refine z_iconst (pc := 129) (v := 1) C (zD D_L_isForetold_1 21 rfl) (by decide) ?_
        refine z_sWI (pc := 130) (z' := (z00 Z)) (As := [.ref (B + p0), .int p1, .int (1 : Int32)]) C [] (c_L_companies' _ _ _ _ n p0 p1 (1 : Int32) h125) zn_L_companies (by decide) (by decide) hz0 q_448 q_449 q_98 q_450 rfl rfl rfl (zD D_L_isForetold_1 22 rfl) ⟨Nat.le_refl _, Nat.le_refl _, Nat.le_refl _⟩ (fun r130 h130 => ?_)
        refine z_istore (pc := 133) (lv' := [(6, .int r130), (5, .int s0_125), (0, .ref (B + p0)), (1, .int p1), (2, .int r30), (3, .int r36), (4, .int s0_61)]) C (zD D_L_isForetold_1 23 rfl) (by decide) rfl ?_
        refine z_iconst (pc := 135) (v := 0) C (zD D_L_isForetold_1 24 rfl) (by decide) ?_
        refine z_istore (pc := 136) (lv' := [(7, .int (0 : Int32)), (6, .int r130), (5, .int s0_125), (0, .ref (B + p0)), (1, .int p1), (2, .int r30), (3, .int r36), (4, .int s0_61)]) C (zD D_L_isForetold_1 25 rfl) (by decide) rfl ?_
        refine z_sub [3, 4, 5, 6, 7, 2, 1, 0] (lv' := [(0, .ref (B + p0)), (1, .int p1), (2, .int r30), (3, .int r36), (4, .int s0_61), (5, .int s0_125), (6, .int r130), (7, .int (0 : Int32))]) rfl ?_
        refine z_fix3 (fun g138 => ∀ (a5_138 : Int32) (a7_138 : Int32) (h138 : zH), zJ B Z (zEnd B Z (fun u : Int32 × zH => (some (Value.int u.1), u.2)) 0 0) (g138 a5_138 a7_138 h138) 138 [(0, .ref (B + p0)), (1, .int p1), (2, .int r30), (3, .int r36), (4, .int s0_61), (5, .int a5_138), (6, .int r130), (7, .int a7_138)] [] h138 (z00 Z)) (fun _ _ _ => z_none) (fun rec138 hrec138 a5_138 a7_138 h138 => ?_) n s0_125 (0 : Int32) h130
        refine z_iload (pc := 138) C (zD D_L_isForetold_1 26 rfl) 7 rfl ?_
        refine z_bipush (pc := 140) (v := 64) C (zD D_L_isForetold_1 27 rfl) (by decide) ?_
        refine z_icmp_ge (pc := 142) C (zD D_L_isForetold_1 28 rfl) (tgt := 340) (by decide) (fun _ => ?_) (fun _ => ?_)
        · refine z_iload (pc := 340) C (zD D_L_isForetold_3 6 rfl) 5 rfl ?_
          refine z_bool (fun hb => ?_)
          exact z_zret (pc := 342) C hr hb rfl (zD D_L_isForetold_3 7 rfl)
        · refine z_iload (pc := 145) C (zD D_L_isForetold_1 29 rfl) 5 rfl ?_
          refine z_if_eq (pc := 147) C (zD D_L_isForetold_1 30 rfl) (tgt := 340) (by decide) (fun _ => ?_) (fun _ => ?_)
          · refine z_iload (pc := 340) C (zD D_L_isForetold_3 6 rfl) 5 rfl ?_
            refine z_bool (fun hb => ?_)
            exact z_zret (pc := 342) C hr hb rfl (zD D_L_isForetold_3 7 rfl)
          · refine z_iload (pc := 150) C (zD D_L_isForetold_1 31 rfl) 7 rfl ?_
            refine z_bipush (pc := 152) (v := 8) C (zD D_L_isForetold_1 32 rfl) (by decide) ?_
            refine z_idivc (pc := 154) C (zD D_L_isForetold_1 33 rfl) (by decide) ?_
            refine z_istoreL (pc := 155) (lv' := fun x155 => [(8, .int x155), (0, .ref (B + p0)), (1, .int p1), (2, .int r30), (3, .int r36), (4, .int s0_61), (5, .int a5_138), (6, .int r130), (7, .int a7_138)]) C (zD D_L_isForetold_1 34 rfl) (by decide) (fun _ => rfl) (fun x155 => ?_)
            refine z_iload (pc := 157) C (zD D_L_isForetold_1 35 rfl) 8 rfl ?_
            refine z_bipush (pc := 159) (v := 8) C (zD D_L_isForetold_1 36 rfl) (by decide) ?_
            refine z_iremc (pc := 161) C (zD D_L_isForetold_1 37 rfl) (by decide) ?_
            refine z_istoreL (pc := 162) (lv' := fun x162 => [(9, .int x162), (8, .int x155), (0, .ref (B + p0)), (1, .int p1), (2, .int r30), (3, .int r36), (4, .int s0_61), (5, .int a5_138), (6, .int r130), (7, .int a7_138)]) C (zD D_L_isForetold_1 38 rfl) (by decide) (fun _ => rfl) (fun x162 => ?_)
            refine z_iload (pc := 164) C (zD D_L_isForetold_1 39 rfl) 1 rfl ?_
            refine z_iload (pc := 166) C (zD D_L_isForetold_1 40 rfl) 0 rfl ?_
            refine z_letg (fun K334 => ∀ (a5_334 : Int32) (h334 : zH), zJ B Z (zEnd B Z (fun u : Int32 × zH => (some (Value.int u.1), u.2)) 0 0) (K334 a5_334 h334) 334 [(0, .ref (B + p0)), (1, .int p1), (2, .int r30), (3, .int r36), (4, .int s0_61), (5, .int a5_334), (6, .int r130), (7, .int a7_138)] [] h334 (z00 Z)) (fun a5_334 h334 => ?_) (fun K334 hK334 => ?_)
            · refine z_iincL (pc := 334) (lv' := fun x334 => [(7, .int x334), (0, .ref (B + p0)), (1, .int p1), (2, .int r30), (3, .int r36), (4, .int s0_61), (5, .int a5_334), (6, .int r130)]) C (zD D_L_isForetold_3 4 rfl) 7 rfl (v := a7_138 + 1) rfl (by decide) (fun _ => rfl) (fun x334 => ?_)
              refine z_goto (pc := 337) C (zD D_L_isForetold_3 5 rfl) (tgt := 138) (by decide) ?_
              refine z_sub [1, 2, 3, 4, 5, 6, 7, 0] (lv' := [(0, .ref (B + p0)), (1, .int p1), (2, .int r30), (3, .int r36), (4, .int s0_61), (5, .int a5_334), (6, .int r130), (7, .int x334)]) rfl ?_
              exact hrec138 a5_334 x334 h334
            refine z_icmp_ge (pc := 168) C (zD D_L_isForetold_1 41 rfl) (tgt := 334) (by decide) (fun _ => ?_) (fun _ => ?_)
            · refine z_sub [2, 3, 4, 5, 6, 7, 8, 9] (lv' := [(0, .ref (B + p0)), (1, .int p1), (2, .int r30), (3, .int r36), (4, .int s0_61), (5, .int a5_138), (6, .int r130), (7, .int a7_138)]) rfl ?_
              exact hK334 a5_138 h138
            · refine z_aload_n (pc := 171) C (zD D_L_isForetold_1 42 rfl) rfl 2 rfl ?_
              refine z_iload (pc := 172) C (zD D_L_isForetold_1 43 rfl) 1 rfl ?_
              refine z_iload (pc := 174) C (zD D_L_isForetold_1 44 rfl) 0 rfl ?_
              refine z_sWR (pc := 176) (As := [.ref (B + p0), .int x155, .int x162]) C [] (c_L_tracks' _ _ _ _ n p0 x155 x162 h138) zn_L_tracks (by decide) (by decide) hz0 q_452 q_453 q_98 q_454 rfl rfl rfl (zD D_L_isForetold_1 45 rfl) (fun r176 => ?_)
              refine z_istore (pc := 179) (lv' := [(10, .int r176), (9, .int x162), (8, .int x155), (0, .ref (B + p0)), (1, .int p1), (2, .int r30), (3, .int r36), (4, .int s0_61), (5, .int a5_138), (6, .int r130), (7, .int a7_138)]) C (zD D_L_isForetold_1 46 rfl) (by decide) rfl ?_
              refine z_aload_n (pc := 181) C (zD D_L_isForetold_1 47 rfl) rfl 3 rfl ?_
              refine z_iload_n (pc := 182) C (zD D_L_isForetold_1 48 rfl) rfl 4 rfl ?_
              refine z_iload (pc := 183) C (zD D_L_isForetold_1 49 rfl) 2 rfl ?_
              refine z_iload (pc := 185) C (zD D_L_isForetold_1 50 rfl) 1 rfl ?_
              refine z_sWI (pc := 187) (z' := (z00 Z)) (As := [.ref (B + p0), .int p1, .int x155, .int x162]) C [] (c_L_withTrack' _ _ _ _ n p0 p1 x155 x162 h138) zn_L_withTrack (by decide) (by decide) hz0 q_475 q_476 q_98 q_477 rfl rfl rfl (zD D_L_isForetold_1 51 rfl) ⟨Nat.le_refl _, Nat.le_refl _, Nat.le_refl _⟩ (fun r187 h187 => ?_)
              refine z_istore (pc := 190) (lv' := [(11, .int r187), (10, .int r176), (9, .int x162), (8, .int x155), (0, .ref (B + p0)), (1, .int p1), (2, .int r30), (3, .int r36), (4, .int s0_61), (5, .int a5_138), (6, .int r130), (7, .int a7_138)]) C (zD D_L_isForetold_1 52 rfl) (by decide) rfl ?_
              refine z_iload (pc := 192) C (zD D_L_isForetold_1 53 rfl) 1 rfl ?_
              refine z_iconst (pc := 194) (v := 2) C (zD D_L_isForetold_1 54 rfl) (by decide) ?_
              refine z_letg (fun K255 => ∀ (s0_255 : Int32) (h255 : zH), zJ B Z (zEnd B Z (fun u : Int32 × zH => (some (Value.int u.1), u.2)) 0 0) (K255 s0_255 h255) 255 [(0, .ref (B + p0)), (1, .int p1), (2, .int r30), (3, .int r36), (4, .int s0_61), (6, .int r130), (7, .int a7_138), (8, .int x155), (9, .int x162), (10, .int r176), (11, .int r187)] [.int s0_255] h255 (z00 Z)) (fun s0_255 h255 => ?_) (fun K255 hK255 => ?_)
              · refine z_istore (pc := 255) (lv' := [(12, .int s0_255), (0, .ref (B + p0)), (1, .int p1), (2, .int r30), (3, .int r36), (4, .int s0_61), (6, .int r130), (7, .int a7_138), (8, .int x155), (9, .int x162), (10, .int r176), (11, .int r187)]) C (zD D_L_isForetold_2 25 rfl) (by decide) rfl ?_
                refine z_iload (pc := 257) C (zD D_L_isForetold_2 26 rfl) 11 rfl ?_
                refine z_aload_n (pc := 259) C (zD D_L_isForetold_2 27 rfl) rfl 1 rfl ?_
                refine z_iload_n (pc := 260) C (zD D_L_isForetold_2 28 rfl) rfl 2 rfl ?_
                refine z_iload (pc := 261) C (zD D_L_isForetold_2 29 rfl) 9 rfl ?_
                refine z_iload (pc := 263) C (zD D_L_isForetold_2 30 rfl) 8 rfl ?_
                refine z_sWI (pc := 265) (z' := (z00 Z)) (As := [.ref (B + p0), .int p1, .int x162, .int x155]) C [.int r187] (c_L_withTrack' _ _ _ _ n p0 p1 x162 x155 h255) zn_L_withTrack (by decide) (by decide) hz0 q_475 q_476 q_98 q_477 rfl rfl rfl (zD D_L_isForetold_2 31 rfl) ⟨Nat.le_refl _, Nat.le_refl _, Nat.le_refl _⟩ (fun r265 h265 => ?_)
                refine z_letg (fun K332 => ∀ (s0_332 : Int32), zJ B Z (zEnd B Z (fun u : Int32 × zH => (some (Value.int u.1), u.2)) 0 0) (K332 s0_332) 332 [(0, .ref (B + p0)), (1, .int p1), (2, .int r30), (3, .int r36), (4, .int s0_61), (6, .int r130), (7, .int a7_138)] [.int s0_332] h265 (z00 Z)) (fun s0_332 => ?_) (fun K332 hK332 => ?_)
                · refine z_istore (pc := 332) (lv' := [(5, .int s0_332), (0, .ref (B + p0)), (1, .int p1), (2, .int r30), (3, .int r36), (4, .int s0_61), (6, .int r130), (7, .int a7_138)]) C (zD D_L_isForetold_3 3 rfl) (by decide) rfl ?_
                  refine z_sub [1, 2, 3, 4, 5, 0, 6, 7] (lv' := [(0, .ref (B + p0)), (1, .int p1), (2, .int r30), (3, .int r36), (4, .int s0_61), (5, .int s0_332), (6, .int r130), (7, .int a7_138)]) rfl ?_
                  exact hK334 s0_332 h265
                refine z_letg (fun K331 => zJ B Z (zEnd B Z (fun u : Int32 × zH => (some (Value.int u.1), u.2)) 0 0) (K331) 331 [(0, .ref (B + p0)), (1, .int p1), (2, .int r30), (3, .int r36), (4, .int s0_61), (6, .int r130), (7, .int a7_138)] [] h265 (z00 Z)) ?_ (fun K331 hK331 => ?_)
                · refine z_iconst (pc := 331) (v := 0) C (zD D_L_isForetold_3 2 rfl) (by decide) ?_
                  exact hK332 (0 : Int32)
                refine z_icmp_ne (pc := 268) C (zD D_L_isForetold_2 32 rfl) (tgt := 331) (by decide) (fun _ => ?_) (fun _ => ?_)
                · refine z_sub [1, 2, 3, 4, 5, 6, 7] (lv' := [(0, .ref (B + p0)), (1, .int p1), (2, .int r30), (3, .int r36), (4, .int s0_61), (6, .int r130), (7, .int a7_138)]) rfl ?_
                  exact hK331
                · refine z_iload (pc := 271) C (zD D_L_isForetold_2 33 rfl) 10 rfl ?_
                  refine z_iconst (pc := 273) (v := 2) C (zD D_L_isForetold_2 34 rfl) (by decide) ?_
                  refine z_letg (fun K292 => zJ B Z (zEnd B Z (fun u : Int32 × zH => (some (Value.int u.1), u.2)) 0 0) (K292) 292 [(0, .ref (B + p0)), (1, .int p1), (2, .int r30), (3, .int r36), (4, .int s0_61), (6, .int r130), (7, .int a7_138), (8, .int x155), (9, .int x162), (11, .int r187), (12, .int s0_255)] [] h265 (z00 Z)) ?_ (fun K292 hK292 => ?_)
                  · refine z_iload (pc := 292) C (zD D_L_isForetold_2 43 rfl) 10 rfl ?_
                    refine z_letg (fun K327 => zJ B Z (zEnd B Z (fun u : Int32 × zH => (some (Value.int u.1), u.2)) 0 0) (K327) 327 [(0, .ref (B + p0)), (1, .int p1), (2, .int r30), (3, .int r36), (4, .int s0_61), (6, .int r130), (7, .int a7_138)] [] h265 (z00 Z)) ?_ (fun K327 hK327 => ?_)
                    · refine z_iconst (pc := 327) (v := 1) C (zD D_L_isForetold_3 0 rfl) (by decide) ?_
                      refine z_goto (pc := 328) C (zD D_L_isForetold_3 1 rfl) (tgt := 332) (by decide) ?_
                      exact hK332 (1 : Int32)
                    refine z_if_eq (pc := 294) C (zD D_L_isForetold_2 44 rfl) (tgt := 327) (by decide) (fun _ => ?_) (fun _ => ?_)
                    · refine z_sub [0, 1, 2, 3, 4, 5, 6] (lv' := [(0, .ref (B + p0)), (1, .int p1), (2, .int r30), (3, .int r36), (4, .int s0_61), (6, .int r130), (7, .int a7_138)]) rfl ?_
                      exact hK327
                    · refine z_iload_n (pc := 297) C (zD D_L_isForetold_2 45 rfl) rfl 3 rfl ?_
                      refine z_if_lt (pc := 298) C (zD D_L_isForetold_2 46 rfl) (tgt := 331) (by decide) (fun _ => ?_) (fun _ => ?_)
                      · refine z_sub [0, 1, 2, 3, 4, 5, 6] (lv' := [(0, .ref (B + p0)), (1, .int p1), (2, .int r30), (3, .int r36), (4, .int s0_61), (6, .int r130), (7, .int a7_138)]) rfl ?_
                        exact hK331
                      · refine z_iload (pc := 301) C (zD D_L_isForetold_2 47 rfl) 9 rfl ?_
                        refine z_iload (pc := 303) C (zD D_L_isForetold_2 48 rfl) 4 rfl ?_
                        refine z_icmp_gt (pc := 305) C (zD D_L_isForetold_2 49 rfl) (tgt := 331) (by decide) (fun _ => ?_) (fun _ => ?_)
                        · refine z_sub [0, 1, 2, 3, 4, 5, 6] (lv' := [(0, .ref (B + p0)), (1, .int p1), (2, .int r30), (3, .int r36), (4, .int s0_61), (6, .int r130), (7, .int a7_138)]) rfl ?_
                          exact hK331
                        · refine z_iload (pc := 308) C (zD D_L_isForetold_2 50 rfl) 9 rfl ?_
                          refine z_iload (pc := 310) C (zD D_L_isForetold_2 51 rfl) 4 rfl ?_
                          refine z_icmp_lt (pc := 312) C (zD D_L_isForetold_2 52 rfl) (tgt := 327) (by decide) (fun _ => ?_) (fun _ => ?_)
                          · refine z_sub [0, 1, 2, 3, 4, 5, 6] (lv' := [(0, .ref (B + p0)), (1, .int p1), (2, .int r30), (3, .int r36), (4, .int s0_61), (6, .int r130), (7, .int a7_138)]) rfl ?_
                            exact hK327
                          · refine z_iload_n (pc := 315) C (zD D_L_isForetold_2 53 rfl) rfl 3 rfl ?_
                            refine z_bipush (pc := 316) (v := 10) C (zD D_L_isForetold_2 54 rfl) (by decide) ?_
                            refine z_iload (pc := 318) C (zD D_L_isForetold_2 55 rfl) 7 rfl ?_
                            refine z_imul (pc := 320) C (zD D_L_isForetold_2 56 rfl) ?_
                            refine z_iload (pc := 321) C (zD D_L_isForetold_2 57 rfl) 8 rfl ?_
                            refine z_iadd (pc := 323) C (zD D_L_isForetold_2 58 rfl) ?_
                            refine z_icmp_gt (pc := 324) C (zD D_L_isForetold_2 59 rfl) (tgt := 331) (by decide) (fun _ => ?_) (fun _ => ?_)
                            · refine z_sub [0, 1, 2, 3, 4, 5, 6] (lv' := [(0, .ref (B + p0)), (1, .int p1), (2, .int r30), (3, .int r36), (4, .int s0_61), (6, .int r130), (7, .int a7_138)]) rfl ?_
                              exact hK331
                            · refine z_sub [0, 1, 2, 3, 4, 5, 6] (lv' := [(0, .ref (B + p0)), (1, .int p1), (2, .int r30), (3, .int r36), (4, .int s0_61), (6, .int r130), (7, .int a7_138)]) rfl ?_
                              exact hK327
                  refine z_icmp_ne (pc := 274) C (zD D_L_isForetold_2 35 rfl) (tgt := 286) (by decide) (fun _ => ?_) (fun _ => ?_)
                  · refine z_iload (pc := 286) C (zD D_L_isForetold_2 40 rfl) 11 rfl ?_
                    refine z_iload_n (pc := 288) C (zD D_L_isForetold_2 41 rfl) rfl 3 rfl ?_
                    refine z_icmp_lt (pc := 289) C (zD D_L_isForetold_2 42 rfl) (tgt := 331) (by decide) (fun _ => ?_) (fun _ => ?_)
                    · refine z_sub [1, 2, 3, 4, 5, 6, 7] (lv' := [(0, .ref (B + p0)), (1, .int p1), (2, .int r30), (3, .int r36), (4, .int s0_61), (6, .int r130), (7, .int a7_138)]) rfl ?_
                      exact hK331
                    · refine z_sub [1, 2, 3, 4, 5, 6, 7, 8, 9, 11, 0] (lv' := [(0, .ref (B + p0)), (1, .int p1), (2, .int r30), (3, .int r36), (4, .int s0_61), (6, .int r130), (7, .int a7_138), (8, .int x155), (9, .int x162), (11, .int r187), (12, .int s0_255)]) rfl ?_
                      exact hK292
                  · refine z_iload (pc := 277) C (zD D_L_isForetold_2 36 rfl) 11 rfl ?_
                    refine z_iconst (pc := 279) (v := -1) C (zD D_L_isForetold_2 37 rfl) (by decide) ?_
                    refine z_icmp_ne (pc := 280) C (zD D_L_isForetold_2 38 rfl) (tgt := 331) (by decide) (fun _ => ?_) (fun _ => ?_)
                    · refine z_sub [1, 2, 3, 4, 5, 6, 7] (lv' := [(0, .ref (B + p0)), (1, .int p1), (2, .int r30), (3, .int r36), (4, .int s0_61), (6, .int r130), (7, .int a7_138)]) rfl ?_
                      exact hK331
                    · refine z_goto (pc := 283) C (zD D_L_isForetold_2 39 rfl) (tgt := 292) (by decide) ?_
                      refine z_sub [1, 2, 3, 4, 5, 6, 7, 8, 9, 11, 0] (lv' := [(0, .ref (B + p0)), (1, .int p1), (2, .int r30), (3, .int r36), (4, .int s0_61), (6, .int r130), (7, .int a7_138), (8, .int x155), (9, .int x162), (11, .int r187), (12, .int s0_255)]) rfl ?_
                      exact hK292
              refine z_letg (fun K254 => ∀ (h254 : zH), zJ B Z (zEnd B Z (fun u : Int32 × zH => (some (Value.int u.1), u.2)) 0 0) (K254 h254) 254 [(0, .ref (B + p0)), (1, .int p1), (2, .int r30), (3, .int r36), (4, .int s0_61), (6, .int r130), (7, .int a7_138), (8, .int x155), (9, .int x162), (10, .int r176), (11, .int r187)] [] h254 (z00 Z)) (fun h254 => ?_) (fun K254 hK254 => ?_)
              · refine z_iconst (pc := 254) (v := 0) C (zD D_L_isForetold_2 24 rfl) (by decide) ?_
                exact hK255 (0 : Int32) h254
              refine z_icmp_ge (pc := 195) C (zD D_L_isForetold_1 55 rfl) (tgt := 254) (by decide) (fun _ => ?_) (fun _ => ?_)
              · refine z_sub [4, 5, 6, 7, 8, 10, 11, 3, 2, 1, 0] (lv' := [(0, .ref (B + p0)), (1, .int p1), (2, .int r30), (3, .int r36), (4, .int s0_61), (6, .int r130), (7, .int a7_138), (8, .int x155), (9, .int x162), (10, .int r176), (11, .int r187)]) rfl ?_
                exact hK254 h187
              · refine z_aload_n (pc := 198) C (zD D_L_isForetold_1 56 rfl) rfl 4 rfl ?_
                refine z_iload_n (pc := 199) C (zD D_L_isForetold_1 57 rfl) rfl 5 rfl ?_
                refine z_iconst (pc := 200) (v := 2) C (zD D_L_isForetold_1 58 rfl) (by decide) ?_
                refine z_sWI (pc := 201) (z' := (z00 Z)) (As := [.ref (B + p0), .int p1, .int (2 : Int32)]) C [] (c_L_companies' _ _ _ _ n p0 p1 (2 : Int32) h187) zn_L_companies (by decide) (by decide) hz0 q_448 q_449 q_98 q_450 rfl rfl rfl (zD D_L_isForetold_1 59 rfl) ⟨Nat.le_refl _, Nat.le_refl _, Nat.le_refl _⟩ (fun r201 h201 => ?_)
                refine z_bipush (pc := 204) (v := 20) C (zD D_L_isForetold_2 0 rfl) (by decide) ?_
                refine z_iload (pc := 206) C (zD D_L_isForetold_2 1 rfl) 1 rfl ?_
                refine z_iconst (pc := 208) (v := 1) C (zD D_L_isForetold_2 2 rfl) (by decide) ?_
                refine z_iadd (pc := 209) C (zD D_L_isForetold_2 3 rfl) ?_
                refine z_imul (pc := 210) C (zD D_L_isForetold_2 4 rfl) ?_
                refine z_icmp_lt (pc := 211) C (zD D_L_isForetold_2 5 rfl) (tgt := 254) (by decide) (fun _ => ?_) (fun _ => ?_)
                · refine z_sub [4, 5, 6, 7, 8, 10, 11, 3, 2, 1, 0] (lv' := [(0, .ref (B + p0)), (1, .int p1), (2, .int r30), (3, .int r36), (4, .int s0_61), (6, .int r130), (7, .int a7_138), (8, .int x155), (9, .int x162), (10, .int r176), (11, .int r187)]) rfl ?_
                  exact hK254 h201
                · refine z_iload (pc := 214) C (zD D_L_isForetold_2 6 rfl) 3 rfl ?_
                  refine z_iload (pc := 216) C (zD D_L_isForetold_2 7 rfl) 10 rfl ?_
                  refine z_letg (fun K250 => zJ B Z (zEnd B Z (fun u : Int32 × zH => (some (Value.int u.1), u.2)) 0 0) (K250) 250 [(0, .ref (B + p0)), (1, .int p1), (2, .int r30), (3, .int r36), (4, .int s0_61), (6, .int r130), (7, .int a7_138), (8, .int x155), (9, .int x162), (10, .int r176), (11, .int r187)] [] h201 (z00 Z)) ?_ (fun K250 hK250 => ?_)
                  · refine z_iconst (pc := 250) (v := 1) C (zD D_L_isForetold_2 22 rfl) (by decide) ?_
                    refine z_goto (pc := 251) C (zD D_L_isForetold_2 23 rfl) (tgt := 255) (by decide) ?_
                    exact hK255 (1 : Int32) h201
                  refine z_icmp_eq (pc := 218) C (zD D_L_isForetold_2 8 rfl) (tgt := 250) (by decide) (fun _ => ?_) (fun _ => ?_)
                  · refine z_sub [4, 5, 6, 7, 8, 10, 11, 3, 2, 1, 0] (lv' := [(0, .ref (B + p0)), (1, .int p1), (2, .int r30), (3, .int r36), (4, .int s0_61), (6, .int r130), (7, .int a7_138), (8, .int x155), (9, .int x162), (10, .int r176), (11, .int r187)]) rfl ?_
                    exact hK250
                  · refine z_iload (pc := 221) C (zD D_L_isForetold_2 9 rfl) 2 rfl ?_
                    refine z_iload (pc := 223) C (zD D_L_isForetold_2 10 rfl) 10 rfl ?_
                    refine z_icmp_eq (pc := 225) C (zD D_L_isForetold_2 11 rfl) (tgt := 250) (by decide) (fun _ => ?_) (fun _ => ?_)
                    · refine z_sub [4, 5, 6, 7, 8, 10, 11, 3, 2, 1, 0] (lv' := [(0, .ref (B + p0)), (1, .int p1), (2, .int r30), (3, .int r36), (4, .int s0_61), (6, .int r130), (7, .int a7_138), (8, .int x155), (9, .int x162), (10, .int r176), (11, .int r187)]) rfl ?_
                      exact hK250
                    · refine z_aload_n (pc := 228) C (zD D_L_isForetold_2 12 rfl) rfl 4 rfl ?_
                      refine z_iload (pc := 229) C (zD D_L_isForetold_2 13 rfl) 10 rfl ?_
                      refine z_iload (pc := 231) C (zD D_L_isForetold_2 14 rfl) 3 rfl ?_
                      refine z_sWR (pc := 233) (As := [.ref (B + p0), .int r130, .int x155]) C [] (c_L_tracks' _ _ _ _ n p0 r130 x155 h201) zn_L_tracks (by decide) (by decide) hz0 q_452 q_453 q_98 q_454 rfl rfl rfl (zD D_L_isForetold_2 15 rfl) (fun r233 => ?_)
                      refine z_if_gt (pc := 236) C (zD D_L_isForetold_2 16 rfl) (tgt := 250) (by decide) (fun _ => ?_) (fun _ => ?_)
                      · refine z_sub [4, 5, 6, 7, 8, 10, 11, 3, 2, 1, 0] (lv' := [(0, .ref (B + p0)), (1, .int p1), (2, .int r30), (3, .int r36), (4, .int s0_61), (6, .int r130), (7, .int a7_138), (8, .int x155), (9, .int x162), (10, .int r176), (11, .int r187)]) rfl ?_
                        exact hK250
                      · refine z_aload_n (pc := 239) C (zD D_L_isForetold_2 17 rfl) rfl 4 rfl ?_
                        refine z_iload (pc := 240) C (zD D_L_isForetold_2 18 rfl) 10 rfl ?_
                        refine z_iload (pc := 242) C (zD D_L_isForetold_2 19 rfl) 2 rfl ?_
                        refine z_sWR (pc := 244) (As := [.ref (B + p0), .int r130, .int x162]) C [] (c_L_tracks' _ _ _ _ n p0 r130 x162 h201) zn_L_tracks (by decide) (by decide) hz0 q_452 q_453 q_98 q_454 rfl rfl rfl (zD D_L_isForetold_2 20 rfl) (fun r244 => ?_)
                        refine z_if_le (pc := 247) C (zD D_L_isForetold_2 21 rfl) (tgt := 254) (by decide) (fun _ => ?_) (fun _ => ?_)
                        · refine z_sub [4, 5, 6, 7, 8, 10, 11, 3, 2, 1, 0] (lv' := [(0, .ref (B + p0)), (1, .int p1), (2, .int r30), (3, .int r36), (4, .int s0_61), (6, .int r130), (7, .int a7_138), (8, .int x155), (9, .int x162), (10, .int r176), (11, .int r187)]) rfl ?_
                          exact hK254 h201
                        · refine z_sub [4, 5, 6, 7, 8, 10, 11, 3, 2, 1, 0] (lv' := [(0, .ref (B + p0)), (1, .int p1), (2, .int r30), (3, .int r36), (4, .int s0_61), (6, .int r130), (7, .int a7_138), (8, .int x155), (9, .int x162), (10, .int r176), (11, .int r187)]) rfl ?_
                          exact hK250
      refine z_letg (fun K120 => ∀ (h120 : zH), zJ B Z (zEnd B Z (fun u : Int32 × zH => (some (Value.int u.1), u.2)) 0 0) (K120 h120) 120 [(0, .ref (B + p0)), (1, .int p1), (2, .int r30), (3, .int r36), (4, .int s0_61)] [] h120 (z00 Z)) (fun h120 => ?_) (fun K120 hK120 => ?_)
      · refine z_iconst (pc := 120) (v := 1) C (zD D_L_isForetold_1 15 rfl) (by decide) ?_
        refine z_goto (pc := 121) C (zD D_L_isForetold_1 16 rfl) (tgt := 125) (by decide) ?_
        exact hK125 (1 : Int32) h120
      refine z_if_lt (pc := 64) C (zD D_L_isForetold_0 40 rfl) (tgt := 120) (by decide) (fun _ => ?_) (fun _ => ?_)
      · refine z_sub [1, 2, 3, 4, 0] (lv' := [(0, .ref (B + p0)), (1, .int p1), (2, .int r30), (3, .int r36), (4, .int s0_61)]) rfl ?_
        exact hK120 h61
      · refine z_iload_n (pc := 67) C (zD D_L_isForetold_0 41 rfl) rfl 4 rfl ?_
        refine z_bipush (pc := 68) (v := 10) C (zD D_L_isForetold_0 42 rfl) (by decide) ?_
        refine z_idivc (pc := 70) C (zD D_L_isForetold_0 43 rfl) (by decide) ?_
        refine z_iload_n (pc := 71) C (zD D_L_isForetold_0 44 rfl) rfl 4 rfl ?_
        refine z_bipush (pc := 72) (v := 10) C (zD D_L_isForetold_0 45 rfl) (by decide) ?_
        refine z_iremc (pc := 74) C (zD D_L_isForetold_0 46 rfl) (by decide) ?_
        refine z_letg (fun K124 => ∀ (h124 : zH), zJ B Z (zEnd B Z (fun u : Int32 × zH => (some (Value.int u.1), u.2)) 0 0) (K124 h124) 124 [(0, .ref (B + p0)), (1, .int p1), (2, .int r30), (3, .int r36), (4, .int s0_61)] [] h124 (z00 Z)) (fun h124 => ?_) (fun K124 hK124 => ?_)
        · refine z_iconst (pc := 124) (v := 0) C (zD D_L_isForetold_1 17 rfl) (by decide) ?_
          exact hK125 (0 : Int32) h124
        refine z_icmp_ge (pc := 75) C (zD D_L_isForetold_0 47 rfl) (tgt := 124) (by decide) (fun _ => ?_) (fun _ => ?_)
        · refine z_sub [1, 2, 3, 4, 0] (lv' := [(0, .ref (B + p0)), (1, .int p1), (2, .int r30), (3, .int r36), (4, .int s0_61)]) rfl ?_
          exact hK124 h61
        · refine z_aload_n (pc := 78) C (zD D_L_isForetold_0 48 rfl) rfl 1 rfl ?_
          refine z_iload_n (pc := 79) C (zD D_L_isForetold_0 49 rfl) rfl 4 rfl ?_
          refine z_bipush (pc := 80) (v := 10) C (zD D_L_isForetold_0 50 rfl) (by decide) ?_
          refine z_idivc (pc := 82) C (zD D_L_isForetold_0 51 rfl) (by decide) ?_
          refine z_iload_n (pc := 83) C (zD D_L_isForetold_0 52 rfl) rfl 4 rfl ?_
          refine z_bipush (pc := 84) (v := 10) C (zD D_L_isForetold_0 53 rfl) (by decide) ?_
          refine z_iremc (pc := 86) C (zD D_L_isForetold_0 54 rfl) (by decide) ?_
          refine z_sWR (pc := 87) (As := [.ref (B + p0), .int (r36 / (10 : Int32)), .int (zrem r36 (10 : Int32))]) C [] (c_L_tracks' _ _ _ _ n p0 (r36 / (10 : Int32)) (zrem r36 (10 : Int32)) h61) zn_L_tracks (by decide) (by decide) hz0 q_452 q_453 q_98 q_454 rfl rfl rfl (zD D_L_isForetold_0 55 rfl) (fun r87 => ?_)
          refine z_iconst (pc := 90) (v := 2) C (zD D_L_isForetold_0 56 rfl) (by decide) ?_
          refine z_icmp_ge (pc := 91) C (zD D_L_isForetold_0 57 rfl) (tgt := 124) (by decide) (fun _ => ?_) (fun _ => ?_)
          · refine z_sub [1, 2, 3, 4, 0] (lv' := [(0, .ref (B + p0)), (1, .int p1), (2, .int r30), (3, .int r36), (4, .int s0_61)]) rfl ?_
            exact hK124 h61
          · refine z_aload_n (pc := 94) C (zD D_L_isForetold_0 58 rfl) rfl 1 rfl ?_
            refine z_iload_n (pc := 95) C (zD D_L_isForetold_0 59 rfl) rfl 2 rfl ?_
            refine z_iconst (pc := 96) (v := 2) C (zD D_L_isForetold_1 0 rfl) (by decide) ?_
            refine z_sWI (pc := 97) (z' := (z00 Z)) (As := [.ref (B + p0), .int p1, .int (2 : Int32)]) C [] (c_L_companies' _ _ _ _ n p0 p1 (2 : Int32) h61) zn_L_companies (by decide) (by decide) hz0 q_448 q_449 q_98 q_450 rfl rfl rfl (zD D_L_isForetold_1 1 rfl) ⟨Nat.le_refl _, Nat.le_refl _, Nat.le_refl _⟩ (fun r97 h97 => ?_)
            refine z_bipush (pc := 100) (v := 20) C (zD D_L_isForetold_1 2 rfl) (by decide) ?_
            refine z_iconst (pc := 102) (v := 1) C (zD D_L_isForetold_1 3 rfl) (by decide) ?_
            refine z_aload_n (pc := 103) C (zD D_L_isForetold_1 4 rfl) rfl 1 rfl ?_
            refine z_iload_n (pc := 104) C (zD D_L_isForetold_1 5 rfl) rfl 4 rfl ?_
            refine z_bipush (pc := 105) (v := 10) C (zD D_L_isForetold_1 6 rfl) (by decide) ?_
            refine z_idivc (pc := 107) C (zD D_L_isForetold_1 7 rfl) (by decide) ?_
            refine z_iload_n (pc := 108) C (zD D_L_isForetold_1 8 rfl) rfl 4 rfl ?_
            refine z_bipush (pc := 109) (v := 10) C (zD D_L_isForetold_1 9 rfl) (by decide) ?_
            refine z_iremc (pc := 111) C (zD D_L_isForetold_1 10 rfl) (by decide) ?_
            refine z_sWR (pc := 112) (As := [.ref (B + p0), .int (r36 / (10 : Int32)), .int (zrem r36 (10 : Int32))]) C [.int (1 : Int32), .int (20 : Int32), .int r97] (c_L_tracks' _ _ _ _ n p0 (r36 / (10 : Int32)) (zrem r36 (10 : Int32)) h97) zn_L_tracks (by decide) (by decide) hz0 q_452 q_453 q_98 q_454 rfl rfl rfl (zD D_L_isForetold_1 11 rfl) (fun r112 => ?_)
            refine z_iadd (pc := 115) C (zD D_L_isForetold_1 12 rfl) ?_
            refine z_imul (pc := 116) C (zD D_L_isForetold_1 13 rfl) ?_
            refine z_icmp_lt (pc := 117) C (zD D_L_isForetold_1 14 rfl) (tgt := 124) (by decide) (fun _ => ?_) (fun _ => ?_)
            · refine z_sub [1, 2, 3, 4, 0] (lv' := [(0, .ref (B + p0)), (1, .int p1), (2, .int r30), (3, .int r36), (4, .int s0_61)]) rfl ?_
              exact hK124 h97
            · refine z_sub [1, 2, 3, 4, 0] (lv' := [(0, .ref (B + p0)), (1, .int p1), (2, .int r30), (3, .int r36), (4, .int s0_61)]) rfl ?_
              exact hK120 h97
    refine z_if_ge (pc := 41) C (zD D_L_isForetold_0 26 rfl) (tgt := 48) (by decide) (fun _ => ?_) (fun _ => ?_)
    · refine z_aload_n (pc := 48) C (zD D_L_isForetold_0 29 rfl) rfl 2 rfl ?_
      refine z_iload_n (pc := 49) C (zD D_L_isForetold_0 30 rfl) rfl 3 rfl ?_
      refine z_iload_n (pc := 50) C (zD D_L_isForetold_0 31 rfl) rfl 0 rfl ?_
      refine z_bipush (pc := 51) (v := 10) C (zD D_L_isForetold_0 32 rfl) (by decide) ?_
      refine z_idivc (pc := 53) C (zD D_L_isForetold_0 33 rfl) (by decide) ?_
      refine z_iload_n (pc := 54) C (zD D_L_isForetold_0 34 rfl) rfl 0 rfl ?_
      refine z_bipush (pc := 55) (v := 10) C (zD D_L_isForetold_0 35 rfl) (by decide) ?_
      refine z_iremc (pc := 57) C (zD D_L_isForetold_0 36 rfl) (by decide) ?_
      refine z_sWI (pc := 58) (z' := (z00 Z)) (As := [.ref (B + p0), .int p1, .int (r36 / (10 : Int32)), .int (zrem r36 (10 : Int32))]) C [] (c_L_withTrack' _ _ _ _ n p0 p1 (r36 / (10 : Int32)) (zrem r36 (10 : Int32)) h36) zn_L_withTrack (by decide) (by decide) hz0 q_475 q_476 q_98 q_477 rfl rfl rfl (zD D_L_isForetold_0 37 rfl) ⟨Nat.le_refl _, Nat.le_refl _, Nat.le_refl _⟩ (fun r58 h58 => ?_)
      refine z_sub [2, 3, 1, 0] (lv' := [(0, .ref (B + p0)), (1, .int p1), (2, .int r30), (3, .int r36)]) rfl ?_
      exact hK61 r58 h58
    · refine z_iconst (pc := 44) (v := 0) C (zD D_L_isForetold_0 27 rfl) (by decide) ?_
      refine z_goto (pc := 45) C (zD D_L_isForetold_0 28 rfl) (tgt := 61) (by decide) ?_
      refine z_sub [2, 3, 1, 0] (lv' := [(0, .ref (B + p0)), (1, .int p1), (2, .int r30), (3, .int r36)]) rfl ?_
      exact hK61 (0 : Int32) h36
  · refine z_aload_n (pc := 9) C (zD D_L_isForetold_0 5 rfl) rfl 0 rfl ?_
    refine z_iload_n (pc := 10) C (zD D_L_isForetold_0 6 rfl) rfl 1 rfl ?_
    refine z_iconst (pc := 11) (v := 0) C (zD D_L_isForetold_0 7 rfl) (by decide) ?_
    refine z_iconst (pc := 12) (v := 1) C (zD D_L_isForetold_0 8 rfl) (by decide) ?_
    refine z_sWI (pc := 13) (z' := (z00 Z)) (As := [.ref (B + p0), .int p1, .int (0 : Int32), .int (1 : Int32)]) C [] (c_L_withTrack' _ _ _ _ n p0 p1 (0 : Int32) (1 : Int32) h3) zn_L_withTrack (by decide) (by decide) hz0 q_475 q_476 q_98 q_477 rfl rfl rfl (zD D_L_isForetold_0 9 rfl) ⟨Nat.le_refl _, Nat.le_refl _, Nat.le_refl _⟩ (fun r13 h13 => ?_)
    refine z_iconst (pc := 16) (v := -1) C (zD D_L_isForetold_0 10 rfl) (by decide) ?_
    refine z_icmp_ne (pc := 17) C (zD D_L_isForetold_0 11 rfl) (tgt := 24) (by decide) (fun _ => ?_) (fun _ => ?_)
    · refine z_iconst (pc := 24) (v := 0) C (zD D_L_isForetold_0 14 rfl) (by decide) ?_
      exact z_zret (pc := 25) C hr (by decide) rfl (zD D_L_isForetold_0 15 rfl)
    · refine z_iconst (pc := 20) (v := 1) C (zD D_L_isForetold_0 12 rfl) (by decide) ?_
      refine z_goto (pc := 21) C (zD D_L_isForetold_0 13 rfl) (tgt := 25) (by decide) ?_
      exact z_zret (pc := 25) C hr (by decide) rfl (zD D_L_isForetold_0 15 rfl)
