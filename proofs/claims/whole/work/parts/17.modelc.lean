def f_X6_extend (n : Nat) (this : Nat) (h : zH) : Option (Int32 × zH) := zrc h this 6 <| (f_X6_next n this h).bind fun (r1 : Int32) => zlet (fun (s0_48 : Int32) => zrc h this 6 <| zb2 (f_X6_refused n this s0_48 h) fun (r48 : Int32) (h48 : zH) => if r48 = 0 then (zrc h48 this 6 <| (f_X6_saves n this h48).bind fun (h57 : zH) => zrc h57 this 6 <| (f_X6_earns n this r1 (-60 : Int32) h57).bind fun (h64 : zH) => (zgR h64 this 6 0).bind fun (v68 : Nat) => (zai h64 v68 (((34 : Int32) + ((7 : Int32) * r1)) + (4 : Int32))).bind fun (v81 : Int32) => (zsi h64 v68 (((34 : Int32) + ((7 : Int32) * r1)) + (4 : Int32)) (v81 + (1 : Int32))).bind fun (h84 : zH) => (zgR h84 this 6 0).bind fun (v86 : Nat) => (zsi h84 v86 (8 : Int32) (1 : Int32)).bind fun (h92 : zH) => zrc h92 this 6 <| (f_X6_of n this r1 (4 : Int32) h92).bind fun (r96 : Int32) => some (r96, h92)) else (some ((0 : Int32), h48))) fun K48 => zlet (K48 (1 : Int32)) fun K43 => if r1 = (-1 : Int32) then (K43) else (zrc h this 6 <| (f_X6_of n this r1 (4 : Int32) h).bind fun (r14 : Int32) => if r14 = (5 : Int32) then (K43) else ((zgR h this 6 0).bind fun (v22 : Nat) => (zai h v22 (8 : Int32)).bind fun (v27 : Int32) => if v27 = (1 : Int32) then (K43) else (zrc h this 6 <| (f_X6_of n this r1 (2 : Int32) h).bind fun (r35 : Int32) => if (60 : Int32) ≤ r35 then (K48 (0 : Int32)) else (K43))))
theorem zn_X6_extend : zNm yX6_extend 0 := ⟨by decide +kernel, by decide +kernel⟩
set_option maxRecDepth 100000 in
set_option maxHeartbeats 4000000 in
theorem c_X6_extend (l : Launch) (B : Nat) (D : va_G) (cA : Nat → ClassId) (n : Nat) (this : Nat) (h : zH) : ∀ u, f_X6_extend n this h = some u → zM l B D cA yX6_extend cX6_extend 2 (some .int) 3 0 0 none [.ref (B + this)] h ((fun u : Int32 × zH => (some (Value.int u.1), u.2)) u).1 ((fun u : Int32 × zH => (some (Value.int u.1), u.2)) u).2 := by
  unfold f_X6_extend
  refine z_met (own := RX6) (fun u : Int32 × zH => (some (Value.int u.1), u.2)) rfl (by decide) rfl (fun Z C hr _ _ => ?_)
  have hz0 : (z00 Z).1 ≤ 0 ∧ (z00 Z).2.1 ≤ 0 := ⟨Nat.le_refl 0, Nat.le_refl 0⟩
  refine z_aload_n (pc := 0) C (zD D_X6_extend_0 0 rfl) rfl 0 rfl ?_
  refine z_cvR (pc := 1) (As := []) C [] (c_X6_next _ _ _ _ n this h) zn_X6_next (by decide) (by decide) hz0 zc6 rfl q_481 q_482 q_483 q_5 q_484 rfl rfl rfl (zD D_X6_extend_0 1 rfl) (fun r1 => ?_)
  refine z_istore_n (pc := 4) (lv' := [(1, .int r1), (0, .ref (B + this))]) C (zD D_X6_extend_0 2 rfl) rfl (by decide) rfl ?_
  refine z_aload_n (pc := 5) C (zD D_X6_extend_0 3 rfl) rfl 1 rfl ?_
  refine z_iload_n (pc := 6) C (zD D_X6_extend_0 4 rfl) rfl 0 rfl ?_
  refine z_iconst (pc := 7) (v := -1) C (zD D_X6_extend_0 5 rfl) (by decide) ?_
  refine z_letg (fun K48 => ∀ (s0_48 : Int32), zJ B Z (zEnd B Z (fun u : Int32 × zH => (some (Value.int u.1), u.2)) 0 0) (K48 s0_48) 48 [(0, .ref (B + this)), (1, .int r1)] [.int s0_48, .ref (B + this)] h (z00 Z)) (fun s0_48 => ?_) (fun K48 hK48 => ?_)
  · refine z_cvI (pc := 48) (As := [.int s0_48]) C [] (c_X6_refused _ _ _ _ n this s0_48 h) zn_X6_refused (by decide) (by decide) hz0 zc6 rfl q_155 q_156 q_157 q_5 q_158 rfl rfl rfl (zD D_X6_extend_0 28 rfl) (fun r48 h48 => ?_)
    refine z_if_eq (pc := 51) C (zD D_X6_extend_0 29 rfl) (tgt := 56) (by decide) (fun _ => ?_) (fun _ => ?_)
    · refine z_aload_n (pc := 56) C (zD D_X6_extend_0 32 rfl) rfl 0 rfl ?_
      refine z_cvV (pc := 57) (As := []) C [] (c_X6_saves _ _ _ _ n this h48) zn_X6_saves (by decide) (by decide) hz0 zc6 rfl q_160 q_161 q_162 q_5 q_163 rfl rfl rfl (zD D_X6_extend_0 33 rfl) (fun h57 => ?_)
      refine z_aload_n (pc := 60) C (zD D_X6_extend_0 34 rfl) rfl 0 rfl ?_
      refine z_iload_n (pc := 61) C (zD D_X6_extend_0 35 rfl) rfl 1 rfl ?_
      refine z_bipush (pc := 62) (v := -60) C (zD D_X6_extend_0 36 rfl) (by decide) ?_
      refine z_cvV (pc := 64) (As := [.int r1, .int (-60 : Int32)]) C [] (c_X6_earns _ _ _ _ n this r1 (-60 : Int32) h57) zn_X6_earns (by decide) (by decide) hz0 zc6 rfl q_288 q_289 q_290 q_5 q_291 rfl rfl rfl (zD D_X6_extend_0 37 rfl) (fun h64 => ?_)
      refine z_aload_n (pc := 67) C (zD D_X6_extend_0 38 rfl) rfl 0 rfl ?_
      refine z_getR (pc := 68) C zc6 0 (by decide) q_102 (zD D_X6_extend_0 39 rfl) (fun v68 => ?_)
      refine z_bipush (pc := 71) (v := 34) C (zD D_X6_extend_0 40 rfl) (by decide) ?_
      refine z_bipush (pc := 73) (v := 7) C (zD D_X6_extend_0 41 rfl) (by decide) ?_
      refine z_iload_n (pc := 75) C (zD D_X6_extend_0 42 rfl) rfl 1 rfl ?_
      refine z_imul (pc := 76) C (zD D_X6_extend_0 43 rfl) ?_
      refine z_iadd (pc := 77) C (zD D_X6_extend_0 44 rfl) ?_
      refine z_iconst (pc := 78) (v := 4) C (zD D_X6_extend_0 45 rfl) (by decide) ?_
      refine z_iadd (pc := 79) C (zD D_X6_extend_0 46 rfl) ?_
      refine z_dup2 (pc := 80) C (zD D_X6_extend_0 47 rfl) rfl rfl ?_
      refine z_aiload (pc := 81) C (zD D_X6_extend_0 48 rfl) (fun v81 => ?_)
      refine z_iconst (pc := 82) (v := 1) C (zD D_X6_extend_0 49 rfl) (by decide) ?_
      refine z_iadd (pc := 83) C (zD D_X6_extend_0 50 rfl) ?_
      refine z_aistore (pc := 84) C (zD D_X6_extend_0 51 rfl) (fun h84 => ?_)
      refine z_aload_n (pc := 85) C (zD D_X6_extend_0 52 rfl) rfl 0 rfl ?_
      refine z_getR (pc := 86) C zc6 0 (by decide) q_102 (zD D_X6_extend_0 53 rfl) (fun v86 => ?_)
      refine z_bipush (pc := 89) (v := 8) C (zD D_X6_extend_0 54 rfl) (by decide) ?_
      refine z_iconst (pc := 91) (v := 1) C (zD D_X6_extend_0 55 rfl) (by decide) ?_
      refine z_aistore (pc := 92) C (zD D_X6_extend_0 56 rfl) (fun h92 => ?_)
      refine z_aload_n (pc := 93) C (zD D_X6_extend_0 57 rfl) rfl 0 rfl ?_
      refine z_iload_n (pc := 94) C (zD D_X6_extend_0 58 rfl) rfl 1 rfl ?_
      refine z_iconst (pc := 95) (v := 4) C (zD D_X6_extend_0 59 rfl) (by decide) ?_
      refine z_cvR (pc := 96) (As := [.int r1, .int (4 : Int32)]) C [] (c_X6_of _ _ _ _ n this r1 (4 : Int32) h92) zn_X6_of (by decide) (by decide) hz0 zc6 rfl q_260 q_261 q_262 q_5 q_263 rfl rfl rfl (zD D_X6_extend_1 0 rfl) (fun r96 => ?_)
      exact z_iret (pc := 99) C hr rfl (zD D_X6_extend_1 1 rfl)
    · refine z_iconst (pc := 54) (v := 0) C (zD D_X6_extend_0 30 rfl) (by decide) ?_
      exact z_iret (pc := 55) C hr rfl (zD D_X6_extend_0 31 rfl)
  refine z_letg (fun K43 => zJ B Z (zEnd B Z (fun u : Int32 × zH => (some (Value.int u.1), u.2)) 0 0) (K43) 43 [(0, .ref (B + this)), (1, .int r1)] [.ref (B + this)] h (z00 Z)) ?_ (fun K43 hK43 => ?_)
  · refine z_iconst (pc := 43) (v := 1) C (zD D_X6_extend_0 25 rfl) (by decide) ?_
    refine z_goto (pc := 44) C (zD D_X6_extend_0 26 rfl) (tgt := 48) (by decide) ?_
    exact hK48 (1 : Int32)
  refine z_icmp_eq (pc := 8) C (zD D_X6_extend_0 6 rfl) (tgt := 43) (by decide) (fun _ => ?_) (fun _ => ?_)
  · refine z_sub [1, 0] (lv' := [(0, .ref (B + this)), (1, .int r1)]) rfl ?_
    exact hK43
  · refine z_aload_n (pc := 11) C (zD D_X6_extend_0 7 rfl) rfl 1 rfl ?_
    refine z_iload_n (pc := 12) C (zD D_X6_extend_0 8 rfl) rfl 0 rfl ?_
    refine z_iconst (pc := 13) (v := 4) C (zD D_X6_extend_0 9 rfl) (by decide) ?_
    refine z_cvR (pc := 14) (As := [.int r1, .int (4 : Int32)]) C [.ref (B + this)] (c_X6_of _ _ _ _ n this r1 (4 : Int32) h) zn_X6_of (by decide) (by decide) hz0 zc6 rfl q_260 q_261 q_262 q_5 q_263 rfl rfl rfl (zD D_X6_extend_0 10 rfl) (fun r14 => ?_)
    refine z_iconst (pc := 17) (v := 5) C (zD D_X6_extend_0 11 rfl) (by decide) ?_
    refine z_icmp_eq (pc := 18) C (zD D_X6_extend_0 12 rfl) (tgt := 43) (by decide) (fun _ => ?_) (fun _ => ?_)
    · refine z_sub [1, 0] (lv' := [(0, .ref (B + this)), (1, .int r1)]) rfl ?_
      exact hK43
    · refine z_aload_n (pc := 21) C (zD D_X6_extend_0 13 rfl) rfl 1 rfl ?_
      refine z_getR (pc := 22) C zc6 0 (by decide) q_102 (zD D_X6_extend_0 14 rfl) (fun v22 => ?_)
      refine z_bipush (pc := 25) (v := 8) C (zD D_X6_extend_0 15 rfl) (by decide) ?_
      refine z_aiload (pc := 27) C (zD D_X6_extend_0 16 rfl) (fun v27 => ?_)
      refine z_iconst (pc := 28) (v := 1) C (zD D_X6_extend_0 17 rfl) (by decide) ?_
      refine z_icmp_eq (pc := 29) C (zD D_X6_extend_0 18 rfl) (tgt := 43) (by decide) (fun _ => ?_) (fun _ => ?_)
      · refine z_sub [1, 0] (lv' := [(0, .ref (B + this)), (1, .int r1)]) rfl ?_
        exact hK43
      · refine z_aload_n (pc := 32) C (zD D_X6_extend_0 19 rfl) rfl 1 rfl ?_
        refine z_iload_n (pc := 33) C (zD D_X6_extend_0 20 rfl) rfl 0 rfl ?_
        refine z_iconst (pc := 34) (v := 2) C (zD D_X6_extend_0 21 rfl) (by decide) ?_
        refine z_cvR (pc := 35) (As := [.int r1, .int (2 : Int32)]) C [.ref (B + this)] (c_X6_of _ _ _ _ n this r1 (2 : Int32) h) zn_X6_of (by decide) (by decide) hz0 zc6 rfl q_260 q_261 q_262 q_5 q_263 rfl rfl rfl (zD D_X6_extend_0 22 rfl) (fun r35 => ?_)
        refine z_bipush (pc := 38) (v := 60) C (zD D_X6_extend_0 23 rfl) (by decide) ?_
        refine z_icmp_ge (pc := 40) C (zD D_X6_extend_0 24 rfl) (tgt := 47) (by decide) (fun _ => ?_) (fun _ => ?_)
        · refine z_iconst (pc := 47) (v := 0) C (zD D_X6_extend_0 27 rfl) (by decide) ?_
          refine z_sub [1, 0] (lv' := [(0, .ref (B + this)), (1, .int r1)]) rfl ?_
          exact hK48 (0 : Int32)
        · refine z_sub [1, 0] (lv' := [(0, .ref (B + this)), (1, .int r1)]) rfl ?_
          exact hK43
def f_X6_findsRoute (n : Nat) (this : Nat) (p0 : Int32) (h : zH) : Option (zH) := zrc h this 6 <| (f_X6_of n this p0 (1 : Int32) h).bind fun (r3 : Int32) => (zgR h this 6 6).bind fun (v10 : Nat) => (zsi h v10 (0 : Int32) (-1 : Int32)).bind fun (h15 : zH) => (zp h15 this 6 10 (.int (0 : Int32))).bind fun (h18 : zH) => (zp h18 this 6 11 (.int (0 : Int32))).bind fun (h23 : zH) => zfix2 (fun rec26 (a3_26 : Int32) (h26 : zH) => if a3_26 < 0 then (some h26) else ((zgR h26 this 6 6).bind fun (v31 : Nat) => (zai h26 v31 a3_26).bind fun (v36 : Int32) => (zsi h26 v31 a3_26 (v36 + (1 : Int32))).bind fun (h39 : zH) => (zgR h39 this 6 6).bind fun (v41 : Nat) => (zai h39 v41 a3_26).bind fun (v45 : Int32) => zlet (fun (s0_97 : Int32) => zlet (fun (h153 : zH) => zlet (fun (a3_180 : Int32) (h180 : zH) => zfix1 (fun rec180 (a3_180_1 : Int32) => zlet (rec26 a3_180_1 h180) fun K201 => if a3_180_1 < 0 then (K201) else ((zgR h180 this 6 6).bind fun (v185 : Nat) => (zai h180 v185 a3_180_1).bind fun (v189 : Int32) => if v189 < (8 : Int32) then (K201) else (zlet (a3_180_1 + (-1)) fun (x195 : Int32) => rec180 x195))) n a3_180) fun K180 => if s0_97 = 0 then (K180 a3_26 h153) else (zrc h153 this 6 <| (f_X6_of n this p0 (4 : Int32) h153).bind fun (r164 : Int32) => if r164 ≤ (a3_26 + (1 : Int32)) then (K180 a3_26 h153) else (zlet (a3_26 + 1) fun (x170 : Int32) => (zgR h153 this 6 6).bind fun (v174 : Nat) => (zsi h153 v174 x170 (-1 : Int32)).bind fun (h179 : zH) => K180 x170 h179))) fun K153 => if s0_97 = 0 then (K153 h39) else (zrc h39 this 6 <| (f_X6_comes n this a3_26 v45 h39).bind fun (h108 : zH) => if a3_26 ≤ 0 then (K153 h108) else ((zgR h108 this 6 8).bind fun (v116 : Nat) => (zai h108 v116 a3_26).bind fun (v120 : Int32) => (f_X6_has n v120 r3 h108).bind fun (r122 : Int32) => if r122 = 0 then (K153 h108) else ((zgI h108 this 6 10).bind fun (v129 : Int32) => zlet (zrc h108 this 6 <| (f_X6_keepsBest n this a3_26 h108).bind fun (h150 : zH) => K153 h150) fun K148 => if v129 = 0 then (K148) else ((zgR h108 this 6 7).bind fun (v136 : Nat) => (zai h108 v136 a3_26).bind fun (v140 : Int32) => (zgI h108 this 6 11).bind fun (v142 : Int32) => if v140 ≤ v142 then (K153 h108) else (K148)))))) fun K97 => zlet (K97 (0 : Int32)) fun K96 => if (8 : Int32) ≤ v45 then (K96) else (zlet (K97 (1 : Int32)) fun K92 => if a3_26 = 0 then (K92) else ((zgR h39 this 6 8).bind fun (v60 : Nat) => (zai h39 v60 (a3_26 - (1 : Int32))).bind fun (v66 : Int32) => (f_X6_has n v66 v45 h39).bind fun (r69 : Int32) => if r69 = 0 then ((zgR h39 this 6 6).bind fun (v77 : Nat) => (zai h39 v77 (a3_26 - (1 : Int32))).bind fun (v83 : Int32) => zrc h39 this 6 <| (f_X6_level n this v83 v45 h39).bind fun (r86 : Int32) => if r86 ≤ 0 then (K96) else (K92)) else (K96))))) n (0 : Int32) h23
theorem zn_X6_findsRoute : zNm yX6_findsRoute 1 := ⟨by decide +kernel, by decide +kernel⟩
set_option maxRecDepth 100000 in
set_option maxHeartbeats 4000000 in
theorem c_X6_findsRoute (l : Launch) (B : Nat) (D : va_G) (cA : Nat → ClassId) (n : Nat) (this : Nat) (p0 : Int32) (h : zH) : ∀ u, f_X6_findsRoute n this p0 h = some u → zM l B D cA yX6_findsRoute cX6_findsRoute 6 none 3 0 0 none [.ref (B + this), .int p0] h ((fun h1 : zH => ((none : Option Value), h1)) u).1 ((fun h1 : zH => ((none : Option Value), h1)) u).2 := by
  unfold f_X6_findsRoute
  refine z_met (own := RX6) (fun h1 : zH => ((none : Option Value), h1)) rfl (by decide) rfl (fun Z C hr _ _ => ?_)
  have hz0 : (z00 Z).1 ≤ 0 ∧ (z00 Z).2.1 ≤ 0 := ⟨Nat.le_refl 0, Nat.le_refl 0⟩
  refine z_aload_n (pc := 0) C (zD D_X6_findsRoute_0 0 rfl) rfl 0 rfl ?_
  refine z_iload_n (pc := 1) C (zD D_X6_findsRoute_0 1 rfl) rfl 1 rfl ?_
  refine z_iconst (pc := 2) (v := 1) C (zD D_X6_findsRoute_0 2 rfl) (by decide) ?_
  refine z_cvR (pc := 3) (As := [.int p0, .int (1 : Int32)]) C [] (c_X6_of _ _ _ _ n this p0 (1 : Int32) h) zn_X6_of (by decide) (by decide) hz0 zc6 rfl q_260 q_261 q_262 q_5 q_263 rfl rfl rfl (zD D_X6_findsRoute_0 3 rfl) (fun r3 => ?_)
  refine z_istore_n (pc := 6) (lv' := [(2, .int r3), (0, .ref (B + this)), (1, .int p0)]) C (zD D_X6_findsRoute_0 4 rfl) rfl (by decide) rfl ?_
  refine z_iconst (pc := 7) (v := 0) C (zD D_X6_findsRoute_0 5 rfl) (by decide) ?_
  refine z_istore_n (pc := 8) (lv' := [(3, .int (0 : Int32)), (2, .int r3), (0, .ref (B + this)), (1, .int p0)]) C (zD D_X6_findsRoute_0 6 rfl) rfl (by decide) rfl ?_
  refine z_aload_n (pc := 9) C (zD D_X6_findsRoute_0 7 rfl) rfl 2 rfl ?_
  refine z_getR (pc := 10) C zc6 6 (by decide) q_105 (zD D_X6_findsRoute_0 8 rfl) (fun v10 => ?_)
  refine z_iconst (pc := 13) (v := 0) C (zD D_X6_findsRoute_0 9 rfl) (by decide) ?_
  refine z_iconst (pc := 14) (v := -1) C (zD D_X6_findsRoute_0 10 rfl) (by decide) ?_
  refine z_aistore (pc := 15) C (zD D_X6_findsRoute_0 11 rfl) (fun h15 => ?_)
  refine z_aload_n (pc := 16) C (zD D_X6_findsRoute_0 12 rfl) rfl 2 rfl ?_
  refine z_iconst (pc := 17) (v := 0) C (zD D_X6_findsRoute_0 13 rfl) (by decide) ?_
  refine z_putI (pc := 18) C zc6 10 (by decide) q_621 rfl rfl (zD D_X6_findsRoute_0 14 rfl) (fun h18 => ?_)
  refine z_aload_n (pc := 21) C (zD D_X6_findsRoute_0 15 rfl) rfl 2 rfl ?_
  refine z_iconst (pc := 22) (v := 0) C (zD D_X6_findsRoute_0 16 rfl) (by decide) ?_
  refine z_putI (pc := 23) C zc6 11 (by decide) q_616 rfl rfl (zD D_X6_findsRoute_0 17 rfl) (fun h23 => ?_)
  refine z_sub [2, 3, 1, 0] (lv' := [(0, .ref (B + this)), (1, .int p0), (2, .int r3), (3, .int (0 : Int32))]) rfl ?_
  refine z_fix2 (fun g26 => ∀ (a3_26 : Int32) (h26 : zH), zJ B Z (zEnd B Z (fun h1 : zH => ((none : Option Value), h1)) 0 0) (g26 a3_26 h26) 26 [(0, .ref (B + this)), (1, .int p0), (2, .int r3), (3, .int a3_26)] [] h26 (z00 Z)) (fun _ _ => z_none) (fun rec26 hrec26 a3_26 h26 => ?_) n (0 : Int32) h23
  refine z_iload_n (pc := 26) C (zD D_X6_findsRoute_0 18 rfl) rfl 3 rfl ?_
  refine z_if_lt (pc := 27) C (zD D_X6_findsRoute_0 19 rfl) (tgt := 204) (by decide) (fun _ => ?_) (fun _ => ?_)
  · exact z_vret (pc := 204) C hr rfl (zD D_X6_findsRoute_1 56 rfl)
  · refine z_aload_n (pc := 30) C (zD D_X6_findsRoute_0 20 rfl) rfl 0 rfl ?_
    refine z_getR (pc := 31) C zc6 6 (by decide) q_105 (zD D_X6_findsRoute_0 21 rfl) (fun v31 => ?_)
    refine z_iload_n (pc := 34) C (zD D_X6_findsRoute_0 22 rfl) rfl 3 rfl ?_
    refine z_dup2 (pc := 35) C (zD D_X6_findsRoute_0 23 rfl) rfl rfl ?_
    refine z_aiload (pc := 36) C (zD D_X6_findsRoute_0 24 rfl) (fun v36 => ?_)
    refine z_iconst (pc := 37) (v := 1) C (zD D_X6_findsRoute_0 25 rfl) (by decide) ?_
    refine z_iadd (pc := 38) C (zD D_X6_findsRoute_0 26 rfl) ?_
    refine z_aistore (pc := 39) C (zD D_X6_findsRoute_0 27 rfl) (fun h39 => ?_)
    refine z_aload_n (pc := 40) C (zD D_X6_findsRoute_0 28 rfl) rfl 0 rfl ?_
    refine z_getR (pc := 41) C zc6 6 (by decide) q_105 (zD D_X6_findsRoute_0 29 rfl) (fun v41 => ?_)
    refine z_iload_n (pc := 44) C (zD D_X6_findsRoute_0 30 rfl) rfl 3 rfl ?_
    refine z_aiload (pc := 45) C (zD D_X6_findsRoute_0 31 rfl) (fun v45 => ?_)
    refine z_istore (pc := 46) (lv' := [(4, .int v45), (0, .ref (B + this)), (1, .int p0), (2, .int r3), (3, .int a3_26)]) C (zD D_X6_findsRoute_0 32 rfl) (by decide) rfl ?_
    refine z_iload (pc := 48) C (zD D_X6_findsRoute_0 33 rfl) 0 rfl ?_
    refine z_bipush (pc := 50) (v := 8) C (zD D_X6_findsRoute_0 34 rfl) (by decide) ?_
    refine z_letg (fun K97 => ∀ (s0_97 : Int32), zJ B Z (zEnd B Z (fun h1 : zH => ((none : Option Value), h1)) 0 0) (K97 s0_97) 97 [(0, .ref (B + this)), (1, .int p0), (2, .int r3), (3, .int a3_26), (4, .int v45)] [.int s0_97] h39 (z00 Z)) (fun s0_97 => ?_) (fun K97 hK97 => ?_)
    · refine z_istore (pc := 97) (lv' := [(5, .int s0_97), (0, .ref (B + this)), (1, .int p0), (2, .int r3), (3, .int a3_26), (4, .int v45)]) C (zD D_X6_findsRoute_1 0 rfl) (by decide) rfl ?_
      refine z_iload (pc := 99) C (zD D_X6_findsRoute_1 1 rfl) 0 rfl ?_
      refine z_letg (fun K153 => ∀ (h153 : zH), zJ B Z (zEnd B Z (fun h1 : zH => ((none : Option Value), h1)) 0 0) (K153 h153) 153 [(0, .ref (B + this)), (1, .int p0), (2, .int r3), (3, .int a3_26), (5, .int s0_97)] [] h153 (z00 Z)) (fun h153 => ?_) (fun K153 hK153 => ?_)
      · refine z_iload (pc := 153) C (zD D_X6_findsRoute_1 29 rfl) 4 rfl ?_
        refine z_letg (fun K180 => ∀ (a3_180 : Int32) (h180 : zH), zJ B Z (zEnd B Z (fun h1 : zH => ((none : Option Value), h1)) 0 0) (K180 a3_180 h180) 180 [(0, .ref (B + this)), (1, .int p0), (2, .int r3), (3, .int a3_180)] [] h180 (z00 Z)) (fun a3_180 h180 => ?_) (fun K180 hK180 => ?_)
        · refine z_fix1 (fun g180 => ∀ (a3_180_1 : Int32), zJ B Z (zEnd B Z (fun h1 : zH => ((none : Option Value), h1)) 0 0) (g180 a3_180_1) 180 [(0, .ref (B + this)), (1, .int p0), (2, .int r3), (3, .int a3_180_1)] [] h180 (z00 Z)) (fun _ => z_none) (fun rec180 hrec180 a3_180_1 => ?_) n a3_180
          refine z_iload_n (pc := 180) C (zD D_X6_findsRoute_1 45 rfl) rfl 3 rfl ?_
          refine z_letg (fun K201 => zJ B Z (zEnd B Z (fun h1 : zH => ((none : Option Value), h1)) 0 0) (K201) 201 [(0, .ref (B + this)), (1, .int p0), (2, .int r3), (3, .int a3_180_1)] [] h180 (z00 Z)) ?_ (fun K201 hK201 => ?_)
          · refine z_goto (pc := 201) C (zD D_X6_findsRoute_1 55 rfl) (tgt := 26) (by decide) ?_
            exact hrec26 a3_180_1 h180
          refine z_if_lt (pc := 181) C (zD D_X6_findsRoute_1 46 rfl) (tgt := 201) (by decide) (fun _ => ?_) (fun _ => ?_)
          · exact hK201
          · refine z_aload_n (pc := 184) C (zD D_X6_findsRoute_1 47 rfl) rfl 0 rfl ?_
            refine z_getR (pc := 185) C zc6 6 (by decide) q_105 (zD D_X6_findsRoute_1 48 rfl) (fun v185 => ?_)
            refine z_iload_n (pc := 188) C (zD D_X6_findsRoute_1 49 rfl) rfl 3 rfl ?_
            refine z_aiload (pc := 189) C (zD D_X6_findsRoute_1 50 rfl) (fun v189 => ?_)
            refine z_bipush (pc := 190) (v := 8) C (zD D_X6_findsRoute_1 51 rfl) (by decide) ?_
            refine z_icmp_lt (pc := 192) C (zD D_X6_findsRoute_1 52 rfl) (tgt := 201) (by decide) (fun _ => ?_) (fun _ => ?_)
            · exact hK201
            · refine z_iincL (pc := 195) (lv' := fun x195 => [(3, .int x195), (0, .ref (B + this)), (1, .int p0), (2, .int r3)]) C (zD D_X6_findsRoute_1 53 rfl) 3 rfl (v := a3_180_1 + (-1)) rfl (by decide) (fun _ => rfl) (fun x195 => ?_)
              refine z_goto (pc := 198) C (zD D_X6_findsRoute_1 54 rfl) (tgt := 180) (by decide) ?_
              refine z_sub [1, 2, 3, 0] (lv' := [(0, .ref (B + this)), (1, .int p0), (2, .int r3), (3, .int x195)]) rfl ?_
              exact hrec180 x195
        refine z_if_eq (pc := 155) C (zD D_X6_findsRoute_1 30 rfl) (tgt := 180) (by decide) (fun _ => ?_) (fun _ => ?_)
        · refine z_sub [0, 1, 2, 3] (lv' := [(0, .ref (B + this)), (1, .int p0), (2, .int r3), (3, .int a3_26)]) rfl ?_
          exact hK180 a3_26 h153
        · refine z_iload_n (pc := 158) C (zD D_X6_findsRoute_1 31 rfl) rfl 3 rfl ?_
          refine z_iconst (pc := 159) (v := 1) C (zD D_X6_findsRoute_1 32 rfl) (by decide) ?_
          refine z_iadd (pc := 160) C (zD D_X6_findsRoute_1 33 rfl) ?_
          refine z_aload_n (pc := 161) C (zD D_X6_findsRoute_1 34 rfl) rfl 0 rfl ?_
          refine z_iload_n (pc := 162) C (zD D_X6_findsRoute_1 35 rfl) rfl 1 rfl ?_
          refine z_iconst (pc := 163) (v := 4) C (zD D_X6_findsRoute_1 36 rfl) (by decide) ?_
          refine z_cvR (pc := 164) (As := [.int p0, .int (4 : Int32)]) C [.int (a3_26 + (1 : Int32))] (c_X6_of _ _ _ _ n this p0 (4 : Int32) h153) zn_X6_of (by decide) (by decide) hz0 zc6 rfl q_260 q_261 q_262 q_5 q_263 rfl rfl rfl (zD D_X6_findsRoute_1 37 rfl) (fun r164 => ?_)
          refine z_icmp_ge (pc := 167) C (zD D_X6_findsRoute_1 38 rfl) (tgt := 180) (by decide) (fun _ => ?_) (fun _ => ?_)
          · refine z_sub [0, 1, 2, 3] (lv' := [(0, .ref (B + this)), (1, .int p0), (2, .int r3), (3, .int a3_26)]) rfl ?_
            exact hK180 a3_26 h153
          · refine z_iincL (pc := 170) (lv' := fun x170 => [(3, .int x170), (0, .ref (B + this)), (1, .int p0), (2, .int r3), (5, .int s0_97)]) C (zD D_X6_findsRoute_1 39 rfl) 3 rfl (v := a3_26 + 1) rfl (by decide) (fun _ => rfl) (fun x170 => ?_)
            refine z_aload_n (pc := 173) C (zD D_X6_findsRoute_1 40 rfl) rfl 1 rfl ?_
            refine z_getR (pc := 174) C zc6 6 (by decide) q_105 (zD D_X6_findsRoute_1 41 rfl) (fun v174 => ?_)
            refine z_iload_n (pc := 177) C (zD D_X6_findsRoute_1 42 rfl) rfl 0 rfl ?_
            refine z_iconst (pc := 178) (v := -1) C (zD D_X6_findsRoute_1 43 rfl) (by decide) ?_
            refine z_aistore (pc := 179) C (zD D_X6_findsRoute_1 44 rfl) (fun h179 => ?_)
            refine z_sub [1, 2, 3, 0] (lv' := [(0, .ref (B + this)), (1, .int p0), (2, .int r3), (3, .int x170)]) rfl ?_
            exact hK180 x170 h179
      refine z_if_eq (pc := 101) C (zD D_X6_findsRoute_1 2 rfl) (tgt := 153) (by decide) (fun _ => ?_) (fun _ => ?_)
      · refine z_sub [1, 2, 3, 4, 0] (lv' := [(0, .ref (B + this)), (1, .int p0), (2, .int r3), (3, .int a3_26), (5, .int s0_97)]) rfl ?_
        exact hK153 h39
      · refine z_aload_n (pc := 104) C (zD D_X6_findsRoute_1 3 rfl) rfl 1 rfl ?_
        refine z_iload_n (pc := 105) C (zD D_X6_findsRoute_1 4 rfl) rfl 4 rfl ?_
        refine z_iload (pc := 106) C (zD D_X6_findsRoute_1 5 rfl) 5 rfl ?_
        refine z_cvV (pc := 108) (As := [.int a3_26, .int v45]) C [] (c_X6_comes _ _ _ _ n this a3_26 v45 h39) zn_X6_comes (by decide) (by decide) hz0 zc6 rfl q_622 q_623 q_624 q_5 q_625 rfl rfl rfl (zD D_X6_findsRoute_1 6 rfl) (fun h108 => ?_)
        refine z_iload_n (pc := 111) C (zD D_X6_findsRoute_1 7 rfl) rfl 4 rfl ?_
        refine z_if_le (pc := 112) C (zD D_X6_findsRoute_1 8 rfl) (tgt := 153) (by decide) (fun _ => ?_) (fun _ => ?_)
        · refine z_sub [1, 2, 3, 4, 0] (lv' := [(0, .ref (B + this)), (1, .int p0), (2, .int r3), (3, .int a3_26), (5, .int s0_97)]) rfl ?_
          exact hK153 h108
        · refine z_aload_n (pc := 115) C (zD D_X6_findsRoute_1 9 rfl) rfl 1 rfl ?_
          refine z_getR (pc := 116) C zc6 8 (by decide) q_107 (zD D_X6_findsRoute_1 10 rfl) (fun v116 => ?_)
          refine z_iload_n (pc := 119) C (zD D_X6_findsRoute_1 11 rfl) rfl 4 rfl ?_
          refine z_aiload (pc := 120) C (zD D_X6_findsRoute_1 12 rfl) (fun v120 => ?_)
          refine z_iload_n (pc := 121) C (zD D_X6_findsRoute_1 13 rfl) rfl 3 rfl ?_
          refine z_csR (pc := 122) (As := [.int v120, .int r3]) C [] (c_X6_has _ _ _ _ n v120 r3 h108) zn_X6_has (by decide) (by decide) hz0 q_597 q_598 q_5 q_599 rfl rfl rfl (zD D_X6_findsRoute_1 14 rfl) (fun r122 => ?_)
          refine z_if_eq (pc := 125) C (zD D_X6_findsRoute_1 15 rfl) (tgt := 153) (by decide) (fun _ => ?_) (fun _ => ?_)
          · refine z_sub [1, 2, 3, 4, 0] (lv' := [(0, .ref (B + this)), (1, .int p0), (2, .int r3), (3, .int a3_26), (5, .int s0_97)]) rfl ?_
            exact hK153 h108
          · refine z_aload_n (pc := 128) C (zD D_X6_findsRoute_1 16 rfl) rfl 1 rfl ?_
            refine z_getI (pc := 129) C zc6 10 (by decide) q_621 (zD D_X6_findsRoute_1 17 rfl) (fun v129 => ?_)
            refine z_letg (fun K148 => zJ B Z (zEnd B Z (fun h1 : zH => ((none : Option Value), h1)) 0 0) (K148) 148 [(0, .ref (B + this)), (1, .int p0), (2, .int r3), (3, .int a3_26), (5, .int s0_97)] [] h108 (z00 Z)) ?_ (fun K148 hK148 => ?_)
            · refine z_aload_n (pc := 148) C (zD D_X6_findsRoute_1 26 rfl) rfl 0 rfl ?_
              refine z_iload_n (pc := 149) C (zD D_X6_findsRoute_1 27 rfl) rfl 3 rfl ?_
              refine z_cvV (pc := 150) (As := [.int a3_26]) C [] (c_X6_keepsBest _ _ _ _ n this a3_26 h108) zn_X6_keepsBest (by decide) (by decide) hz0 zc6 rfl q_626 q_627 q_628 q_5 q_629 rfl rfl rfl (zD D_X6_findsRoute_1 28 rfl) (fun h150 => ?_)
              exact hK153 h150
            refine z_if_eq (pc := 132) C (zD D_X6_findsRoute_1 18 rfl) (tgt := 148) (by decide) (fun _ => ?_) (fun _ => ?_)
            · refine z_sub [1, 2, 3, 4, 0] (lv' := [(0, .ref (B + this)), (1, .int p0), (2, .int r3), (3, .int a3_26), (5, .int s0_97)]) rfl ?_
              exact hK148
            · refine z_aload_n (pc := 135) C (zD D_X6_findsRoute_1 19 rfl) rfl 1 rfl ?_
              refine z_getR (pc := 136) C zc6 7 (by decide) q_106 (zD D_X6_findsRoute_1 20 rfl) (fun v136 => ?_)
              refine z_iload_n (pc := 139) C (zD D_X6_findsRoute_1 21 rfl) rfl 4 rfl ?_
              refine z_aiload (pc := 140) C (zD D_X6_findsRoute_1 22 rfl) (fun v140 => ?_)
              refine z_aload_n (pc := 141) C (zD D_X6_findsRoute_1 23 rfl) rfl 1 rfl ?_
              refine z_getI (pc := 142) C zc6 11 (by decide) q_616 (zD D_X6_findsRoute_1 24 rfl) (fun v142 => ?_)
              refine z_icmp_le (pc := 145) C (zD D_X6_findsRoute_1 25 rfl) (tgt := 153) (by decide) (fun _ => ?_) (fun _ => ?_)
              · refine z_sub [1, 2, 3, 4, 0] (lv' := [(0, .ref (B + this)), (1, .int p0), (2, .int r3), (3, .int a3_26), (5, .int s0_97)]) rfl ?_
                exact hK153 h108
              · refine z_sub [1, 2, 3, 4, 0] (lv' := [(0, .ref (B + this)), (1, .int p0), (2, .int r3), (3, .int a3_26), (5, .int s0_97)]) rfl ?_
                exact hK148
    refine z_letg (fun K96 => zJ B Z (zEnd B Z (fun h1 : zH => ((none : Option Value), h1)) 0 0) (K96) 96 [(0, .ref (B + this)), (1, .int p0), (2, .int r3), (3, .int a3_26), (4, .int v45)] [] h39 (z00 Z)) ?_ (fun K96 hK96 => ?_)
    · refine z_iconst (pc := 96) (v := 0) C (zD D_X6_findsRoute_0 59 rfl) (by decide) ?_
      exact hK97 (0 : Int32)
    refine z_icmp_ge (pc := 52) C (zD D_X6_findsRoute_0 35 rfl) (tgt := 96) (by decide) (fun _ => ?_) (fun _ => ?_)
    · refine z_sub [1, 2, 3, 4, 0] (lv' := [(0, .ref (B + this)), (1, .int p0), (2, .int r3), (3, .int a3_26), (4, .int v45)]) rfl ?_
      exact hK96
    · refine z_iload_n (pc := 55) C (zD D_X6_findsRoute_0 36 rfl) rfl 4 rfl ?_
      refine z_letg (fun K92 => zJ B Z (zEnd B Z (fun h1 : zH => ((none : Option Value), h1)) 0 0) (K92) 92 [(0, .ref (B + this)), (1, .int p0), (2, .int r3), (3, .int a3_26), (4, .int v45)] [] h39 (z00 Z)) ?_ (fun K92 hK92 => ?_)
      · refine z_iconst (pc := 92) (v := 1) C (zD D_X6_findsRoute_0 57 rfl) (by decide) ?_
        refine z_goto (pc := 93) C (zD D_X6_findsRoute_0 58 rfl) (tgt := 97) (by decide) ?_
        exact hK97 (1 : Int32)
      refine z_if_eq (pc := 56) C (zD D_X6_findsRoute_0 37 rfl) (tgt := 92) (by decide) (fun _ => ?_) (fun _ => ?_)
      · refine z_sub [1, 2, 3, 4, 0] (lv' := [(0, .ref (B + this)), (1, .int p0), (2, .int r3), (3, .int a3_26), (4, .int v45)]) rfl ?_
        exact hK92
      · refine z_aload_n (pc := 59) C (zD D_X6_findsRoute_0 38 rfl) rfl 1 rfl ?_
        refine z_getR (pc := 60) C zc6 8 (by decide) q_107 (zD D_X6_findsRoute_0 39 rfl) (fun v60 => ?_)
        refine z_iload_n (pc := 63) C (zD D_X6_findsRoute_0 40 rfl) rfl 4 rfl ?_
        refine z_iconst (pc := 64) (v := 1) C (zD D_X6_findsRoute_0 41 rfl) (by decide) ?_
        refine z_isub (pc := 65) C (zD D_X6_findsRoute_0 42 rfl) ?_
        refine z_aiload (pc := 66) C (zD D_X6_findsRoute_0 43 rfl) (fun v66 => ?_)
        refine z_iload (pc := 67) C (zD D_X6_findsRoute_0 44 rfl) 0 rfl ?_
        refine z_csR (pc := 69) (As := [.int v66, .int v45]) C [] (c_X6_has _ _ _ _ n v66 v45 h39) zn_X6_has (by decide) (by decide) hz0 q_597 q_598 q_5 q_599 rfl rfl rfl (zD D_X6_findsRoute_0 45 rfl) (fun r69 => ?_)
        refine z_if_ne (pc := 72) C (zD D_X6_findsRoute_0 46 rfl) (tgt := 96) (by decide) (fun _ => ?_) (fun _ => ?_)
        · refine z_sub [1, 2, 3, 4, 0] (lv' := [(0, .ref (B + this)), (1, .int p0), (2, .int r3), (3, .int a3_26), (4, .int v45)]) rfl ?_
          exact hK96
        · refine z_aload_n (pc := 75) C (zD D_X6_findsRoute_0 47 rfl) rfl 1 rfl ?_
          refine z_aload_n (pc := 76) C (zD D_X6_findsRoute_0 48 rfl) rfl 1 rfl ?_
          refine z_getR (pc := 77) C zc6 6 (by decide) q_105 (zD D_X6_findsRoute_0 49 rfl) (fun v77 => ?_)
          refine z_iload_n (pc := 80) C (zD D_X6_findsRoute_0 50 rfl) rfl 4 rfl ?_
          refine z_iconst (pc := 81) (v := 1) C (zD D_X6_findsRoute_0 51 rfl) (by decide) ?_
          refine z_isub (pc := 82) C (zD D_X6_findsRoute_0 52 rfl) ?_
          refine z_aiload (pc := 83) C (zD D_X6_findsRoute_0 53 rfl) (fun v83 => ?_)
          refine z_iload (pc := 84) C (zD D_X6_findsRoute_0 54 rfl) 0 rfl ?_
          refine z_cvR (pc := 86) (As := [.int v83, .int v45]) C [] (c_X6_level _ _ _ _ n this v83 v45 h39) zn_X6_level (by decide) (by decide) hz0 zc6 rfl q_600 q_601 q_602 q_5 q_603 rfl rfl rfl (zD D_X6_findsRoute_0 55 rfl) (fun r86 => ?_)
          refine z_if_le (pc := 89) C (zD D_X6_findsRoute_0 56 rfl) (tgt := 96) (by decide) (fun _ => ?_) (fun _ => ?_)
          · refine z_sub [1, 2, 3, 4, 0] (lv' := [(0, .ref (B + this)), (1, .int p0), (2, .int r3), (3, .int a3_26), (4, .int v45)]) rfl ?_
            exact hK96
          · refine z_sub [1, 2, 3, 4, 0] (lv' := [(0, .ref (B + this)), (1, .int p0), (2, .int r3), (3, .int a3_26), (4, .int v45)]) rfl ?_
            exact hK92
def f_X6_goesOn (n : Nat) (this : Nat) (h : zH) : Option (zH) := (zgR h this 6 0).bind fun (v1 : Nat) => (zsi h v1 (8 : Int32) (0 : Int32)).bind fun (h7 : zH) => zfix1 (fun rec8 (h8 : zH) => (zgR h8 this 6 0).bind fun (v9 : Nat) => (zai h8 v9 (4 : Int32)).bind fun (v13 : Int32) => (zgR h8 this 6 0).bind fun (v15 : Nat) => (zai h8 v15 (9 : Int32)).bind fun (v20 : Int32) => zlet ((zgR h8 this 6 0).bind fun (v59 : Nat) => (zai h8 v59 (4 : Int32)).bind fun (v63 : Int32) => (zgR h8 this 6 0).bind fun (v65 : Nat) => (zai h8 v65 (9 : Int32)).bind fun (v70 : Int32) => if v63 = v70 then ((zgR h8 this 6 0).bind fun (v75 : Nat) => (zsi h8 v75 (3 : Int32) (0 : Int32)).bind fun (h80 : zH) => (zgR h80 this 6 0).bind fun (v82 : Nat) => (zsi h80 v82 (2 : Int32) (0 : Int32)).bind fun (h87 : zH) => (zgR h87 this 6 0).bind fun (v89 : Nat) => (zai h87 v89 (5 : Int32)).bind fun (v94 : Int32) => (zsi h87 v89 (5 : Int32) (v94 + (1 : Int32))).bind fun (h97 : zH) => some h97) else (some h8)) fun K58 => if v20 ≤ v13 then (K58) else ((zgR h8 this 6 0).bind fun (v26 : Nat) => (zgR h8 this 6 0).bind fun (v32 : Nat) => (zai h8 v32 (4 : Int32)).bind fun (v36 : Int32) => (zai h8 v26 ((10 : Int32) + v36)).bind fun (v38 : Int32) => zrc h8 this 6 <| (f_X6_isOpen n this v38 h8).bind fun (r39 : Int32) => if r39 = 0 then ((zgR h8 this 6 0).bind fun (v46 : Nat) => (zai h8 v46 (4 : Int32)).bind fun (v51 : Int32) => (zsi h8 v46 (4 : Int32) (v51 + (1 : Int32))).bind fun (h54 : zH) => rec8 h54) else (K58))) n h7
theorem zn_X6_goesOn : zNm yX6_goesOn 0 := ⟨by decide +kernel, by decide +kernel⟩
set_option maxRecDepth 100000 in
set_option maxHeartbeats 4000000 in
theorem c_X6_goesOn (l : Launch) (B : Nat) (D : va_G) (cA : Nat → ClassId) (n : Nat) (this : Nat) (h : zH) : ∀ u, f_X6_goesOn n this h = some u → zM l B D cA yX6_goesOn cX6_goesOn 1 none 3 0 0 none [.ref (B + this)] h ((fun h1 : zH => ((none : Option Value), h1)) u).1 ((fun h1 : zH => ((none : Option Value), h1)) u).2 := by
  unfold f_X6_goesOn
  refine z_met (own := RX6) (fun h1 : zH => ((none : Option Value), h1)) rfl (by decide) rfl (fun Z C hr _ _ => ?_)
  have hz0 : (z00 Z).1 ≤ 0 ∧ (z00 Z).2.1 ≤ 0 := ⟨Nat.le_refl 0, Nat.le_refl 0⟩
  refine z_aload_n (pc := 0) C (zD D_X6_goesOn_0 0 rfl) rfl 0 rfl ?_
  refine z_getR (pc := 1) C zc6 0 (by decide) q_102 (zD D_X6_goesOn_0 1 rfl) (fun v1 => ?_)
  refine z_bipush (pc := 4) (v := 8) C (zD D_X6_goesOn_0 2 rfl) (by decide) ?_
  refine z_iconst (pc := 6) (v := 0) C (zD D_X6_goesOn_0 3 rfl) (by decide) ?_
  refine z_aistore (pc := 7) C (zD D_X6_goesOn_0 4 rfl) (fun h7 => ?_)
  refine z_fix1 (fun g8 => ∀ (h8 : zH), zJ B Z (zEnd B Z (fun h1 : zH => ((none : Option Value), h1)) 0 0) (g8 h8) 8 [(0, .ref (B + this))] [] h8 (z00 Z)) (fun _ => z_none) (fun rec8 hrec8 h8 => ?_) n h7
  refine z_aload_n (pc := 8) C (zD D_X6_goesOn_0 5 rfl) rfl 0 rfl ?_
  refine z_getR (pc := 9) C zc6 0 (by decide) q_102 (zD D_X6_goesOn_0 6 rfl) (fun v9 => ?_)
  refine z_iconst (pc := 12) (v := 4) C (zD D_X6_goesOn_0 7 rfl) (by decide) ?_
  refine z_aiload (pc := 13) C (zD D_X6_goesOn_0 8 rfl) (fun v13 => ?_)
  refine z_aload_n (pc := 14) C (zD D_X6_goesOn_0 9 rfl) rfl 0 rfl ?_
  refine z_getR (pc := 15) C zc6 0 (by decide) q_102 (zD D_X6_goesOn_0 10 rfl) (fun v15 => ?_)
  refine z_bipush (pc := 18) (v := 9) C (zD D_X6_goesOn_0 11 rfl) (by decide) ?_
  refine z_aiload (pc := 20) C (zD D_X6_goesOn_0 12 rfl) (fun v20 => ?_)
  refine z_letg (fun K58 => zJ B Z (zEnd B Z (fun h1 : zH => ((none : Option Value), h1)) 0 0) (K58) 58 [(0, .ref (B + this))] [] h8 (z00 Z)) ?_ (fun K58 hK58 => ?_)
  · refine z_aload_n (pc := 58) C (zD D_X6_goesOn_0 35 rfl) rfl 0 rfl ?_
    refine z_getR (pc := 59) C zc6 0 (by decide) q_102 (zD D_X6_goesOn_0 36 rfl) (fun v59 => ?_)
    refine z_iconst (pc := 62) (v := 4) C (zD D_X6_goesOn_0 37 rfl) (by decide) ?_
    refine z_aiload (pc := 63) C (zD D_X6_goesOn_0 38 rfl) (fun v63 => ?_)
    refine z_aload_n (pc := 64) C (zD D_X6_goesOn_0 39 rfl) rfl 0 rfl ?_
    refine z_getR (pc := 65) C zc6 0 (by decide) q_102 (zD D_X6_goesOn_0 40 rfl) (fun v65 => ?_)
    refine z_bipush (pc := 68) (v := 9) C (zD D_X6_goesOn_0 41 rfl) (by decide) ?_
    refine z_aiload (pc := 70) C (zD D_X6_goesOn_0 42 rfl) (fun v70 => ?_)
    refine z_icmp_ne (pc := 71) C (zD D_X6_goesOn_0 43 rfl) (tgt := 98) (by decide) (fun _ => ?_) (fun _ => ?_)
    · exact z_vret (pc := 98) C hr rfl (zD D_X6_goesOn_1 2 rfl)
    · refine z_aload_n (pc := 74) C (zD D_X6_goesOn_0 44 rfl) rfl 0 rfl ?_
      refine z_getR (pc := 75) C zc6 0 (by decide) q_102 (zD D_X6_goesOn_0 45 rfl) (fun v75 => ?_)
      refine z_iconst (pc := 78) (v := 3) C (zD D_X6_goesOn_0 46 rfl) (by decide) ?_
      refine z_iconst (pc := 79) (v := 0) C (zD D_X6_goesOn_0 47 rfl) (by decide) ?_
      refine z_aistore (pc := 80) C (zD D_X6_goesOn_0 48 rfl) (fun h80 => ?_)
      refine z_aload_n (pc := 81) C (zD D_X6_goesOn_0 49 rfl) rfl 0 rfl ?_
      refine z_getR (pc := 82) C zc6 0 (by decide) q_102 (zD D_X6_goesOn_0 50 rfl) (fun v82 => ?_)
      refine z_iconst (pc := 85) (v := 2) C (zD D_X6_goesOn_0 51 rfl) (by decide) ?_
      refine z_iconst (pc := 86) (v := 0) C (zD D_X6_goesOn_0 52 rfl) (by decide) ?_
      refine z_aistore (pc := 87) C (zD D_X6_goesOn_0 53 rfl) (fun h87 => ?_)
      refine z_aload_n (pc := 88) C (zD D_X6_goesOn_0 54 rfl) rfl 0 rfl ?_
      refine z_getR (pc := 89) C zc6 0 (by decide) q_102 (zD D_X6_goesOn_0 55 rfl) (fun v89 => ?_)
      refine z_iconst (pc := 92) (v := 5) C (zD D_X6_goesOn_0 56 rfl) (by decide) ?_
      refine z_dup2 (pc := 93) C (zD D_X6_goesOn_0 57 rfl) rfl rfl ?_
      refine z_aiload (pc := 94) C (zD D_X6_goesOn_0 58 rfl) (fun v94 => ?_)
      refine z_iconst (pc := 95) (v := 1) C (zD D_X6_goesOn_0 59 rfl) (by decide) ?_
      refine z_iadd (pc := 96) C (zD D_X6_goesOn_1 0 rfl) ?_
      refine z_aistore (pc := 97) C (zD D_X6_goesOn_1 1 rfl) (fun h97 => ?_)
      exact z_vret (pc := 98) C hr rfl (zD D_X6_goesOn_1 2 rfl)
  refine z_icmp_ge (pc := 21) C (zD D_X6_goesOn_0 13 rfl) (tgt := 58) (by decide) (fun _ => ?_) (fun _ => ?_)
  · exact hK58
  · refine z_aload_n (pc := 24) C (zD D_X6_goesOn_0 14 rfl) rfl 0 rfl ?_
    refine z_aload_n (pc := 25) C (zD D_X6_goesOn_0 15 rfl) rfl 0 rfl ?_
    refine z_getR (pc := 26) C zc6 0 (by decide) q_102 (zD D_X6_goesOn_0 16 rfl) (fun v26 => ?_)
    refine z_bipush (pc := 29) (v := 10) C (zD D_X6_goesOn_0 17 rfl) (by decide) ?_
    refine z_aload_n (pc := 31) C (zD D_X6_goesOn_0 18 rfl) rfl 0 rfl ?_
    refine z_getR (pc := 32) C zc6 0 (by decide) q_102 (zD D_X6_goesOn_0 19 rfl) (fun v32 => ?_)
    refine z_iconst (pc := 35) (v := 4) C (zD D_X6_goesOn_0 20 rfl) (by decide) ?_
    refine z_aiload (pc := 36) C (zD D_X6_goesOn_0 21 rfl) (fun v36 => ?_)
    refine z_iadd (pc := 37) C (zD D_X6_goesOn_0 22 rfl) ?_
    refine z_aiload (pc := 38) C (zD D_X6_goesOn_0 23 rfl) (fun v38 => ?_)
    refine z_cvR (pc := 39) (As := [.int v38]) C [] (c_X6_isOpen _ _ _ _ n this v38 h8) zn_X6_isOpen (by decide) (by decide) hz0 zc6 rfl q_256 q_257 q_258 q_5 q_259 rfl rfl rfl (zD D_X6_goesOn_0 24 rfl) (fun r39 => ?_)
    refine z_if_ne (pc := 42) C (zD D_X6_goesOn_0 25 rfl) (tgt := 58) (by decide) (fun _ => ?_) (fun _ => ?_)
    · exact hK58
    · refine z_aload_n (pc := 45) C (zD D_X6_goesOn_0 26 rfl) rfl 0 rfl ?_
      refine z_getR (pc := 46) C zc6 0 (by decide) q_102 (zD D_X6_goesOn_0 27 rfl) (fun v46 => ?_)
      refine z_iconst (pc := 49) (v := 4) C (zD D_X6_goesOn_0 28 rfl) (by decide) ?_
      refine z_dup2 (pc := 50) C (zD D_X6_goesOn_0 29 rfl) rfl rfl ?_
      refine z_aiload (pc := 51) C (zD D_X6_goesOn_0 30 rfl) (fun v51 => ?_)
      refine z_iconst (pc := 52) (v := 1) C (zD D_X6_goesOn_0 31 rfl) (by decide) ?_
      refine z_iadd (pc := 53) C (zD D_X6_goesOn_0 32 rfl) ?_
      refine z_aistore (pc := 54) C (zD D_X6_goesOn_0 33 rfl) (fun h54 => ?_)
      refine z_goto (pc := 55) C (zD D_X6_goesOn_0 34 rfl) (tgt := 8) (by decide) ?_
      exact hrec8 h54
def f_X6_holds (n : Nat) (this : Nat) (p0 : Int32) (p1 : Int32) (p2 : Int32) (h : zH) : Option (zH) := (zgR h this 6 0).bind fun (v1 : Nat) => (zai h v1 (((18 : Int32) + ((4 : Int32) * p0)) + p1)).bind fun (v13 : Int32) => (zsi h v1 (((18 : Int32) + ((4 : Int32) * p0)) + p1) (v13 + p2)).bind fun (h16 : zH) => zrc h16 this 6 <| (f_X6_presides n this p1 h16).bind fun (h19 : zH) => some h19
theorem zn_X6_holds : zNm yX6_holds 3 := ⟨by decide +kernel, by decide +kernel⟩
set_option maxRecDepth 100000 in
set_option maxHeartbeats 4000000 in
theorem c_X6_holds (l : Launch) (B : Nat) (D : va_G) (cA : Nat → ClassId) (n : Nat) (this : Nat) (p0 : Int32) (p1 : Int32) (p2 : Int32) (h : zH) : ∀ u, f_X6_holds n this p0 p1 p2 h = some u → zM l B D cA yX6_holds cX6_holds 4 none 3 0 0 none [.ref (B + this), .int p0, .int p1, .int p2] h ((fun h1 : zH => ((none : Option Value), h1)) u).1 ((fun h1 : zH => ((none : Option Value), h1)) u).2 := by
  unfold f_X6_holds
  refine z_met (own := RX6) (fun h1 : zH => ((none : Option Value), h1)) rfl (by decide) rfl (fun Z C hr _ _ => ?_)
  have hz0 : (z00 Z).1 ≤ 0 ∧ (z00 Z).2.1 ≤ 0 := ⟨Nat.le_refl 0, Nat.le_refl 0⟩
  refine z_aload_n (pc := 0) C (zD D_X6_holds_0 0 rfl) rfl 0 rfl ?_
  refine z_getR (pc := 1) C zc6 0 (by decide) q_102 (zD D_X6_holds_0 1 rfl) (fun v1 => ?_)
  refine z_bipush (pc := 4) (v := 18) C (zD D_X6_holds_0 2 rfl) (by decide) ?_
  refine z_iconst (pc := 6) (v := 4) C (zD D_X6_holds_0 3 rfl) (by decide) ?_
  refine z_iload_n (pc := 7) C (zD D_X6_holds_0 4 rfl) rfl 1 rfl ?_
  refine z_imul (pc := 8) C (zD D_X6_holds_0 5 rfl) ?_
  refine z_iadd (pc := 9) C (zD D_X6_holds_0 6 rfl) ?_
  refine z_iload_n (pc := 10) C (zD D_X6_holds_0 7 rfl) rfl 2 rfl ?_
  refine z_iadd (pc := 11) C (zD D_X6_holds_0 8 rfl) ?_
  refine z_dup2 (pc := 12) C (zD D_X6_holds_0 9 rfl) rfl rfl ?_
  refine z_aiload (pc := 13) C (zD D_X6_holds_0 10 rfl) (fun v13 => ?_)
  refine z_iload_n (pc := 14) C (zD D_X6_holds_0 11 rfl) rfl 3 rfl ?_
  refine z_iadd (pc := 15) C (zD D_X6_holds_0 12 rfl) ?_
  refine z_aistore (pc := 16) C (zD D_X6_holds_0 13 rfl) (fun h16 => ?_)
  refine z_aload_n (pc := 17) C (zD D_X6_holds_0 14 rfl) rfl 0 rfl ?_
  refine z_iload_n (pc := 18) C (zD D_X6_holds_0 15 rfl) rfl 2 rfl ?_
  refine z_cvV (pc := 19) (As := [.int p1]) C [] (c_X6_presides _ _ _ _ n this p1 h16) zn_X6_presides (by decide) (by decide) hz0 zc6 rfl q_280 q_281 q_282 q_5 q_283 rfl rfl rfl (zD D_X6_holds_0 16 rfl) (fun h19 => ?_)
  exact z_vret (pc := 22) C hr rfl (zD D_X6_holds_0 17 rfl)
def f_X6_isAhead (n : Nat) (this : Nat) (p0 : Int32) (p1 : Int32) (h : zH) : Option (Int32) := zrc h this 6 <| (f_X6_price n this p0 h).bind fun (r2 : Int32) => zrc h this 6 <| (f_X6_price n this p1 h).bind fun (r7 : Int32) => zlet (some (1 : Int32)) fun K31 => if r7 < r2 then (K31) else (zrc h this 6 <| (f_X6_price n this p0 h).bind fun (r15 : Int32) => zrc h this 6 <| (f_X6_price n this p1 h).bind fun (r20 : Int32) => zlet (some (0 : Int32)) fun K35 => if r15 = r20 then (if p1 ≤ p0 then (K35) else (K31)) else (K35))
theorem zn_X6_isAhead : zNm yX6_isAhead 2 := ⟨by decide +kernel, by decide +kernel⟩
set_option maxRecDepth 100000 in
set_option maxHeartbeats 4000000 in
theorem c_X6_isAhead (l : Launch) (B : Nat) (D : va_G) (cA : Nat → ClassId) (n : Nat) (this : Nat) (p0 : Int32) (p1 : Int32) (h : zH) : ∀ u, f_X6_isAhead n this p0 p1 h = some u → zM l B D cA yX6_isAhead cX6_isAhead 3 (some .boolean) 3 0 0 none [.ref (B + this), .int p0, .int p1] h ((fun r : Int32 => (some (Value.int r), h)) u).1 ((fun r : Int32 => (some (Value.int r), h)) u).2 := by
  unfold f_X6_isAhead
  refine z_met (own := RX6) (fun r : Int32 => (some (Value.int r), h)) rfl (by decide) rfl (fun Z C hr _ _ => ?_)
  have hz0 : (z00 Z).1 ≤ 0 ∧ (z00 Z).2.1 ≤ 0 := ⟨Nat.le_refl 0, Nat.le_refl 0⟩
  refine z_aload_n (pc := 0) C (zD D_X6_isAhead_0 0 rfl) rfl 0 rfl ?_
  refine z_iload_n (pc := 1) C (zD D_X6_isAhead_0 1 rfl) rfl 1 rfl ?_
  refine z_cvR (pc := 2) (As := [.int p0]) C [] (c_X6_price _ _ _ _ n this p0 h) zn_X6_price (by decide) (by decide) hz0 zc6 rfl q_268 q_269 q_270 q_5 q_271 rfl rfl rfl (zD D_X6_isAhead_0 2 rfl) (fun r2 => ?_)
  refine z_aload_n (pc := 5) C (zD D_X6_isAhead_0 3 rfl) rfl 0 rfl ?_
  refine z_iload_n (pc := 6) C (zD D_X6_isAhead_0 4 rfl) rfl 2 rfl ?_
  refine z_cvR (pc := 7) (As := [.int p1]) C [.int r2] (c_X6_price _ _ _ _ n this p1 h) zn_X6_price (by decide) (by decide) hz0 zc6 rfl q_268 q_269 q_270 q_5 q_271 rfl rfl rfl (zD D_X6_isAhead_0 5 rfl) (fun r7 => ?_)
  refine z_letg (fun K31 => zJ B Z (zEnd B Z (fun r : Int32 => (some (Value.int r), h)) 0 0) (K31) 31 [] [] h (z00 Z)) ?_ (fun K31 hK31 => ?_)
  · refine z_iconst (pc := 31) (v := 1) C (zD D_X6_isAhead_0 17 rfl) (by decide) ?_
    refine z_goto (pc := 32) C (zD D_X6_isAhead_0 18 rfl) (tgt := 36) (by decide) ?_
    exact z_zret (pc := 36) C hr (by decide) rfl (zD D_X6_isAhead_0 20 rfl)
  refine z_icmp_gt (pc := 10) C (zD D_X6_isAhead_0 6 rfl) (tgt := 31) (by decide) (fun _ => ?_) (fun _ => ?_)
  · refine z_sub [] (lv' := []) rfl ?_
    exact hK31
  · refine z_aload_n (pc := 13) C (zD D_X6_isAhead_0 7 rfl) rfl 0 rfl ?_
    refine z_iload_n (pc := 14) C (zD D_X6_isAhead_0 8 rfl) rfl 1 rfl ?_
    refine z_cvR (pc := 15) (As := [.int p0]) C [] (c_X6_price _ _ _ _ n this p0 h) zn_X6_price (by decide) (by decide) hz0 zc6 rfl q_268 q_269 q_270 q_5 q_271 rfl rfl rfl (zD D_X6_isAhead_0 9 rfl) (fun r15 => ?_)
    refine z_aload_n (pc := 18) C (zD D_X6_isAhead_0 10 rfl) rfl 0 rfl ?_
    refine z_iload_n (pc := 19) C (zD D_X6_isAhead_0 11 rfl) rfl 2 rfl ?_
    refine z_cvR (pc := 20) (As := [.int p1]) C [.int r15] (c_X6_price _ _ _ _ n this p1 h) zn_X6_price (by decide) (by decide) hz0 zc6 rfl q_268 q_269 q_270 q_5 q_271 rfl rfl rfl (zD D_X6_isAhead_0 12 rfl) (fun r20 => ?_)
    refine z_letg (fun K35 => zJ B Z (zEnd B Z (fun r : Int32 => (some (Value.int r), h)) 0 0) (K35) 35 [] [] h (z00 Z)) ?_ (fun K35 hK35 => ?_)
    · refine z_iconst (pc := 35) (v := 0) C (zD D_X6_isAhead_0 19 rfl) (by decide) ?_
      exact z_zret (pc := 36) C hr (by decide) rfl (zD D_X6_isAhead_0 20 rfl)
    refine z_icmp_ne (pc := 23) C (zD D_X6_isAhead_0 13 rfl) (tgt := 35) (by decide) (fun _ => ?_) (fun _ => ?_)
    · refine z_sub [] (lv' := []) rfl ?_
      exact hK35
    · refine z_iload_n (pc := 26) C (zD D_X6_isAhead_0 14 rfl) rfl 1 rfl ?_
      refine z_iload_n (pc := 27) C (zD D_X6_isAhead_0 15 rfl) rfl 2 rfl ?_
      refine z_icmp_ge (pc := 28) C (zD D_X6_isAhead_0 16 rfl) (tgt := 35) (by decide) (fun _ => ?_) (fun _ => ?_)
      · refine z_sub [] (lv' := []) rfl ?_
        exact hK35
      · refine z_sub [] (lv' := []) rfl ?_
        exact hK31
def f_X6_setTown (n : Nat) (this : Nat) (p0 : Int32) (p1 : Int32) (h : zH) : Option (Int32 × zH) := (f_X6_isTown n p0 h).bind fun (r2 : Int32) => zlet (fun (s0_27 : Int32) => zrc h this 6 <| zb2 (f_X6_refused n this s0_27 h) fun (r27 : Int32) (h27 : zH) => if r27 = 0 then (zrc h27 this 6 <| (f_X6_saves n this h27).bind fun (h36 : zH) => (zgR h36 this 6 0).bind fun (v40 : Nat) => (zai h36 v40 ((126 : Int32) + p0)).bind fun (v47 : Int32) => (zgR h36 this 6 0).bind fun (v50 : Nat) => (zsi h36 v50 ((126 : Int32) + p0) p1).bind fun (h58 : zH) => some (v47, h58)) else (some ((0 : Int32), h27))) fun K27 => if r2 = 0 then (K27 (1 : Int32)) else ((f_X6_in n p1 (0 : Int32) (90 : Int32) h).bind fun (r16 : Int32) => if r16 = 0 then (K27 (2 : Int32)) else (K27 (0 : Int32)))
theorem zn_X6_setTown : zNm yX6_setTown 2 := ⟨by decide +kernel, by decide +kernel⟩
set_option maxRecDepth 100000 in
set_option maxHeartbeats 4000000 in
theorem c_X6_setTown (l : Launch) (B : Nat) (D : va_G) (cA : Nat → ClassId) (n : Nat) (this : Nat) (p0 : Int32) (p1 : Int32) (h : zH) : ∀ u, f_X6_setTown n this p0 p1 h = some u → zM l B D cA yX6_setTown cX6_setTown 4 (some .int) 3 0 0 none [.ref (B + this), .int p0, .int p1] h ((fun u : Int32 × zH => (some (Value.int u.1), u.2)) u).1 ((fun u : Int32 × zH => (some (Value.int u.1), u.2)) u).2 := by
  unfold f_X6_setTown
  refine z_met (own := RX6) (fun u : Int32 × zH => (some (Value.int u.1), u.2)) rfl (by decide) rfl (fun Z C hr _ _ => ?_)
  have hz0 : (z00 Z).1 ≤ 0 ∧ (z00 Z).2.1 ≤ 0 := ⟨Nat.le_refl 0, Nat.le_refl 0⟩
  refine z_aload_n (pc := 0) C (zD D_X6_setTown_0 0 rfl) rfl 0 rfl ?_
  refine z_iload_n (pc := 1) C (zD D_X6_setTown_0 1 rfl) rfl 1 rfl ?_
  refine z_csR (pc := 2) (As := [.int p0]) C [.ref (B + this)] (c_X6_isTown _ _ _ _ n p0 h) zn_X6_isTown (by decide) (by decide) hz0 q_188 q_189 q_5 q_190 rfl rfl rfl (zD D_X6_setTown_0 2 rfl) (fun r2 => ?_)
  refine z_letg (fun K27 => ∀ (s0_27 : Int32), zJ B Z (zEnd B Z (fun u : Int32 × zH => (some (Value.int u.1), u.2)) 0 0) (K27 s0_27) 27 [(0, .ref (B + this)), (1, .int p0), (2, .int p1)] [.int s0_27, .ref (B + this)] h (z00 Z)) (fun s0_27 => ?_) (fun K27 hK27 => ?_)
  · refine z_cvI (pc := 27) (As := [.int s0_27]) C [] (c_X6_refused _ _ _ _ n this s0_27 h) zn_X6_refused (by decide) (by decide) hz0 zc6 rfl q_155 q_156 q_157 q_5 q_158 rfl rfl rfl (zD D_X6_setTown_0 14 rfl) (fun r27 h27 => ?_)
    refine z_if_eq (pc := 30) C (zD D_X6_setTown_0 15 rfl) (tgt := 35) (by decide) (fun _ => ?_) (fun _ => ?_)
    · refine z_aload_n (pc := 35) C (zD D_X6_setTown_0 18 rfl) rfl 0 rfl ?_
      refine z_cvV (pc := 36) (As := []) C [] (c_X6_saves _ _ _ _ n this h27) zn_X6_saves (by decide) (by decide) hz0 zc6 rfl q_160 q_161 q_162 q_5 q_163 rfl rfl rfl (zD D_X6_setTown_0 19 rfl) (fun h36 => ?_)
      refine z_aload_n (pc := 39) C (zD D_X6_setTown_0 20 rfl) rfl 0 rfl ?_
      refine z_getR (pc := 40) C zc6 0 (by decide) q_102 (zD D_X6_setTown_0 21 rfl) (fun v40 => ?_)
      refine z_bipush (pc := 43) (v := 126) C (zD D_X6_setTown_0 22 rfl) (by decide) ?_
      refine z_iload_n (pc := 45) C (zD D_X6_setTown_0 23 rfl) rfl 1 rfl ?_
      refine z_iadd (pc := 46) C (zD D_X6_setTown_0 24 rfl) ?_
      refine z_aiload (pc := 47) C (zD D_X6_setTown_0 25 rfl) (fun v47 => ?_)
      refine z_istore_n (pc := 48) (lv' := [(3, .int v47), (0, .ref (B + this)), (1, .int p0), (2, .int p1)]) C (zD D_X6_setTown_0 26 rfl) rfl (by decide) rfl ?_
      refine z_aload_n (pc := 49) C (zD D_X6_setTown_0 27 rfl) rfl 1 rfl ?_
      refine z_getR (pc := 50) C zc6 0 (by decide) q_102 (zD D_X6_setTown_0 28 rfl) (fun v50 => ?_)
      refine z_bipush (pc := 53) (v := 126) C (zD D_X6_setTown_0 29 rfl) (by decide) ?_
      refine z_iload_n (pc := 55) C (zD D_X6_setTown_0 30 rfl) rfl 2 rfl ?_
      refine z_iadd (pc := 56) C (zD D_X6_setTown_0 31 rfl) ?_
      refine z_iload_n (pc := 57) C (zD D_X6_setTown_0 32 rfl) rfl 3 rfl ?_
      refine z_aistore (pc := 58) C (zD D_X6_setTown_0 33 rfl) (fun h58 => ?_)
      refine z_iload_n (pc := 59) C (zD D_X6_setTown_0 34 rfl) rfl 0 rfl ?_
      exact z_iret (pc := 60) C hr rfl (zD D_X6_setTown_0 35 rfl)
    · refine z_iconst (pc := 33) (v := 0) C (zD D_X6_setTown_0 16 rfl) (by decide) ?_
      exact z_iret (pc := 34) C hr rfl (zD D_X6_setTown_0 17 rfl)
  refine z_if_ne (pc := 5) C (zD D_X6_setTown_0 3 rfl) (tgt := 12) (by decide) (fun _ => ?_) (fun _ => ?_)
  · refine z_iload_n (pc := 12) C (zD D_X6_setTown_0 6 rfl) rfl 2 rfl ?_
    refine z_iconst (pc := 13) (v := 0) C (zD D_X6_setTown_0 7 rfl) (by decide) ?_
    refine z_bipush (pc := 14) (v := 90) C (zD D_X6_setTown_0 8 rfl) (by decide) ?_
    refine z_csR (pc := 16) (As := [.int p1, .int (0 : Int32), .int (90 : Int32)]) C [.ref (B + this)] (c_X6_in _ _ _ _ n p1 (0 : Int32) (90 : Int32) h) zn_X6_in (by decide) (by decide) hz0 q_152 q_153 q_5 q_154 rfl rfl rfl (zD D_X6_setTown_0 9 rfl) (fun r16 => ?_)
    refine z_if_eq (pc := 19) C (zD D_X6_setTown_0 10 rfl) (tgt := 26) (by decide) (fun _ => ?_) (fun _ => ?_)
    · refine z_iconst (pc := 26) (v := 2) C (zD D_X6_setTown_0 13 rfl) (by decide) ?_
      exact hK27 (2 : Int32)
    · refine z_iconst (pc := 22) (v := 0) C (zD D_X6_setTown_0 11 rfl) (by decide) ?_
      refine z_goto (pc := 23) C (zD D_X6_setTown_0 12 rfl) (tgt := 27) (by decide) ?_
      exact hK27 (0 : Int32)
  · refine z_iconst (pc := 8) (v := 1) C (zD D_X6_setTown_0 4 rfl) (by decide) ?_
    refine z_goto (pc := 9) C (zD D_X6_setTown_0 5 rfl) (tgt := 27) (by decide) ?_
    exact hK27 (1 : Int32)
def f_X6_takesDigits (n : Nat) (this : Nat) (h : zH) : Option (Int32 × zH) := (zgI h this 6 13).bind fun (v1 : Int32) => if v1 = (112 : Int32) then (some ((1 : Int32), h)) else ((zgI h this 6 13).bind fun (v12 : Int32) => zlet (zrc h this 6 <| (f_X6_isDigit n this (0 : Int32) (7 : Int32) h).bind fun (r33 : Int32) => if r33 = 0 then (some ((1 : Int32), h)) else (zrc h this 6 <| zb2 (f_X6_digit n this h) fun (r43 : Int32) (h43 : zH) => (zp h43 this 6 14 (.int r43)).bind fun (h46 : zH) => zrc h46 this 6 <| (f_X6_isDigit n this (0 : Int32) (7 : Int32) h46).bind fun (r53 : Int32) => if r53 = 0 then (some ((0 : Int32), h46)) else ((zgR h46 this 6 3).bind fun (v60 : Nat) => (zgI h46 this 6 12).bind fun (v64 : Int32) => (zai h46 v60 v64).bind fun (v67 : Int32) => (zgI h46 this 6 14).bind fun (v72 : Int32) => if (v67 - (48 : Int32)) = v72 then (some ((0 : Int32), h46)) else (zrc h46 this 6 <| zb2 (f_X6_digit n this h46) fun (r82 : Int32) (h82 : zH) => (zp h82 this 6 15 (.int r82)).bind fun (h85 : zH) => some ((1 : Int32), h85))))) fun K29 => if v12 = (111 : Int32) then (K29) else ((zgI h this 6 13).bind fun (v21 : Int32) => if v21 = (107 : Int32) then (K29) else (zrc h this 6 <| (f_X6_isDigit n this (0 : Int32) (3 : Int32) h).bind fun (r93 : Int32) => if r93 = 0 then (some ((0 : Int32), h)) else (zrc h this 6 <| zb2 (f_X6_digit n this h) fun (r103 : Int32) (h103 : zH) => (zp h103 this 6 14 (.int r103)).bind fun (h106 : zH) => (zgI h106 this 6 13).bind fun (v110 : Int32) => if v110 = (120 : Int32) then (zrc h106 this 6 <| (f_X6_isDigit n this (1 : Int32) (9 : Int32) h106).bind fun (r122 : Int32) => if r122 = 0 then (some ((0 : Int32), h106)) else (zrc h106 this 6 <| zb2 (f_X6_digit n this h106) fun (r132 : Int32) (h132 : zH) => (zp h132 this 6 15 (.int r132)).bind fun (h135 : zH) => some ((1 : Int32), h135))) else (some ((1 : Int32), h106))))))
theorem zn_X6_takesDigits : zNm yX6_takesDigits 0 := ⟨by decide +kernel, by decide +kernel⟩
set_option maxRecDepth 100000 in
set_option maxHeartbeats 4000000 in
theorem c_X6_takesDigits (l : Launch) (B : Nat) (D : va_G) (cA : Nat → ClassId) (n : Nat) (this : Nat) (h : zH) : ∀ u, f_X6_takesDigits n this h = some u → zM l B D cA yX6_takesDigits cX6_takesDigits 1 (some .boolean) 3 0 0 none [.ref (B + this)] h ((fun u : Int32 × zH => (some (Value.int u.1), u.2)) u).1 ((fun u : Int32 × zH => (some (Value.int u.1), u.2)) u).2 := by
  unfold f_X6_takesDigits
  refine z_met (own := RX6) (fun u : Int32 × zH => (some (Value.int u.1), u.2)) rfl (by decide) rfl (fun Z C hr _ _ => ?_)
  have hz0 : (z00 Z).1 ≤ 0 ∧ (z00 Z).2.1 ≤ 0 := ⟨Nat.le_refl 0, Nat.le_refl 0⟩
  refine z_aload_n (pc := 0) C (zD D_X6_takesDigits_0 0 rfl) rfl 0 rfl ?_
  refine z_getI (pc := 1) C zc6 13 (by decide) q_915 (zD D_X6_takesDigits_0 1 rfl) (fun v1 => ?_)
  refine z_bipush (pc := 4) (v := 112) C (zD D_X6_takesDigits_0 2 rfl) (by decide) ?_
  refine z_icmp_ne (pc := 6) C (zD D_X6_takesDigits_0 3 rfl) (tgt := 11) (by decide) (fun _ => ?_) (fun _ => ?_)
  · refine z_aload_n (pc := 11) C (zD D_X6_takesDigits_0 6 rfl) rfl 0 rfl ?_
    refine z_getI (pc := 12) C zc6 13 (by decide) q_915 (zD D_X6_takesDigits_0 7 rfl) (fun v12 => ?_)
    refine z_bipush (pc := 15) (v := 111) C (zD D_X6_takesDigits_0 8 rfl) (by decide) ?_
    refine z_letg (fun K29 => zJ B Z (zEnd B Z (fun u : Int32 × zH => (some (Value.int u.1), u.2)) 0 0) (K29) 29 [(0, .ref (B + this))] [] h (z00 Z)) ?_ (fun K29 hK29 => ?_)
    · refine z_aload_n (pc := 29) C (zD D_X6_takesDigits_0 14 rfl) rfl 0 rfl ?_
      refine z_iconst (pc := 30) (v := 0) C (zD D_X6_takesDigits_0 15 rfl) (by decide) ?_
      refine z_bipush (pc := 31) (v := 7) C (zD D_X6_takesDigits_0 16 rfl) (by decide) ?_
      refine z_cvR (pc := 33) (As := [.int (0 : Int32), .int (7 : Int32)]) C [] (c_X6_isDigit _ _ _ _ n this (0 : Int32) (7 : Int32) h) zn_X6_isDigit (by decide) (by decide) hz0 zc6 rfl q_922 q_923 q_924 q_5 q_925 rfl rfl rfl (zD D_X6_takesDigits_0 17 rfl) (fun r33 => ?_)
      refine z_if_ne (pc := 36) C (zD D_X6_takesDigits_0 18 rfl) (tgt := 41) (by decide) (fun _ => ?_) (fun _ => ?_)
      · refine z_aload_n (pc := 41) C (zD D_X6_takesDigits_0 21 rfl) rfl 0 rfl ?_
        refine z_aload_n (pc := 42) C (zD D_X6_takesDigits_0 22 rfl) rfl 0 rfl ?_
        refine z_cvI (pc := 43) (As := []) C [.ref (B + this)] (c_X6_digit _ _ _ _ n this h) zn_X6_digit (by decide) (by decide) hz0 zc6 rfl q_926 q_927 q_928 q_5 q_929 rfl rfl rfl (zD D_X6_takesDigits_0 23 rfl) (fun r43 h43 => ?_)
        refine z_putI (pc := 46) C zc6 14 (by decide) q_916 rfl rfl (zD D_X6_takesDigits_0 24 rfl) (fun h46 => ?_)
        refine z_aload_n (pc := 49) C (zD D_X6_takesDigits_0 25 rfl) rfl 0 rfl ?_
        refine z_iconst (pc := 50) (v := 0) C (zD D_X6_takesDigits_0 26 rfl) (by decide) ?_
        refine z_bipush (pc := 51) (v := 7) C (zD D_X6_takesDigits_0 27 rfl) (by decide) ?_
        refine z_cvR (pc := 53) (As := [.int (0 : Int32), .int (7 : Int32)]) C [] (c_X6_isDigit _ _ _ _ n this (0 : Int32) (7 : Int32) h46) zn_X6_isDigit (by decide) (by decide) hz0 zc6 rfl q_922 q_923 q_924 q_5 q_925 rfl rfl rfl (zD D_X6_takesDigits_0 28 rfl) (fun r53 => ?_)
        refine z_if_eq (pc := 56) C (zD D_X6_takesDigits_0 29 rfl) (tgt := 78) (by decide) (fun _ => ?_) (fun _ => ?_)
        · refine z_iconst (pc := 78) (v := 0) C (zD D_X6_takesDigits_0 40 rfl) (by decide) ?_
          exact z_zret (pc := 79) C hr (by decide) rfl (zD D_X6_takesDigits_0 41 rfl)
        · refine z_aload_n (pc := 59) C (zD D_X6_takesDigits_0 30 rfl) rfl 0 rfl ?_
          refine z_getR (pc := 60) C zc6 3 (by decide) q_104 (zD D_X6_takesDigits_0 31 rfl) (fun v60 => ?_)
          refine z_aload_n (pc := 63) C (zD D_X6_takesDigits_0 32 rfl) rfl 0 rfl ?_
          refine z_getI (pc := 64) C zc6 12 (by decide) q_910 (zD D_X6_takesDigits_0 33 rfl) (fun v64 => ?_)
          refine z_aiload (pc := 67) C (zD D_X6_takesDigits_0 34 rfl) (fun v67 => ?_)
          refine z_bipush (pc := 68) (v := 48) C (zD D_X6_takesDigits_0 35 rfl) (by decide) ?_
          refine z_isub (pc := 70) C (zD D_X6_takesDigits_0 36 rfl) ?_
          refine z_aload_n (pc := 71) C (zD D_X6_takesDigits_0 37 rfl) rfl 0 rfl ?_
          refine z_getI (pc := 72) C zc6 14 (by decide) q_916 (zD D_X6_takesDigits_0 38 rfl) (fun v72 => ?_)
          refine z_icmp_ne (pc := 75) C (zD D_X6_takesDigits_0 39 rfl) (tgt := 80) (by decide) (fun _ => ?_) (fun _ => ?_)
          · refine z_aload_n (pc := 80) C (zD D_X6_takesDigits_0 42 rfl) rfl 0 rfl ?_
            refine z_aload_n (pc := 81) C (zD D_X6_takesDigits_0 43 rfl) rfl 0 rfl ?_
            refine z_cvI (pc := 82) (As := []) C [.ref (B + this)] (c_X6_digit _ _ _ _ n this h46) zn_X6_digit (by decide) (by decide) hz0 zc6 rfl q_926 q_927 q_928 q_5 q_929 rfl rfl rfl (zD D_X6_takesDigits_0 44 rfl) (fun r82 h82 => ?_)
            refine z_putI (pc := 85) C zc6 15 (by decide) q_917 rfl rfl (zD D_X6_takesDigits_0 45 rfl) (fun h85 => ?_)
            refine z_iconst (pc := 88) (v := 1) C (zD D_X6_takesDigits_0 46 rfl) (by decide) ?_
            exact z_zret (pc := 89) C hr (by decide) rfl (zD D_X6_takesDigits_0 47 rfl)
          · refine z_iconst (pc := 78) (v := 0) C (zD D_X6_takesDigits_0 40 rfl) (by decide) ?_
            exact z_zret (pc := 79) C hr (by decide) rfl (zD D_X6_takesDigits_0 41 rfl)
      · refine z_iconst (pc := 39) (v := 1) C (zD D_X6_takesDigits_0 19 rfl) (by decide) ?_
        exact z_zret (pc := 40) C hr (by decide) rfl (zD D_X6_takesDigits_0 20 rfl)
    refine z_icmp_eq (pc := 17) C (zD D_X6_takesDigits_0 9 rfl) (tgt := 29) (by decide) (fun _ => ?_) (fun _ => ?_)
    · exact hK29
    · refine z_aload_n (pc := 20) C (zD D_X6_takesDigits_0 10 rfl) rfl 0 rfl ?_
      refine z_getI (pc := 21) C zc6 13 (by decide) q_915 (zD D_X6_takesDigits_0 11 rfl) (fun v21 => ?_)
      refine z_bipush (pc := 24) (v := 107) C (zD D_X6_takesDigits_0 12 rfl) (by decide) ?_
      refine z_icmp_ne (pc := 26) C (zD D_X6_takesDigits_0 13 rfl) (tgt := 90) (by decide) (fun _ => ?_) (fun _ => ?_)
      · refine z_aload_n (pc := 90) C (zD D_X6_takesDigits_0 48 rfl) rfl 0 rfl ?_
        refine z_iconst (pc := 91) (v := 0) C (zD D_X6_takesDigits_0 49 rfl) (by decide) ?_
        refine z_iconst (pc := 92) (v := 3) C (zD D_X6_takesDigits_0 50 rfl) (by decide) ?_
        refine z_cvR (pc := 93) (As := [.int (0 : Int32), .int (3 : Int32)]) C [] (c_X6_isDigit _ _ _ _ n this (0 : Int32) (3 : Int32) h) zn_X6_isDigit (by decide) (by decide) hz0 zc6 rfl q_922 q_923 q_924 q_5 q_925 rfl rfl rfl (zD D_X6_takesDigits_0 51 rfl) (fun r93 => ?_)
        refine z_if_ne (pc := 96) C (zD D_X6_takesDigits_0 52 rfl) (tgt := 101) (by decide) (fun _ => ?_) (fun _ => ?_)
        · refine z_aload_n (pc := 101) C (zD D_X6_takesDigits_0 55 rfl) rfl 0 rfl ?_
          refine z_aload_n (pc := 102) C (zD D_X6_takesDigits_0 56 rfl) rfl 0 rfl ?_
          refine z_cvI (pc := 103) (As := []) C [.ref (B + this)] (c_X6_digit _ _ _ _ n this h) zn_X6_digit (by decide) (by decide) hz0 zc6 rfl q_926 q_927 q_928 q_5 q_929 rfl rfl rfl (zD D_X6_takesDigits_0 57 rfl) (fun r103 h103 => ?_)
          refine z_putI (pc := 106) C zc6 14 (by decide) q_916 rfl rfl (zD D_X6_takesDigits_0 58 rfl) (fun h106 => ?_)
          refine z_aload_n (pc := 109) C (zD D_X6_takesDigits_0 59 rfl) rfl 0 rfl ?_
          refine z_getI (pc := 110) C zc6 13 (by decide) q_915 (zD D_X6_takesDigits_1 0 rfl) (fun v110 => ?_)
          refine z_bipush (pc := 113) (v := 120) C (zD D_X6_takesDigits_1 1 rfl) (by decide) ?_
          refine z_icmp_ne (pc := 115) C (zD D_X6_takesDigits_1 2 rfl) (tgt := 138) (by decide) (fun _ => ?_) (fun _ => ?_)
          · refine z_iconst (pc := 138) (v := 1) C (zD D_X6_takesDigits_1 14 rfl) (by decide) ?_
            exact z_zret (pc := 139) C hr (by decide) rfl (zD D_X6_takesDigits_1 15 rfl)
          · refine z_aload_n (pc := 118) C (zD D_X6_takesDigits_1 3 rfl) rfl 0 rfl ?_
            refine z_iconst (pc := 119) (v := 1) C (zD D_X6_takesDigits_1 4 rfl) (by decide) ?_
            refine z_bipush (pc := 120) (v := 9) C (zD D_X6_takesDigits_1 5 rfl) (by decide) ?_
            refine z_cvR (pc := 122) (As := [.int (1 : Int32), .int (9 : Int32)]) C [] (c_X6_isDigit _ _ _ _ n this (1 : Int32) (9 : Int32) h106) zn_X6_isDigit (by decide) (by decide) hz0 zc6 rfl q_922 q_923 q_924 q_5 q_925 rfl rfl rfl (zD D_X6_takesDigits_1 6 rfl) (fun r122 => ?_)
            refine z_if_ne (pc := 125) C (zD D_X6_takesDigits_1 7 rfl) (tgt := 130) (by decide) (fun _ => ?_) (fun _ => ?_)
            · refine z_aload_n (pc := 130) C (zD D_X6_takesDigits_1 10 rfl) rfl 0 rfl ?_
              refine z_aload_n (pc := 131) C (zD D_X6_takesDigits_1 11 rfl) rfl 0 rfl ?_
              refine z_cvI (pc := 132) (As := []) C [.ref (B + this)] (c_X6_digit _ _ _ _ n this h106) zn_X6_digit (by decide) (by decide) hz0 zc6 rfl q_926 q_927 q_928 q_5 q_929 rfl rfl rfl (zD D_X6_takesDigits_1 12 rfl) (fun r132 h132 => ?_)
              refine z_putI (pc := 135) C zc6 15 (by decide) q_917 rfl rfl (zD D_X6_takesDigits_1 13 rfl) (fun h135 => ?_)
              refine z_iconst (pc := 138) (v := 1) C (zD D_X6_takesDigits_1 14 rfl) (by decide) ?_
              exact z_zret (pc := 139) C hr (by decide) rfl (zD D_X6_takesDigits_1 15 rfl)
            · refine z_iconst (pc := 128) (v := 0) C (zD D_X6_takesDigits_1 8 rfl) (by decide) ?_
              exact z_zret (pc := 129) C hr (by decide) rfl (zD D_X6_takesDigits_1 9 rfl)
        · refine z_iconst (pc := 99) (v := 0) C (zD D_X6_takesDigits_0 53 rfl) (by decide) ?_
          exact z_zret (pc := 100) C hr (by decide) rfl (zD D_X6_takesDigits_0 54 rfl)
      · exact hK29
  · refine z_iconst (pc := 9) (v := 1) C (zD D_X6_takesDigits_0 4 rfl) (by decide) ?_
    exact z_zret (pc := 10) C hr (by decide) rfl (zD D_X6_takesDigits_0 5 rfl)
def f_X6_tellValue (n : Nat) (this : Nat) (p0 : Int32) (h : zH) : Option (Int32) := if p0 = 0 then ((zgR h this 6 0).bind fun (v53 : Nat) => (zai h v53 (0 : Int32)).bind fun (v57 : Int32) => some v57) else if p0 = 1 then ((zgR h this 6 0).bind fun (v60 : Nat) => (zai h v60 (1 : Int32)).bind fun (v64 : Int32) => some v64) else if p0 = 2 then ((zgR h this 6 0).bind fun (v67 : Nat) => (zai h v67 (2 : Int32)).bind fun (v71 : Int32) => some v71) else if p0 = 3 then ((zgR h this 6 0).bind fun (v74 : Nat) => (zai h v74 (3 : Int32)).bind fun (v78 : Int32) => some v78) else if p0 = 4 then (zrc h this 6 <| (f_X6_next n this h).bind fun (r81 : Int32) => some r81) else if p0 = 5 then ((zgR h this 6 0).bind fun (v86 : Nat) => (zai h v86 (5 : Int32)).bind fun (v90 : Int32) => some v90) else if p0 = 6 then ((zgR h this 6 0).bind fun (v93 : Nat) => (zai h v93 (6 : Int32)).bind fun (v98 : Int32) => some v98) else if p0 = 7 then (zrc h this 6 <| (f_X6_tracks n this h).bind fun (r101 : Int32) => some r101) else if p0 = 8 then (zrc h this 6 <| (f_X6_openOnes n this h).bind fun (r106 : Int32) => some r106) else ((zgR h this 6 0).bind fun (v111 : Nat) => (zai h v111 (7 : Int32)).bind fun (v116 : Int32) => some v116)
theorem zn_X6_tellValue : zNm yX6_tellValue 1 := ⟨by decide +kernel, by decide +kernel⟩
set_option maxRecDepth 100000 in
set_option maxHeartbeats 4000000 in
theorem c_X6_tellValue (l : Launch) (B : Nat) (D : va_G) (cA : Nat → ClassId) (n : Nat) (this : Nat) (p0 : Int32) (h : zH) : ∀ u, f_X6_tellValue n this p0 h = some u → zM l B D cA yX6_tellValue cX6_tellValue 2 (some .int) 3 0 0 none [.ref (B + this), .int p0] h ((fun r : Int32 => (some (Value.int r), h)) u).1 ((fun r : Int32 => (some (Value.int r), h)) u).2 := by
  unfold f_X6_tellValue
  refine z_met (own := RX6) (fun r : Int32 => (some (Value.int r), h)) rfl (by decide) rfl (fun Z C hr _ _ => ?_)
  have hz0 : (z00 Z).1 ≤ 0 ∧ (z00 Z).2.1 ≤ 0 := ⟨Nat.le_refl 0, Nat.le_refl 0⟩
  refine z_iload_n (pc := 0) C (zD D_X6_tellValue_0 0 rfl) rfl 1 rfl ?_
  refine z_ite (fun c0 => ?_) (fun c0 => ?_)
  · refine z_tblIn (pc := 1) C (zD D_X6_tellValue_0 1 rfl) (by rw [c0]; decide) (by rw [c0]; decide) (by rw [c0]; rfl) (tgt := 52) (by decide) ?_
    refine z_aload_n (pc := 52) C (zD D_X6_tellValue_0 2 rfl) rfl 0 rfl ?_
    refine z_getR (pc := 53) C zc6 0 (by decide) q_102 (zD D_X6_tellValue_0 3 rfl) (fun v53 => ?_)
    refine z_iconst (pc := 56) (v := 0) C (zD D_X6_tellValue_0 4 rfl) (by decide) ?_
    refine z_aiload (pc := 57) C (zD D_X6_tellValue_0 5 rfl) (fun v57 => ?_)
    exact z_iret (pc := 58) C hr rfl (zD D_X6_tellValue_0 6 rfl)
  refine z_ite (fun c1 => ?_) (fun c1 => ?_)
  · refine z_tblIn (pc := 1) C (zD D_X6_tellValue_0 1 rfl) (by rw [c1]; decide) (by rw [c1]; decide) (by rw [c1]; rfl) (tgt := 59) (by decide) ?_
    refine z_aload_n (pc := 59) C (zD D_X6_tellValue_0 7 rfl) rfl 0 rfl ?_
    refine z_getR (pc := 60) C zc6 0 (by decide) q_102 (zD D_X6_tellValue_0 8 rfl) (fun v60 => ?_)
    refine z_iconst (pc := 63) (v := 1) C (zD D_X6_tellValue_0 9 rfl) (by decide) ?_
    refine z_aiload (pc := 64) C (zD D_X6_tellValue_0 10 rfl) (fun v64 => ?_)
    exact z_iret (pc := 65) C hr rfl (zD D_X6_tellValue_0 11 rfl)
  refine z_ite (fun c2 => ?_) (fun c2 => ?_)
  · refine z_tblIn (pc := 1) C (zD D_X6_tellValue_0 1 rfl) (by rw [c2]; decide) (by rw [c2]; decide) (by rw [c2]; rfl) (tgt := 66) (by decide) ?_
    refine z_aload_n (pc := 66) C (zD D_X6_tellValue_0 12 rfl) rfl 0 rfl ?_
    refine z_getR (pc := 67) C zc6 0 (by decide) q_102 (zD D_X6_tellValue_0 13 rfl) (fun v67 => ?_)
    refine z_iconst (pc := 70) (v := 2) C (zD D_X6_tellValue_0 14 rfl) (by decide) ?_
    refine z_aiload (pc := 71) C (zD D_X6_tellValue_0 15 rfl) (fun v71 => ?_)
    exact z_iret (pc := 72) C hr rfl (zD D_X6_tellValue_0 16 rfl)
  refine z_ite (fun c3 => ?_) (fun c3 => ?_)
  · refine z_tblIn (pc := 1) C (zD D_X6_tellValue_0 1 rfl) (by rw [c3]; decide) (by rw [c3]; decide) (by rw [c3]; rfl) (tgt := 73) (by decide) ?_
    refine z_aload_n (pc := 73) C (zD D_X6_tellValue_0 17 rfl) rfl 0 rfl ?_
    refine z_getR (pc := 74) C zc6 0 (by decide) q_102 (zD D_X6_tellValue_0 18 rfl) (fun v74 => ?_)
    refine z_iconst (pc := 77) (v := 3) C (zD D_X6_tellValue_0 19 rfl) (by decide) ?_
    refine z_aiload (pc := 78) C (zD D_X6_tellValue_0 20 rfl) (fun v78 => ?_)
    exact z_iret (pc := 79) C hr rfl (zD D_X6_tellValue_0 21 rfl)
  refine z_ite (fun c4 => ?_) (fun c4 => ?_)
  · refine z_tblIn (pc := 1) C (zD D_X6_tellValue_0 1 rfl) (by rw [c4]; decide) (by rw [c4]; decide) (by rw [c4]; rfl) (tgt := 80) (by decide) ?_
    refine z_aload_n (pc := 80) C (zD D_X6_tellValue_0 22 rfl) rfl 0 rfl ?_
    refine z_cvR (pc := 81) (As := []) C [] (c_X6_next _ _ _ _ n this h) zn_X6_next (by decide) (by decide) hz0 zc6 rfl q_481 q_482 q_483 q_5 q_484 rfl rfl rfl (zD D_X6_tellValue_0 23 rfl) (fun r81 => ?_)
    exact z_iret (pc := 84) C hr rfl (zD D_X6_tellValue_0 24 rfl)
  refine z_ite (fun c5 => ?_) (fun c5 => ?_)
  · refine z_tblIn (pc := 1) C (zD D_X6_tellValue_0 1 rfl) (by rw [c5]; decide) (by rw [c5]; decide) (by rw [c5]; rfl) (tgt := 85) (by decide) ?_
    refine z_aload_n (pc := 85) C (zD D_X6_tellValue_0 25 rfl) rfl 0 rfl ?_
    refine z_getR (pc := 86) C zc6 0 (by decide) q_102 (zD D_X6_tellValue_0 26 rfl) (fun v86 => ?_)
    refine z_iconst (pc := 89) (v := 5) C (zD D_X6_tellValue_0 27 rfl) (by decide) ?_
    refine z_aiload (pc := 90) C (zD D_X6_tellValue_0 28 rfl) (fun v90 => ?_)
    exact z_iret (pc := 91) C hr rfl (zD D_X6_tellValue_0 29 rfl)
  refine z_ite (fun c6 => ?_) (fun c6 => ?_)
  · refine z_tblIn (pc := 1) C (zD D_X6_tellValue_0 1 rfl) (by rw [c6]; decide) (by rw [c6]; decide) (by rw [c6]; rfl) (tgt := 92) (by decide) ?_
    refine z_aload_n (pc := 92) C (zD D_X6_tellValue_0 30 rfl) rfl 0 rfl ?_
    refine z_getR (pc := 93) C zc6 0 (by decide) q_102 (zD D_X6_tellValue_0 31 rfl) (fun v93 => ?_)
    refine z_bipush (pc := 96) (v := 6) C (zD D_X6_tellValue_0 32 rfl) (by decide) ?_
    refine z_aiload (pc := 98) C (zD D_X6_tellValue_0 33 rfl) (fun v98 => ?_)
    exact z_iret (pc := 99) C hr rfl (zD D_X6_tellValue_0 34 rfl)
  refine z_ite (fun c7 => ?_) (fun c7 => ?_)
  · refine z_tblIn (pc := 1) C (zD D_X6_tellValue_0 1 rfl) (by rw [c7]; decide) (by rw [c7]; decide) (by rw [c7]; rfl) (tgt := 100) (by decide) ?_
    refine z_aload_n (pc := 100) C (zD D_X6_tellValue_0 35 rfl) rfl 0 rfl ?_
    refine z_cvR (pc := 101) (As := []) C [] (c_X6_tracks _ _ _ _ n this h) zn_X6_tracks (by decide) (by decide) hz0 zc6 rfl q_741 q_742 q_743 q_5 q_744 rfl rfl rfl (zD D_X6_tellValue_0 36 rfl) (fun r101 => ?_)
    exact z_iret (pc := 104) C hr rfl (zD D_X6_tellValue_0 37 rfl)
  refine z_ite (fun c8 => ?_) (fun c8 => ?_)
  · refine z_tblIn (pc := 1) C (zD D_X6_tellValue_0 1 rfl) (by rw [c8]; decide) (by rw [c8]; decide) (by rw [c8]; rfl) (tgt := 105) (by decide) ?_
    refine z_aload_n (pc := 105) C (zD D_X6_tellValue_0 38 rfl) rfl 0 rfl ?_
    refine z_cvR (pc := 106) (As := []) C [] (c_X6_openOnes _ _ _ _ n this h) zn_X6_openOnes (by decide) (by decide) hz0 zc6 rfl q_745 q_746 q_747 q_5 q_748 rfl rfl rfl (zD D_X6_tellValue_0 39 rfl) (fun r106 => ?_)
    exact z_iret (pc := 109) C hr rfl (zD D_X6_tellValue_0 40 rfl)
  refine z_tblOut (pc := 1) C (zD D_X6_tellValue_0 1 rfl) (z_out _ (fun k h1 h2 => by rcases (show k = 0 ∨ k = 1 ∨ k = 2 ∨ k = 3 ∨ k = 4 ∨ k = 5 ∨ k = 6 ∨ k = 7 ∨ k = 8 by omega) with rfl | rfl | rfl | rfl | rfl | rfl | rfl | rfl | rfl; exact fun e => c0 (e.trans (by decide)); exact fun e => c1 (e.trans (by decide)); exact fun e => c2 (e.trans (by decide)); exact fun e => c3 (e.trans (by decide)); exact fun e => c4 (e.trans (by decide)); exact fun e => c5 (e.trans (by decide)); exact fun e => c6 (e.trans (by decide)); exact fun e => c7 (e.trans (by decide)); exact fun e => c8 (e.trans (by decide)))) (tgt := 110) (by decide) ?_
  refine z_aload_n (pc := 110) C (zD D_X6_tellValue_0 41 rfl) rfl 0 rfl ?_
  refine z_getR (pc := 111) C zc6 0 (by decide) q_102 (zD D_X6_tellValue_0 42 rfl) (fun v111 => ?_)
  refine z_bipush (pc := 114) (v := 7) C (zD D_X6_tellValue_0 43 rfl) (by decide) ?_
  refine z_aiload (pc := 116) C (zD D_X6_tellValue_0 44 rfl) (fun v116 => ?_)
  exact z_iret (pc := 117) C hr rfl (zD D_X6_tellValue_0 45 rfl)
def f_X6_town (n : Nat) (this : Nat) (p0 : Int32) (h : zH) : Option (Int32 × zH) := (f_X6_isTown n p0 h).bind fun (r2 : Int32) => zlet (fun (s0_13 : Int32) => zrc h this 6 <| zb2 (f_X6_refused n this s0_13 h) fun (r13 : Int32) (h13 : zH) => if r13 = 0 then ((zgR h13 this 6 0).bind fun (v24 : Nat) => (zai h13 v24 ((126 : Int32) + p0)).bind fun (v31 : Int32) => some (v31, h13)) else (some ((0 : Int32), h13))) fun K13 => if r2 = 0 then (K13 (1 : Int32)) else (K13 (0 : Int32))
theorem zn_X6_town : zNm yX6_town 1 := ⟨by decide +kernel, by decide +kernel⟩
set_option maxRecDepth 100000 in
set_option maxHeartbeats 4000000 in
theorem c_X6_town (l : Launch) (B : Nat) (D : va_G) (cA : Nat → ClassId) (n : Nat) (this : Nat) (p0 : Int32) (h : zH) : ∀ u, f_X6_town n this p0 h = some u → zM l B D cA yX6_town cX6_town 2 (some .int) 3 0 0 none [.ref (B + this), .int p0] h ((fun u : Int32 × zH => (some (Value.int u.1), u.2)) u).1 ((fun u : Int32 × zH => (some (Value.int u.1), u.2)) u).2 := by
  unfold f_X6_town
  refine z_met (own := RX6) (fun u : Int32 × zH => (some (Value.int u.1), u.2)) rfl (by decide) rfl (fun Z C hr _ _ => ?_)
  have hz0 : (z00 Z).1 ≤ 0 ∧ (z00 Z).2.1 ≤ 0 := ⟨Nat.le_refl 0, Nat.le_refl 0⟩
  refine z_aload_n (pc := 0) C (zD D_X6_town_0 0 rfl) rfl 0 rfl ?_
  refine z_iload_n (pc := 1) C (zD D_X6_town_0 1 rfl) rfl 1 rfl ?_
  refine z_csR (pc := 2) (As := [.int p0]) C [.ref (B + this)] (c_X6_isTown _ _ _ _ n p0 h) zn_X6_isTown (by decide) (by decide) hz0 q_188 q_189 q_5 q_190 rfl rfl rfl (zD D_X6_town_0 2 rfl) (fun r2 => ?_)
  refine z_letg (fun K13 => ∀ (s0_13 : Int32), zJ B Z (zEnd B Z (fun u : Int32 × zH => (some (Value.int u.1), u.2)) 0 0) (K13 s0_13) 13 [(0, .ref (B + this)), (1, .int p0)] [.int s0_13, .ref (B + this)] h (z00 Z)) (fun s0_13 => ?_) (fun K13 hK13 => ?_)
  · refine z_cvI (pc := 13) (As := [.int s0_13]) C [] (c_X6_refused _ _ _ _ n this s0_13 h) zn_X6_refused (by decide) (by decide) hz0 zc6 rfl q_155 q_156 q_157 q_5 q_158 rfl rfl rfl (zD D_X6_town_0 7 rfl) (fun r13 h13 => ?_)
    refine z_if_eq (pc := 16) C (zD D_X6_town_0 8 rfl) (tgt := 23) (by decide) (fun _ => ?_) (fun _ => ?_)
    · refine z_aload_n (pc := 23) C (zD D_X6_town_0 11 rfl) rfl 0 rfl ?_
      refine z_getR (pc := 24) C zc6 0 (by decide) q_102 (zD D_X6_town_0 12 rfl) (fun v24 => ?_)
      refine z_bipush (pc := 27) (v := 126) C (zD D_X6_town_0 13 rfl) (by decide) ?_
      refine z_iload_n (pc := 29) C (zD D_X6_town_0 14 rfl) rfl 1 rfl ?_
      refine z_iadd (pc := 30) C (zD D_X6_town_0 15 rfl) ?_
      refine z_aiload (pc := 31) C (zD D_X6_town_0 16 rfl) (fun v31 => ?_)
      exact z_iret (pc := 32) C hr rfl (zD D_X6_town_0 17 rfl)
    · refine z_iconst (pc := 19) (v := 0) C (zD D_X6_town_0 9 rfl) (by decide) ?_
      refine z_goto (pc := 20) C (zD D_X6_town_0 10 rfl) (tgt := 32) (by decide) ?_
      exact z_iret (pc := 32) C hr rfl (zD D_X6_town_0 17 rfl)
  refine z_if_eq (pc := 5) C (zD D_X6_town_0 3 rfl) (tgt := 12) (by decide) (fun _ => ?_) (fun _ => ?_)
  · refine z_iconst (pc := 12) (v := 1) C (zD D_X6_town_0 6 rfl) (by decide) ?_
    exact hK13 (1 : Int32)
  · refine z_iconst (pc := 8) (v := 0) C (zD D_X6_town_0 4 rfl) (by decide) ?_
    refine z_goto (pc := 9) C (zD D_X6_town_0 5 rfl) (tgt := 13) (by decide) ?_
    exact hK13 (0 : Int32)
def f_X6_track (n : Nat) (this : Nat) (p0 : Int32) (p1 : Int32) (h : zH) : Option (Int32 × zH) := (f_X6_isTown n p0 h).bind fun (r2 : Int32) => zlet (fun (s0_20 : Int32) => zrc h this 6 <| zb2 (f_X6_refused n this s0_20 h) fun (r20 : Int32) (h20 : zH) => if r20 = 0 then (zrc h20 this 6 <| (f_X6_level n this p0 p1 h20).bind fun (r33 : Int32) => some (r33, h20)) else (some ((0 : Int32), h20))) fun K20 => zlet (K20 (1 : Int32)) fun K19 => if r2 = 0 then (K19) else ((f_X6_isTown n p1 h).bind fun (r9 : Int32) => if r9 = 0 then (K19) else (K20 (0 : Int32)))
theorem zn_X6_track : zNm yX6_track 2 := ⟨by decide +kernel, by decide +kernel⟩
set_option maxRecDepth 100000 in
set_option maxHeartbeats 4000000 in
theorem c_X6_track (l : Launch) (B : Nat) (D : va_G) (cA : Nat → ClassId) (n : Nat) (this : Nat) (p0 : Int32) (p1 : Int32) (h : zH) : ∀ u, f_X6_track n this p0 p1 h = some u → zM l B D cA yX6_track cX6_track 3 (some .int) 3 0 0 none [.ref (B + this), .int p0, .int p1] h ((fun u : Int32 × zH => (some (Value.int u.1), u.2)) u).1 ((fun u : Int32 × zH => (some (Value.int u.1), u.2)) u).2 := by
  unfold f_X6_track
  refine z_met (own := RX6) (fun u : Int32 × zH => (some (Value.int u.1), u.2)) rfl (by decide) rfl (fun Z C hr _ _ => ?_)
  have hz0 : (z00 Z).1 ≤ 0 ∧ (z00 Z).2.1 ≤ 0 := ⟨Nat.le_refl 0, Nat.le_refl 0⟩
  refine z_aload_n (pc := 0) C (zD D_X6_track_0 0 rfl) rfl 0 rfl ?_
  refine z_iload_n (pc := 1) C (zD D_X6_track_0 1 rfl) rfl 1 rfl ?_
  refine z_csR (pc := 2) (As := [.int p0]) C [.ref (B + this)] (c_X6_isTown _ _ _ _ n p0 h) zn_X6_isTown (by decide) (by decide) hz0 q_188 q_189 q_5 q_190 rfl rfl rfl (zD D_X6_track_0 2 rfl) (fun r2 => ?_)
  refine z_letg (fun K20 => ∀ (s0_20 : Int32), zJ B Z (zEnd B Z (fun u : Int32 × zH => (some (Value.int u.1), u.2)) 0 0) (K20 s0_20) 20 [(0, .ref (B + this)), (1, .int p0), (2, .int p1)] [.int s0_20, .ref (B + this)] h (z00 Z)) (fun s0_20 => ?_) (fun K20 hK20 => ?_)
  · refine z_cvI (pc := 20) (As := [.int s0_20]) C [] (c_X6_refused _ _ _ _ n this s0_20 h) zn_X6_refused (by decide) (by decide) hz0 zc6 rfl q_155 q_156 q_157 q_5 q_158 rfl rfl rfl (zD D_X6_track_0 10 rfl) (fun r20 h20 => ?_)
    refine z_if_eq (pc := 23) C (zD D_X6_track_0 11 rfl) (tgt := 30) (by decide) (fun _ => ?_) (fun _ => ?_)
    · refine z_aload_n (pc := 30) C (zD D_X6_track_0 14 rfl) rfl 0 rfl ?_
      refine z_iload_n (pc := 31) C (zD D_X6_track_0 15 rfl) rfl 1 rfl ?_
      refine z_iload_n (pc := 32) C (zD D_X6_track_0 16 rfl) rfl 2 rfl ?_
      refine z_cvR (pc := 33) (As := [.int p0, .int p1]) C [] (c_X6_level _ _ _ _ n this p0 p1 h20) zn_X6_level (by decide) (by decide) hz0 zc6 rfl q_600 q_601 q_602 q_5 q_603 rfl rfl rfl (zD D_X6_track_0 17 rfl) (fun r33 => ?_)
      exact z_iret (pc := 36) C hr rfl (zD D_X6_track_0 18 rfl)
    · refine z_iconst (pc := 26) (v := 0) C (zD D_X6_track_0 12 rfl) (by decide) ?_
      refine z_goto (pc := 27) C (zD D_X6_track_0 13 rfl) (tgt := 36) (by decide) ?_
      exact z_iret (pc := 36) C hr rfl (zD D_X6_track_0 18 rfl)
  refine z_letg (fun K19 => zJ B Z (zEnd B Z (fun u : Int32 × zH => (some (Value.int u.1), u.2)) 0 0) (K19) 19 [(0, .ref (B + this)), (1, .int p0), (2, .int p1)] [.ref (B + this)] h (z00 Z)) ?_ (fun K19 hK19 => ?_)
  · refine z_iconst (pc := 19) (v := 1) C (zD D_X6_track_0 9 rfl) (by decide) ?_
    exact hK20 (1 : Int32)
  refine z_if_eq (pc := 5) C (zD D_X6_track_0 3 rfl) (tgt := 19) (by decide) (fun _ => ?_) (fun _ => ?_)
  · exact hK19
  · refine z_iload_n (pc := 8) C (zD D_X6_track_0 4 rfl) rfl 2 rfl ?_
    refine z_csR (pc := 9) (As := [.int p1]) C [.ref (B + this)] (c_X6_isTown _ _ _ _ n p1 h) zn_X6_isTown (by decide) (by decide) hz0 q_188 q_189 q_5 q_190 rfl rfl rfl (zD D_X6_track_0 5 rfl) (fun r9 => ?_)
    refine z_if_eq (pc := 12) C (zD D_X6_track_0 6 rfl) (tgt := 19) (by decide) (fun _ => ?_) (fun _ => ?_)
    · exact hK19
    · refine z_iconst (pc := 15) (v := 0) C (zD D_X6_track_0 7 rfl) (by decide) ?_
      refine z_goto (pc := 16) C (zD D_X6_track_0 8 rfl) (tgt := 20) (by decide) ?_
      exact hK20 (0 : Int32)
def f_X6_unsold (n : Nat) (this : Nat) (h : zH) : Option (UInt64 × zH) := (zp h this 6 5 (.int (0 : Int32))).bind fun (h2 : zH) => zfix2 (fun rec9 (a1_9 : Int32) (a2_9 : Int32) => if (4 : Int32) ≤ a2_9 then (zrc h2 this 6 <| (f_X6_openOnes n this h2).bind fun (r43 : Int32) => zlet (((10 : Int32) * r43)) fun (x47 : Int32) => if x47 = 0 then (some (FP.dconst0, h2)) else ((zdd (FP.i2d a1_9) (FP.i2d x47)).bind fun (v60 : UInt64) => some (v60, h2))) else (zrc h2 this 6 <| (f_X6_isOpen n this a2_9 h2).bind fun (r17 : Int32) => zlet (fun (s0_32 : Int32) => zlet ((a1_9 + s0_32)) fun (x33 : Int32) => zlet (a2_9 + 1) fun (x34 : Int32) => rec9 x33 x34) fun K32 => if r17 = 0 then (K32 (0 : Int32)) else (zrc h2 this 6 <| (f_X6_rest n this a2_9 h2).bind fun (r25 : Int32) => K32 r25))) n (0 : Int32) (0 : Int32)
theorem zn_X6_unsold : zNm yX6_unsold 0 := ⟨by decide +kernel, by decide +kernel⟩
set_option maxRecDepth 100000 in
set_option maxHeartbeats 4000000 in
theorem c_X6_unsold (l : Launch) (B : Nat) (D : va_G) (cA : Nat → ClassId) (n : Nat) (this : Nat) (h : zH) : ∀ u, f_X6_unsold n this h = some u → zM l B D cA yX6_unsold cX6_unsold 3 (some .double) 3 0 0 none [.ref (B + this)] h ((fun u : UInt64 × zH => (some (Value.double u.1), u.2)) u).1 ((fun u : UInt64 × zH => (some (Value.double u.1), u.2)) u).2 := by
  unfold f_X6_unsold
  refine z_met (own := RX6) (fun u : UInt64 × zH => (some (Value.double u.1), u.2)) rfl (by decide) rfl (fun Z C hr _ _ => ?_)
  have hz0 : (z00 Z).1 ≤ 0 ∧ (z00 Z).2.1 ≤ 0 := ⟨Nat.le_refl 0, Nat.le_refl 0⟩
  refine z_aload_n (pc := 0) C (zD D_X6_unsold_0 0 rfl) rfl 0 rfl ?_
  refine z_iconst (pc := 1) (v := 0) C (zD D_X6_unsold_0 1 rfl) (by decide) ?_
  refine z_putI (pc := 2) C zc6 5 (by decide) q_159 rfl rfl (zD D_X6_unsold_0 2 rfl) (fun h2 => ?_)
  refine z_iconst (pc := 5) (v := 0) C (zD D_X6_unsold_0 3 rfl) (by decide) ?_
  refine z_istore_n (pc := 6) (lv' := [(1, .int (0 : Int32)), (0, .ref (B + this))]) C (zD D_X6_unsold_0 4 rfl) rfl (by decide) rfl ?_
  refine z_iconst (pc := 7) (v := 0) C (zD D_X6_unsold_0 5 rfl) (by decide) ?_
  refine z_istore_n (pc := 8) (lv' := [(2, .int (0 : Int32)), (1, .int (0 : Int32)), (0, .ref (B + this))]) C (zD D_X6_unsold_0 6 rfl) rfl (by decide) rfl ?_
  refine z_sub [2, 1, 0] (lv' := [(0, .ref (B + this)), (1, .int (0 : Int32)), (2, .int (0 : Int32))]) rfl ?_
  refine z_fix2 (fun g9 => ∀ (a1_9 : Int32) (a2_9 : Int32), zJ B Z (zEnd B Z (fun u : UInt64 × zH => (some (Value.double u.1), u.2)) 0 0) (g9 a1_9 a2_9) 9 [(0, .ref (B + this)), (1, .int a1_9), (2, .int a2_9)] [] h2 (z00 Z)) (fun _ _ => z_none) (fun rec9 hrec9 a1_9 a2_9 => ?_) n (0 : Int32) (0 : Int32)
  refine z_iload_n (pc := 9) C (zD D_X6_unsold_0 7 rfl) rfl 2 rfl ?_
  refine z_iconst (pc := 10) (v := 4) C (zD D_X6_unsold_0 8 rfl) (by decide) ?_
  refine z_icmp_ge (pc := 11) C (zD D_X6_unsold_0 9 rfl) (tgt := 40) (by decide) (fun _ => ?_) (fun _ => ?_)
  · refine z_bipush (pc := 40) (v := 10) C (zD D_X6_unsold_0 24 rfl) (by decide) ?_
    refine z_aload_n (pc := 42) C (zD D_X6_unsold_0 25 rfl) rfl 0 rfl ?_
    refine z_cvR (pc := 43) (As := []) C [.int (10 : Int32)] (c_X6_openOnes _ _ _ _ n this h2) zn_X6_openOnes (by decide) (by decide) hz0 zc6 rfl q_745 q_746 q_747 q_5 q_748 rfl rfl rfl (zD D_X6_unsold_0 26 rfl) (fun r43 => ?_)
    refine z_imul (pc := 46) C (zD D_X6_unsold_0 27 rfl) ?_
    refine z_istore_nL (pc := 47) (lv' := fun x47 => [(2, .int x47), (0, .ref (B + this)), (1, .int a1_9)]) C (zD D_X6_unsold_0 28 rfl) rfl (by decide) (fun _ => rfl) (fun x47 => ?_)
    refine z_iload_n (pc := 48) C (zD D_X6_unsold_0 29 rfl) rfl 0 rfl ?_
    refine z_if_ne (pc := 49) C (zD D_X6_unsold_0 30 rfl) (tgt := 56) (by decide) (fun _ => ?_) (fun _ => ?_)
    · refine z_iload_n (pc := 56) C (zD D_X6_unsold_0 33 rfl) rfl 2 rfl ?_
      refine z_i2d (pc := 57) C (zD D_X6_unsold_0 34 rfl) ?_
      refine z_iload_n (pc := 58) C (zD D_X6_unsold_0 35 rfl) rfl 0 rfl ?_
      refine z_i2d (pc := 59) C (zD D_X6_unsold_0 36 rfl) ?_
      refine z_dd (pc := 60) C (zD D_X6_unsold_0 37 rfl) (fun v60 => ?_)
      exact z_dret (pc := 61) C hr rfl (zD D_X6_unsold_0 38 rfl)
    · refine z_dconst0 (pc := 52) C (zD D_X6_unsold_0 31 rfl) ?_
      refine z_goto (pc := 53) C (zD D_X6_unsold_0 32 rfl) (tgt := 61) (by decide) ?_
      exact z_dret (pc := 61) C hr rfl (zD D_X6_unsold_0 38 rfl)
  · refine z_iload_n (pc := 14) C (zD D_X6_unsold_0 10 rfl) rfl 1 rfl ?_
    refine z_aload_n (pc := 15) C (zD D_X6_unsold_0 11 rfl) rfl 0 rfl ?_
    refine z_iload_n (pc := 16) C (zD D_X6_unsold_0 12 rfl) rfl 2 rfl ?_
    refine z_cvR (pc := 17) (As := [.int a2_9]) C [.int a1_9] (c_X6_isOpen _ _ _ _ n this a2_9 h2) zn_X6_isOpen (by decide) (by decide) hz0 zc6 rfl q_256 q_257 q_258 q_5 q_259 rfl rfl rfl (zD D_X6_unsold_0 13 rfl) (fun r17 => ?_)
    refine z_letg (fun K32 => ∀ (s0_32 : Int32), zJ B Z (zEnd B Z (fun u : UInt64 × zH => (some (Value.double u.1), u.2)) 0 0) (K32 s0_32) 32 [(0, .ref (B + this)), (2, .int a2_9)] [.int s0_32, .int a1_9] h2 (z00 Z)) (fun s0_32 => ?_) (fun K32 hK32 => ?_)
    · refine z_iadd (pc := 32) C (zD D_X6_unsold_0 20 rfl) ?_
      refine z_istore_nL (pc := 33) (lv' := fun x33 => [(1, .int x33), (0, .ref (B + this)), (2, .int a2_9)]) C (zD D_X6_unsold_0 21 rfl) rfl (by decide) (fun _ => rfl) (fun x33 => ?_)
      refine z_iincL (pc := 34) (lv' := fun x34 => [(2, .int x34), (1, .int x33), (0, .ref (B + this))]) C (zD D_X6_unsold_0 22 rfl) 2 rfl (v := a2_9 + 1) rfl (by decide) (fun _ => rfl) (fun x34 => ?_)
      refine z_goto (pc := 37) C (zD D_X6_unsold_0 23 rfl) (tgt := 9) (by decide) ?_
      refine z_sub [2, 1, 0] (lv' := [(0, .ref (B + this)), (1, .int x33), (2, .int x34)]) rfl ?_
      exact hrec9 x33 x34
    refine z_if_eq (pc := 20) C (zD D_X6_unsold_0 14 rfl) (tgt := 31) (by decide) (fun _ => ?_) (fun _ => ?_)
    · refine z_iconst (pc := 31) (v := 0) C (zD D_X6_unsold_0 19 rfl) (by decide) ?_
      refine z_sub [0, 2] (lv' := [(0, .ref (B + this)), (2, .int a2_9)]) rfl ?_
      exact hK32 (0 : Int32)
    · refine z_aload_n (pc := 23) C (zD D_X6_unsold_0 15 rfl) rfl 0 rfl ?_
      refine z_iload_n (pc := 24) C (zD D_X6_unsold_0 16 rfl) rfl 2 rfl ?_
      refine z_cvR (pc := 25) (As := [.int a2_9]) C [.int a1_9] (c_X6_rest _ _ _ _ n this a2_9 h2) zn_X6_rest (by decide) (by decide) hz0 zc6 rfl q_327 q_328 q_329 q_5 q_330 rfl rfl rfl (zD D_X6_unsold_0 17 rfl) (fun r25 => ?_)
      refine z_goto (pc := 28) C (zD D_X6_unsold_0 18 rfl) (tgt := 32) (by decide) ?_
      refine z_sub [0, 2] (lv' := [(0, .ref (B + this)), (2, .int a2_9)]) rfl ?_
      exact hK32 r25
def f_X6_worth (n : Nat) (this : Nat) (p0 : Int32) (h : zH) : Option (Int32) := (zgR h this 6 0).bind fun (v1 : Nat) => (zai h v1 ((14 : Int32) + p0)).bind fun (v8 : Int32) => zfix2 (fun rec12 (a2_12 : Int32) (a3_12 : Int32) => if (4 : Int32) ≤ a3_12 then (some a2_12) else (zrc h this 6 <| (f_X6_shares n this p0 a3_12 h).bind fun (r21 : Int32) => zrc h this 6 <| (f_X6_price n this a3_12 h).bind fun (r26 : Int32) => zlet ((a2_12 + (r21 * r26))) fun (x31 : Int32) => zlet (a3_12 + 1) fun (x32 : Int32) => rec12 x31 x32)) n v8 (0 : Int32)
theorem zn_X6_worth : zNm yX6_worth 1 := ⟨by decide +kernel, by decide +kernel⟩
set_option maxRecDepth 100000 in
set_option maxHeartbeats 4000000 in
theorem c_X6_worth (l : Launch) (B : Nat) (D : va_G) (cA : Nat → ClassId) (n : Nat) (this : Nat) (p0 : Int32) (h : zH) : ∀ u, f_X6_worth n this p0 h = some u → zM l B D cA yX6_worth cX6_worth 4 (some .int) 3 0 0 none [.ref (B + this), .int p0] h ((fun r : Int32 => (some (Value.int r), h)) u).1 ((fun r : Int32 => (some (Value.int r), h)) u).2 := by
  unfold f_X6_worth
  refine z_met (own := RX6) (fun r : Int32 => (some (Value.int r), h)) rfl (by decide) rfl (fun Z C hr _ _ => ?_)
  have hz0 : (z00 Z).1 ≤ 0 ∧ (z00 Z).2.1 ≤ 0 := ⟨Nat.le_refl 0, Nat.le_refl 0⟩
  refine z_aload_n (pc := 0) C (zD D_X6_worth_0 0 rfl) rfl 0 rfl ?_
  refine z_getR (pc := 1) C zc6 0 (by decide) q_102 (zD D_X6_worth_0 1 rfl) (fun v1 => ?_)
  refine z_bipush (pc := 4) (v := 14) C (zD D_X6_worth_0 2 rfl) (by decide) ?_
  refine z_iload_n (pc := 6) C (zD D_X6_worth_0 3 rfl) rfl 1 rfl ?_
  refine z_iadd (pc := 7) C (zD D_X6_worth_0 4 rfl) ?_
  refine z_aiload (pc := 8) C (zD D_X6_worth_0 5 rfl) (fun v8 => ?_)
  refine z_istore_n (pc := 9) (lv' := [(2, .int v8), (0, .ref (B + this)), (1, .int p0)]) C (zD D_X6_worth_0 6 rfl) rfl (by decide) rfl ?_
  refine z_iconst (pc := 10) (v := 0) C (zD D_X6_worth_0 7 rfl) (by decide) ?_
  refine z_istore_n (pc := 11) (lv' := [(3, .int (0 : Int32)), (2, .int v8), (0, .ref (B + this)), (1, .int p0)]) C (zD D_X6_worth_0 8 rfl) rfl (by decide) rfl ?_
  refine z_sub [2, 3, 1, 0] (lv' := [(0, .ref (B + this)), (1, .int p0), (2, .int v8), (3, .int (0 : Int32))]) rfl ?_
  refine z_fix2 (fun g12 => ∀ (a2_12 : Int32) (a3_12 : Int32), zJ B Z (zEnd B Z (fun r : Int32 => (some (Value.int r), h)) 0 0) (g12 a2_12 a3_12) 12 [(0, .ref (B + this)), (1, .int p0), (2, .int a2_12), (3, .int a3_12)] [] h (z00 Z)) (fun _ _ => z_none) (fun rec12 hrec12 a2_12 a3_12 => ?_) n v8 (0 : Int32)
  refine z_iload_n (pc := 12) C (zD D_X6_worth_0 9 rfl) rfl 3 rfl ?_
  refine z_iconst (pc := 13) (v := 4) C (zD D_X6_worth_0 10 rfl) (by decide) ?_
  refine z_icmp_ge (pc := 14) C (zD D_X6_worth_0 11 rfl) (tgt := 38) (by decide) (fun _ => ?_) (fun _ => ?_)
  · refine z_iload_n (pc := 38) C (zD D_X6_worth_0 25 rfl) rfl 2 rfl ?_
    exact z_iret (pc := 39) C hr rfl (zD D_X6_worth_0 26 rfl)
  · refine z_iload_n (pc := 17) C (zD D_X6_worth_0 12 rfl) rfl 2 rfl ?_
    refine z_aload_n (pc := 18) C (zD D_X6_worth_0 13 rfl) rfl 0 rfl ?_
    refine z_iload_n (pc := 19) C (zD D_X6_worth_0 14 rfl) rfl 1 rfl ?_
    refine z_iload_n (pc := 20) C (zD D_X6_worth_0 15 rfl) rfl 3 rfl ?_
    refine z_cvR (pc := 21) (As := [.int p0, .int a3_12]) C [.int a2_12] (c_X6_shares _ _ _ _ n this p0 a3_12 h) zn_X6_shares (by decide) (by decide) hz0 zc6 rfl q_284 q_285 q_286 q_5 q_287 rfl rfl rfl (zD D_X6_worth_0 16 rfl) (fun r21 => ?_)
    refine z_aload_n (pc := 24) C (zD D_X6_worth_0 17 rfl) rfl 0 rfl ?_
    refine z_iload_n (pc := 25) C (zD D_X6_worth_0 18 rfl) rfl 3 rfl ?_
    refine z_cvR (pc := 26) (As := [.int a3_12]) C [.int r21, .int a2_12] (c_X6_price _ _ _ _ n this a3_12 h) zn_X6_price (by decide) (by decide) hz0 zc6 rfl q_268 q_269 q_270 q_5 q_271 rfl rfl rfl (zD D_X6_worth_0 19 rfl) (fun r26 => ?_)
    refine z_imul (pc := 29) C (zD D_X6_worth_0 20 rfl) ?_
    refine z_iadd (pc := 30) C (zD D_X6_worth_0 21 rfl) ?_
    refine z_istore_nL (pc := 31) (lv' := fun x31 => [(2, .int x31), (0, .ref (B + this)), (1, .int p0), (3, .int a3_12)]) C (zD D_X6_worth_0 22 rfl) rfl (by decide) (fun _ => rfl) (fun x31 => ?_)
    refine z_iincL (pc := 32) (lv' := fun x32 => [(3, .int x32), (2, .int x31), (0, .ref (B + this)), (1, .int p0)]) C (zD D_X6_worth_0 23 rfl) 3 rfl (v := a3_12 + 1) rfl (by decide) (fun _ => rfl) (fun x32 => ?_)
    refine z_goto (pc := 35) C (zD D_X6_worth_0 24 rfl) (tgt := 12) (by decide) ?_
    refine z_sub [2, 3, 1, 0] (lv' := [(0, .ref (B + this)), (1, .int p0), (2, .int x31), (3, .int x32)]) rfl ?_
    exact hrec12 x31 x32
