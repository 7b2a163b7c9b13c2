def f_X3_income (n : Nat) (this : Nat) (h : zH) : Option (Int32) := (zgI h this 3 7).bind fun (v1 : Int32) => some (zmax v1 (0 : Int32))
theorem zn_X3_income : zNm yX3_income 0 := ⟨by decide +kernel, by decide +kernel⟩
set_option maxRecDepth 100000 in
set_option maxHeartbeats 4000000 in
theorem c_X3_income (l : Launch) (B : Nat) (D : va_G) (cA : Nat → ClassId) (n : Nat) (this : Nat) (h : zH) : ∀ u, f_X3_income n this h = some u → zM l B D cA yX3_income cX3_income 1 (some .int) 1 0 0 none [.ref (B + this)] h ((fun r : Int32 => (some (Value.int r), h)) u).1 ((fun r : Int32 => (some (Value.int r), h)) u).2 := by
  unfold f_X3_income
  refine z_met (own := RX3) (fun r : Int32 => (some (Value.int r), h)) rfl (by decide) rfl (fun Z C hr _ _ => ?_)
  have hz0 : (z00 Z).1 ≤ 0 ∧ (z00 Z).2.1 ≤ 0 := ⟨Nat.le_refl 0, Nat.le_refl 0⟩
  refine z_aload_n (pc := 0) C (zD D_X3_income_0 0 rfl) rfl 0 rfl ?_
  refine z_getI (pc := 1) C zc3 7 (by decide) q_213 (zD D_X3_income_0 1 rfl) (fun v1 => ?_)
  refine z_iconst (pc := 4) (v := 0) C (zD D_X3_income_0 2 rfl) (by decide) ?_
  refine z_max (pc := 5) C [] rfl q_237 q_238 q_209 q_239 (by decide) rfl hz0 (zD D_X3_income_0 3 rfl) ?_
  exact z_iret (pc := 8) C hr rfl (zD D_X3_income_0 4 rfl)
def f_X3_keep (n : Nat) (this : Nat) (p0 : Int32) (p1 : Int32) (h : zH) : Option (zH) := (zgR h this 3 1).bind fun (v1 : Nat) => (zgR h this 3 2).bind fun (v6 : Nat) => (zcp h v1 (0 : Int32) v6 (0 : Int32) p0).bind fun (h11 : zH) => (zp h11 this 3 6 (.int p0)).bind fun (h16 : zH) => (zp h16 this 3 7 (.int p1)).bind fun (h21 : zH) => some h21
theorem zn_X3_keep : zNm yX3_keep 2 := ⟨by decide +kernel, by decide +kernel⟩
set_option maxRecDepth 100000 in
set_option maxHeartbeats 4000000 in
theorem c_X3_keep (l : Launch) (B : Nat) (D : va_G) (cA : Nat → ClassId) (n : Nat) (this : Nat) (p0 : Int32) (p1 : Int32) (h : zH) : ∀ u, f_X3_keep n this p0 p1 h = some u → zM l B D cA yX3_keep cX3_keep 3 none 1 0 0 none [.ref (B + this), .int p0, .int p1] h ((fun h1 : zH => ((none : Option Value), h1)) u).1 ((fun h1 : zH => ((none : Option Value), h1)) u).2 := by
  unfold f_X3_keep
  refine z_met (own := RX3) (fun h1 : zH => ((none : Option Value), h1)) rfl (by decide) rfl (fun Z C hr _ _ => ?_)
  have hz0 : (z00 Z).1 ≤ 0 ∧ (z00 Z).2.1 ≤ 0 := ⟨Nat.le_refl 0, Nat.le_refl 0⟩
  refine z_aload_n (pc := 0) C (zD D_X3_keep_0 0 rfl) rfl 0 rfl ?_
  refine z_getR (pc := 1) C zc3 1 (by decide) q_29 (zD D_X3_keep_0 1 rfl) (fun v1 => ?_)
  refine z_iconst (pc := 4) (v := 0) C (zD D_X3_keep_0 2 rfl) (by decide) ?_
  refine z_aload_n (pc := 5) C (zD D_X3_keep_0 3 rfl) rfl 0 rfl ?_
  refine z_getR (pc := 6) C zc3 2 (by decide) q_30 (zD D_X3_keep_0 4 rfl) (fun v6 => ?_)
  refine z_iconst (pc := 9) (v := 0) C (zD D_X3_keep_0 5 rfl) (by decide) ?_
  refine z_iload_n (pc := 10) C (zD D_X3_keep_0 6 rfl) rfl 1 rfl ?_
  refine z_copy (pc := 11) C q_232 q_112 q_113 q_114 (by decide) (zD D_X3_keep_0 7 rfl) (fun h11 => ?_)
  refine z_aload_n (pc := 14) C (zD D_X3_keep_0 8 rfl) rfl 0 rfl ?_
  refine z_iload_n (pc := 15) C (zD D_X3_keep_0 9 rfl) rfl 1 rfl ?_
  refine z_putI (pc := 16) C zc3 6 (by decide) q_212 rfl rfl (zD D_X3_keep_0 10 rfl) (fun h16 => ?_)
  refine z_aload_n (pc := 19) C (zD D_X3_keep_0 11 rfl) rfl 0 rfl ?_
  refine z_iload_n (pc := 20) C (zD D_X3_keep_0 12 rfl) rfl 2 rfl ?_
  refine z_putI (pc := 21) C zc3 7 (by decide) q_213 rfl rfl (zD D_X3_keep_0 13 rfl) (fun h21 => ?_)
  exact z_vret (pc := 24) C hr rfl (zD D_X3_keep_0 14 rfl)
def f_X3_markNeighbours (n : Nat) (this : Nat) (p0 : Nat) (p1 : Int32) (h : zH) : Option (Int32 × zH) := zfix3 (fun rec5 (a3_5 : Int32) (a4_5 : Int32) (h5 : zH) => if (8 : Int32) ≤ a4_5 then ((zB a3_5).bind fun _ => some (a3_5, h5)) else ((zai h5 p0 a4_5).bind fun (v15 : Int32) => zlet (fun (a3_41 : Int32) (h41 : zH) => zlet (a4_5 + 1) fun (x41 : Int32) => rec5 a3_41 x41 h41) fun K41 => if v15 ≤ 0 then (K41 a3_5 h5) else ((zgR h5 this 3 0).bind fun (v20 : Nat) => (zai h5 v20 a4_5).bind fun (v25 : Int32) => if v25 = (8 : Int32) then ((zgR h5 this 3 0).bind fun (v32 : Nat) => (zsi h5 v32 a4_5 p1).bind fun (h38 : zH) => K41 (1 : Int32) h38) else (K41 a3_5 h5)))) n (0 : Int32) (0 : Int32) h
theorem zn_X3_markNeighbours : zNm yX3_markNeighbours 2 := ⟨by decide +kernel, by decide +kernel⟩
set_option maxRecDepth 100000 in
set_option maxHeartbeats 4000000 in
theorem c_X3_markNeighbours (l : Launch) (B : Nat) (D : va_G) (cA : Nat → ClassId) (n : Nat) (this : Nat) (p0 : Nat) (p1 : Int32) (h : zH) : ∀ u, f_X3_markNeighbours n this p0 p1 h = some u → zM l B D cA yX3_markNeighbours cX3_markNeighbours 5 (some .boolean) 1 0 0 none [.ref (B + this), .ref (B + p0), .int p1] h ((fun u : Int32 × zH => (some (Value.int u.1), u.2)) u).1 ((fun u : Int32 × zH => (some (Value.int u.1), u.2)) u).2 := by
  unfold f_X3_markNeighbours
  refine z_met (own := RX3) (fun u : Int32 × zH => (some (Value.int u.1), u.2)) rfl (by decide) rfl (fun Z C hr _ _ => ?_)
  have hz0 : (z00 Z).1 ≤ 0 ∧ (z00 Z).2.1 ≤ 0 := ⟨Nat.le_refl 0, Nat.le_refl 0⟩
  refine z_iconst (pc := 0) (v := 0) C (zD D_X3_markNeighbours_0 0 rfl) (by decide) ?_
  refine z_istore_n (pc := 1) (lv' := [(3, .int (0 : Int32)), (0, .ref (B + this)), (1, .ref (B + p0)), (2, .int p1)]) C (zD D_X3_markNeighbours_0 1 rfl) rfl (by decide) rfl ?_
  refine z_iconst (pc := 2) (v := 0) C (zD D_X3_markNeighbours_0 2 rfl) (by decide) ?_
  refine z_istore (pc := 3) (lv' := [(4, .int (0 : Int32)), (3, .int (0 : Int32)), (0, .ref (B + this)), (1, .ref (B + p0)), (2, .int p1)]) C (zD D_X3_markNeighbours_0 3 rfl) (by decide) rfl ?_
  refine z_sub [2, 3, 4, 1, 0] (lv' := [(0, .ref (B + this)), (1, .ref (B + p0)), (2, .int p1), (3, .int (0 : Int32)), (4, .int (0 : Int32))]) rfl ?_
  refine z_fix3 (fun g5 => ∀ (a3_5 : Int32) (a4_5 : Int32) (h5 : zH), zJ B Z (zEnd B Z (fun u : Int32 × zH => (some (Value.int u.1), u.2)) 0 0) (g5 a3_5 a4_5 h5) 5 [(0, .ref (B + this)), (1, .ref (B + p0)), (2, .int p1), (3, .int a3_5), (4, .int a4_5)] [] h5 (z00 Z)) (fun _ _ _ => z_none) (fun rec5 hrec5 a3_5 a4_5 h5 => ?_) n (0 : Int32) (0 : Int32) h
  refine z_iload (pc := 5) C (zD D_X3_markNeighbours_0 4 rfl) 4 rfl ?_
  refine z_bipush (pc := 7) (v := 8) C (zD D_X3_markNeighbours_0 5 rfl) (by decide) ?_
  refine z_icmp_ge (pc := 9) C (zD D_X3_markNeighbours_0 6 rfl) (tgt := 47) (by decide) (fun _ => ?_) (fun _ => ?_)
  · refine z_iload_n (pc := 47) C (zD D_X3_markNeighbours_0 26 rfl) rfl 3 rfl ?_
    refine z_bool (fun hb => ?_)
    exact z_zret (pc := 48) C hr hb rfl (zD D_X3_markNeighbours_0 27 rfl)
  · refine z_aload_n (pc := 12) C (zD D_X3_markNeighbours_0 7 rfl) rfl 1 rfl ?_
    refine z_iload (pc := 13) C (zD D_X3_markNeighbours_0 8 rfl) 4 rfl ?_
    refine z_aiload (pc := 15) C (zD D_X3_markNeighbours_0 9 rfl) (fun v15 => ?_)
    refine z_letg (fun K41 => ∀ (a3_41 : Int32) (h41 : zH), zJ B Z (zEnd B Z (fun u : Int32 × zH => (some (Value.int u.1), u.2)) 0 0) (K41 a3_41 h41) 41 [(0, .ref (B + this)), (1, .ref (B + p0)), (2, .int p1), (3, .int a3_41), (4, .int a4_5)] [] h41 (z00 Z)) (fun a3_41 h41 => ?_) (fun K41 hK41 => ?_)
    · refine z_iincL (pc := 41) (lv' := fun x41 => [(4, .int x41), (0, .ref (B + this)), (1, .ref (B + p0)), (2, .int p1), (3, .int a3_41)]) C (zD D_X3_markNeighbours_0 24 rfl) 4 rfl (v := a4_5 + 1) rfl (by decide) (fun _ => rfl) (fun x41 => ?_)
      refine z_goto (pc := 44) C (zD D_X3_markNeighbours_0 25 rfl) (tgt := 5) (by decide) ?_
      refine z_sub [1, 2, 3, 4, 0] (lv' := [(0, .ref (B + this)), (1, .ref (B + p0)), (2, .int p1), (3, .int a3_41), (4, .int x41)]) rfl ?_
      exact hrec5 a3_41 x41 h41
    refine z_if_le (pc := 16) C (zD D_X3_markNeighbours_0 10 rfl) (tgt := 41) (by decide) (fun _ => ?_) (fun _ => ?_)
    · exact hK41 a3_5 h5
    · refine z_aload_n (pc := 19) C (zD D_X3_markNeighbours_0 11 rfl) rfl 0 rfl ?_
      refine z_getR (pc := 20) C zc3 0 (by decide) q_28 (zD D_X3_markNeighbours_0 12 rfl) (fun v20 => ?_)
      refine z_iload (pc := 23) C (zD D_X3_markNeighbours_0 13 rfl) 4 rfl ?_
      refine z_aiload (pc := 25) C (zD D_X3_markNeighbours_0 14 rfl) (fun v25 => ?_)
      refine z_bipush (pc := 26) (v := 8) C (zD D_X3_markNeighbours_0 15 rfl) (by decide) ?_
      refine z_icmp_ne (pc := 28) C (zD D_X3_markNeighbours_0 16 rfl) (tgt := 41) (by decide) (fun _ => ?_) (fun _ => ?_)
      · exact hK41 a3_5 h5
      · refine z_aload_n (pc := 31) C (zD D_X3_markNeighbours_0 17 rfl) rfl 0 rfl ?_
        refine z_getR (pc := 32) C zc3 0 (by decide) q_28 (zD D_X3_markNeighbours_0 18 rfl) (fun v32 => ?_)
        refine z_iload (pc := 35) C (zD D_X3_markNeighbours_0 19 rfl) 4 rfl ?_
        refine z_iload_n (pc := 37) C (zD D_X3_markNeighbours_0 20 rfl) rfl 2 rfl ?_
        refine z_aistore (pc := 38) C (zD D_X3_markNeighbours_0 21 rfl) (fun h38 => ?_)
        refine z_iconst (pc := 39) (v := 1) C (zD D_X3_markNeighbours_0 22 rfl) (by decide) ?_
        refine z_istore_n (pc := 40) (lv' := [(3, .int (1 : Int32)), (0, .ref (B + this)), (1, .ref (B + p0)), (2, .int p1), (4, .int a4_5)]) C (zD D_X3_markNeighbours_0 23 rfl) rfl (by decide) rfl ?_
        refine z_sub [1, 2, 3, 0, 4] (lv' := [(0, .ref (B + this)), (1, .ref (B + p0)), (2, .int p1), (3, .int (1 : Int32)), (4, .int a4_5)]) rfl ?_
        exact hK41 (1 : Int32) h38
def f_X3_reached (n : Nat) (this : Nat) (p0 : Int32) (h : zH) : Option (Int32) := (zgR h this 3 0).bind fun (v1 : Nat) => (zai h v1 p0).bind fun (v5 : Int32) => if (8 : Int32) ≤ v5 then (some (0 : Int32)) else (some (1 : Int32))
theorem zn_X3_reached : zNm yX3_reached 1 := ⟨by decide +kernel, by decide +kernel⟩
set_option maxRecDepth 100000 in
set_option maxHeartbeats 4000000 in
theorem c_X3_reached (l : Launch) (B : Nat) (D : va_G) (cA : Nat → ClassId) (n : Nat) (this : Nat) (p0 : Int32) (h : zH) : ∀ u, f_X3_reached n this p0 h = some u → zM l B D cA yX3_reached cX3_reached 2 (some .boolean) 1 0 0 none [.ref (B + this), .int p0] h ((fun r : Int32 => (some (Value.int r), h)) u).1 ((fun r : Int32 => (some (Value.int r), h)) u).2 := by
  unfold f_X3_reached
  refine z_met (own := RX3) (fun r : Int32 => (some (Value.int r), h)) rfl (by decide) rfl (fun Z C hr _ _ => ?_)
  have hz0 : (z00 Z).1 ≤ 0 ∧ (z00 Z).2.1 ≤ 0 := ⟨Nat.le_refl 0, Nat.le_refl 0⟩
  refine z_aload_n (pc := 0) C (zD D_X3_reached_0 0 rfl) rfl 0 rfl ?_
  refine z_getR (pc := 1) C zc3 0 (by decide) q_28 (zD D_X3_reached_0 1 rfl) (fun v1 => ?_)
  refine z_iload_n (pc := 4) C (zD D_X3_reached_0 2 rfl) rfl 1 rfl ?_
  refine z_aiload (pc := 5) C (zD D_X3_reached_0 3 rfl) (fun v5 => ?_)
  refine z_bipush (pc := 6) (v := 8) C (zD D_X3_reached_0 4 rfl) (by decide) ?_
  refine z_icmp_ge (pc := 8) C (zD D_X3_reached_0 5 rfl) (tgt := 15) (by decide) (fun _ => ?_) (fun _ => ?_)
  · refine z_iconst (pc := 15) (v := 0) C (zD D_X3_reached_0 8 rfl) (by decide) ?_
    exact z_zret (pc := 16) C hr (by decide) rfl (zD D_X3_reached_0 9 rfl)
  · refine z_iconst (pc := 11) (v := 1) C (zD D_X3_reached_0 6 rfl) (by decide) ?_
    refine z_goto (pc := 12) C (zD D_X3_reached_0 7 rfl) (tgt := 16) (by decide) ?_
    exact z_zret (pc := 16) C hr (by decide) rfl (zD D_X3_reached_0 9 rfl)
def f_X3_routeTown (n : Nat) (this : Nat) (p0 : Int32) (h : zH) : Option (Int32) := zlet (some (-1 : Int32)) fun K21 => if p0 < 0 then (K21) else ((zgI h this 3 6).bind fun (v6 : Int32) => if v6 ≤ p0 then (K21) else ((zgR h this 3 2).bind fun (v13 : Nat) => (zai h v13 p0).bind fun (v17 : Int32) => some v17))
theorem zn_X3_routeTown : zNm yX3_routeTown 1 := ⟨by decide +kernel, by decide +kernel⟩
set_option maxRecDepth 100000 in
set_option maxHeartbeats 4000000 in
theorem c_X3_routeTown (l : Launch) (B : Nat) (D : va_G) (cA : Nat → ClassId) (n : Nat) (this : Nat) (p0 : Int32) (h : zH) : ∀ u, f_X3_routeTown n this p0 h = some u → zM l B D cA yX3_routeTown cX3_routeTown 2 (some .int) 1 0 0 none [.ref (B + this), .int p0] h ((fun r : Int32 => (some (Value.int r), h)) u).1 ((fun r : Int32 => (some (Value.int r), h)) u).2 := by
  unfold f_X3_routeTown
  refine z_met (own := RX3) (fun r : Int32 => (some (Value.int r), h)) rfl (by decide) rfl (fun Z C hr _ _ => ?_)
  have hz0 : (z00 Z).1 ≤ 0 ∧ (z00 Z).2.1 ≤ 0 := ⟨Nat.le_refl 0, Nat.le_refl 0⟩
  refine z_iload_n (pc := 0) C (zD D_X3_routeTown_0 0 rfl) rfl 1 rfl ?_
  refine z_letg (fun K21 => zJ B Z (zEnd B Z (fun r : Int32 => (some (Value.int r), h)) 0 0) (K21) 21 [] [] h (z00 Z)) ?_ (fun K21 hK21 => ?_)
  · refine z_iconst (pc := 21) (v := -1) C (zD D_X3_routeTown_0 11 rfl) (by decide) ?_
    exact z_iret (pc := 22) C hr rfl (zD D_X3_routeTown_0 12 rfl)
  refine z_if_lt (pc := 1) C (zD D_X3_routeTown_0 1 rfl) (tgt := 21) (by decide) (fun _ => ?_) (fun _ => ?_)
  · refine z_sub [] (lv' := []) rfl ?_
    exact hK21
  · refine z_iload_n (pc := 4) C (zD D_X3_routeTown_0 2 rfl) rfl 1 rfl ?_
    refine z_aload_n (pc := 5) C (zD D_X3_routeTown_0 3 rfl) rfl 0 rfl ?_
    refine z_getI (pc := 6) C zc3 6 (by decide) q_212 (zD D_X3_routeTown_0 4 rfl) (fun v6 => ?_)
    refine z_icmp_ge (pc := 9) C (zD D_X3_routeTown_0 5 rfl) (tgt := 21) (by decide) (fun _ => ?_) (fun _ => ?_)
    · refine z_sub [] (lv' := []) rfl ?_
      exact hK21
    · refine z_aload_n (pc := 12) C (zD D_X3_routeTown_0 6 rfl) rfl 0 rfl ?_
      refine z_getR (pc := 13) C zc3 2 (by decide) q_30 (zD D_X3_routeTown_0 7 rfl) (fun v13 => ?_)
      refine z_iload_n (pc := 16) C (zD D_X3_routeTown_0 8 rfl) rfl 1 rfl ?_
      refine z_aiload (pc := 17) C (zD D_X3_routeTown_0 9 rfl) (fun v17 => ?_)
      refine z_goto (pc := 18) C (zD D_X3_routeTown_0 10 rfl) (tgt := 22) (by decide) ?_
      exact z_iret (pc := 22) C hr rfl (zD D_X3_routeTown_0 12 rfl)
def f_X3_grow (n : Nat) : Nat → Nat → Int32 → Int32 → Int32 → Int32 → zH → Option (zH)
  | 0, _, _, _, _, _, _ => none
  | dd + 1, p0, p1, p2, p3, p4, h => (zgI h p0 3 5).bind fun (v2 : Int32) => if p2 < v2 then (zlet ((p3 ||| ((1 : Int32) <<< (p1 &&& 31)))) fun (x14 : Int32) => (zgI h p0 3 5).bind fun (v17 : Int32) => zlet (((v17 - p2) - (1 : Int32))) fun (x24 : Int32) => (zgI h p0 3 4).bind fun (v29 : Int32) => zlet (fun (s0_41 : Int32) => zlet ((zgR h p0 3 1).bind fun (v61 : Nat) => (zsi h v61 p2 p1).bind fun (h66 : zH) => (zgR h66 p0 3 3).bind fun (v70 : Nat) => (zgR h66 v70 2 0).bind fun (v73 : Nat) => (zai h66 v73 p1).bind fun (v77 : Int32) => zlet ((p4 + v77)) fun (x79 : Int32) => zlet (fun (h108 : zH) => (zgR h108 p0 3 3).bind fun (v109 : Nat) => (zgR h108 v109 2 1).bind fun (v112 : Nat) => (zar h108 v112 2 p1).bind fun (v116 : Nat) => zfix2 (fun rec122 (a10_122 : Int32) (h122 : zH) => if (8 : Int32) ≤ a10_122 then (some h122) else (if x24 ≤ 0 then (some h122) else ((zai h122 v116 a10_122).bind fun (v138 : Int32) => zlet (fun (h184 : zH) => zlet (a10_122 + 1) fun (x184 : Int32) => rec122 x184 h184) fun K184 => if v138 ≤ 0 then (K184 h122) else (if (x14 &&& ((1 : Int32) <<< (a10_122 &&& 31))) = 0 then ((zai h122 v116 a10_122).bind fun (v156 : Int32) => zlet (fun (s0_166 : Int32) => (f_X3_grow n dd p0 a10_122 (p2 + (1 : Int32)) x14 (x79 + s0_166) h122).bind fun (h181 : zH) => K184 h181) fun K166 => if v156 = (2 : Int32) then (K166 (5 : Int32)) else (K166 (0 : Int32))) else (K184 h122))))) n (0 : Int32) h108) fun K108 => if s0_41 = 0 then (K108 h66) else (if p2 ≤ 0 then (K108 h66) else ((zgI h66 p0 3 7).bind fun (v93 : Int32) => if x79 ≤ v93 then (K108 h66) else (zrc h66 p0 3 <| (f_X3_keep n p0 (p2 + (1 : Int32)) x79 h66).bind fun (h105 : zH) => K108 h105)))) fun K60 => if s0_41 = 0 then ((zgR h p0 3 0).bind fun (v49 : Nat) => (zai h v49 p1).bind fun (v53 : Int32) => if v53 ≤ x24 then (K60) else (some h)) else (K60)) fun K41 => if (x14 &&& v29) = 0 then (K41 (0 : Int32)) else (K41 (1 : Int32))) else (some h)
theorem zn_X3_grow : zNm yX3_grow 5 := ⟨by decide +kernel, by decide +kernel⟩
set_option maxRecDepth 100000 in
set_option maxHeartbeats 4000000 in
theorem c_X3_grow (n : Nat) : ∀ (dd : Nat) (l : Launch) (B : Nat) (D : va_G) (cA : Nat → ClassId) (p0 : Nat) (p1 : Int32) (p2 : Int32) (p3 : Int32) (p4 : Int32) (h : zH), ∀ u, f_X3_grow n dd p0 p1 p2 p3 p4 h = some u → zM l B D cA yX3_grow cX3_grow 12 none (2 + dd) 0 0 none [.ref (B + p0), .int p1, .int p2, .int p3, .int p4] h ((fun h1 : zH => ((none : Option Value), h1)) u).1 ((fun h1 : zH => ((none : Option Value), h1)) u).2 := by
  intro dd
  induction dd with
  | zero => intro _ _ _ _ _ _ _ _ _ _ u hu; exact nomatch hu
  | succ dd ih =>
  intro l B D cA p0 p1 p2 p3 p4 h
  rw [show f_X3_grow n (dd + 1) p0 p1 p2 p3 p4 h = (zgI h p0 3 5).bind fun (v2 : Int32) => if p2 < v2 then (zlet ((p3 ||| ((1 : Int32) <<< (p1 &&& 31)))) fun (x14 : Int32) => (zgI h p0 3 5).bind fun (v17 : Int32) => zlet (((v17 - p2) - (1 : Int32))) fun (x24 : Int32) => (zgI h p0 3 4).bind fun (v29 : Int32) => zlet (fun (s0_41 : Int32) => zlet ((zgR h p0 3 1).bind fun (v61 : Nat) => (zsi h v61 p2 p1).bind fun (h66 : zH) => (zgR h66 p0 3 3).bind fun (v70 : Nat) => (zgR h66 v70 2 0).bind fun (v73 : Nat) => (zai h66 v73 p1).bind fun (v77 : Int32) => zlet ((p4 + v77)) fun (x79 : Int32) => zlet (fun (h108 : zH) => (zgR h108 p0 3 3).bind fun (v109 : Nat) => (zgR h108 v109 2 1).bind fun (v112 : Nat) => (zar h108 v112 2 p1).bind fun (v116 : Nat) => zfix2 (fun rec122 (a10_122 : Int32) (h122 : zH) => if (8 : Int32) ≤ a10_122 then (some h122) else (if x24 ≤ 0 then (some h122) else ((zai h122 v116 a10_122).bind fun (v138 : Int32) => zlet (fun (h184 : zH) => zlet (a10_122 + 1) fun (x184 : Int32) => rec122 x184 h184) fun K184 => if v138 ≤ 0 then (K184 h122) else (if (x14 &&& ((1 : Int32) <<< (a10_122 &&& 31))) = 0 then ((zai h122 v116 a10_122).bind fun (v156 : Int32) => zlet (fun (s0_166 : Int32) => (f_X3_grow n dd p0 a10_122 (p2 + (1 : Int32)) x14 (x79 + s0_166) h122).bind fun (h181 : zH) => K184 h181) fun K166 => if v156 = (2 : Int32) then (K166 (5 : Int32)) else (K166 (0 : Int32))) else (K184 h122))))) n (0 : Int32) h108) fun K108 => if s0_41 = 0 then (K108 h66) else (if p2 ≤ 0 then (K108 h66) else ((zgI h66 p0 3 7).bind fun (v93 : Int32) => if x79 ≤ v93 then (K108 h66) else (zrc h66 p0 3 <| (f_X3_keep n p0 (p2 + (1 : Int32)) x79 h66).bind fun (h105 : zH) => K108 h105)))) fun K60 => if s0_41 = 0 then ((zgR h p0 3 0).bind fun (v49 : Nat) => (zai h v49 p1).bind fun (v53 : Int32) => if v53 ≤ x24 then (K60) else (some h)) else (K60)) fun K41 => if (x14 &&& v29) = 0 then (K41 (0 : Int32)) else (K41 (1 : Int32))) else (some h) from rfl]
  refine z_met (own := RX3) (fun h1 : zH => ((none : Option Value), h1)) rfl (by decide) rfl (fun Z C hr _ _ => ?_)
  have hz0 : (z00 Z).1 ≤ 0 ∧ (z00 Z).2.1 ≤ 0 := ⟨Nat.le_refl 0, Nat.le_refl 0⟩
  refine z_iload_n (pc := 0) C (zD D_X3_grow_0 0 rfl) rfl 2 rfl ?_
  refine z_aload_n (pc := 1) C (zD D_X3_grow_0 1 rfl) rfl 0 rfl ?_
  refine z_getI (pc := 2) C zc3 5 (by decide) q_211 (zD D_X3_grow_0 2 rfl) (fun v2 => ?_)
  refine z_icmp_lt (pc := 5) C (zD D_X3_grow_0 3 rfl) (tgt := 9) (by decide) (fun _ => ?_) (fun _ => ?_)
  · refine z_iload_n (pc := 9) C (zD D_X3_grow_0 5 rfl) rfl 3 rfl ?_
    refine z_iconst (pc := 10) (v := 1) C (zD D_X3_grow_0 6 rfl) (by decide) ?_
    refine z_iload_n (pc := 11) C (zD D_X3_grow_0 7 rfl) rfl 1 rfl ?_
    refine z_ishl (pc := 12) C (zD D_X3_grow_0 8 rfl) ?_
    refine z_ior (pc := 13) C (zD D_X3_grow_0 9 rfl) ?_
    refine z_istoreL (pc := 14) (lv' := fun x14 => [(5, .int x14), (0, .ref (B + p0)), (1, .int p1), (2, .int p2), (3, .int p3), (4, .int p4)]) C (zD D_X3_grow_0 10 rfl) (by decide) (fun _ => rfl) (fun x14 => ?_)
    refine z_aload_n (pc := 16) C (zD D_X3_grow_0 11 rfl) rfl 1 rfl ?_
    refine z_getI (pc := 17) C zc3 5 (by decide) q_211 (zD D_X3_grow_0 12 rfl) (fun v17 => ?_)
    refine z_iload_n (pc := 20) C (zD D_X3_grow_0 13 rfl) rfl 3 rfl ?_
    refine z_isub (pc := 21) C (zD D_X3_grow_0 14 rfl) ?_
    refine z_iconst (pc := 22) (v := 1) C (zD D_X3_grow_0 15 rfl) (by decide) ?_
    refine z_isub (pc := 23) C (zD D_X3_grow_0 16 rfl) ?_
    refine z_istoreL (pc := 24) (lv' := fun x24 => [(6, .int x24), (5, .int x14), (0, .ref (B + p0)), (1, .int p1), (2, .int p2), (3, .int p3), (4, .int p4)]) C (zD D_X3_grow_0 17 rfl) (by decide) (fun _ => rfl) (fun x24 => ?_)
    refine z_iload (pc := 26) C (zD D_X3_grow_0 18 rfl) 1 rfl ?_
    refine z_aload_n (pc := 28) C (zD D_X3_grow_0 19 rfl) rfl 2 rfl ?_
    refine z_getI (pc := 29) C zc3 4 (by decide) q_206 (zD D_X3_grow_0 20 rfl) (fun v29 => ?_)
    refine z_iand (pc := 32) C (zD D_X3_grow_0 21 rfl) ?_
    refine z_letg (fun K41 => ∀ (s0_41 : Int32), zJ B Z (zEnd B Z (fun h1 : zH => ((none : Option Value), h1)) 0 0) (K41 s0_41) 41 [(0, .ref (B + p0)), (1, .int p1), (2, .int p2), (4, .int p4), (5, .int x14), (6, .int x24)] [.int s0_41] h (z00 Z)) (fun s0_41 => ?_) (fun K41 hK41 => ?_)
    · refine z_istore (pc := 41) (lv' := [(7, .int s0_41), (0, .ref (B + p0)), (1, .int p1), (2, .int p2), (4, .int p4), (5, .int x14), (6, .int x24)]) C (zD D_X3_grow_0 26 rfl) (by decide) rfl ?_
      refine z_iload (pc := 43) C (zD D_X3_grow_0 27 rfl) 0 rfl ?_
      refine z_letg (fun K60 => zJ B Z (zEnd B Z (fun h1 : zH => ((none : Option Value), h1)) 0 0) (K60) 60 [(0, .ref (B + p0)), (1, .int p1), (2, .int p2), (4, .int p4), (5, .int x14), (6, .int x24), (7, .int s0_41)] [] h (z00 Z)) ?_ (fun K60 hK60 => ?_)
      · refine z_aload_n (pc := 60) C (zD D_X3_grow_0 36 rfl) rfl 0 rfl ?_
        refine z_getR (pc := 61) C zc3 1 (by decide) q_29 (zD D_X3_grow_0 37 rfl) (fun v61 => ?_)
        refine z_iload_n (pc := 64) C (zD D_X3_grow_0 38 rfl) rfl 2 rfl ?_
        refine z_iload_n (pc := 65) C (zD D_X3_grow_0 39 rfl) rfl 1 rfl ?_
        refine z_aistore (pc := 66) C (zD D_X3_grow_0 40 rfl) (fun h66 => ?_)
        refine z_iload (pc := 67) C (zD D_X3_grow_0 41 rfl) 3 rfl ?_
        refine z_aload_n (pc := 69) C (zD D_X3_grow_0 42 rfl) rfl 0 rfl ?_
        refine z_getR (pc := 70) C zc3 3 (by decide) q_205 (zD D_X3_grow_0 43 rfl) (fun v70 => ?_)
        refine z_getR (pc := 73) C zc2 0 (by decide) q_227 (zD D_X3_grow_0 44 rfl) (fun v73 => ?_)
        refine z_iload_n (pc := 76) C (zD D_X3_grow_0 45 rfl) rfl 1 rfl ?_
        refine z_aiload (pc := 77) C (zD D_X3_grow_0 46 rfl) (fun v77 => ?_)
        refine z_iadd (pc := 78) C (zD D_X3_grow_0 47 rfl) ?_
        refine z_istoreL (pc := 79) (lv' := fun x79 => [(8, .int x79), (0, .ref (B + p0)), (1, .int p1), (2, .int p2), (4, .int p4), (5, .int x14), (6, .int x24), (7, .int s0_41)]) C (zD D_X3_grow_0 48 rfl) (by decide) (fun _ => rfl) (fun x79 => ?_)
        refine z_iload (pc := 81) C (zD D_X3_grow_0 49 rfl) 7 rfl ?_
        refine z_letg (fun K108 => ∀ (h108 : zH), zJ B Z (zEnd B Z (fun h1 : zH => ((none : Option Value), h1)) 0 0) (K108 h108) 108 [(0, .ref (B + p0)), (1, .int p1), (2, .int p2), (5, .int x14), (6, .int x24), (8, .int x79)] [] h108 (z00 Z)) (fun h108 => ?_) (fun K108 hK108 => ?_)
        · refine z_aload_n (pc := 108) C (zD D_X3_grow_1 3 rfl) rfl 0 rfl ?_
          refine z_getR (pc := 109) C zc3 3 (by decide) q_205 (zD D_X3_grow_1 4 rfl) (fun v109 => ?_)
          refine z_getR (pc := 112) C zc2 1 (by decide) q_218 (zD D_X3_grow_1 5 rfl) (fun v112 => ?_)
          refine z_iload_n (pc := 115) C (zD D_X3_grow_1 6 rfl) rfl 1 rfl ?_
          refine z_arload (pc := 116) C (c := 2) (by decide) rfl (zD D_X3_grow_1 7 rfl) (fun v116 => ?_)
          refine z_astore (pc := 117) (lv' := [(9, .ref (B + v116)), (0, .ref (B + p0)), (1, .int p1), (2, .int p2), (5, .int x14), (6, .int x24), (8, .int x79)]) C (zD D_X3_grow_1 8 rfl) (by decide) rfl ?_
          refine z_iconst (pc := 119) (v := 0) C (zD D_X3_grow_1 9 rfl) (by decide) ?_
          refine z_istore (pc := 120) (lv' := [(10, .int (0 : Int32)), (9, .ref (B + v116)), (0, .ref (B + p0)), (1, .int p1), (2, .int p2), (5, .int x14), (6, .int x24), (8, .int x79)]) C (zD D_X3_grow_1 10 rfl) (by decide) rfl ?_
          refine z_sub [2, 4, 5, 6, 7, 1, 0] (lv' := [(0, .ref (B + p0)), (2, .int p2), (5, .int x14), (6, .int x24), (8, .int x79), (9, .ref (B + v116)), (10, .int (0 : Int32))]) rfl ?_
          refine z_fix2 (fun g122 => ∀ (a10_122 : Int32) (h122 : zH), zJ B Z (zEnd B Z (fun h1 : zH => ((none : Option Value), h1)) 0 0) (g122 a10_122 h122) 122 [(0, .ref (B + p0)), (2, .int p2), (5, .int x14), (6, .int x24), (8, .int x79), (9, .ref (B + v116)), (10, .int a10_122)] [] h122 (z00 Z)) (fun _ _ => z_none) (fun rec122 hrec122 a10_122 h122 => ?_) n (0 : Int32) h108
          refine z_iload (pc := 122) C (zD D_X3_grow_1 11 rfl) 6 rfl ?_
          refine z_bipush (pc := 124) (v := 8) C (zD D_X3_grow_1 12 rfl) (by decide) ?_
          refine z_icmp_ge (pc := 126) C (zD D_X3_grow_1 13 rfl) (tgt := 190) (by decide) (fun _ => ?_) (fun _ => ?_)
          · exact z_vret (pc := 190) C hr rfl (zD D_X3_grow_1 47 rfl)
          · refine z_iload (pc := 129) C (zD D_X3_grow_1 14 rfl) 3 rfl ?_
            refine z_if_le (pc := 131) C (zD D_X3_grow_1 15 rfl) (tgt := 190) (by decide) (fun _ => ?_) (fun _ => ?_)
            · exact z_vret (pc := 190) C hr rfl (zD D_X3_grow_1 47 rfl)
            · refine z_aload (pc := 134) C (zD D_X3_grow_1 16 rfl) 5 rfl ?_
              refine z_iload (pc := 136) C (zD D_X3_grow_1 17 rfl) 6 rfl ?_
              refine z_aiload (pc := 138) C (zD D_X3_grow_1 18 rfl) (fun v138 => ?_)
              refine z_letg (fun K184 => ∀ (h184 : zH), zJ B Z (zEnd B Z (fun h1 : zH => ((none : Option Value), h1)) 0 0) (K184 h184) 184 [(0, .ref (B + p0)), (2, .int p2), (5, .int x14), (6, .int x24), (8, .int x79), (9, .ref (B + v116)), (10, .int a10_122)] [] h184 (z00 Z)) (fun h184 => ?_) (fun K184 hK184 => ?_)
              · refine z_iincL (pc := 184) (lv' := fun x184 => [(10, .int x184), (0, .ref (B + p0)), (2, .int p2), (5, .int x14), (6, .int x24), (8, .int x79), (9, .ref (B + v116))]) C (zD D_X3_grow_1 45 rfl) 6 rfl (v := a10_122 + 1) rfl (by decide) (fun _ => rfl) (fun x184 => ?_)
                refine z_goto (pc := 187) C (zD D_X3_grow_1 46 rfl) (tgt := 122) (by decide) ?_
                refine z_sub [1, 2, 3, 4, 5, 6, 0] (lv' := [(0, .ref (B + p0)), (2, .int p2), (5, .int x14), (6, .int x24), (8, .int x79), (9, .ref (B + v116)), (10, .int x184)]) rfl ?_
                exact hrec122 x184 h184
              refine z_if_le (pc := 139) C (zD D_X3_grow_1 19 rfl) (tgt := 184) (by decide) (fun _ => ?_) (fun _ => ?_)
              · exact hK184 h122
              · refine z_iload (pc := 142) C (zD D_X3_grow_1 20 rfl) 2 rfl ?_
                refine z_iconst (pc := 144) (v := 1) C (zD D_X3_grow_1 21 rfl) (by decide) ?_
                refine z_iload (pc := 145) C (zD D_X3_grow_1 22 rfl) 6 rfl ?_
                refine z_ishl (pc := 147) C (zD D_X3_grow_1 23 rfl) ?_
                refine z_iand (pc := 148) C (zD D_X3_grow_1 24 rfl) ?_
                refine z_if_ne (pc := 149) C (zD D_X3_grow_1 25 rfl) (tgt := 184) (by decide) (fun _ => ?_) (fun _ => ?_)
                · exact hK184 h122
                · refine z_aload (pc := 152) C (zD D_X3_grow_1 26 rfl) 5 rfl ?_
                  refine z_iload (pc := 154) C (zD D_X3_grow_1 27 rfl) 6 rfl ?_
                  refine z_aiload (pc := 156) C (zD D_X3_grow_1 28 rfl) (fun v156 => ?_)
                  refine z_iconst (pc := 157) (v := 2) C (zD D_X3_grow_1 29 rfl) (by decide) ?_
                  refine z_letg (fun K166 => ∀ (s0_166 : Int32), zJ B Z (zEnd B Z (fun h1 : zH => ((none : Option Value), h1)) 0 0) (K166 s0_166) 166 [(0, .ref (B + p0)), (2, .int p2), (5, .int x14), (6, .int x24), (8, .int x79), (9, .ref (B + v116)), (10, .int a10_122)] [.int s0_166] h122 (z00 Z)) (fun s0_166 => ?_) (fun K166 hK166 => ?_)
                  · refine z_istore (pc := 166) (lv' := [(11, .int s0_166), (0, .ref (B + p0)), (2, .int p2), (5, .int x14), (6, .int x24), (8, .int x79), (9, .ref (B + v116)), (10, .int a10_122)]) C (zD D_X3_grow_1 34 rfl) (by decide) rfl ?_
                    refine z_aload_n (pc := 168) C (zD D_X3_grow_1 35 rfl) rfl 1 rfl ?_
                    refine z_iload (pc := 169) C (zD D_X3_grow_1 36 rfl) 7 rfl ?_
                    refine z_iload_n (pc := 171) C (zD D_X3_grow_1 37 rfl) rfl 2 rfl ?_
                    refine z_iconst (pc := 172) (v := 1) C (zD D_X3_grow_1 38 rfl) (by decide) ?_
                    refine z_iadd (pc := 173) C (zD D_X3_grow_1 39 rfl) ?_
                    refine z_iload (pc := 174) C (zD D_X3_grow_1 40 rfl) 3 rfl ?_
                    refine z_iload (pc := 176) C (zD D_X3_grow_1 41 rfl) 5 rfl ?_
                    refine z_iload (pc := 178) C (zD D_X3_grow_1 42 rfl) 0 rfl ?_
                    refine z_iadd (pc := 180) C (zD D_X3_grow_1 43 rfl) ?_
                    refine z_csV (pc := 181) (As := [.ref (B + p0), .int a10_122, .int (p2 + (1 : Int32)), .int x14, .int (x79 + s0_166)]) C [] (ih _ _ _ _ p0 a10_122 (p2 + (1 : Int32)) x14 (x79 + s0_166) h122) zn_X3_grow (Nat.ble_eq_true_of_le (by omega)) (Nat.ble_eq_true_of_le (by omega)) hz0 q_224 q_225 q_13 q_226 rfl rfl rfl (zD D_X3_grow_1 44 rfl) (fun h181 => ?_)
                    refine z_sub [1, 2, 3, 4, 5, 6, 7] (lv' := [(0, .ref (B + p0)), (2, .int p2), (5, .int x14), (6, .int x24), (8, .int x79), (9, .ref (B + v116)), (10, .int a10_122)]) rfl ?_
                    exact hK184 h181
                  refine z_icmp_ne (pc := 158) C (zD D_X3_grow_1 30 rfl) (tgt := 165) (by decide) (fun _ => ?_) (fun _ => ?_)
                  · refine z_iconst (pc := 165) (v := 0) C (zD D_X3_grow_1 33 rfl) (by decide) ?_
                    exact hK166 (0 : Int32)
                  · refine z_iconst (pc := 161) (v := 5) C (zD D_X3_grow_1 31 rfl) (by decide) ?_
                    refine z_goto (pc := 162) C (zD D_X3_grow_1 32 rfl) (tgt := 166) (by decide) ?_
                    exact hK166 (5 : Int32)
        refine z_if_eq (pc := 83) C (zD D_X3_grow_0 50 rfl) (tgt := 108) (by decide) (fun _ => ?_) (fun _ => ?_)
        · refine z_sub [1, 2, 3, 5, 6, 0] (lv' := [(0, .ref (B + p0)), (1, .int p1), (2, .int p2), (5, .int x14), (6, .int x24), (8, .int x79)]) rfl ?_
          exact hK108 h66
        · refine z_iload_n (pc := 86) C (zD D_X3_grow_0 51 rfl) rfl 3 rfl ?_
          refine z_if_le (pc := 87) C (zD D_X3_grow_0 52 rfl) (tgt := 108) (by decide) (fun _ => ?_) (fun _ => ?_)
          · refine z_sub [1, 2, 3, 5, 6, 0] (lv' := [(0, .ref (B + p0)), (1, .int p1), (2, .int p2), (5, .int x14), (6, .int x24), (8, .int x79)]) rfl ?_
            exact hK108 h66
          · refine z_iload (pc := 90) C (zD D_X3_grow_0 53 rfl) 0 rfl ?_
            refine z_aload_n (pc := 92) C (zD D_X3_grow_0 54 rfl) rfl 1 rfl ?_
            refine z_getI (pc := 93) C zc3 7 (by decide) q_213 (zD D_X3_grow_0 55 rfl) (fun v93 => ?_)
            refine z_icmp_le (pc := 96) C (zD D_X3_grow_0 56 rfl) (tgt := 108) (by decide) (fun _ => ?_) (fun _ => ?_)
            · refine z_sub [1, 2, 3, 5, 6, 0] (lv' := [(0, .ref (B + p0)), (1, .int p1), (2, .int p2), (5, .int x14), (6, .int x24), (8, .int x79)]) rfl ?_
              exact hK108 h66
            · refine z_aload_n (pc := 99) C (zD D_X3_grow_0 57 rfl) rfl 1 rfl ?_
              refine z_iload_n (pc := 100) C (zD D_X3_grow_0 58 rfl) rfl 3 rfl ?_
              refine z_iconst (pc := 101) (v := 1) C (zD D_X3_grow_0 59 rfl) (by decide) ?_
              refine z_iadd (pc := 102) C (zD D_X3_grow_1 0 rfl) ?_
              refine z_iload (pc := 103) C (zD D_X3_grow_1 1 rfl) 0 rfl ?_
              refine z_cvV (pc := 105) (As := [.int (p2 + (1 : Int32)), .int x79]) C [] (c_X3_keep _ _ _ _ n p0 (p2 + (1 : Int32)) x79 h66) zn_X3_keep (Nat.ble_eq_true_of_le (by omega)) (Nat.ble_eq_true_of_le (by omega)) hz0 zc3 rfl q_228 q_229 q_230 q_13 q_231 rfl rfl rfl (zD D_X3_grow_1 2 rfl) (fun h105 => ?_)
              refine z_sub [1, 2, 3, 5, 6, 0] (lv' := [(0, .ref (B + p0)), (1, .int p1), (2, .int p2), (5, .int x14), (6, .int x24), (8, .int x79)]) rfl ?_
              exact hK108 h105
      refine z_if_ne (pc := 45) C (zD D_X3_grow_0 28 rfl) (tgt := 60) (by decide) (fun _ => ?_) (fun _ => ?_)
      · refine z_sub [1, 2, 3, 4, 5, 6, 0] (lv' := [(0, .ref (B + p0)), (1, .int p1), (2, .int p2), (4, .int p4), (5, .int x14), (6, .int x24), (7, .int s0_41)]) rfl ?_
        exact hK60
      · refine z_aload_n (pc := 48) C (zD D_X3_grow_0 29 rfl) rfl 1 rfl ?_
        refine z_getR (pc := 49) C zc3 0 (by decide) q_28 (zD D_X3_grow_0 30 rfl) (fun v49 => ?_)
        refine z_iload_n (pc := 52) C (zD D_X3_grow_0 31 rfl) rfl 2 rfl ?_
        refine z_aiload (pc := 53) C (zD D_X3_grow_0 32 rfl) (fun v53 => ?_)
        refine z_iload (pc := 54) C (zD D_X3_grow_0 33 rfl) 6 rfl ?_
        refine z_icmp_le (pc := 56) C (zD D_X3_grow_0 34 rfl) (tgt := 60) (by decide) (fun _ => ?_) (fun _ => ?_)
        · refine z_sub [1, 2, 3, 4, 5, 6, 0] (lv' := [(0, .ref (B + p0)), (1, .int p1), (2, .int p2), (4, .int p4), (5, .int x14), (6, .int x24), (7, .int s0_41)]) rfl ?_
          exact hK60
        · exact z_vret (pc := 59) C hr rfl (zD D_X3_grow_0 35 rfl)
    refine z_if_eq (pc := 33) C (zD D_X3_grow_0 22 rfl) (tgt := 40) (by decide) (fun _ => ?_) (fun _ => ?_)
    · refine z_iconst (pc := 40) (v := 0) C (zD D_X3_grow_0 25 rfl) (by decide) ?_
      refine z_sub [2, 3, 4, 6, 1, 0] (lv' := [(0, .ref (B + p0)), (1, .int p1), (2, .int p2), (4, .int p4), (5, .int x14), (6, .int x24)]) rfl ?_
      exact hK41 (0 : Int32)
    · refine z_iconst (pc := 36) (v := 1) C (zD D_X3_grow_0 23 rfl) (by decide) ?_
      refine z_goto (pc := 37) C (zD D_X3_grow_0 24 rfl) (tgt := 41) (by decide) ?_
      refine z_sub [2, 3, 4, 6, 1, 0] (lv' := [(0, .ref (B + p0)), (1, .int p1), (2, .int p2), (4, .int p4), (5, .int x14), (6, .int x24)]) rfl ?_
      exact hK41 (1 : Int32)
  · exact z_vret (pc := 8) C hr rfl (zD D_X3_grow_0 4 rfl)
def f_X3_measure (n : Nat) (this : Nat) (p0 : Nat) (p1 : Int32) (h : zH) : Option (zH) := (zgR h this 3 0).bind fun (v1 : Nat) => (f_J7_fill_53178 n v1 (8 : Int32) h).bind fun (h6 : zH) => (zgR h6 this 3 0).bind fun (v10 : Nat) => (zsi h6 v10 p1 (0 : Int32)).bind fun (h15 : zH) => zfix3 (fun rec21 (a3_21 : Int32) (a4_21 : Int32) (h21 : zH) => if (8 : Int32) ≤ a4_21 then (some h21) else (if a3_21 = 0 then (some h21) else (zfix3 (fun rec37 (a3_37 : Int32) (a5_37 : Int32) (h37 : zH) => if (8 : Int32) ≤ a5_37 then (zlet (a4_21 + 1) fun (x82 : Int32) => rec21 a3_37 x82 h37) else ((zgR h37 this 3 0).bind fun (v45 : Nat) => (zai h37 v45 a5_37).bind fun (v50 : Int32) => zlet (fun (a3_76 : Int32) (h76 : zH) => zlet (a5_37 + 1) fun (x76 : Int32) => rec37 a3_76 x76 h76) fun K76 => if v50 = (a4_21 - (1 : Int32)) then ((zgR h37 p0 2 1).bind fun (v60 : Nat) => (zar h37 v60 2 a5_37).bind fun (v65 : Nat) => zrc h37 this 3 <| zb2 (f_X3_markNeighbours n this v65 a4_21 h37) fun (r68 : Int32) (h68 : zH) => if r68 = 0 then (K76 a3_37 h68) else (K76 (1 : Int32) h68)) else (K76 a3_37 h37))) n (0 : Int32) (0 : Int32) h21))) n (1 : Int32) (1 : Int32) h15
theorem zn_X3_measure : zNm yX3_measure 2 := ⟨by decide +kernel, by decide +kernel⟩
set_option maxRecDepth 100000 in
set_option maxHeartbeats 4000000 in
theorem c_X3_measure (l : Launch) (B : Nat) (D : va_G) (cA : Nat → ClassId) (n : Nat) (this : Nat) (p0 : Nat) (p1 : Int32) (h : zH) : ∀ u, f_X3_measure n this p0 p1 h = some u → zM l B D cA yX3_measure cX3_measure 6 none 2 0 0 none [.ref (B + this), .ref (B + p0), .int p1] h ((fun h1 : zH => ((none : Option Value), h1)) u).1 ((fun h1 : zH => ((none : Option Value), h1)) u).2 := by
  unfold f_X3_measure
  refine z_met (own := RX3) (fun h1 : zH => ((none : Option Value), h1)) rfl (by decide) rfl (fun Z C hr _ _ => ?_)
  have hz0 : (z00 Z).1 ≤ 0 ∧ (z00 Z).2.1 ≤ 0 := ⟨Nat.le_refl 0, Nat.le_refl 0⟩
  refine z_aload_n (pc := 0) C (zD D_X3_measure_0 0 rfl) rfl 0 rfl ?_
  refine z_getR (pc := 1) C zc3 0 (by decide) q_28 (zD D_X3_measure_0 1 rfl) (fun v1 => ?_)
  refine z_bipush (pc := 4) (v := 8) C (zD D_X3_measure_0 2 rfl) (by decide) ?_
  refine z_csV (pc := 6) (As := [.ref (B + v1), .int (8 : Int32)]) C [] (c_J7_fill_53178 _ _ _ _ n v1 (8 : Int32) h) zn_J7_fill_53178 (by decide) (by decide) hz0 q_219 q_76 q_77 q_78 rfl rfl rfl (zD D_X3_measure_0 3 rfl) (fun h6 => ?_)
  refine z_aload_n (pc := 9) C (zD D_X3_measure_0 4 rfl) rfl 0 rfl ?_
  refine z_getR (pc := 10) C zc3 0 (by decide) q_28 (zD D_X3_measure_0 5 rfl) (fun v10 => ?_)
  refine z_iload_n (pc := 13) C (zD D_X3_measure_0 6 rfl) rfl 2 rfl ?_
  refine z_iconst (pc := 14) (v := 0) C (zD D_X3_measure_0 7 rfl) (by decide) ?_
  refine z_aistore (pc := 15) C (zD D_X3_measure_0 8 rfl) (fun h15 => ?_)
  refine z_iconst (pc := 16) (v := 1) C (zD D_X3_measure_0 9 rfl) (by decide) ?_
  refine z_istore_n (pc := 17) (lv' := [(3, .int (1 : Int32)), (0, .ref (B + this)), (1, .ref (B + p0)), (2, .int p1)]) C (zD D_X3_measure_0 10 rfl) rfl (by decide) rfl ?_
  refine z_iconst (pc := 18) (v := 1) C (zD D_X3_measure_0 11 rfl) (by decide) ?_
  refine z_istore (pc := 19) (lv' := [(4, .int (1 : Int32)), (3, .int (1 : Int32)), (0, .ref (B + this)), (1, .ref (B + p0)), (2, .int p1)]) C (zD D_X3_measure_0 12 rfl) (by decide) rfl ?_
  refine z_sub [2, 3, 1, 0] (lv' := [(0, .ref (B + this)), (1, .ref (B + p0)), (3, .int (1 : Int32)), (4, .int (1 : Int32))]) rfl ?_
  refine z_fix3 (fun g21 => ∀ (a3_21 : Int32) (a4_21 : Int32) (h21 : zH), zJ B Z (zEnd B Z (fun h1 : zH => ((none : Option Value), h1)) 0 0) (g21 a3_21 a4_21 h21) 21 [(0, .ref (B + this)), (1, .ref (B + p0)), (3, .int a3_21), (4, .int a4_21)] [] h21 (z00 Z)) (fun _ _ _ => z_none) (fun rec21 hrec21 a3_21 a4_21 h21 => ?_) n (1 : Int32) (1 : Int32) h15
  refine z_iload (pc := 21) C (zD D_X3_measure_0 13 rfl) 3 rfl ?_
  refine z_bipush (pc := 23) (v := 8) C (zD D_X3_measure_0 14 rfl) (by decide) ?_
  refine z_icmp_ge (pc := 25) C (zD D_X3_measure_0 15 rfl) (tgt := 88) (by decide) (fun _ => ?_) (fun _ => ?_)
  · exact z_vret (pc := 88) C hr rfl (zD D_X3_measure_0 47 rfl)
  · refine z_iload_n (pc := 28) C (zD D_X3_measure_0 16 rfl) rfl 2 rfl ?_
    refine z_if_eq (pc := 29) C (zD D_X3_measure_0 17 rfl) (tgt := 88) (by decide) (fun _ => ?_) (fun _ => ?_)
    · exact z_vret (pc := 88) C hr rfl (zD D_X3_measure_0 47 rfl)
    · refine z_iconst (pc := 32) (v := 0) C (zD D_X3_measure_0 18 rfl) (by decide) ?_
      refine z_istore_n (pc := 33) (lv' := [(3, .int (0 : Int32)), (0, .ref (B + this)), (1, .ref (B + p0)), (4, .int a4_21)]) C (zD D_X3_measure_0 19 rfl) rfl (by decide) rfl ?_
      refine z_iconst (pc := 34) (v := 0) C (zD D_X3_measure_0 20 rfl) (by decide) ?_
      refine z_istore (pc := 35) (lv' := [(5, .int (0 : Int32)), (3, .int (0 : Int32)), (0, .ref (B + this)), (1, .ref (B + p0)), (4, .int a4_21)]) C (zD D_X3_measure_0 21 rfl) (by decide) rfl ?_
      refine z_sub [2, 3, 1, 4, 0] (lv' := [(0, .ref (B + this)), (1, .ref (B + p0)), (3, .int (0 : Int32)), (4, .int a4_21), (5, .int (0 : Int32))]) rfl ?_
      refine z_fix3 (fun g37 => ∀ (a3_37 : Int32) (a5_37 : Int32) (h37 : zH), zJ B Z (zEnd B Z (fun h1 : zH => ((none : Option Value), h1)) 0 0) (g37 a3_37 a5_37 h37) 37 [(0, .ref (B + this)), (1, .ref (B + p0)), (3, .int a3_37), (4, .int a4_21), (5, .int a5_37)] [] h37 (z00 Z)) (fun _ _ _ => z_none) (fun rec37 hrec37 a3_37 a5_37 h37 => ?_) n (0 : Int32) (0 : Int32) h21
      refine z_iload (pc := 37) C (zD D_X3_measure_0 22 rfl) 4 rfl ?_
      refine z_bipush (pc := 39) (v := 8) C (zD D_X3_measure_0 23 rfl) (by decide) ?_
      refine z_icmp_ge (pc := 41) C (zD D_X3_measure_0 24 rfl) (tgt := 82) (by decide) (fun _ => ?_) (fun _ => ?_)
      · refine z_iincL (pc := 82) (lv' := fun x82 => [(4, .int x82), (0, .ref (B + this)), (1, .ref (B + p0)), (3, .int a3_37), (5, .int a5_37)]) C (zD D_X3_measure_0 45 rfl) 3 rfl (v := a4_21 + 1) rfl (by decide) (fun _ => rfl) (fun x82 => ?_)
        refine z_goto (pc := 85) C (zD D_X3_measure_0 46 rfl) (tgt := 21) (by decide) ?_
        refine z_sub [1, 2, 3, 0] (lv' := [(0, .ref (B + this)), (1, .ref (B + p0)), (3, .int a3_37), (4, .int x82)]) rfl ?_
        exact hrec21 a3_37 x82 h37
      · refine z_aload_n (pc := 44) C (zD D_X3_measure_0 25 rfl) rfl 0 rfl ?_
        refine z_getR (pc := 45) C zc3 0 (by decide) q_28 (zD D_X3_measure_0 26 rfl) (fun v45 => ?_)
        refine z_iload (pc := 48) C (zD D_X3_measure_0 27 rfl) 4 rfl ?_
        refine z_aiload (pc := 50) C (zD D_X3_measure_0 28 rfl) (fun v50 => ?_)
        refine z_iload (pc := 51) C (zD D_X3_measure_0 29 rfl) 3 rfl ?_
        refine z_iconst (pc := 53) (v := 1) C (zD D_X3_measure_0 30 rfl) (by decide) ?_
        refine z_isub (pc := 54) C (zD D_X3_measure_0 31 rfl) ?_
        refine z_letg (fun K76 => ∀ (a3_76 : Int32) (h76 : zH), zJ B Z (zEnd B Z (fun h1 : zH => ((none : Option Value), h1)) 0 0) (K76 a3_76 h76) 76 [(0, .ref (B + this)), (1, .ref (B + p0)), (3, .int a3_76), (4, .int a4_21), (5, .int a5_37)] [] h76 (z00 Z)) (fun a3_76 h76 => ?_) (fun K76 hK76 => ?_)
        · refine z_iincL (pc := 76) (lv' := fun x76 => [(5, .int x76), (0, .ref (B + this)), (1, .ref (B + p0)), (3, .int a3_76), (4, .int a4_21)]) C (zD D_X3_measure_0 43 rfl) 4 rfl (v := a5_37 + 1) rfl (by decide) (fun _ => rfl) (fun x76 => ?_)
          refine z_goto (pc := 79) C (zD D_X3_measure_0 44 rfl) (tgt := 37) (by decide) ?_
          refine z_sub [1, 2, 3, 4, 0] (lv' := [(0, .ref (B + this)), (1, .ref (B + p0)), (3, .int a3_76), (4, .int a4_21), (5, .int x76)]) rfl ?_
          exact hrec37 a3_76 x76 h76
        refine z_icmp_ne (pc := 55) C (zD D_X3_measure_0 32 rfl) (tgt := 76) (by decide) (fun _ => ?_) (fun _ => ?_)
        · exact hK76 a3_37 h37
        · refine z_aload_n (pc := 58) C (zD D_X3_measure_0 33 rfl) rfl 0 rfl ?_
          refine z_aload_n (pc := 59) C (zD D_X3_measure_0 34 rfl) rfl 1 rfl ?_
          refine z_getR (pc := 60) C zc2 1 (by decide) q_218 (zD D_X3_measure_0 35 rfl) (fun v60 => ?_)
          refine z_iload (pc := 63) C (zD D_X3_measure_0 36 rfl) 4 rfl ?_
          refine z_arload (pc := 65) C (c := 2) (by decide) rfl (zD D_X3_measure_0 37 rfl) (fun v65 => ?_)
          refine z_iload (pc := 66) C (zD D_X3_measure_0 38 rfl) 3 rfl ?_
          refine z_cvI (pc := 68) (As := [.ref (B + v65), .int a4_21]) C [] (c_X3_markNeighbours _ _ _ _ n this v65 a4_21 h37) zn_X3_markNeighbours (by decide) (by decide) hz0 zc3 rfl q_220 q_221 q_222 q_13 q_223 rfl rfl rfl (zD D_X3_measure_0 39 rfl) (fun r68 h68 => ?_)
          refine z_if_eq (pc := 71) C (zD D_X3_measure_0 40 rfl) (tgt := 76) (by decide) (fun _ => ?_) (fun _ => ?_)
          · exact hK76 a3_37 h68
          · refine z_iconst (pc := 74) (v := 1) C (zD D_X3_measure_0 41 rfl) (by decide) ?_
            refine z_istore_n (pc := 75) (lv' := [(3, .int (1 : Int32)), (0, .ref (B + this)), (1, .ref (B + p0)), (4, .int a4_21), (5, .int a5_37)]) C (zD D_X3_measure_0 42 rfl) rfl (by decide) rfl ?_
            refine z_sub [1, 2, 0, 3, 4] (lv' := [(0, .ref (B + this)), (1, .ref (B + p0)), (3, .int (1 : Int32)), (4, .int a4_21), (5, .int a5_37)]) rfl ?_
            exact hK76 (1 : Int32) h68
def f_X3_find (n : Nat) (this : Nat) (p0 : Nat) (p1 : Int32) (p2 : Int32) (h : zH) : Option (zH) := zrc h this 3 <| (f_X3_measure n this p0 p1 h).bind fun (h3 : zH) => (zp h3 this 3 3 (.ref p0)).bind fun (h8 : zH) => (zp h8 this 3 4 (.int ((1 : Int32) <<< (p1 &&& 31)))).bind fun (h15 : zH) => (zp h15 this 3 5 (.int (zmin p2 (5 : Int32)))).bind fun (h24 : zH) => (zp h24 this 3 6 (.int (0 : Int32))).bind fun (h29 : zH) => (zp h29 this 3 7 (.int (-1 : Int32))).bind fun (h34 : zH) => zfix2 (fun rec40 (a4_40 : Int32) (h40 : zH) => if (8 : Int32) ≤ a4_40 then (some h40) else ((f_X3_grow n 7 this a4_40 (0 : Int32) (0 : Int32) (0 : Int32) h40).bind fun (h53 : zH) => zlet (a4_40 + 1) fun (x56 : Int32) => rec40 x56 h53)) n (0 : Int32) h34
theorem zn_X3_find : zNm yX3_find 3 := ⟨by decide +kernel, by decide +kernel⟩
set_option maxRecDepth 100000 in
set_option maxHeartbeats 4000000 in
theorem c_X3_find (l : Launch) (B : Nat) (D : va_G) (cA : Nat → ClassId) (n : Nat) (this : Nat) (p0 : Nat) (p1 : Int32) (p2 : Int32) (h : zH) : ∀ u, f_X3_find n this p0 p1 p2 h = some u → zM l B D cA yX3_find cX3_find 5 none 10 0 0 none [.ref (B + this), .ref (B + p0), .int p1, .int p2] h ((fun h1 : zH => ((none : Option Value), h1)) u).1 ((fun h1 : zH => ((none : Option Value), h1)) u).2 := by
  unfold f_X3_find
  refine z_met (own := RX3) (fun h1 : zH => ((none : Option Value), h1)) rfl (by decide) rfl (fun Z C hr _ _ => ?_)
  have hz0 : (z00 Z).1 ≤ 0 ∧ (z00 Z).2.1 ≤ 0 := ⟨Nat.le_refl 0, Nat.le_refl 0⟩
  refine z_aload_n (pc := 0) C (zD D_X3_find_0 0 rfl) rfl 0 rfl ?_
  refine z_aload_n (pc := 1) C (zD D_X3_find_0 1 rfl) rfl 1 rfl ?_
  refine z_iload_n (pc := 2) C (zD D_X3_find_0 2 rfl) rfl 2 rfl ?_
  refine z_cvV (pc := 3) (As := [.ref (B + p0), .int p1]) C [] (c_X3_measure _ _ _ _ n this p0 p1 h) zn_X3_measure (by decide) (by decide) hz0 zc3 rfl q_214 q_215 q_216 q_13 q_217 rfl rfl rfl (zD D_X3_find_0 3 rfl) (fun h3 => ?_)
  refine z_aload_n (pc := 6) C (zD D_X3_find_0 4 rfl) rfl 0 rfl ?_
  refine z_aload_n (pc := 7) C (zD D_X3_find_0 5 rfl) rfl 1 rfl ?_
  refine z_putR (pc := 8) C zc3 3 (by decide) q_205 rfl rfl (zD D_X3_find_0 6 rfl) (fun h8 => ?_)
  refine z_aload_n (pc := 11) C (zD D_X3_find_0 7 rfl) rfl 0 rfl ?_
  refine z_iconst (pc := 12) (v := 1) C (zD D_X3_find_0 8 rfl) (by decide) ?_
  refine z_iload_n (pc := 13) C (zD D_X3_find_0 9 rfl) rfl 2 rfl ?_
  refine z_ishl (pc := 14) C (zD D_X3_find_0 10 rfl) ?_
  refine z_putI (pc := 15) C zc3 4 (by decide) q_206 rfl rfl (zD D_X3_find_0 11 rfl) (fun h15 => ?_)
  refine z_aload_n (pc := 18) C (zD D_X3_find_0 12 rfl) rfl 0 rfl ?_
  refine z_iload_n (pc := 19) C (zD D_X3_find_0 13 rfl) rfl 3 rfl ?_
  refine z_iconst (pc := 20) (v := 5) C (zD D_X3_find_0 14 rfl) (by decide) ?_
  refine z_min (pc := 21) C [.ref (B + this)] rfl q_207 q_208 q_209 q_210 (by decide) rfl hz0 (zD D_X3_find_0 15 rfl) ?_
  refine z_putI (pc := 24) C zc3 5 (by decide) q_211 rfl rfl (zD D_X3_find_0 16 rfl) (fun h24 => ?_)
  refine z_aload_n (pc := 27) C (zD D_X3_find_0 17 rfl) rfl 0 rfl ?_
  refine z_iconst (pc := 28) (v := 0) C (zD D_X3_find_0 18 rfl) (by decide) ?_
  refine z_putI (pc := 29) C zc3 6 (by decide) q_212 rfl rfl (zD D_X3_find_0 19 rfl) (fun h29 => ?_)
  refine z_aload_n (pc := 32) C (zD D_X3_find_0 20 rfl) rfl 0 rfl ?_
  refine z_iconst (pc := 33) (v := -1) C (zD D_X3_find_0 21 rfl) (by decide) ?_
  refine z_putI (pc := 34) C zc3 7 (by decide) q_213 rfl rfl (zD D_X3_find_0 22 rfl) (fun h34 => ?_)
  refine z_iconst (pc := 37) (v := 0) C (zD D_X3_find_0 23 rfl) (by decide) ?_
  refine z_istore (pc := 38) (lv' := [(4, .int (0 : Int32)), (0, .ref (B + this)), (1, .ref (B + p0)), (2, .int p1), (3, .int p2)]) C (zD D_X3_find_0 24 rfl) (by decide) rfl ?_
  refine z_sub [1, 0] (lv' := [(0, .ref (B + this)), (4, .int (0 : Int32))]) rfl ?_
  refine z_fix2 (fun g40 => ∀ (a4_40 : Int32) (h40 : zH), zJ B Z (zEnd B Z (fun h1 : zH => ((none : Option Value), h1)) 0 0) (g40 a4_40 h40) 40 [(0, .ref (B + this)), (4, .int a4_40)] [] h40 (z00 Z)) (fun _ _ => z_none) (fun rec40 hrec40 a4_40 h40 => ?_) n (0 : Int32) h34
  refine z_iload (pc := 40) C (zD D_X3_find_0 25 rfl) 1 rfl ?_
  refine z_bipush (pc := 42) (v := 8) C (zD D_X3_find_0 26 rfl) (by decide) ?_
  refine z_icmp_ge (pc := 44) C (zD D_X3_find_0 27 rfl) (tgt := 62) (by decide) (fun _ => ?_) (fun _ => ?_)
  · exact z_vret (pc := 62) C hr rfl (zD D_X3_find_0 36 rfl)
  · refine z_aload_n (pc := 47) C (zD D_X3_find_0 28 rfl) rfl 0 rfl ?_
    refine z_iload (pc := 48) C (zD D_X3_find_0 29 rfl) 1 rfl ?_
    refine z_iconst (pc := 50) (v := 0) C (zD D_X3_find_0 30 rfl) (by decide) ?_
    refine z_iconst (pc := 51) (v := 0) C (zD D_X3_find_0 31 rfl) (by decide) ?_
    refine z_iconst (pc := 52) (v := 0) C (zD D_X3_find_0 32 rfl) (by decide) ?_
    refine z_csV (pc := 53) (As := [.ref (B + this), .int a4_40, .int (0 : Int32), .int (0 : Int32), .int (0 : Int32)]) C [] (c_X3_grow n 7 _ _ _ _ this a4_40 (0 : Int32) (0 : Int32) (0 : Int32) h40) zn_X3_grow (by decide) (by decide) hz0 q_224 q_225 q_13 q_226 rfl rfl rfl (zD D_X3_find_0 33 rfl) (fun h53 => ?_)
    refine z_iincL (pc := 56) (lv' := fun x56 => [(4, .int x56), (0, .ref (B + this))]) C (zD D_X3_find_0 34 rfl) 1 rfl (v := a4_40 + 1) rfl (by decide) (fun _ => rfl) (fun x56 => ?_)
    refine z_goto (pc := 59) C (zD D_X3_find_0 35 rfl) (tgt := 40) (by decide) ?_
    refine z_sub [1, 0] (lv' := [(0, .ref (B + this)), (4, .int x56)]) rfl ?_
    exact hrec40 x56 h53
