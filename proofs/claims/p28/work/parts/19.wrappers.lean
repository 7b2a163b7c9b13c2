def f_L_undoes (n : Nat) (p0 : Nat) (h : zH) : Option (Int32 × zH) := zrc h p0 5 <| (f_X5_undo n p0 h).bind fun (u : zO2) => zcs u (fun (r : Int32) (h1 : zH) => some (r, h1)) (fun (e : Nat) (h1 : zH) => if e = 2 then (some ((-5000002 : Int32), h1)) else none)
theorem zn_L_undoes : zNm yL_undoes 1 := ⟨by decide +kernel, by decide +kernel⟩
set_option maxRecDepth 100000 in
set_option maxHeartbeats 4000000 in
theorem c_L_undoes (l : Launch) (hl : l.stackTraces = false) (B : Nat) (D : va_G) (cA : Nat → ClassId) (n : Nat) (p0 : Nat) (h : zH) : ∀ u, f_L_undoes n p0 h = some u → zMw l B D cA yL_undoes cL_undoes 2 (some .int) [(0, 4, 5, 29)] 7 [.ref (B + p0)] h (some (.int u.1)) u.2 := by
  unfold f_L_undoes
  refine z_metw (own := RL) rfl (by decide) rfl (fun Z C hr htab hlZ => ?_)
  have hlz : Z.1.2.1.stackTraces = false := by rw [hlZ]; exact hl
  refine z_aload_n (pc := 0) C (zD D_L_undoes_0 0 rfl) rfl 0 rfl ?_
  refine z_callX (pc := 1) (As := []) C [] (c_X5_undo _ hlz _ _ _ n p0 h) zn_X5_undo (by decide) (by decide) zc5 rfl q_101 q_102 q_103 q_2 q_104 rfl rfl rfl (zD D_L_undoes_0 1 rfl) (fun r h1 => ?_) (fun e h1 => ?_)
  · exact z_wret (pc := 4) C hr (zD D_L_undoes_0 2 rfl)
  · refine zX_ite (fun c0 => ?_) (fun c0 => ?_)
    · subst c0
      refine zX_catch (pc := 1) C htab [] ⟨0, 4, 5, 29⟩ [] rfl zPass_0 (by decide) rfl rfl (by decide) q_100 C.2.2.2.2.2.2.2.2.1.2.1.2.2.1 (fun q => ?_)
      refine z_astore_n (pc := 5) (lv' := [(1, .ref q), (0, .ref (B + p0))]) C (zD D_L_undoes_0 3 rfl) rfl (by decide) rfl ?_
      refine z_ldc (pc := 6) (v := -5000002) C q_3 (zD D_L_undoes_0 4 rfl) ?_
      exact z_wret (pc := 8) C hr (zD D_L_undoes_0 5 rfl)
    exact zX_none
def f_L_values (n : Nat) (p0 : Nat) (p1 : Int32) (h : zH) : Option (Int32 × zH) := zrc h p0 5 <| (f_X5_value n p0 p1 h).bind fun (u : zO2) => zcs u (fun (r : Int32) (h1 : zH) => some (r, h1)) (fun (e : Nat) (h1 : zH) => if e = 0 then (some ((-5000001 : Int32), h1)) else none)
theorem zn_L_values : zNm yL_values 2 := ⟨by decide +kernel, by decide +kernel⟩
set_option maxRecDepth 100000 in
set_option maxHeartbeats 4000000 in
theorem c_L_values (l : Launch) (hl : l.stackTraces = false) (B : Nat) (D : va_G) (cA : Nat → ClassId) (n : Nat) (p0 : Nat) (p1 : Int32) (h : zH) : ∀ u, f_L_values n p0 p1 h = some u → zMw l B D cA yL_values cL_values 3 (some .int) [(0, 5, 6, 15)] 7 [.ref (B + p0), .int p1] h (some (.int u.1)) u.2 := by
  unfold f_L_values
  refine z_metw (own := RL) rfl (by decide) rfl (fun Z C hr htab hlZ => ?_)
  have hlz : Z.1.2.1.stackTraces = false := by rw [hlZ]; exact hl
  refine z_aload_n (pc := 0) C (zD D_L_values_0 0 rfl) rfl 0 rfl ?_
  refine z_iload_n (pc := 1) C (zD D_L_values_0 1 rfl) rfl 1 rfl ?_
  refine z_callX (pc := 2) (As := [.int p1]) C [] (c_X5_value _ hlz _ _ _ n p0 p1 h) zn_X5_value (by decide) (by decide) zc5 rfl q_267 q_139 q_140 q_2 q_141 rfl rfl rfl (zD D_L_values_0 2 rfl) (fun r h1 => ?_) (fun e h1 => ?_)
  · exact z_wret (pc := 5) C hr (zD D_L_values_0 3 rfl)
  · refine zX_ite (fun c0 => ?_) (fun c0 => ?_)
    · subst c0
      refine zX_catch (pc := 2) C htab [] ⟨0, 5, 6, 15⟩ [] rfl zPass_0 (by decide) rfl rfl (by decide) q_266 C.2.2.2.2.2.2.2.2.1.2.1.1 (fun q => ?_)
      refine z_astore_n (pc := 6) (lv' := [(2, .ref q), (0, .ref (B + p0)), (1, .int p1)]) C (zD D_L_values_0 4 rfl) rfl (by decide) rfl ?_
      refine z_ldc (pc := 7) (v := -5000001) C q_128 (zD D_L_values_0 5 rfl) ?_
      exact z_wret (pc := 9) C hr (zD D_L_values_0 6 rfl)
    exact zX_none
def f_L_values' (n : Nat) (p0 : Nat) (p1 : Int32) (h : zH) : Option (Int32) := zrc h p0 5 <| (f_X5_value' n p0 p1 h).bind fun (r2 : Int32) => some r2
set_option maxRecDepth 100000 in
set_option maxHeartbeats 4000000 in
theorem c_L_values' (l : Launch) (B : Nat) (D : va_G) (cA : Nat → ClassId) (n : Nat) (p0 : Nat) (p1 : Int32) (h : zH) : ∀ u, f_L_values' n p0 p1 h = some u → zMW l B D cA yL_values cL_values 3 (some .int) [(0, 5, 6, 15)] 7 0 0 [.ref (B + p0), .int p1] h (some (.int u)) h := by
  unfold f_L_values'
  refine z_metW (own := RL) (fun r : Int32 => (some (Value.int r), h)) rfl (by decide) rfl (fun Z C hr _ => ?_)
  have hz0 : (z00 Z).1 ≤ 0 ∧ (z00 Z).2.1 ≤ 0 := ⟨Nat.le_refl 0, Nat.le_refl 0⟩
  refine z_aload_n (pc := 0) C (zD D_L_values_0 0 rfl) rfl 0 rfl ?_
  refine z_iload_n (pc := 1) C (zD D_L_values_0 1 rfl) rfl 1 rfl ?_
  refine z_cvR (pc := 2) (As := [.int p1]) C [] (c_X5_value' _ _ _ _ n p0 p1 h) zn_X5_value (by decide) (by decide) hz0 zc5 rfl q_267 q_139 q_140 q_2 q_141 rfl rfl rfl (zD D_L_values_0 2 rfl) (fun r2 => ?_)
  exact z_iretG (pc := 5) C hr ⟨Nat.le_refl _, Nat.le_refl _, Nat.le_refl _⟩ rfl (zD D_L_values_0 3 rfl)
def f_L_begins (n : Nat) (p0 : Nat) (p1 : Int32) (h : zH) : Option (Int32 × zH) := zrc h p0 5 <| (f_X5_begin n p0 p1 h).bind fun (u : zO2) => zcs u (fun (r : Int32) (h1 : zH) => some (r, h1)) (fun (e : Nat) (h1 : zH) => if e = 0 then (some ((-5000001 : Int32), h1)) else none)
theorem zn_L_begins : zNm yL_begins 2 := ⟨by decide +kernel, by decide +kernel⟩
set_option maxRecDepth 100000 in
set_option maxHeartbeats 4000000 in
theorem c_L_begins (l : Launch) (hl : l.stackTraces = false) (B : Nat) (D : va_G) (cA : Nat → ClassId) (n : Nat) (p0 : Nat) (p1 : Int32) (h : zH) : ∀ u, f_L_begins n p0 p1 h = some u → zMw l B D cA yL_begins cL_begins 3 (some .int) [(0, 5, 6, 15)] 7 [.ref (B + p0), .int p1] h (some (.int u.1)) u.2 := by
  unfold f_L_begins
  refine z_metw (own := RL) rfl (by decide) rfl (fun Z C hr htab hlZ => ?_)
  have hlz : Z.1.2.1.stackTraces = false := by rw [hlZ]; exact hl
  refine z_aload_n (pc := 0) C (zD D_L_begins_0 0 rfl) rfl 0 rfl ?_
  refine z_iload_n (pc := 1) C (zD D_L_begins_0 1 rfl) rfl 1 rfl ?_
  refine z_callX (pc := 2) (As := [.int p1]) C [] (c_X5_begin _ hlz _ _ _ n p0 p1 h) zn_X5_begin (by decide) (by decide) zc5 rfl q_271 q_272 q_273 q_2 q_274 rfl rfl rfl (zD D_L_begins_0 2 rfl) (fun r h1 => ?_) (fun e h1 => ?_)
  · exact z_wret (pc := 5) C hr (zD D_L_begins_0 3 rfl)
  · refine zX_ite (fun c0 => ?_) (fun c0 => ?_)
    · subst c0
      refine zX_catch (pc := 2) C htab [] ⟨0, 5, 6, 15⟩ [] rfl zPass_0 (by decide) rfl rfl (by decide) q_266 C.2.2.2.2.2.2.2.2.1.2.1.1 (fun q => ?_)
      refine z_astore_n (pc := 6) (lv' := [(2, .ref q), (0, .ref (B + p0)), (1, .int p1)]) C (zD D_L_begins_0 4 rfl) rfl (by decide) rfl ?_
      refine z_ldc (pc := 7) (v := -5000001) C q_128 (zD D_L_begins_0 5 rfl) ?_
      exact z_wret (pc := 9) C hr (zD D_L_begins_0 6 rfl)
    exact zX_none
def f_L_setsTown (n : Nat) (p0 : Nat) (p1 : Int32) (p2 : Int32) (h : zH) : Option (Int32 × zH) := zrc h p0 5 <| (f_X5_setTown n p0 p1 p2 h).bind fun (u : zO2) => zcs u (fun (r : Int32) (h1 : zH) => some (r, h1)) (fun (e : Nat) (h1 : zH) => if e = 1 then (some ((-5000003 : Int32), h1)) else if e = 0 then (some ((-5000001 : Int32), h1)) else none)
theorem zn_L_setsTown : zNm yL_setsTown 3 := ⟨by decide +kernel, by decide +kernel⟩
set_option maxRecDepth 100000 in
set_option maxHeartbeats 4000000 in
theorem c_L_setsTown (l : Launch) (hl : l.stackTraces = false) (B : Nat) (D : va_G) (cA : Nat → ClassId) (n : Nat) (p0 : Nat) (p1 : Int32) (p2 : Int32) (h : zH) : ∀ u, f_L_setsTown n p0 p1 p2 h = some u → zMw l B D cA yL_setsTown cL_setsTown 4 (some .int) [(0, 6, 7, 22), (0, 6, 11, 15)] 7 [.ref (B + p0), .int p1, .int p2] h (some (.int u.1)) u.2 := by
  unfold f_L_setsTown
  refine z_metw (own := RL) rfl (by decide) rfl (fun Z C hr htab hlZ => ?_)
  have hlz : Z.1.2.1.stackTraces = false := by rw [hlZ]; exact hl
  refine z_aload_n (pc := 0) C (zD D_L_setsTown_0 0 rfl) rfl 0 rfl ?_
  refine z_iload_n (pc := 1) C (zD D_L_setsTown_0 1 rfl) rfl 1 rfl ?_
  refine z_iload_n (pc := 2) C (zD D_L_setsTown_0 2 rfl) rfl 2 rfl ?_
  refine z_callX (pc := 3) (As := [.int p1, .int p2]) C [] (c_X5_setTown _ hlz _ _ _ n p0 p1 p2 h) zn_X5_setTown (by decide) (by decide) zc5 rfl q_285 q_286 q_287 q_2 q_288 rfl rfl rfl (zD D_L_setsTown_0 3 rfl) (fun r h1 => ?_) (fun e h1 => ?_)
  · exact z_wret (pc := 6) C hr (zD D_L_setsTown_0 4 rfl)
  · refine zX_ite (fun c0 => ?_) (fun c0 => ?_)
    · subst c0
      refine zX_catch (pc := 3) C htab [] ⟨0, 6, 7, 22⟩ [⟨0, 6, 11, 15⟩] rfl zPass_0 (by decide) rfl rfl (by decide) q_284 C.2.2.2.2.2.2.2.2.1.2.1.2.1 (fun q => ?_)
      refine z_astore_n (pc := 7) (lv' := [(3, .ref q), (0, .ref (B + p0)), (1, .int p1), (2, .int p2)]) C (zD D_L_setsTown_0 5 rfl) rfl (by decide) rfl ?_
      refine z_ldc (pc := 8) (v := -5000003) C q_129 (zD D_L_setsTown_0 6 rfl) ?_
      exact z_wret (pc := 10) C hr (zD D_L_setsTown_0 7 rfl)
    refine zX_ite (fun c1 => ?_) (fun c1 => ?_)
    · subst c1
      refine zX_catch (pc := 3) C htab [⟨0, 6, 7, 22⟩] ⟨0, 6, 11, 15⟩ [] rfl (zPass_c rfl (by decide) 1 q_284 C.2.2.2.2.2.2.2.2.1.2.2.1.1 zPass_0) (by decide) rfl rfl (by decide) q_266 C.2.2.2.2.2.2.2.2.1.2.1.1 (fun q => ?_)
      refine z_astore_n (pc := 11) (lv' := [(3, .ref q), (0, .ref (B + p0)), (1, .int p1), (2, .int p2)]) C (zD D_L_setsTown_0 8 rfl) rfl (by decide) rfl ?_
      refine z_ldc (pc := 12) (v := -5000001) C q_128 (zD D_L_setsTown_0 9 rfl) ?_
      exact z_wret (pc := 14) C hr (zD D_L_setsTown_0 10 rfl)
    exact zX_none
def f_L_starts (n : Nat) (p0 : Nat) (p1 : Int32) (p2 : Int32) (p3 : Int32) (h : zH) : Option (Int32 × zH) := zrc h p0 5 <| (f_X5_start n p0 p1 p2 p3 h).bind fun (u : zO2) => zcs u (fun (r : Int32) (h1 : zH) => some (r, h1)) (fun (e : Nat) (h1 : zH) => if e = 1 then (some ((-5000003 : Int32), h1)) else if e = 0 then (some ((-5000001 : Int32), h1)) else if e = 2 then (some ((-5000002 : Int32), h1)) else none)
theorem zn_L_starts : zNm yL_starts 4 := ⟨by decide +kernel, by decide +kernel⟩
set_option maxRecDepth 100000 in
set_option maxHeartbeats 4000000 in
theorem c_L_starts (l : Launch) (hl : l.stackTraces = false) (B : Nat) (D : va_G) (cA : Nat → ClassId) (n : Nat) (p0 : Nat) (p1 : Int32) (p2 : Int32) (p3 : Int32) (h : zH) : ∀ u, f_L_starts n p0 p1 p2 p3 h = some u → zMw l B D cA yL_starts cL_starts 5 (some .int) [(0, 7, 8, 22), (0, 7, 13, 15), (0, 7, 18, 29)] 7 [.ref (B + p0), .int p1, .int p2, .int p3] h (some (.int u.1)) u.2 := by
  unfold f_L_starts
  refine z_metw (own := RL) rfl (by decide) rfl (fun Z C hr htab hlZ => ?_)
  have hlz : Z.1.2.1.stackTraces = false := by rw [hlZ]; exact hl
  refine z_aload_n (pc := 0) C (zD D_L_starts_0 0 rfl) rfl 0 rfl ?_
  refine z_iload_n (pc := 1) C (zD D_L_starts_0 1 rfl) rfl 1 rfl ?_
  refine z_iload_n (pc := 2) C (zD D_L_starts_0 2 rfl) rfl 2 rfl ?_
  refine z_iload_n (pc := 3) C (zD D_L_starts_0 3 rfl) rfl 3 rfl ?_
  refine z_callX (pc := 4) (As := [.int p1, .int p2, .int p3]) C [] (c_X5_start _ hlz _ _ _ n p0 p1 p2 p3 h) zn_X5_start (by decide) (by decide) zc5 rfl q_292 q_293 q_294 q_2 q_295 rfl rfl rfl (zD D_L_starts_0 4 rfl) (fun r h1 => ?_) (fun e h1 => ?_)
  · exact z_wret (pc := 7) C hr (zD D_L_starts_0 5 rfl)
  · refine zX_ite (fun c0 => ?_) (fun c0 => ?_)
    · subst c0
      refine zX_catch (pc := 4) C htab [] ⟨0, 7, 8, 22⟩ [⟨0, 7, 13, 15⟩, ⟨0, 7, 18, 29⟩] rfl zPass_0 (by decide) rfl rfl (by decide) q_284 C.2.2.2.2.2.2.2.2.1.2.1.2.1 (fun q => ?_)
      refine z_astore (pc := 8) (lv' := [(4, .ref q), (0, .ref (B + p0)), (1, .int p1), (2, .int p2), (3, .int p3)]) C (zD D_L_starts_0 6 rfl) (by decide) rfl ?_
      refine z_ldc (pc := 10) (v := -5000003) C q_129 (zD D_L_starts_0 7 rfl) ?_
      exact z_wret (pc := 12) C hr (zD D_L_starts_0 8 rfl)
    refine zX_ite (fun c1 => ?_) (fun c1 => ?_)
    · subst c1
      refine zX_catch (pc := 4) C htab [⟨0, 7, 8, 22⟩] ⟨0, 7, 13, 15⟩ [⟨0, 7, 18, 29⟩] rfl (zPass_c rfl (by decide) 1 q_284 C.2.2.2.2.2.2.2.2.1.2.2.1.1 zPass_0) (by decide) rfl rfl (by decide) q_266 C.2.2.2.2.2.2.2.2.1.2.1.1 (fun q => ?_)
      refine z_astore (pc := 13) (lv' := [(4, .ref q), (0, .ref (B + p0)), (1, .int p1), (2, .int p2), (3, .int p3)]) C (zD D_L_starts_0 9 rfl) (by decide) rfl ?_
      refine z_ldc (pc := 15) (v := -5000001) C q_128 (zD D_L_starts_0 10 rfl) ?_
      exact z_wret (pc := 17) C hr (zD D_L_starts_0 11 rfl)
    refine zX_ite (fun c2 => ?_) (fun c2 => ?_)
    · subst c2
      refine zX_catch (pc := 4) C htab [⟨0, 7, 8, 22⟩, ⟨0, 7, 13, 15⟩] ⟨0, 7, 18, 29⟩ [] rfl (zPass_c rfl (by decide) 1 q_284 C.2.2.2.2.2.2.2.2.1.2.2.1.2.1 (zPass_c rfl (by decide) 0 q_266 C.2.2.2.2.2.2.2.2.1.2.2.1.2.2 zPass_0)) (by decide) rfl rfl (by decide) q_100 C.2.2.2.2.2.2.2.2.1.2.1.2.2.1 (fun q => ?_)
      refine z_astore (pc := 18) (lv' := [(4, .ref q), (0, .ref (B + p0)), (1, .int p1), (2, .int p2), (3, .int p3)]) C (zD D_L_starts_0 12 rfl) (by decide) rfl ?_
      refine z_ldc (pc := 20) (v := -5000002) C q_3 (zD D_L_starts_0 13 rfl) ?_
      exact z_wret (pc := 22) C hr (zD D_L_starts_0 14 rfl)
    exact zX_none
def f_L_buys (n : Nat) (p0 : Nat) (p1 : Int32) (h : zH) : Option (Int32 × zH) := zrc h p0 5 <| (f_X5_buy n p0 p1 h).bind fun (u : zO2) => zcs u (fun (r : Int32) (h1 : zH) => some (r, h1)) (fun (e : Nat) (h1 : zH) => if e = 1 then (some ((-5000003 : Int32), h1)) else if e = 2 then (some ((-5000002 : Int32), h1)) else none)
theorem zn_L_buys : zNm yL_buys 2 := ⟨by decide +kernel, by decide +kernel⟩
set_option maxRecDepth 100000 in
set_option maxHeartbeats 4000000 in
theorem c_L_buys (l : Launch) (hl : l.stackTraces = false) (B : Nat) (D : va_G) (cA : Nat → ClassId) (n : Nat) (p0 : Nat) (p1 : Int32) (h : zH) : ∀ u, f_L_buys n p0 p1 h = some u → zMw l B D cA yL_buys cL_buys 3 (some .int) [(0, 5, 6, 22), (0, 5, 10, 29)] 7 [.ref (B + p0), .int p1] h (some (.int u.1)) u.2 := by
  unfold f_L_buys
  refine z_metw (own := RL) rfl (by decide) rfl (fun Z C hr htab hlZ => ?_)
  have hlz : Z.1.2.1.stackTraces = false := by rw [hlZ]; exact hl
  refine z_aload_n (pc := 0) C (zD D_L_buys_0 0 rfl) rfl 0 rfl ?_
  refine z_iload_n (pc := 1) C (zD D_L_buys_0 1 rfl) rfl 1 rfl ?_
  refine z_callX (pc := 2) (As := [.int p1]) C [] (c_X5_buy _ hlz _ _ _ n p0 p1 h) zn_X5_buy (by decide) (by decide) zc5 rfl q_330 q_331 q_332 q_2 q_333 rfl rfl rfl (zD D_L_buys_0 2 rfl) (fun r h1 => ?_) (fun e h1 => ?_)
  · exact z_wret (pc := 5) C hr (zD D_L_buys_0 3 rfl)
  · refine zX_ite (fun c0 => ?_) (fun c0 => ?_)
    · subst c0
      refine zX_catch (pc := 2) C htab [] ⟨0, 5, 6, 22⟩ [⟨0, 5, 10, 29⟩] rfl zPass_0 (by decide) rfl rfl (by decide) q_284 C.2.2.2.2.2.2.2.2.1.2.1.2.1 (fun q => ?_)
      refine z_astore_n (pc := 6) (lv' := [(2, .ref q), (0, .ref (B + p0)), (1, .int p1)]) C (zD D_L_buys_0 4 rfl) rfl (by decide) rfl ?_
      refine z_ldc (pc := 7) (v := -5000003) C q_129 (zD D_L_buys_0 5 rfl) ?_
      exact z_wret (pc := 9) C hr (zD D_L_buys_0 6 rfl)
    refine zX_ite (fun c1 => ?_) (fun c1 => ?_)
    · subst c1
      refine zX_catch (pc := 2) C htab [⟨0, 5, 6, 22⟩] ⟨0, 5, 10, 29⟩ [] rfl (zPass_c rfl (by decide) 1 q_284 C.2.2.2.2.2.2.2.2.1.2.2.1.2.1 zPass_0) (by decide) rfl rfl (by decide) q_100 C.2.2.2.2.2.2.2.2.1.2.1.2.2.1 (fun q => ?_)
      refine z_astore_n (pc := 10) (lv' := [(2, .ref q), (0, .ref (B + p0)), (1, .int p1)]) C (zD D_L_buys_0 7 rfl) rfl (by decide) rfl ?_
      refine z_ldc (pc := 11) (v := -5000002) C q_3 (zD D_L_buys_0 8 rfl) ?_
      exact z_wret (pc := 13) C hr (zD D_L_buys_0 9 rfl)
    exact zX_none
def f_L_sells (n : Nat) (p0 : Nat) (p1 : Int32) (p2 : Int32) (h : zH) : Option (Int32 × zH) := zrc h p0 5 <| (f_X5_sell n p0 p1 p2 h).bind fun (u : zO2) => zcs u (fun (r : Int32) (h1 : zH) => some (r, h1)) (fun (e : Nat) (h1 : zH) => if e = 1 then (some ((-5000003 : Int32), h1)) else if e = 0 then (some ((-5000001 : Int32), h1)) else if e = 2 then (some ((-5000002 : Int32), h1)) else none)
theorem zn_L_sells : zNm yL_sells 3 := ⟨by decide +kernel, by decide +kernel⟩
set_option maxRecDepth 100000 in
set_option maxHeartbeats 4000000 in
theorem c_L_sells (l : Launch) (hl : l.stackTraces = false) (B : Nat) (D : va_G) (cA : Nat → ClassId) (n : Nat) (p0 : Nat) (p1 : Int32) (p2 : Int32) (h : zH) : ∀ u, f_L_sells n p0 p1 p2 h = some u → zMw l B D cA yL_sells cL_sells 4 (some .int) [(0, 6, 7, 22), (0, 6, 11, 15), (0, 6, 15, 29)] 7 [.ref (B + p0), .int p1, .int p2] h (some (.int u.1)) u.2 := by
  unfold f_L_sells
  refine z_metw (own := RL) rfl (by decide) rfl (fun Z C hr htab hlZ => ?_)
  have hlz : Z.1.2.1.stackTraces = false := by rw [hlZ]; exact hl
  refine z_aload_n (pc := 0) C (zD D_L_sells_0 0 rfl) rfl 0 rfl ?_
  refine z_iload_n (pc := 1) C (zD D_L_sells_0 1 rfl) rfl 1 rfl ?_
  refine z_iload_n (pc := 2) C (zD D_L_sells_0 2 rfl) rfl 2 rfl ?_
  refine z_callX (pc := 3) (As := [.int p1, .int p2]) C [] (c_X5_sell _ hlz _ _ _ n p0 p1 p2 h) zn_X5_sell (by decide) (by decide) zc5 rfl q_346 q_347 q_348 q_2 q_349 rfl rfl rfl (zD D_L_sells_0 3 rfl) (fun r h1 => ?_) (fun e h1 => ?_)
  · exact z_wret (pc := 6) C hr (zD D_L_sells_0 4 rfl)
  · refine zX_ite (fun c0 => ?_) (fun c0 => ?_)
    · subst c0
      refine zX_catch (pc := 3) C htab [] ⟨0, 6, 7, 22⟩ [⟨0, 6, 11, 15⟩, ⟨0, 6, 15, 29⟩] rfl zPass_0 (by decide) rfl rfl (by decide) q_284 C.2.2.2.2.2.2.2.2.1.2.1.2.1 (fun q => ?_)
      refine z_astore_n (pc := 7) (lv' := [(3, .ref q), (0, .ref (B + p0)), (1, .int p1), (2, .int p2)]) C (zD D_L_sells_0 5 rfl) rfl (by decide) rfl ?_
      refine z_ldc (pc := 8) (v := -5000003) C q_129 (zD D_L_sells_0 6 rfl) ?_
      exact z_wret (pc := 10) C hr (zD D_L_sells_0 7 rfl)
    refine zX_ite (fun c1 => ?_) (fun c1 => ?_)
    · subst c1
      refine zX_catch (pc := 3) C htab [⟨0, 6, 7, 22⟩] ⟨0, 6, 11, 15⟩ [⟨0, 6, 15, 29⟩] rfl (zPass_c rfl (by decide) 1 q_284 C.2.2.2.2.2.2.2.2.1.2.2.1.1 zPass_0) (by decide) rfl rfl (by decide) q_266 C.2.2.2.2.2.2.2.2.1.2.1.1 (fun q => ?_)
      refine z_astore_n (pc := 11) (lv' := [(3, .ref q), (0, .ref (B + p0)), (1, .int p1), (2, .int p2)]) C (zD D_L_sells_0 8 rfl) rfl (by decide) rfl ?_
      refine z_ldc (pc := 12) (v := -5000001) C q_128 (zD D_L_sells_0 9 rfl) ?_
      exact z_wret (pc := 14) C hr (zD D_L_sells_0 10 rfl)
    refine zX_ite (fun c2 => ?_) (fun c2 => ?_)
    · subst c2
      refine zX_catch (pc := 3) C htab [⟨0, 6, 7, 22⟩, ⟨0, 6, 11, 15⟩] ⟨0, 6, 15, 29⟩ [] rfl (zPass_c rfl (by decide) 1 q_284 C.2.2.2.2.2.2.2.2.1.2.2.1.2.1 (zPass_c rfl (by decide) 0 q_266 C.2.2.2.2.2.2.2.2.1.2.2.1.2.2 zPass_0)) (by decide) rfl rfl (by decide) q_100 C.2.2.2.2.2.2.2.2.1.2.1.2.2.1 (fun q => ?_)
      refine z_astore_n (pc := 15) (lv' := [(3, .ref q), (0, .ref (B + p0)), (1, .int p1), (2, .int p2)]) C (zD D_L_sells_0 11 rfl) rfl (by decide) rfl ?_
      refine z_ldc (pc := 16) (v := -5000002) C q_3 (zD D_L_sells_0 12 rfl) ?_
      exact z_wret (pc := 18) C hr (zD D_L_sells_0 13 rfl)
    exact zX_none
def f_L_merges (n : Nat) (p0 : Nat) (p1 : Int32) (p2 : Int32) (h : zH) : Option (Int32 × zH) := zrc h p0 5 <| (f_X5_merge n p0 p1 p2 h).bind fun (u : zO2) => zcs u (fun (r : Int32) (h1 : zH) => some (r, h1)) (fun (e : Nat) (h1 : zH) => if e = 1 then (some ((-5000003 : Int32), h1)) else if e = 0 then (some ((-5000001 : Int32), h1)) else if e = 2 then (some ((-5000002 : Int32), h1)) else none)
theorem zn_L_merges : zNm yL_merges 3 := ⟨by decide +kernel, by decide +kernel⟩
set_option maxRecDepth 100000 in
set_option maxHeartbeats 4000000 in
theorem c_L_merges (l : Launch) (hl : l.stackTraces = false) (B : Nat) (D : va_G) (cA : Nat → ClassId) (n : Nat) (p0 : Nat) (p1 : Int32) (p2 : Int32) (h : zH) : ∀ u, f_L_merges n p0 p1 p2 h = some u → zMw l B D cA yL_merges cL_merges 4 (some .int) [(0, 6, 7, 22), (0, 6, 11, 15), (0, 6, 15, 29)] 7 [.ref (B + p0), .int p1, .int p2] h (some (.int u.1)) u.2 := by
  unfold f_L_merges
  refine z_metw (own := RL) rfl (by decide) rfl (fun Z C hr htab hlZ => ?_)
  have hlz : Z.1.2.1.stackTraces = false := by rw [hlZ]; exact hl
  refine z_aload_n (pc := 0) C (zD D_L_merges_0 0 rfl) rfl 0 rfl ?_
  refine z_iload_n (pc := 1) C (zD D_L_merges_0 1 rfl) rfl 1 rfl ?_
  refine z_iload_n (pc := 2) C (zD D_L_merges_0 2 rfl) rfl 2 rfl ?_
  refine z_callX (pc := 3) (As := [.int p1, .int p2]) C [] (c_X5_merge _ hlz _ _ _ n p0 p1 p2 h) zn_X5_merge (by decide) (by decide) zc5 rfl q_367 q_368 q_369 q_2 q_370 rfl rfl rfl (zD D_L_merges_0 3 rfl) (fun r h1 => ?_) (fun e h1 => ?_)
  · exact z_wret (pc := 6) C hr (zD D_L_merges_0 4 rfl)
  · refine zX_ite (fun c0 => ?_) (fun c0 => ?_)
    · subst c0
      refine zX_catch (pc := 3) C htab [] ⟨0, 6, 7, 22⟩ [⟨0, 6, 11, 15⟩, ⟨0, 6, 15, 29⟩] rfl zPass_0 (by decide) rfl rfl (by decide) q_284 C.2.2.2.2.2.2.2.2.1.2.1.2.1 (fun q => ?_)
      refine z_astore_n (pc := 7) (lv' := [(3, .ref q), (0, .ref (B + p0)), (1, .int p1), (2, .int p2)]) C (zD D_L_merges_0 5 rfl) rfl (by decide) rfl ?_
      refine z_ldc (pc := 8) (v := -5000003) C q_129 (zD D_L_merges_0 6 rfl) ?_
      exact z_wret (pc := 10) C hr (zD D_L_merges_0 7 rfl)
    refine zX_ite (fun c1 => ?_) (fun c1 => ?_)
    · subst c1
      refine zX_catch (pc := 3) C htab [⟨0, 6, 7, 22⟩] ⟨0, 6, 11, 15⟩ [⟨0, 6, 15, 29⟩] rfl (zPass_c rfl (by decide) 1 q_284 C.2.2.2.2.2.2.2.2.1.2.2.1.1 zPass_0) (by decide) rfl rfl (by decide) q_266 C.2.2.2.2.2.2.2.2.1.2.1.1 (fun q => ?_)
      refine z_astore_n (pc := 11) (lv' := [(3, .ref q), (0, .ref (B + p0)), (1, .int p1), (2, .int p2)]) C (zD D_L_merges_0 8 rfl) rfl (by decide) rfl ?_
      refine z_ldc (pc := 12) (v := -5000001) C q_128 (zD D_L_merges_0 9 rfl) ?_
      exact z_wret (pc := 14) C hr (zD D_L_merges_0 10 rfl)
    refine zX_ite (fun c2 => ?_) (fun c2 => ?_)
    · subst c2
      refine zX_catch (pc := 3) C htab [⟨0, 6, 7, 22⟩, ⟨0, 6, 11, 15⟩] ⟨0, 6, 15, 29⟩ [] rfl (zPass_c rfl (by decide) 1 q_284 C.2.2.2.2.2.2.2.2.1.2.2.1.2.1 (zPass_c rfl (by decide) 0 q_266 C.2.2.2.2.2.2.2.2.1.2.2.1.2.2 zPass_0)) (by decide) rfl rfl (by decide) q_100 C.2.2.2.2.2.2.2.2.1.2.1.2.2.1 (fun q => ?_)
      refine z_astore_n (pc := 15) (lv' := [(3, .ref q), (0, .ref (B + p0)), (1, .int p1), (2, .int p2)]) C (zD D_L_merges_0 11 rfl) rfl (by decide) rfl ?_
      refine z_ldc (pc := 16) (v := -5000002) C q_3 (zD D_L_merges_0 12 rfl) ?_
      exact z_wret (pc := 18) C hr (zD D_L_merges_0 13 rfl)
    exact zX_none
def f_L_operates (n : Nat) (p0 : Nat) (p1 : Int32) (p2 : Int32) (p3 : Int32) (h : zH) : Option (Int32 × zH) := zrc h p0 5 <| (f_X5_operate n p0 p1 p2 p3 h).bind fun (u : zO2) => zcs u (fun (r : Int32) (h1 : zH) => some (r, h1)) (fun (e : Nat) (h1 : zH) => if e = 1 then (some ((-5000003 : Int32), h1)) else if e = 0 then (some ((-5000001 : Int32), h1)) else if e = 2 then (some ((-5000002 : Int32), h1)) else none)
theorem zn_L_operates : zNm yL_operates 4 := ⟨by decide +kernel, by decide +kernel⟩
set_option maxRecDepth 100000 in
set_option maxHeartbeats 4000000 in
theorem c_L_operates (l : Launch) (hl : l.stackTraces = false) (B : Nat) (D : va_G) (cA : Nat → ClassId) (n : Nat) (p0 : Nat) (p1 : Int32) (p2 : Int32) (p3 : Int32) (h : zH) : ∀ u, f_L_operates n p0 p1 p2 p3 h = some u → zMw l B D cA yL_operates cL_operates 5 (some .int) [(0, 7, 8, 22), (0, 7, 13, 15), (0, 7, 18, 29)] 14 [.ref (B + p0), .int p1, .int p2, .int p3] h (some (.int u.1)) u.2 := by
  unfold f_L_operates
  refine z_metw (own := RL) rfl (by decide) rfl (fun Z C hr htab hlZ => ?_)
  have hlz : Z.1.2.1.stackTraces = false := by rw [hlZ]; exact hl
  refine z_aload_n (pc := 0) C (zD D_L_operates_0 0 rfl) rfl 0 rfl ?_
  refine z_iload_n (pc := 1) C (zD D_L_operates_0 1 rfl) rfl 1 rfl ?_
  refine z_iload_n (pc := 2) C (zD D_L_operates_0 2 rfl) rfl 2 rfl ?_
  refine z_iload_n (pc := 3) C (zD D_L_operates_0 3 rfl) rfl 3 rfl ?_
  refine z_callX (pc := 4) (As := [.int p1, .int p2, .int p3]) C [] (c_X5_operate _ hlz _ _ _ n p0 p1 p2 p3 h) zn_X5_operate (by decide) (by decide) zc5 rfl q_386 q_387 q_388 q_2 q_389 rfl rfl rfl (zD D_L_operates_0 4 rfl) (fun r h1 => ?_) (fun e h1 => ?_)
  · exact z_wret (pc := 7) C hr (zD D_L_operates_0 5 rfl)
  · refine zX_ite (fun c0 => ?_) (fun c0 => ?_)
    · subst c0
      refine zX_catch (pc := 4) C htab [] ⟨0, 7, 8, 22⟩ [⟨0, 7, 13, 15⟩, ⟨0, 7, 18, 29⟩] rfl zPass_0 (by decide) rfl rfl (by decide) q_284 C.2.2.2.2.2.2.2.2.1.2.1.2.1 (fun q => ?_)
      refine z_astore (pc := 8) (lv' := [(4, .ref q), (0, .ref (B + p0)), (1, .int p1), (2, .int p2), (3, .int p3)]) C (zD D_L_operates_0 6 rfl) (by decide) rfl ?_
      refine z_ldc (pc := 10) (v := -5000003) C q_129 (zD D_L_operates_0 7 rfl) ?_
      exact z_wret (pc := 12) C hr (zD D_L_operates_0 8 rfl)
    refine zX_ite (fun c1 => ?_) (fun c1 => ?_)
    · subst c1
      refine zX_catch (pc := 4) C htab [⟨0, 7, 8, 22⟩] ⟨0, 7, 13, 15⟩ [⟨0, 7, 18, 29⟩] rfl (zPass_c rfl (by decide) 1 q_284 C.2.2.2.2.2.2.2.2.1.2.2.1.1 zPass_0) (by decide) rfl rfl (by decide) q_266 C.2.2.2.2.2.2.2.2.1.2.1.1 (fun q => ?_)
      refine z_astore (pc := 13) (lv' := [(4, .ref q), (0, .ref (B + p0)), (1, .int p1), (2, .int p2), (3, .int p3)]) C (zD D_L_operates_0 9 rfl) (by decide) rfl ?_
      refine z_ldc (pc := 15) (v := -5000001) C q_128 (zD D_L_operates_0 10 rfl) ?_
      exact z_wret (pc := 17) C hr (zD D_L_operates_0 11 rfl)
    refine zX_ite (fun c2 => ?_) (fun c2 => ?_)
    · subst c2
      refine zX_catch (pc := 4) C htab [⟨0, 7, 8, 22⟩, ⟨0, 7, 13, 15⟩] ⟨0, 7, 18, 29⟩ [] rfl (zPass_c rfl (by decide) 1 q_284 C.2.2.2.2.2.2.2.2.1.2.2.1.2.1 (zPass_c rfl (by decide) 0 q_266 C.2.2.2.2.2.2.2.2.1.2.2.1.2.2 zPass_0)) (by decide) rfl rfl (by decide) q_100 C.2.2.2.2.2.2.2.2.1.2.1.2.2.1 (fun q => ?_)
      refine z_astore (pc := 18) (lv' := [(4, .ref q), (0, .ref (B + p0)), (1, .int p1), (2, .int p2), (3, .int p3)]) C (zD D_L_operates_0 12 rfl) (by decide) rfl ?_
      refine z_ldc (pc := 20) (v := -5000002) C q_3 (zD D_L_operates_0 13 rfl) ?_
      exact z_wret (pc := 22) C hr (zD D_L_operates_0 14 rfl)
    exact zX_none
def f_L_players (n : Nat) (p0 : Nat) (p1 : Int32) (p2 : Int32) (h : zH) : Option (Int32 × zH) := zrc h p0 5 <| (f_X5_player n p0 p1 p2 h).bind fun (u : zO2) => zcs u (fun (r : Int32) (h1 : zH) => some (r, h1)) (fun (e : Nat) (h1 : zH) => if e = 1 then (some ((-5000003 : Int32), h1)) else if e = 0 then (some ((-5000001 : Int32), h1)) else none)
theorem zn_L_players : zNm yL_players 3 := ⟨by decide +kernel, by decide +kernel⟩
set_option maxRecDepth 100000 in
set_option maxHeartbeats 4000000 in
theorem c_L_players (l : Launch) (hl : l.stackTraces = false) (B : Nat) (D : va_G) (cA : Nat → ClassId) (n : Nat) (p0 : Nat) (p1 : Int32) (p2 : Int32) (h : zH) : ∀ u, f_L_players n p0 p1 p2 h = some u → zMw l B D cA yL_players cL_players 4 (some .int) [(0, 6, 7, 22), (0, 6, 11, 15)] 7 [.ref (B + p0), .int p1, .int p2] h (some (.int u.1)) u.2 := by
  unfold f_L_players
  refine z_metw (own := RL) rfl (by decide) rfl (fun Z C hr htab hlZ => ?_)
  have hlz : Z.1.2.1.stackTraces = false := by rw [hlZ]; exact hl
  refine z_aload_n (pc := 0) C (zD D_L_players_0 0 rfl) rfl 0 rfl ?_
  refine z_iload_n (pc := 1) C (zD D_L_players_0 1 rfl) rfl 1 rfl ?_
  refine z_iload_n (pc := 2) C (zD D_L_players_0 2 rfl) rfl 2 rfl ?_
  refine z_callX (pc := 3) (As := [.int p1, .int p2]) C [] (c_X5_player _ hlz _ _ _ n p0 p1 p2 h) zn_X5_player (by decide) (by decide) zc5 rfl q_447 q_162 q_163 q_2 q_164 rfl rfl rfl (zD D_L_players_0 3 rfl) (fun r h1 => ?_) (fun e h1 => ?_)
  · exact z_wret (pc := 6) C hr (zD D_L_players_0 4 rfl)
  · refine zX_ite (fun c0 => ?_) (fun c0 => ?_)
    · subst c0
      refine zX_catch (pc := 3) C htab [] ⟨0, 6, 7, 22⟩ [⟨0, 6, 11, 15⟩] rfl zPass_0 (by decide) rfl rfl (by decide) q_284 C.2.2.2.2.2.2.2.2.1.2.1.2.1 (fun q => ?_)
      refine z_astore_n (pc := 7) (lv' := [(3, .ref q), (0, .ref (B + p0)), (1, .int p1), (2, .int p2)]) C (zD D_L_players_0 5 rfl) rfl (by decide) rfl ?_
      refine z_ldc (pc := 8) (v := -5000003) C q_129 (zD D_L_players_0 6 rfl) ?_
      exact z_wret (pc := 10) C hr (zD D_L_players_0 7 rfl)
    refine zX_ite (fun c1 => ?_) (fun c1 => ?_)
    · subst c1
      refine zX_catch (pc := 3) C htab [⟨0, 6, 7, 22⟩] ⟨0, 6, 11, 15⟩ [] rfl (zPass_c rfl (by decide) 1 q_284 C.2.2.2.2.2.2.2.2.1.2.2.1.1 zPass_0) (by decide) rfl rfl (by decide) q_266 C.2.2.2.2.2.2.2.2.1.2.1.1 (fun q => ?_)
      refine z_astore_n (pc := 11) (lv' := [(3, .ref q), (0, .ref (B + p0)), (1, .int p1), (2, .int p2)]) C (zD D_L_players_0 8 rfl) rfl (by decide) rfl ?_
      refine z_ldc (pc := 12) (v := -5000001) C q_128 (zD D_L_players_0 9 rfl) ?_
      exact z_wret (pc := 14) C hr (zD D_L_players_0 10 rfl)
    exact zX_none
def f_L_players' (n : Nat) (p0 : Nat) (p1 : Int32) (p2 : Int32) (h : zH) : Option (Int32) := zrc h p0 5 <| (f_X5_player' n p0 p1 p2 h).bind fun (r3 : Int32) => some r3
set_option maxRecDepth 100000 in
set_option maxHeartbeats 4000000 in
theorem c_L_players' (l : Launch) (B : Nat) (D : va_G) (cA : Nat → ClassId) (n : Nat) (p0 : Nat) (p1 : Int32) (p2 : Int32) (h : zH) : ∀ u, f_L_players' n p0 p1 p2 h = some u → zMW l B D cA yL_players cL_players 4 (some .int) [(0, 6, 7, 22), (0, 6, 11, 15)] 7 0 0 [.ref (B + p0), .int p1, .int p2] h (some (.int u)) h := by
  unfold f_L_players'
  refine z_metW (own := RL) (fun r : Int32 => (some (Value.int r), h)) rfl (by decide) rfl (fun Z C hr _ => ?_)
  have hz0 : (z00 Z).1 ≤ 0 ∧ (z00 Z).2.1 ≤ 0 := ⟨Nat.le_refl 0, Nat.le_refl 0⟩
  refine z_aload_n (pc := 0) C (zD D_L_players_0 0 rfl) rfl 0 rfl ?_
  refine z_iload_n (pc := 1) C (zD D_L_players_0 1 rfl) rfl 1 rfl ?_
  refine z_iload_n (pc := 2) C (zD D_L_players_0 2 rfl) rfl 2 rfl ?_
  refine z_cvR (pc := 3) (As := [.int p1, .int p2]) C [] (c_X5_player' _ _ _ _ n p0 p1 p2 h) zn_X5_player (by decide) (by decide) hz0 zc5 rfl q_447 q_162 q_163 q_2 q_164 rfl rfl rfl (zD D_L_players_0 3 rfl) (fun r3 => ?_)
  exact z_iretG (pc := 6) C hr ⟨Nat.le_refl _, Nat.le_refl _, Nat.le_refl _⟩ rfl (zD D_L_players_0 4 rfl)
def f_L_companies (n : Nat) (p0 : Nat) (p1 : Int32) (p2 : Int32) (h : zH) : Option (Int32 × zH) := zrc h p0 5 <| (f_X5_company n p0 p1 p2 h).bind fun (u : zO2) => zcs u (fun (r : Int32) (h1 : zH) => some (r, h1)) (fun (e : Nat) (h1 : zH) => if e = 1 then (some ((-5000003 : Int32), h1)) else if e = 0 then (some ((-5000001 : Int32), h1)) else none)
theorem zn_L_companies : zNm yL_companies 3 := ⟨by decide +kernel, by decide +kernel⟩
set_option maxRecDepth 100000 in
set_option maxHeartbeats 4000000 in
theorem c_L_companies (l : Launch) (hl : l.stackTraces = false) (B : Nat) (D : va_G) (cA : Nat → ClassId) (n : Nat) (p0 : Nat) (p1 : Int32) (p2 : Int32) (h : zH) : ∀ u, f_L_companies n p0 p1 p2 h = some u → zMw l B D cA yL_companies cL_companies 4 (some .int) [(0, 6, 7, 22), (0, 6, 11, 15)] 13 [.ref (B + p0), .int p1, .int p2] h (some (.int u.1)) u.2 := by
  unfold f_L_companies
  refine z_metw (own := RL) rfl (by decide) rfl (fun Z C hr htab hlZ => ?_)
  have hlz : Z.1.2.1.stackTraces = false := by rw [hlZ]; exact hl
  refine z_aload_n (pc := 0) C (zD D_L_companies_0 0 rfl) rfl 0 rfl ?_
  refine z_iload_n (pc := 1) C (zD D_L_companies_0 1 rfl) rfl 1 rfl ?_
  refine z_iload_n (pc := 2) C (zD D_L_companies_0 2 rfl) rfl 2 rfl ?_
  refine z_callX (pc := 3) (As := [.int p1, .int p2]) C [] (c_X5_company _ hlz _ _ _ n p0 p1 p2 h) zn_X5_company (by decide) (by decide) zc5 rfl q_451 q_188 q_189 q_2 q_190 rfl rfl rfl (zD D_L_companies_0 3 rfl) (fun r h1 => ?_) (fun e h1 => ?_)
  · exact z_wret (pc := 6) C hr (zD D_L_companies_0 4 rfl)
  · refine zX_ite (fun c0 => ?_) (fun c0 => ?_)
    · subst c0
      refine zX_catch (pc := 3) C htab [] ⟨0, 6, 7, 22⟩ [⟨0, 6, 11, 15⟩] rfl zPass_0 (by decide) rfl rfl (by decide) q_284 C.2.2.2.2.2.2.2.2.1.2.1.2.1 (fun q => ?_)
      refine z_astore_n (pc := 7) (lv' := [(3, .ref q), (0, .ref (B + p0)), (1, .int p1), (2, .int p2)]) C (zD D_L_companies_0 5 rfl) rfl (by decide) rfl ?_
      refine z_ldc (pc := 8) (v := -5000003) C q_129 (zD D_L_companies_0 6 rfl) ?_
      exact z_wret (pc := 10) C hr (zD D_L_companies_0 7 rfl)
    refine zX_ite (fun c1 => ?_) (fun c1 => ?_)
    · subst c1
      refine zX_catch (pc := 3) C htab [⟨0, 6, 7, 22⟩] ⟨0, 6, 11, 15⟩ [] rfl (zPass_c rfl (by decide) 1 q_284 C.2.2.2.2.2.2.2.2.1.2.2.1.1 zPass_0) (by decide) rfl rfl (by decide) q_266 C.2.2.2.2.2.2.2.2.1.2.1.1 (fun q => ?_)
      refine z_astore_n (pc := 11) (lv' := [(3, .ref q), (0, .ref (B + p0)), (1, .int p1), (2, .int p2)]) C (zD D_L_companies_0 8 rfl) rfl (by decide) rfl ?_
      refine z_ldc (pc := 12) (v := -5000001) C q_128 (zD D_L_companies_0 9 rfl) ?_
      exact z_wret (pc := 14) C hr (zD D_L_companies_0 10 rfl)
    exact zX_none
def f_L_companies' (n : Nat) (p0 : Nat) (p1 : Int32) (p2 : Int32) (h : zH) : Option (Int32 × zH) := zrc h p0 5 <| zb2 (f_X5_company' n p0 p1 p2 h) fun (r3 : Int32) (h3 : zH) => some (r3, h3)
set_option maxRecDepth 100000 in
set_option maxHeartbeats 4000000 in
theorem c_L_companies' (l : Launch) (B : Nat) (D : va_G) (cA : Nat → ClassId) (n : Nat) (p0 : Nat) (p1 : Int32) (p2 : Int32) (h : zH) : ∀ u, f_L_companies' n p0 p1 p2 h = some u → zMW l B D cA yL_companies cL_companies 4 (some .int) [(0, 6, 7, 22), (0, 6, 11, 15)] 13 0 0 [.ref (B + p0), .int p1, .int p2] h (some (.int u.1)) u.2 := by
  unfold f_L_companies'
  refine z_metW (own := RL) (fun u : Int32 × zH => (some (Value.int u.1), u.2)) rfl (by decide) rfl (fun Z C hr _ => ?_)
  have hz0 : (z00 Z).1 ≤ 0 ∧ (z00 Z).2.1 ≤ 0 := ⟨Nat.le_refl 0, Nat.le_refl 0⟩
  refine z_aload_n (pc := 0) C (zD D_L_companies_0 0 rfl) rfl 0 rfl ?_
  refine z_iload_n (pc := 1) C (zD D_L_companies_0 1 rfl) rfl 1 rfl ?_
  refine z_iload_n (pc := 2) C (zD D_L_companies_0 2 rfl) rfl 2 rfl ?_
  refine z_cvI (pc := 3) (As := [.int p1, .int p2]) C [] (c_X5_company' _ _ _ _ n p0 p1 p2 h) zn_X5_company (by decide) (by decide) hz0 zc5 rfl q_451 q_188 q_189 q_2 q_190 rfl rfl rfl (zD D_L_companies_0 3 rfl) (fun r3 h3 => ?_)
  exact z_iretG (pc := 6) C hr ⟨Nat.le_refl _, Nat.le_refl _, Nat.le_refl _⟩ rfl (zD D_L_companies_0 4 rfl)
def f_L_tracks (n : Nat) (p0 : Nat) (p1 : Int32) (p2 : Int32) (h : zH) : Option (Int32 × zH) := zrc h p0 5 <| (f_X5_track n p0 p1 p2 h).bind fun (u : zO2) => zcs u (fun (r : Int32) (h1 : zH) => some (r, h1)) (fun (e : Nat) (h1 : zH) => if e = 1 then (some ((-5000003 : Int32), h1)) else none)
theorem zn_L_tracks : zNm yL_tracks 3 := ⟨by decide +kernel, by decide +kernel⟩
set_option maxRecDepth 100000 in
set_option maxHeartbeats 4000000 in
theorem c_L_tracks (l : Launch) (hl : l.stackTraces = false) (B : Nat) (D : va_G) (cA : Nat → ClassId) (n : Nat) (p0 : Nat) (p1 : Int32) (p2 : Int32) (h : zH) : ∀ u, f_L_tracks n p0 p1 p2 h = some u → zMw l B D cA yL_tracks cL_tracks 4 (some .int) [(0, 6, 7, 22)] 7 [.ref (B + p0), .int p1, .int p2] h (some (.int u.1)) u.2 := by
  unfold f_L_tracks
  refine z_metw (own := RL) rfl (by decide) rfl (fun Z C hr htab hlZ => ?_)
  have hlz : Z.1.2.1.stackTraces = false := by rw [hlZ]; exact hl
  refine z_aload_n (pc := 0) C (zD D_L_tracks_0 0 rfl) rfl 0 rfl ?_
  refine z_iload_n (pc := 1) C (zD D_L_tracks_0 1 rfl) rfl 1 rfl ?_
  refine z_iload_n (pc := 2) C (zD D_L_tracks_0 2 rfl) rfl 2 rfl ?_
  refine z_callX (pc := 3) (As := [.int p1, .int p2]) C [] (c_X5_track _ hlz _ _ _ n p0 p1 p2 h) zn_X5_track (by decide) (by decide) zc5 rfl q_455 q_250 q_251 q_2 q_252 rfl rfl rfl (zD D_L_tracks_0 3 rfl) (fun r h1 => ?_) (fun e h1 => ?_)
  · exact z_wret (pc := 6) C hr (zD D_L_tracks_0 4 rfl)
  · refine zX_ite (fun c0 => ?_) (fun c0 => ?_)
    · subst c0
      refine zX_catch (pc := 3) C htab [] ⟨0, 6, 7, 22⟩ [] rfl zPass_0 (by decide) rfl rfl (by decide) q_284 C.2.2.2.2.2.2.2.2.1.2.1.2.1 (fun q => ?_)
      refine z_astore_n (pc := 7) (lv' := [(3, .ref q), (0, .ref (B + p0)), (1, .int p1), (2, .int p2)]) C (zD D_L_tracks_0 5 rfl) rfl (by decide) rfl ?_
      refine z_ldc (pc := 8) (v := -5000003) C q_129 (zD D_L_tracks_0 6 rfl) ?_
      exact z_wret (pc := 10) C hr (zD D_L_tracks_0 7 rfl)
    exact zX_none
def f_L_tracks' (n : Nat) (p0 : Nat) (p1 : Int32) (p2 : Int32) (h : zH) : Option (Int32) := zrc h p0 5 <| (f_X5_track' n p0 p1 p2 h).bind fun (r3 : Int32) => some r3
set_option maxRecDepth 100000 in
set_option maxHeartbeats 4000000 in
theorem c_L_tracks' (l : Launch) (B : Nat) (D : va_G) (cA : Nat → ClassId) (n : Nat) (p0 : Nat) (p1 : Int32) (p2 : Int32) (h : zH) : ∀ u, f_L_tracks' n p0 p1 p2 h = some u → zMW l B D cA yL_tracks cL_tracks 4 (some .int) [(0, 6, 7, 22)] 7 0 0 [.ref (B + p0), .int p1, .int p2] h (some (.int u)) h := by
  unfold f_L_tracks'
  refine z_metW (own := RL) (fun r : Int32 => (some (Value.int r), h)) rfl (by decide) rfl (fun Z C hr _ => ?_)
  have hz0 : (z00 Z).1 ≤ 0 ∧ (z00 Z).2.1 ≤ 0 := ⟨Nat.le_refl 0, Nat.le_refl 0⟩
  refine z_aload_n (pc := 0) C (zD D_L_tracks_0 0 rfl) rfl 0 rfl ?_
  refine z_iload_n (pc := 1) C (zD D_L_tracks_0 1 rfl) rfl 1 rfl ?_
  refine z_iload_n (pc := 2) C (zD D_L_tracks_0 2 rfl) rfl 2 rfl ?_
  refine z_cvR (pc := 3) (As := [.int p1, .int p2]) C [] (c_X5_track' _ _ _ _ n p0 p1 p2 h) zn_X5_track (by decide) (by decide) hz0 zc5 rfl q_455 q_250 q_251 q_2 q_252 rfl rfl rfl (zD D_L_tracks_0 3 rfl) (fun r3 => ?_)
  exact z_iretG (pc := 6) C hr ⟨Nat.le_refl _, Nat.le_refl _, Nat.le_refl _⟩ rfl (zD D_L_tracks_0 4 rfl)
def f_L_towns (n : Nat) (p0 : Nat) (p1 : Int32) (h : zH) : Option (Int32 × zH) := zrc h p0 5 <| (f_X5_town n p0 p1 h).bind fun (u : zO2) => zcs u (fun (r : Int32) (h1 : zH) => some (r, h1)) (fun (e : Nat) (h1 : zH) => if e = 1 then (some ((-5000003 : Int32), h1)) else none)
theorem zn_L_towns : zNm yL_towns 2 := ⟨by decide +kernel, by decide +kernel⟩
set_option maxRecDepth 100000 in
set_option maxHeartbeats 4000000 in
theorem c_L_towns (l : Launch) (hl : l.stackTraces = false) (B : Nat) (D : va_G) (cA : Nat → ClassId) (n : Nat) (p0 : Nat) (p1 : Int32) (h : zH) : ∀ u, f_L_towns n p0 p1 h = some u → zMw l B D cA yL_towns cL_towns 3 (some .int) [(0, 5, 6, 22)] 7 [.ref (B + p0), .int p1] h (some (.int u.1)) u.2 := by
  unfold f_L_towns
  refine z_metw (own := RL) rfl (by decide) rfl (fun Z C hr htab hlZ => ?_)
  have hlz : Z.1.2.1.stackTraces = false := by rw [hlZ]; exact hl
  refine z_aload_n (pc := 0) C (zD D_L_towns_0 0 rfl) rfl 0 rfl ?_
  refine z_iload_n (pc := 1) C (zD D_L_towns_0 1 rfl) rfl 1 rfl ?_
  refine z_callX (pc := 2) (As := [.int p1]) C [] (c_X5_town _ hlz _ _ _ n p0 p1 h) zn_X5_town (by decide) (by decide) zc5 rfl q_459 q_259 q_260 q_2 q_261 rfl rfl rfl (zD D_L_towns_0 2 rfl) (fun r h1 => ?_) (fun e h1 => ?_)
  · exact z_wret (pc := 5) C hr (zD D_L_towns_0 3 rfl)
  · refine zX_ite (fun c0 => ?_) (fun c0 => ?_)
    · subst c0
      refine zX_catch (pc := 2) C htab [] ⟨0, 5, 6, 22⟩ [] rfl zPass_0 (by decide) rfl rfl (by decide) q_284 C.2.2.2.2.2.2.2.2.1.2.1.2.1 (fun q => ?_)
      refine z_astore_n (pc := 6) (lv' := [(2, .ref q), (0, .ref (B + p0)), (1, .int p1)]) C (zD D_L_towns_0 4 rfl) rfl (by decide) rfl ?_
      refine z_ldc (pc := 7) (v := -5000003) C q_129 (zD D_L_towns_0 5 rfl) ?_
      exact z_wret (pc := 9) C hr (zD D_L_towns_0 6 rfl)
    exact zX_none
def f_L_towns' (n : Nat) (p0 : Nat) (p1 : Int32) (h : zH) : Option (Int32) := zrc h p0 5 <| (f_X5_town' n p0 p1 h).bind fun (r2 : Int32) => some r2
set_option maxRecDepth 100000 in
set_option maxHeartbeats 4000000 in
theorem c_L_towns' (l : Launch) (B : Nat) (D : va_G) (cA : Nat → ClassId) (n : Nat) (p0 : Nat) (p1 : Int32) (h : zH) : ∀ u, f_L_towns' n p0 p1 h = some u → zMW l B D cA yL_towns cL_towns 3 (some .int) [(0, 5, 6, 22)] 7 0 0 [.ref (B + p0), .int p1] h (some (.int u)) h := by
  unfold f_L_towns'
  refine z_metW (own := RL) (fun r : Int32 => (some (Value.int r), h)) rfl (by decide) rfl (fun Z C hr _ => ?_)
  have hz0 : (z00 Z).1 ≤ 0 ∧ (z00 Z).2.1 ≤ 0 := ⟨Nat.le_refl 0, Nat.le_refl 0⟩
  refine z_aload_n (pc := 0) C (zD D_L_towns_0 0 rfl) rfl 0 rfl ?_
  refine z_iload_n (pc := 1) C (zD D_L_towns_0 1 rfl) rfl 1 rfl ?_
  refine z_cvR (pc := 2) (As := [.int p1]) C [] (c_X5_town' _ _ _ _ n p0 p1 h) zn_X5_town (by decide) (by decide) hz0 zc5 rfl q_459 q_259 q_260 q_2 q_261 rfl rfl rfl (zD D_L_towns_0 2 rfl) (fun r2 => ?_)
  exact z_iretG (pc := 5) C hr ⟨Nat.le_refl _, Nat.le_refl _, Nat.le_refl _⟩ rfl (zD D_L_towns_0 3 rfl)
def f_L_routes (n : Nat) (p0 : Nat) (p1 : Int32) (p2 : Int32) (h : zH) : Option (Int32 × zH) := zrc h p0 5 <| (f_X5_route n p0 p1 p2 h).bind fun (u : zO2) => zcs u (fun (r : Int32) (h1 : zH) => some (r, h1)) (fun (e : Nat) (h1 : zH) => if e = 1 then (some ((-5000003 : Int32), h1)) else none)
theorem zn_L_routes : zNm yL_routes 3 := ⟨by decide +kernel, by decide +kernel⟩
set_option maxRecDepth 100000 in
set_option maxHeartbeats 4000000 in
theorem c_L_routes (l : Launch) (hl : l.stackTraces = false) (B : Nat) (D : va_G) (cA : Nat → ClassId) (n : Nat) (p0 : Nat) (p1 : Int32) (p2 : Int32) (h : zH) : ∀ u, f_L_routes n p0 p1 p2 h = some u → zMw l B D cA yL_routes cL_routes 4 (some .int) [(0, 6, 7, 22)] 13 [.ref (B + p0), .int p1, .int p2] h (some (.int u.1)) u.2 := by
  unfold f_L_routes
  refine z_metw (own := RL) rfl (by decide) rfl (fun Z C hr htab hlZ => ?_)
  have hlz : Z.1.2.1.stackTraces = false := by rw [hlZ]; exact hl
  refine z_aload_n (pc := 0) C (zD D_L_routes_0 0 rfl) rfl 0 rfl ?_
  refine z_iload_n (pc := 1) C (zD D_L_routes_0 1 rfl) rfl 1 rfl ?_
  refine z_iload_n (pc := 2) C (zD D_L_routes_0 2 rfl) rfl 2 rfl ?_
  refine z_callX (pc := 3) (As := [.int p1, .int p2]) C [] (c_X5_route _ hlz _ _ _ n p0 p1 p2 h) zn_X5_route (by decide) (by decide) zc5 rfl q_463 q_464 q_465 q_2 q_466 rfl rfl rfl (zD D_L_routes_0 3 rfl) (fun r h1 => ?_) (fun e h1 => ?_)
  · exact z_wret (pc := 6) C hr (zD D_L_routes_0 4 rfl)
  · refine zX_ite (fun c0 => ?_) (fun c0 => ?_)
    · subst c0
      refine zX_catch (pc := 3) C htab [] ⟨0, 6, 7, 22⟩ [] rfl zPass_0 (by decide) rfl rfl (by decide) q_284 C.2.2.2.2.2.2.2.2.1.2.1.2.1 (fun q => ?_)
      refine z_astore_n (pc := 7) (lv' := [(3, .ref q), (0, .ref (B + p0)), (1, .int p1), (2, .int p2)]) C (zD D_L_routes_0 5 rfl) rfl (by decide) rfl ?_
      refine z_ldc (pc := 8) (v := -5000003) C q_129 (zD D_L_routes_0 6 rfl) ?_
      exact z_wret (pc := 10) C hr (zD D_L_routes_0 7 rfl)
    exact zX_none
def f_L_routes' (n : Nat) (p0 : Nat) (p1 : Int32) (p2 : Int32) (h : zH) : Option (Int32 × zH) := zrc h p0 5 <| zb2 (f_X5_route' n p0 p1 p2 h) fun (r3 : Int32) (h3 : zH) => some (r3, h3)
set_option maxRecDepth 100000 in
set_option maxHeartbeats 4000000 in
theorem c_L_routes' (l : Launch) (B : Nat) (D : va_G) (cA : Nat → ClassId) (n : Nat) (p0 : Nat) (p1 : Int32) (p2 : Int32) (h : zH) : ∀ u, f_L_routes' n p0 p1 p2 h = some u → zMW l B D cA yL_routes cL_routes 4 (some .int) [(0, 6, 7, 22)] 13 0 0 [.ref (B + p0), .int p1, .int p2] h (some (.int u.1)) u.2 := by
  unfold f_L_routes'
  refine z_metW (own := RL) (fun u : Int32 × zH => (some (Value.int u.1), u.2)) rfl (by decide) rfl (fun Z C hr _ => ?_)
  have hz0 : (z00 Z).1 ≤ 0 ∧ (z00 Z).2.1 ≤ 0 := ⟨Nat.le_refl 0, Nat.le_refl 0⟩
  refine z_aload_n (pc := 0) C (zD D_L_routes_0 0 rfl) rfl 0 rfl ?_
  refine z_iload_n (pc := 1) C (zD D_L_routes_0 1 rfl) rfl 1 rfl ?_
  refine z_iload_n (pc := 2) C (zD D_L_routes_0 2 rfl) rfl 2 rfl ?_
  refine z_cvI (pc := 3) (As := [.int p1, .int p2]) C [] (c_X5_route' _ _ _ _ n p0 p1 p2 h) zn_X5_route (by decide) (by decide) hz0 zc5 rfl q_463 q_464 q_465 q_2 q_466 rfl rfl rfl (zD D_L_routes_0 3 rfl) (fun r3 h3 => ?_)
  exact z_iretG (pc := 6) C hr ⟨Nat.le_refl _, Nat.le_refl _, Nat.le_refl _⟩ rfl (zD D_L_routes_0 4 rfl)
def f_L_withTrack (n : Nat) (p0 : Nat) (p1 : Int32) (p2 : Int32) (p3 : Int32) (h : zH) : Option (Int32 × zH) := zrc h p0 5 <| (f_X5_incomeWith n p0 p1 p2 p3 h).bind fun (u : zO2) => zcs u (fun (r : Int32) (h1 : zH) => some (r, h1)) (fun (e : Nat) (h1 : zH) => if e = 1 then (some ((-5000003 : Int32), h1)) else if e = 0 then (some ((-5000001 : Int32), h1)) else none)
theorem zn_L_withTrack : zNm yL_withTrack 4 := ⟨by decide +kernel, by decide +kernel⟩
set_option maxRecDepth 100000 in
set_option maxHeartbeats 4000000 in
theorem c_L_withTrack (l : Launch) (hl : l.stackTraces = false) (B : Nat) (D : va_G) (cA : Nat → ClassId) (n : Nat) (p0 : Nat) (p1 : Int32) (p2 : Int32) (p3 : Int32) (h : zH) : ∀ u, f_L_withTrack n p0 p1 p2 p3 h = some u → zMw l B D cA yL_withTrack cL_withTrack 5 (some .int) [(0, 7, 8, 22), (0, 7, 13, 15)] 14 [.ref (B + p0), .int p1, .int p2, .int p3] h (some (.int u.1)) u.2 := by
  unfold f_L_withTrack
  refine z_metw (own := RL) rfl (by decide) rfl (fun Z C hr htab hlZ => ?_)
  have hlz : Z.1.2.1.stackTraces = false := by rw [hlZ]; exact hl
  refine z_aload_n (pc := 0) C (zD D_L_withTrack_0 0 rfl) rfl 0 rfl ?_
  refine z_iload_n (pc := 1) C (zD D_L_withTrack_0 1 rfl) rfl 1 rfl ?_
  refine z_iload_n (pc := 2) C (zD D_L_withTrack_0 2 rfl) rfl 2 rfl ?_
  refine z_iload_n (pc := 3) C (zD D_L_withTrack_0 3 rfl) rfl 3 rfl ?_
  refine z_callX (pc := 4) (As := [.int p1, .int p2, .int p3]) C [] (c_X5_incomeWith _ hlz _ _ _ n p0 p1 p2 p3 h) zn_X5_incomeWith (by decide) (by decide) zc5 rfl q_478 q_479 q_480 q_2 q_481 rfl rfl rfl (zD D_L_withTrack_0 4 rfl) (fun r h1 => ?_) (fun e h1 => ?_)
  · exact z_wret (pc := 7) C hr (zD D_L_withTrack_0 5 rfl)
  · refine zX_ite (fun c0 => ?_) (fun c0 => ?_)
    · subst c0
      refine zX_catch (pc := 4) C htab [] ⟨0, 7, 8, 22⟩ [⟨0, 7, 13, 15⟩] rfl zPass_0 (by decide) rfl rfl (by decide) q_284 C.2.2.2.2.2.2.2.2.1.2.1.2.1 (fun q => ?_)
      refine z_astore (pc := 8) (lv' := [(4, .ref q), (0, .ref (B + p0)), (1, .int p1), (2, .int p2), (3, .int p3)]) C (zD D_L_withTrack_0 6 rfl) (by decide) rfl ?_
      refine z_ldc (pc := 10) (v := -5000003) C q_129 (zD D_L_withTrack_0 7 rfl) ?_
      exact z_wret (pc := 12) C hr (zD D_L_withTrack_0 8 rfl)
    refine zX_ite (fun c1 => ?_) (fun c1 => ?_)
    · subst c1
      refine zX_catch (pc := 4) C htab [⟨0, 7, 8, 22⟩] ⟨0, 7, 13, 15⟩ [] rfl (zPass_c rfl (by decide) 1 q_284 C.2.2.2.2.2.2.2.2.1.2.2.1.1 zPass_0) (by decide) rfl rfl (by decide) q_266 C.2.2.2.2.2.2.2.2.1.2.1.1 (fun q => ?_)
      refine z_astore (pc := 13) (lv' := [(4, .ref q), (0, .ref (B + p0)), (1, .int p1), (2, .int p2), (3, .int p3)]) C (zD D_L_withTrack_0 9 rfl) (by decide) rfl ?_
      refine z_ldc (pc := 15) (v := -5000001) C q_128 (zD D_L_withTrack_0 10 rfl) ?_
      exact z_wret (pc := 17) C hr (zD D_L_withTrack_0 11 rfl)
    exact zX_none
def f_L_withTrack' (n : Nat) (p0 : Nat) (p1 : Int32) (p2 : Int32) (p3 : Int32) (h : zH) : Option (Int32 × zH) := zrc h p0 5 <| zb2 (f_X5_incomeWith' n p0 p1 p2 p3 h) fun (r4 : Int32) (h4 : zH) => some (r4, h4)
set_option maxRecDepth 100000 in
set_option maxHeartbeats 4000000 in
theorem c_L_withTrack' (l : Launch) (B : Nat) (D : va_G) (cA : Nat → ClassId) (n : Nat) (p0 : Nat) (p1 : Int32) (p2 : Int32) (p3 : Int32) (h : zH) : ∀ u, f_L_withTrack' n p0 p1 p2 p3 h = some u → zMW l B D cA yL_withTrack cL_withTrack 5 (some .int) [(0, 7, 8, 22), (0, 7, 13, 15)] 14 0 0 [.ref (B + p0), .int p1, .int p2, .int p3] h (some (.int u.1)) u.2 := by
  unfold f_L_withTrack'
  refine z_metW (own := RL) (fun u : Int32 × zH => (some (Value.int u.1), u.2)) rfl (by decide) rfl (fun Z C hr _ => ?_)
  have hz0 : (z00 Z).1 ≤ 0 ∧ (z00 Z).2.1 ≤ 0 := ⟨Nat.le_refl 0, Nat.le_refl 0⟩
  refine z_aload_n (pc := 0) C (zD D_L_withTrack_0 0 rfl) rfl 0 rfl ?_
  refine z_iload_n (pc := 1) C (zD D_L_withTrack_0 1 rfl) rfl 1 rfl ?_
  refine z_iload_n (pc := 2) C (zD D_L_withTrack_0 2 rfl) rfl 2 rfl ?_
  refine z_iload_n (pc := 3) C (zD D_L_withTrack_0 3 rfl) rfl 3 rfl ?_
  refine z_cvI (pc := 4) (As := [.int p1, .int p2, .int p3]) C [] (c_X5_incomeWith' _ _ _ _ n p0 p1 p2 p3 h) zn_X5_incomeWith (by decide) (by decide) hz0 zc5 rfl q_478 q_479 q_480 q_2 q_481 rfl rfl rfl (zD D_L_withTrack_0 4 rfl) (fun r4 h4 => ?_)
  exact z_iretG (pc := 7) C hr ⟨Nat.le_refl _, Nat.le_refl _, Nat.le_refl _⟩ rfl (zD D_L_withTrack_0 5 rfl)
def f_L_bestOf (n : Nat) (p0 : Nat) (p1 : Int32) (h : zH) : Option (Int32 × zH) := zrc h p0 5 <| (f_X5_bestTrack n p0 p1 h).bind fun (u : zO2) => zcs u (fun (r : Int32) (h1 : zH) => some (r, h1)) (fun (e : Nat) (h1 : zH) => if e = 1 then (some ((-5000003 : Int32), h1)) else none)
theorem zn_L_bestOf : zNm yL_bestOf 2 := ⟨by decide +kernel, by decide +kernel⟩
set_option maxRecDepth 100000 in
set_option maxHeartbeats 4000000 in
theorem c_L_bestOf (l : Launch) (hl : l.stackTraces = false) (B : Nat) (D : va_G) (cA : Nat → ClassId) (n : Nat) (p0 : Nat) (p1 : Int32) (h : zH) : ∀ u, f_L_bestOf n p0 p1 h = some u → zMw l B D cA yL_bestOf cL_bestOf 3 (some .int) [(0, 5, 6, 22)] 15 [.ref (B + p0), .int p1] h (some (.int u.1)) u.2 := by
  unfold f_L_bestOf
  refine z_metw (own := RL) rfl (by decide) rfl (fun Z C hr htab hlZ => ?_)
  have hlz : Z.1.2.1.stackTraces = false := by rw [hlZ]; exact hl
  refine z_aload_n (pc := 0) C (zD D_L_bestOf_0 0 rfl) rfl 0 rfl ?_
  refine z_iload_n (pc := 1) C (zD D_L_bestOf_0 1 rfl) rfl 1 rfl ?_
  refine z_callX (pc := 2) (As := [.int p1]) C [] (c_X5_bestTrack _ hlz _ _ _ n p0 p1 h) zn_X5_bestTrack (by decide) (by decide) zc5 rfl q_489 q_490 q_491 q_2 q_492 rfl rfl rfl (zD D_L_bestOf_0 2 rfl) (fun r h1 => ?_) (fun e h1 => ?_)
  · exact z_wret (pc := 5) C hr (zD D_L_bestOf_0 3 rfl)
  · refine zX_ite (fun c0 => ?_) (fun c0 => ?_)
    · subst c0
      refine zX_catch (pc := 2) C htab [] ⟨0, 5, 6, 22⟩ [] rfl zPass_0 (by decide) rfl rfl (by decide) q_284 C.2.2.2.2.2.2.2.2.1.2.1.2.1 (fun q => ?_)
      refine z_astore_n (pc := 6) (lv' := [(2, .ref q), (0, .ref (B + p0)), (1, .int p1)]) C (zD D_L_bestOf_0 4 rfl) rfl (by decide) rfl ?_
      refine z_ldc (pc := 7) (v := -5000003) C q_129 (zD D_L_bestOf_0 5 rfl) ?_
      exact z_wret (pc := 9) C hr (zD D_L_bestOf_0 6 rfl)
    exact zX_none
def f_L_bestOf' (n : Nat) (p0 : Nat) (p1 : Int32) (h : zH) : Option (Int32 × zH) := zrc h p0 5 <| zb2 (f_X5_bestTrack' n p0 p1 h) fun (r2 : Int32) (h2 : zH) => some (r2, h2)
set_option maxRecDepth 100000 in
set_option maxHeartbeats 4000000 in
theorem c_L_bestOf' (l : Launch) (B : Nat) (D : va_G) (cA : Nat → ClassId) (n : Nat) (p0 : Nat) (p1 : Int32) (h : zH) : ∀ u, f_L_bestOf' n p0 p1 h = some u → zMW l B D cA yL_bestOf cL_bestOf 3 (some .int) [(0, 5, 6, 22)] 15 0 0 [.ref (B + p0), .int p1] h (some (.int u.1)) u.2 := by
  unfold f_L_bestOf'
  refine z_metW (own := RL) (fun u : Int32 × zH => (some (Value.int u.1), u.2)) rfl (by decide) rfl (fun Z C hr _ => ?_)
  have hz0 : (z00 Z).1 ≤ 0 ∧ (z00 Z).2.1 ≤ 0 := ⟨Nat.le_refl 0, Nat.le_refl 0⟩
  refine z_aload_n (pc := 0) C (zD D_L_bestOf_0 0 rfl) rfl 0 rfl ?_
  refine z_iload_n (pc := 1) C (zD D_L_bestOf_0 1 rfl) rfl 1 rfl ?_
  refine z_cvI (pc := 2) (As := [.int p1]) C [] (c_X5_bestTrack' _ _ _ _ n p0 p1 h) zn_X5_bestTrack (by decide) (by decide) hz0 zc5 rfl q_489 q_490 q_491 q_2 q_492 rfl rfl rfl (zD D_L_bestOf_0 2 rfl) (fun r2 h2 => ?_)
  exact z_iretG (pc := 5) C hr ⟨Nat.le_refl _, Nat.le_refl _, Nat.le_refl _⟩ rfl (zD D_L_bestOf_0 3 rfl)
def f_L_dividends (n : Nat) (p0 : Nat) (p1 : Int32) (h : zH) : Option (Int32 × zH) := zrc h p0 5 <| (f_X5_dividend n p0 p1 h).bind fun (u : zO2) => zcs u (fun (r : Int32) (h1 : zH) => some (r, h1)) (fun (e : Nat) (h1 : zH) => if e = 1 then (some ((-5000003 : Int32), h1)) else none)
theorem zn_L_dividends : zNm yL_dividends 2 := ⟨by decide +kernel, by decide +kernel⟩
set_option maxRecDepth 100000 in
set_option maxHeartbeats 4000000 in
theorem c_L_dividends (l : Launch) (hl : l.stackTraces = false) (B : Nat) (D : va_G) (cA : Nat → ClassId) (n : Nat) (p0 : Nat) (p1 : Int32) (h : zH) : ∀ u, f_L_dividends n p0 p1 h = some u → zMw l B D cA yL_dividends cL_dividends 3 (some .int) [(0, 5, 6, 22)] 13 [.ref (B + p0), .int p1] h (some (.int u.1)) u.2 := by
  unfold f_L_dividends
  refine z_metw (own := RL) rfl (by decide) rfl (fun Z C hr htab hlZ => ?_)
  have hlz : Z.1.2.1.stackTraces = false := by rw [hlZ]; exact hl
  refine z_aload_n (pc := 0) C (zD D_L_dividends_0 0 rfl) rfl 0 rfl ?_
  refine z_iload_n (pc := 1) C (zD D_L_dividends_0 1 rfl) rfl 1 rfl ?_
  refine z_callX (pc := 2) (As := [.int p1]) C [] (c_X5_dividend _ hlz _ _ _ n p0 p1 h) zn_X5_dividend (by decide) (by decide) zc5 rfl q_501 q_502 q_503 q_2 q_504 rfl rfl rfl (zD D_L_dividends_0 2 rfl) (fun r h1 => ?_) (fun e h1 => ?_)
  · exact z_wret (pc := 5) C hr (zD D_L_dividends_0 3 rfl)
  · refine zX_ite (fun c0 => ?_) (fun c0 => ?_)
    · subst c0
      refine zX_catch (pc := 2) C htab [] ⟨0, 5, 6, 22⟩ [] rfl zPass_0 (by decide) rfl rfl (by decide) q_284 C.2.2.2.2.2.2.2.2.1.2.1.2.1 (fun q => ?_)
      refine z_astore_n (pc := 6) (lv' := [(2, .ref q), (0, .ref (B + p0)), (1, .int p1)]) C (zD D_L_dividends_0 4 rfl) rfl (by decide) rfl ?_
      refine z_ldc (pc := 7) (v := -5000003) C q_129 (zD D_L_dividends_0 5 rfl) ?_
      exact z_wret (pc := 9) C hr (zD D_L_dividends_0 6 rfl)
    exact zX_none
def f_L_dividends' (n : Nat) (p0 : Nat) (p1 : Int32) (h : zH) : Option (Int32 × zH) := zrc h p0 5 <| zb2 (f_X5_dividend' n p0 p1 h) fun (r2 : Int32) (h2 : zH) => some (r2, h2)
set_option maxRecDepth 100000 in
set_option maxHeartbeats 4000000 in
theorem c_L_dividends' (l : Launch) (B : Nat) (D : va_G) (cA : Nat → ClassId) (n : Nat) (p0 : Nat) (p1 : Int32) (h : zH) : ∀ u, f_L_dividends' n p0 p1 h = some u → zMW l B D cA yL_dividends cL_dividends 3 (some .int) [(0, 5, 6, 22)] 13 0 0 [.ref (B + p0), .int p1] h (some (.int u.1)) u.2 := by
  unfold f_L_dividends'
  refine z_metW (own := RL) (fun u : Int32 × zH => (some (Value.int u.1), u.2)) rfl (by decide) rfl (fun Z C hr _ => ?_)
  have hz0 : (z00 Z).1 ≤ 0 ∧ (z00 Z).2.1 ≤ 0 := ⟨Nat.le_refl 0, Nat.le_refl 0⟩
  refine z_aload_n (pc := 0) C (zD D_L_dividends_0 0 rfl) rfl 0 rfl ?_
  refine z_iload_n (pc := 1) C (zD D_L_dividends_0 1 rfl) rfl 1 rfl ?_
  refine z_cvI (pc := 2) (As := [.int p1]) C [] (c_X5_dividend' _ _ _ _ n p0 p1 h) zn_X5_dividend (by decide) (by decide) hz0 zc5 rfl q_501 q_502 q_503 q_2 q_504 rfl rfl rfl (zD D_L_dividends_0 2 rfl) (fun r2 h2 => ?_)
  exact z_iretG (pc := 5) C hr ⟨Nat.le_refl _, Nat.le_refl _, Nat.le_refl _⟩ rfl (zD D_L_dividends_0 3 rfl)
def f_L_extendsOne (n : Nat) (p0 : Nat) (h : zH) : Option (Int32 × zH) := zrc h p0 5 <| (f_X5_extend n p0 h).bind fun (u : zO2) => zcs u (fun (r : Int32) (h1 : zH) => some (r, h1)) (fun (e : Nat) (h1 : zH) => if e = 2 then (some ((-5000002 : Int32), h1)) else none)
theorem zn_L_extendsOne : zNm yL_extendsOne 1 := ⟨by decide +kernel, by decide +kernel⟩
set_option maxRecDepth 100000 in
set_option maxHeartbeats 4000000 in
theorem c_L_extendsOne (l : Launch) (hl : l.stackTraces = false) (B : Nat) (D : va_G) (cA : Nat → ClassId) (n : Nat) (p0 : Nat) (h : zH) : ∀ u, f_L_extendsOne n p0 h = some u → zMw l B D cA yL_extendsOne cL_extendsOne 2 (some .int) [(0, 4, 5, 29)] 7 [.ref (B + p0)] h (some (.int u.1)) u.2 := by
  unfold f_L_extendsOne
  refine z_metw (own := RL) rfl (by decide) rfl (fun Z C hr htab hlZ => ?_)
  have hlz : Z.1.2.1.stackTraces = false := by rw [hlZ]; exact hl
  refine z_aload_n (pc := 0) C (zD D_L_extendsOne_0 0 rfl) rfl 0 rfl ?_
  refine z_callX (pc := 1) (As := []) C [] (c_X5_extend _ hlz _ _ _ n p0 h) zn_X5_extend (by decide) (by decide) zc5 rfl q_508 q_509 q_510 q_2 q_511 rfl rfl rfl (zD D_L_extendsOne_0 1 rfl) (fun r h1 => ?_) (fun e h1 => ?_)
  · exact z_wret (pc := 4) C hr (zD D_L_extendsOne_0 2 rfl)
  · refine zX_ite (fun c0 => ?_) (fun c0 => ?_)
    · subst c0
      refine zX_catch (pc := 1) C htab [] ⟨0, 4, 5, 29⟩ [] rfl zPass_0 (by decide) rfl rfl (by decide) q_100 C.2.2.2.2.2.2.2.2.1.2.1.2.2.1 (fun q => ?_)
      refine z_astore_n (pc := 5) (lv' := [(1, .ref q), (0, .ref (B + p0))]) C (zD D_L_extendsOne_0 3 rfl) rfl (by decide) rfl ?_
      refine z_ldc (pc := 6) (v := -5000002) C q_3 (zD D_L_extendsOne_0 4 rfl) ?_
      exact z_wret (pc := 8) C hr (zD D_L_extendsOne_0 5 rfl)
    exact zX_none
def f_L_passes (n : Nat) (p0 : Nat) (h : zH) : Option (Int32 × zH) := zrc h p0 5 <| (f_X5_pass n p0 h).bind fun (u : zO2) => zcs u (fun (r : Int32) (h1 : zH) => some (r, h1)) (fun (e : Nat) (h1 : zH) => if e = 2 then (some ((-5000002 : Int32), h1)) else none)
theorem zn_L_passes : zNm yL_passes 1 := ⟨by decide +kernel, by decide +kernel⟩
set_option maxRecDepth 100000 in
set_option maxHeartbeats 4000000 in
theorem c_L_passes (l : Launch) (hl : l.stackTraces = false) (B : Nat) (D : va_G) (cA : Nat → ClassId) (n : Nat) (p0 : Nat) (h : zH) : ∀ u, f_L_passes n p0 h = some u → zMw l B D cA yL_passes cL_passes 2 (some .int) [(0, 4, 5, 29)] 7 [.ref (B + p0)] h (some (.int u.1)) u.2 := by
  unfold f_L_passes
  refine z_metw (own := RL) rfl (by decide) rfl (fun Z C hr htab hlZ => ?_)
  have hlz : Z.1.2.1.stackTraces = false := by rw [hlZ]; exact hl
  refine z_aload_n (pc := 0) C (zD D_L_passes_0 0 rfl) rfl 0 rfl ?_
  refine z_callX (pc := 1) (As := []) C [] (c_X5_pass _ hlz _ _ _ n p0 h) zn_X5_pass (by decide) (by decide) zc5 rfl q_523 q_524 q_525 q_2 q_526 rfl rfl rfl (zD D_L_passes_0 1 rfl) (fun r h1 => ?_) (fun e h1 => ?_)
  · exact z_wret (pc := 4) C hr (zD D_L_passes_0 2 rfl)
  · refine zX_ite (fun c0 => ?_) (fun c0 => ?_)
    · subst c0
      refine zX_catch (pc := 1) C htab [] ⟨0, 4, 5, 29⟩ [] rfl zPass_0 (by decide) rfl rfl (by decide) q_100 C.2.2.2.2.2.2.2.2.1.2.1.2.2.1 (fun q => ?_)
      refine z_astore_n (pc := 5) (lv' := [(1, .ref q), (0, .ref (B + p0))]) C (zD D_L_passes_0 3 rfl) rfl (by decide) rfl ?_
      refine z_ldc (pc := 6) (v := -5000002) C q_3 (zD D_L_passes_0 4 rfl) ?_
      exact z_wret (pc := 8) C hr (zD D_L_passes_0 5 rfl)
    exact zX_none
