def f_L_begin (n : Nat) (p0 : Nat) (p1 : Int32) (p2 : Nat) (h : zH) : Option (Int32 × zH) := zrc h p0 5 <| (f_X5_begin n p0 p1 h).bind fun (u : zO2) => zcs u (fun (r : Int32) (h1 : zH) => (zsl h1 p2 (0 : Int32) (Int32.toInt64 r)).bind fun (h8 : zH) => some ((0 : Int32), h8)) (fun (e : Nat) (h1 : zH) => if e = 0 then (some ((1 : Int32), h1)) else none)
theorem zn_L_begin : zNm yL_begin 3 := ⟨by decide +kernel, by decide +kernel⟩
set_option maxRecDepth 100000 in
set_option maxHeartbeats 4000000 in
theorem c_L_begin (l : Launch) (hl : l.stackTraces = false) (B : Nat) (D : va_G) (cA : Nat → ClassId) (n : Nat) (p0 : Nat) (p1 : Int32) (p2 : Nat) (h : zH) : ∀ u, f_L_begin n p0 p1 p2 h = some u → zMw l B D cA yL_begin cL_begin 4 (some .int) [(0, 9, 12, 13)] 7 [.ref (B + p0), .int p1, .ref (B + p2)] h (some (.int u.1)) u.2 := by
  unfold f_L_begin
  refine z_metw (own := RL) rfl (by decide) rfl (fun Z C hr htab hlZ => ?_)
  have hlz : Z.1.2.1.stackTraces = false := by rw [hlZ]; exact hl
  refine z_aload_n (pc := 0) C (zD D_L_begin_0 0 rfl) rfl 2 rfl ?_
  refine z_iconst (pc := 1) (v := 0) C (zD D_L_begin_0 1 rfl) (by decide) ?_
  refine z_aload_n (pc := 2) C (zD D_L_begin_0 2 rfl) rfl 0 rfl ?_
  refine z_iload_n (pc := 3) C (zD D_L_begin_0 3 rfl) rfl 1 rfl ?_
  refine z_callX (pc := 4) (As := [.int p1]) C [.int (0 : Int32), .ref (B + p2)] (c_X5_begin _ hlz _ _ _ n p0 p1 h) zn_X5_begin (by decide) (by decide) zc5 rfl q_118 q_119 q_120 q_2 q_121 rfl rfl rfl (zD D_L_begin_0 4 rfl) (fun r h1 => ?_) (fun e h1 => ?_)
  · refine z_i2l (pc := 7) C (zD D_L_begin_0 5 rfl) ?_
    refine z_alstore (pc := 8) C (zD D_L_begin_0 6 rfl) (fun h8 => ?_)
    refine z_goto (pc := 9) C (zD D_L_begin_0 7 rfl) (tgt := 15) (by decide) ?_
    refine z_iconst (pc := 15) (v := 0) C (zD D_L_begin_0 11 rfl) (by decide) ?_
    exact z_wret (pc := 16) C hr (zD D_L_begin_0 12 rfl)
  · refine zX_ite (fun c0 => ?_) (fun c0 => ?_)
    · subst c0
      refine zX_catch (pc := 4) C htab [] ⟨0, 9, 12, 13⟩ [] rfl zPass_0 (by decide) rfl rfl (by decide) q_117 C.2.2.2.2.2.2.2.2.1.2.1.1 (fun q => ?_)
      refine z_astore_n (pc := 12) (lv' := [(3, .ref q), (0, .ref (B + p0)), (1, .int p1), (2, .ref (B + p2))]) C (zD D_L_begin_0 8 rfl) rfl (by decide) rfl ?_
      refine z_iconst (pc := 13) (v := 1) C (zD D_L_begin_0 9 rfl) (by decide) ?_
      exact z_wret (pc := 14) C hr (zD D_L_begin_0 10 rfl)
    exact zX_none
def f_L_setTown (n : Nat) (p0 : Nat) (p1 : Int32) (p2 : Int32) (p3 : Nat) (h : zH) : Option (Int32 × zH) := zrc h p0 5 <| (f_X5_setTown n p0 p1 p2 h).bind fun (u : zO2) => zcs u (fun (r : Int32) (h1 : zH) => (zsl h1 p3 (0 : Int32) (Int32.toInt64 r)).bind fun (h9 : zH) => some ((0 : Int32), h9)) (fun (e : Nat) (h1 : zH) => if e = 1 then (some ((1 : Int32), h1)) else if e = 0 then (some ((2 : Int32), h1)) else none)
theorem zn_L_setTown : zNm yL_setTown 4 := ⟨by decide +kernel, by decide +kernel⟩
set_option maxRecDepth 100000 in
set_option maxHeartbeats 4000000 in
theorem c_L_setTown (l : Launch) (hl : l.stackTraces = false) (B : Nat) (D : va_G) (cA : Nat → ClassId) (n : Nat) (p0 : Nat) (p1 : Int32) (p2 : Int32) (p3 : Nat) (h : zH) : ∀ u, f_L_setTown n p0 p1 p2 p3 h = some u → zMw l B D cA yL_setTown cL_setTown 5 (some .int) [(0, 10, 13, 19), (0, 10, 17, 13)] 7 [.ref (B + p0), .int p1, .int p2, .ref (B + p3)] h (some (.int u.1)) u.2 := by
  unfold f_L_setTown
  refine z_metw (own := RL) rfl (by decide) rfl (fun Z C hr htab hlZ => ?_)
  have hlz : Z.1.2.1.stackTraces = false := by rw [hlZ]; exact hl
  refine z_aload_n (pc := 0) C (zD D_L_setTown_0 0 rfl) rfl 3 rfl ?_
  refine z_iconst (pc := 1) (v := 0) C (zD D_L_setTown_0 1 rfl) (by decide) ?_
  refine z_aload_n (pc := 2) C (zD D_L_setTown_0 2 rfl) rfl 0 rfl ?_
  refine z_iload_n (pc := 3) C (zD D_L_setTown_0 3 rfl) rfl 1 rfl ?_
  refine z_iload_n (pc := 4) C (zD D_L_setTown_0 4 rfl) rfl 2 rfl ?_
  refine z_callX (pc := 5) (As := [.int p1, .int p2]) C [.int (0 : Int32), .ref (B + p3)] (c_X5_setTown _ hlz _ _ _ n p0 p1 p2 h) zn_X5_setTown (by decide) (by decide) zc5 rfl q_173 q_174 q_175 q_2 q_176 rfl rfl rfl (zD D_L_setTown_0 5 rfl) (fun r h1 => ?_) (fun e h1 => ?_)
  · refine z_i2l (pc := 8) C (zD D_L_setTown_0 6 rfl) ?_
    refine z_alstore (pc := 9) C (zD D_L_setTown_0 7 rfl) (fun h9 => ?_)
    refine z_goto (pc := 10) C (zD D_L_setTown_0 8 rfl) (tgt := 21) (by decide) ?_
    refine z_iconst (pc := 21) (v := 0) C (zD D_L_setTown_0 15 rfl) (by decide) ?_
    exact z_wret (pc := 22) C hr (zD D_L_setTown_0 16 rfl)
  · refine zX_ite (fun c0 => ?_) (fun c0 => ?_)
    · subst c0
      refine zX_catch (pc := 5) C htab [] ⟨0, 10, 13, 19⟩ [⟨0, 10, 17, 13⟩] rfl zPass_0 (by decide) rfl rfl (by decide) q_172 C.2.2.2.2.2.2.2.2.1.2.1.2.1 (fun q => ?_)
      refine z_astore (pc := 13) (lv' := [(4, .ref q), (0, .ref (B + p0)), (1, .int p1), (2, .int p2), (3, .ref (B + p3))]) C (zD D_L_setTown_0 9 rfl) (by decide) rfl ?_
      refine z_iconst (pc := 15) (v := 1) C (zD D_L_setTown_0 10 rfl) (by decide) ?_
      exact z_wret (pc := 16) C hr (zD D_L_setTown_0 11 rfl)
    refine zX_ite (fun c1 => ?_) (fun c1 => ?_)
    · subst c1
      refine zX_catch (pc := 5) C htab [⟨0, 10, 13, 19⟩] ⟨0, 10, 17, 13⟩ [] rfl (zPass_c rfl (by decide) 1 q_172 C.2.2.2.2.2.2.2.2.1.2.2.1.1 zPass_0) (by decide) rfl rfl (by decide) q_117 C.2.2.2.2.2.2.2.2.1.2.1.1 (fun q => ?_)
      refine z_astore (pc := 17) (lv' := [(4, .ref q), (0, .ref (B + p0)), (1, .int p1), (2, .int p2), (3, .ref (B + p3))]) C (zD D_L_setTown_0 12 rfl) (by decide) rfl ?_
      refine z_iconst (pc := 19) (v := 2) C (zD D_L_setTown_0 13 rfl) (by decide) ?_
      exact z_wret (pc := 20) C hr (zD D_L_setTown_0 14 rfl)
    exact zX_none
def f_L_start (n : Nat) (p0 : Nat) (p1 : Int32) (p2 : Int32) (p3 : Int32) (p4 : Nat) (h : zH) : Option (Int32 × zH) := zrc h p0 5 <| (f_X5_start n p0 p1 p2 p3 h).bind fun (u : zO2) => zcs u (fun (r : Int32) (h1 : zH) => (zsl h1 p4 (0 : Int32) (Int32.toInt64 r)).bind fun (h11 : zH) => some ((0 : Int32), h11)) (fun (e : Nat) (h1 : zH) => if e = 1 then (some ((1 : Int32), h1)) else if e = 0 then (some ((2 : Int32), h1)) else if e = 2 then (some ((3 : Int32), h1)) else none)
theorem zn_L_start : zNm yL_start 5 := ⟨by decide +kernel, by decide +kernel⟩
set_option maxRecDepth 100000 in
set_option maxHeartbeats 4000000 in
theorem c_L_start (l : Launch) (hl : l.stackTraces = false) (B : Nat) (D : va_G) (cA : Nat → ClassId) (n : Nat) (p0 : Nat) (p1 : Int32) (p2 : Int32) (p3 : Int32) (p4 : Nat) (h : zH) : ∀ u, f_L_start n p0 p1 p2 p3 p4 h = some u → zMw l B D cA yL_start cL_start 6 (some .int) [(0, 12, 15, 19), (0, 12, 19, 13), (0, 12, 23, 25)] 7 [.ref (B + p0), .int p1, .int p2, .int p3, .ref (B + p4)] h (some (.int u.1)) u.2 := by
  unfold f_L_start
  refine z_metw (own := RL) rfl (by decide) rfl (fun Z C hr htab hlZ => ?_)
  have hlz : Z.1.2.1.stackTraces = false := by rw [hlZ]; exact hl
  refine z_aload (pc := 0) C (zD D_L_start_0 0 rfl) 4 rfl ?_
  refine z_iconst (pc := 2) (v := 0) C (zD D_L_start_0 1 rfl) (by decide) ?_
  refine z_aload_n (pc := 3) C (zD D_L_start_0 2 rfl) rfl 0 rfl ?_
  refine z_iload_n (pc := 4) C (zD D_L_start_0 3 rfl) rfl 1 rfl ?_
  refine z_iload_n (pc := 5) C (zD D_L_start_0 4 rfl) rfl 2 rfl ?_
  refine z_iload_n (pc := 6) C (zD D_L_start_0 5 rfl) rfl 3 rfl ?_
  refine z_callX (pc := 7) (As := [.int p1, .int p2, .int p3]) C [.int (0 : Int32), .ref (B + p4)] (c_X5_start _ hlz _ _ _ n p0 p1 p2 p3 h) zn_X5_start (by decide) (by decide) zc5 rfl q_195 q_196 q_197 q_2 q_198 rfl rfl rfl (zD D_L_start_0 6 rfl) (fun r h1 => ?_) (fun e h1 => ?_)
  · refine z_i2l (pc := 10) C (zD D_L_start_0 7 rfl) ?_
    refine z_alstore (pc := 11) C (zD D_L_start_0 8 rfl) (fun h11 => ?_)
    refine z_goto (pc := 12) C (zD D_L_start_0 9 rfl) (tgt := 27) (by decide) ?_
    refine z_iconst (pc := 27) (v := 0) C (zD D_L_start_0 19 rfl) (by decide) ?_
    exact z_wret (pc := 28) C hr (zD D_L_start_0 20 rfl)
  · refine zX_ite (fun c0 => ?_) (fun c0 => ?_)
    · subst c0
      refine zX_catch (pc := 7) C htab [] ⟨0, 12, 15, 19⟩ [⟨0, 12, 19, 13⟩, ⟨0, 12, 23, 25⟩] rfl zPass_0 (by decide) rfl rfl (by decide) q_172 C.2.2.2.2.2.2.2.2.1.2.1.2.1 (fun q => ?_)
      refine z_astore (pc := 15) (lv' := [(5, .ref q), (0, .ref (B + p0)), (1, .int p1), (2, .int p2), (3, .int p3), (4, .ref (B + p4))]) C (zD D_L_start_0 10 rfl) (by decide) rfl ?_
      refine z_iconst (pc := 17) (v := 1) C (zD D_L_start_0 11 rfl) (by decide) ?_
      exact z_wret (pc := 18) C hr (zD D_L_start_0 12 rfl)
    refine zX_ite (fun c1 => ?_) (fun c1 => ?_)
    · subst c1
      refine zX_catch (pc := 7) C htab [⟨0, 12, 15, 19⟩] ⟨0, 12, 19, 13⟩ [⟨0, 12, 23, 25⟩] rfl (zPass_c rfl (by decide) 1 q_172 C.2.2.2.2.2.2.2.2.1.2.2.1.1 zPass_0) (by decide) rfl rfl (by decide) q_117 C.2.2.2.2.2.2.2.2.1.2.1.1 (fun q => ?_)
      refine z_astore (pc := 19) (lv' := [(5, .ref q), (0, .ref (B + p0)), (1, .int p1), (2, .int p2), (3, .int p3), (4, .ref (B + p4))]) C (zD D_L_start_0 13 rfl) (by decide) rfl ?_
      refine z_iconst (pc := 21) (v := 2) C (zD D_L_start_0 14 rfl) (by decide) ?_
      exact z_wret (pc := 22) C hr (zD D_L_start_0 15 rfl)
    refine zX_ite (fun c2 => ?_) (fun c2 => ?_)
    · subst c2
      refine zX_catch (pc := 7) C htab [⟨0, 12, 15, 19⟩, ⟨0, 12, 19, 13⟩] ⟨0, 12, 23, 25⟩ [] rfl (zPass_c rfl (by decide) 1 q_172 C.2.2.2.2.2.2.2.2.1.2.2.1.2.1 (zPass_c rfl (by decide) 0 q_117 C.2.2.2.2.2.2.2.2.1.2.2.1.2.2 zPass_0)) (by decide) rfl rfl (by decide) q_194 C.2.2.2.2.2.2.2.2.1.2.1.2.2.1 (fun q => ?_)
      refine z_astore (pc := 23) (lv' := [(5, .ref q), (0, .ref (B + p0)), (1, .int p1), (2, .int p2), (3, .int p3), (4, .ref (B + p4))]) C (zD D_L_start_0 16 rfl) (by decide) rfl ?_
      refine z_iconst (pc := 25) (v := 3) C (zD D_L_start_0 17 rfl) (by decide) ?_
      exact z_wret (pc := 26) C hr (zD D_L_start_0 18 rfl)
    exact zX_none
def f_L_buy (n : Nat) (p0 : Nat) (p1 : Int32) (p2 : Nat) (h : zH) : Option (Int32 × zH) := zrc h p0 5 <| (f_X5_buy n p0 p1 h).bind fun (u : zO2) => zcs u (fun (r : Int32) (h1 : zH) => (zsl h1 p2 (0 : Int32) (Int32.toInt64 r)).bind fun (h8 : zH) => some ((0 : Int32), h8)) (fun (e : Nat) (h1 : zH) => if e = 1 then (some ((1 : Int32), h1)) else if e = 2 then (some ((2 : Int32), h1)) else none)
theorem zn_L_buy : zNm yL_buy 3 := ⟨by decide +kernel, by decide +kernel⟩
set_option maxRecDepth 100000 in
set_option maxHeartbeats 4000000 in
theorem c_L_buy (l : Launch) (hl : l.stackTraces = false) (B : Nat) (D : va_G) (cA : Nat → ClassId) (n : Nat) (p0 : Nat) (p1 : Int32) (p2 : Nat) (h : zH) : ∀ u, f_L_buy n p0 p1 p2 h = some u → zMw l B D cA yL_buy cL_buy 4 (some .int) [(0, 9, 12, 19), (0, 9, 15, 25)] 7 [.ref (B + p0), .int p1, .ref (B + p2)] h (some (.int u.1)) u.2 := by
  unfold f_L_buy
  refine z_metw (own := RL) rfl (by decide) rfl (fun Z C hr htab hlZ => ?_)
  have hlz : Z.1.2.1.stackTraces = false := by rw [hlZ]; exact hl
  refine z_aload_n (pc := 0) C (zD D_L_buy_0 0 rfl) rfl 2 rfl ?_
  refine z_iconst (pc := 1) (v := 0) C (zD D_L_buy_0 1 rfl) (by decide) ?_
  refine z_aload_n (pc := 2) C (zD D_L_buy_0 2 rfl) rfl 0 rfl ?_
  refine z_iload_n (pc := 3) C (zD D_L_buy_0 3 rfl) rfl 1 rfl ?_
  refine z_callX (pc := 4) (As := [.int p1]) C [.int (0 : Int32), .ref (B + p2)] (c_X5_buy _ hlz _ _ _ n p0 p1 h) zn_X5_buy (by decide) (by decide) zc5 rfl q_303 q_304 q_305 q_2 q_306 rfl rfl rfl (zD D_L_buy_0 4 rfl) (fun r h1 => ?_) (fun e h1 => ?_)
  · refine z_i2l (pc := 7) C (zD D_L_buy_0 5 rfl) ?_
    refine z_alstore (pc := 8) C (zD D_L_buy_0 6 rfl) (fun h8 => ?_)
    refine z_goto (pc := 9) C (zD D_L_buy_0 7 rfl) (tgt := 18) (by decide) ?_
    refine z_iconst (pc := 18) (v := 0) C (zD D_L_buy_0 14 rfl) (by decide) ?_
    exact z_wret (pc := 19) C hr (zD D_L_buy_0 15 rfl)
  · refine zX_ite (fun c0 => ?_) (fun c0 => ?_)
    · subst c0
      refine zX_catch (pc := 4) C htab [] ⟨0, 9, 12, 19⟩ [⟨0, 9, 15, 25⟩] rfl zPass_0 (by decide) rfl rfl (by decide) q_172 C.2.2.2.2.2.2.2.2.1.2.1.2.1 (fun q => ?_)
      refine z_astore_n (pc := 12) (lv' := [(3, .ref q), (0, .ref (B + p0)), (1, .int p1), (2, .ref (B + p2))]) C (zD D_L_buy_0 8 rfl) rfl (by decide) rfl ?_
      refine z_iconst (pc := 13) (v := 1) C (zD D_L_buy_0 9 rfl) (by decide) ?_
      exact z_wret (pc := 14) C hr (zD D_L_buy_0 10 rfl)
    refine zX_ite (fun c1 => ?_) (fun c1 => ?_)
    · subst c1
      refine zX_catch (pc := 4) C htab [⟨0, 9, 12, 19⟩] ⟨0, 9, 15, 25⟩ [] rfl (zPass_c rfl (by decide) 1 q_172 C.2.2.2.2.2.2.2.2.1.2.2.1.2.1 zPass_0) (by decide) rfl rfl (by decide) q_194 C.2.2.2.2.2.2.2.2.1.2.1.2.2.1 (fun q => ?_)
      refine z_astore_n (pc := 15) (lv' := [(3, .ref q), (0, .ref (B + p0)), (1, .int p1), (2, .ref (B + p2))]) C (zD D_L_buy_0 11 rfl) rfl (by decide) rfl ?_
      refine z_iconst (pc := 16) (v := 2) C (zD D_L_buy_0 12 rfl) (by decide) ?_
      exact z_wret (pc := 17) C hr (zD D_L_buy_0 13 rfl)
    exact zX_none
def f_L_sell (n : Nat) (p0 : Nat) (p1 : Int32) (p2 : Int32) (p3 : Nat) (h : zH) : Option (Int32 × zH) := zrc h p0 5 <| (f_X5_sell n p0 p1 p2 h).bind fun (u : zO2) => zcs u (fun (r : Int32) (h1 : zH) => (zsl h1 p3 (0 : Int32) (Int32.toInt64 r)).bind fun (h9 : zH) => some ((0 : Int32), h9)) (fun (e : Nat) (h1 : zH) => if e = 1 then (some ((1 : Int32), h1)) else if e = 0 then (some ((2 : Int32), h1)) else if e = 2 then (some ((3 : Int32), h1)) else none)
theorem zn_L_sell : zNm yL_sell 4 := ⟨by decide +kernel, by decide +kernel⟩
set_option maxRecDepth 100000 in
set_option maxHeartbeats 4000000 in
theorem c_L_sell (l : Launch) (hl : l.stackTraces = false) (B : Nat) (D : va_G) (cA : Nat → ClassId) (n : Nat) (p0 : Nat) (p1 : Int32) (p2 : Int32) (p3 : Nat) (h : zH) : ∀ u, f_L_sell n p0 p1 p2 p3 h = some u → zMw l B D cA yL_sell cL_sell 5 (some .int) [(0, 10, 13, 19), (0, 10, 17, 13), (0, 10, 21, 25)] 7 [.ref (B + p0), .int p1, .int p2, .ref (B + p3)] h (some (.int u.1)) u.2 := by
  unfold f_L_sell
  refine z_metw (own := RL) rfl (by decide) rfl (fun Z C hr htab hlZ => ?_)
  have hlz : Z.1.2.1.stackTraces = false := by rw [hlZ]; exact hl
  refine z_aload_n (pc := 0) C (zD D_L_sell_0 0 rfl) rfl 3 rfl ?_
  refine z_iconst (pc := 1) (v := 0) C (zD D_L_sell_0 1 rfl) (by decide) ?_
  refine z_aload_n (pc := 2) C (zD D_L_sell_0 2 rfl) rfl 0 rfl ?_
  refine z_iload_n (pc := 3) C (zD D_L_sell_0 3 rfl) rfl 1 rfl ?_
  refine z_iload_n (pc := 4) C (zD D_L_sell_0 4 rfl) rfl 2 rfl ?_
  refine z_callX (pc := 5) (As := [.int p1, .int p2]) C [.int (0 : Int32), .ref (B + p3)] (c_X5_sell _ hlz _ _ _ n p0 p1 p2 h) zn_X5_sell (by decide) (by decide) zc5 rfl q_338 q_339 q_340 q_2 q_341 rfl rfl rfl (zD D_L_sell_0 5 rfl) (fun r h1 => ?_) (fun e h1 => ?_)
  · refine z_i2l (pc := 8) C (zD D_L_sell_0 6 rfl) ?_
    refine z_alstore (pc := 9) C (zD D_L_sell_0 7 rfl) (fun h9 => ?_)
    refine z_goto (pc := 10) C (zD D_L_sell_0 8 rfl) (tgt := 25) (by decide) ?_
    refine z_iconst (pc := 25) (v := 0) C (zD D_L_sell_0 18 rfl) (by decide) ?_
    exact z_wret (pc := 26) C hr (zD D_L_sell_0 19 rfl)
  · refine zX_ite (fun c0 => ?_) (fun c0 => ?_)
    · subst c0
      refine zX_catch (pc := 5) C htab [] ⟨0, 10, 13, 19⟩ [⟨0, 10, 17, 13⟩, ⟨0, 10, 21, 25⟩] rfl zPass_0 (by decide) rfl rfl (by decide) q_172 C.2.2.2.2.2.2.2.2.1.2.1.2.1 (fun q => ?_)
      refine z_astore (pc := 13) (lv' := [(4, .ref q), (0, .ref (B + p0)), (1, .int p1), (2, .int p2), (3, .ref (B + p3))]) C (zD D_L_sell_0 9 rfl) (by decide) rfl ?_
      refine z_iconst (pc := 15) (v := 1) C (zD D_L_sell_0 10 rfl) (by decide) ?_
      exact z_wret (pc := 16) C hr (zD D_L_sell_0 11 rfl)
    refine zX_ite (fun c1 => ?_) (fun c1 => ?_)
    · subst c1
      refine zX_catch (pc := 5) C htab [⟨0, 10, 13, 19⟩] ⟨0, 10, 17, 13⟩ [⟨0, 10, 21, 25⟩] rfl (zPass_c rfl (by decide) 1 q_172 C.2.2.2.2.2.2.2.2.1.2.2.1.1 zPass_0) (by decide) rfl rfl (by decide) q_117 C.2.2.2.2.2.2.2.2.1.2.1.1 (fun q => ?_)
      refine z_astore (pc := 17) (lv' := [(4, .ref q), (0, .ref (B + p0)), (1, .int p1), (2, .int p2), (3, .ref (B + p3))]) C (zD D_L_sell_0 12 rfl) (by decide) rfl ?_
      refine z_iconst (pc := 19) (v := 2) C (zD D_L_sell_0 13 rfl) (by decide) ?_
      exact z_wret (pc := 20) C hr (zD D_L_sell_0 14 rfl)
    refine zX_ite (fun c2 => ?_) (fun c2 => ?_)
    · subst c2
      refine zX_catch (pc := 5) C htab [⟨0, 10, 13, 19⟩, ⟨0, 10, 17, 13⟩] ⟨0, 10, 21, 25⟩ [] rfl (zPass_c rfl (by decide) 1 q_172 C.2.2.2.2.2.2.2.2.1.2.2.1.2.1 (zPass_c rfl (by decide) 0 q_117 C.2.2.2.2.2.2.2.2.1.2.2.1.2.2 zPass_0)) (by decide) rfl rfl (by decide) q_194 C.2.2.2.2.2.2.2.2.1.2.1.2.2.1 (fun q => ?_)
      refine z_astore (pc := 21) (lv' := [(4, .ref q), (0, .ref (B + p0)), (1, .int p1), (2, .int p2), (3, .ref (B + p3))]) C (zD D_L_sell_0 15 rfl) (by decide) rfl ?_
      refine z_iconst (pc := 23) (v := 3) C (zD D_L_sell_0 16 rfl) (by decide) ?_
      exact z_wret (pc := 24) C hr (zD D_L_sell_0 17 rfl)
    exact zX_none
def f_L_merge (n : Nat) (p0 : Nat) (p1 : Int32) (p2 : Int32) (p3 : Nat) (h : zH) : Option (Int32 × zH) := zrc h p0 5 <| (f_X5_merge n p0 p1 p2 h).bind fun (u : zO2) => zcs u (fun (r : Int32) (h1 : zH) => (zsl h1 p3 (0 : Int32) (Int32.toInt64 r)).bind fun (h9 : zH) => some ((0 : Int32), h9)) (fun (e : Nat) (h1 : zH) => if e = 1 then (some ((1 : Int32), h1)) else if e = 0 then (some ((2 : Int32), h1)) else if e = 2 then (some ((3 : Int32), h1)) else none)
theorem zn_L_merge : zNm yL_merge 4 := ⟨by decide +kernel, by decide +kernel⟩
set_option maxRecDepth 100000 in
set_option maxHeartbeats 4000000 in
theorem c_L_merge (l : Launch) (hl : l.stackTraces = false) (B : Nat) (D : va_G) (cA : Nat → ClassId) (n : Nat) (p0 : Nat) (p1 : Int32) (p2 : Int32) (p3 : Nat) (h : zH) : ∀ u, f_L_merge n p0 p1 p2 p3 h = some u → zMw l B D cA yL_merge cL_merge 5 (some .int) [(0, 10, 13, 19), (0, 10, 17, 13), (0, 10, 21, 25)] 7 [.ref (B + p0), .int p1, .int p2, .ref (B + p3)] h (some (.int u.1)) u.2 := by
  unfold f_L_merge
  refine z_metw (own := RL) rfl (by decide) rfl (fun Z C hr htab hlZ => ?_)
  have hlz : Z.1.2.1.stackTraces = false := by rw [hlZ]; exact hl
  refine z_aload_n (pc := 0) C (zD D_L_merge_0 0 rfl) rfl 3 rfl ?_
  refine z_iconst (pc := 1) (v := 0) C (zD D_L_merge_0 1 rfl) (by decide) ?_
  refine z_aload_n (pc := 2) C (zD D_L_merge_0 2 rfl) rfl 0 rfl ?_
  refine z_iload_n (pc := 3) C (zD D_L_merge_0 3 rfl) rfl 1 rfl ?_
  refine z_iload_n (pc := 4) C (zD D_L_merge_0 4 rfl) rfl 2 rfl ?_
  refine z_callX (pc := 5) (As := [.int p1, .int p2]) C [.int (0 : Int32), .ref (B + p3)] (c_X5_merge _ hlz _ _ _ n p0 p1 p2 h) zn_X5_merge (by decide) (by decide) zc5 rfl q_376 q_377 q_378 q_2 q_379 rfl rfl rfl (zD D_L_merge_0 5 rfl) (fun r h1 => ?_) (fun e h1 => ?_)
  · refine z_i2l (pc := 8) C (zD D_L_merge_0 6 rfl) ?_
    refine z_alstore (pc := 9) C (zD D_L_merge_0 7 rfl) (fun h9 => ?_)
    refine z_goto (pc := 10) C (zD D_L_merge_0 8 rfl) (tgt := 25) (by decide) ?_
    refine z_iconst (pc := 25) (v := 0) C (zD D_L_merge_0 18 rfl) (by decide) ?_
    exact z_wret (pc := 26) C hr (zD D_L_merge_0 19 rfl)
  · refine zX_ite (fun c0 => ?_) (fun c0 => ?_)
    · subst c0
      refine zX_catch (pc := 5) C htab [] ⟨0, 10, 13, 19⟩ [⟨0, 10, 17, 13⟩, ⟨0, 10, 21, 25⟩] rfl zPass_0 (by decide) rfl rfl (by decide) q_172 C.2.2.2.2.2.2.2.2.1.2.1.2.1 (fun q => ?_)
      refine z_astore (pc := 13) (lv' := [(4, .ref q), (0, .ref (B + p0)), (1, .int p1), (2, .int p2), (3, .ref (B + p3))]) C (zD D_L_merge_0 9 rfl) (by decide) rfl ?_
      refine z_iconst (pc := 15) (v := 1) C (zD D_L_merge_0 10 rfl) (by decide) ?_
      exact z_wret (pc := 16) C hr (zD D_L_merge_0 11 rfl)
    refine zX_ite (fun c1 => ?_) (fun c1 => ?_)
    · subst c1
      refine zX_catch (pc := 5) C htab [⟨0, 10, 13, 19⟩] ⟨0, 10, 17, 13⟩ [⟨0, 10, 21, 25⟩] rfl (zPass_c rfl (by decide) 1 q_172 C.2.2.2.2.2.2.2.2.1.2.2.1.1 zPass_0) (by decide) rfl rfl (by decide) q_117 C.2.2.2.2.2.2.2.2.1.2.1.1 (fun q => ?_)
      refine z_astore (pc := 17) (lv' := [(4, .ref q), (0, .ref (B + p0)), (1, .int p1), (2, .int p2), (3, .ref (B + p3))]) C (zD D_L_merge_0 12 rfl) (by decide) rfl ?_
      refine z_iconst (pc := 19) (v := 2) C (zD D_L_merge_0 13 rfl) (by decide) ?_
      exact z_wret (pc := 20) C hr (zD D_L_merge_0 14 rfl)
    refine zX_ite (fun c2 => ?_) (fun c2 => ?_)
    · subst c2
      refine zX_catch (pc := 5) C htab [⟨0, 10, 13, 19⟩, ⟨0, 10, 17, 13⟩] ⟨0, 10, 21, 25⟩ [] rfl (zPass_c rfl (by decide) 1 q_172 C.2.2.2.2.2.2.2.2.1.2.2.1.2.1 (zPass_c rfl (by decide) 0 q_117 C.2.2.2.2.2.2.2.2.1.2.2.1.2.2 zPass_0)) (by decide) rfl rfl (by decide) q_194 C.2.2.2.2.2.2.2.2.1.2.1.2.2.1 (fun q => ?_)
      refine z_astore (pc := 21) (lv' := [(4, .ref q), (0, .ref (B + p0)), (1, .int p1), (2, .int p2), (3, .ref (B + p3))]) C (zD D_L_merge_0 15 rfl) (by decide) rfl ?_
      refine z_iconst (pc := 23) (v := 3) C (zD D_L_merge_0 16 rfl) (by decide) ?_
      exact z_wret (pc := 24) C hr (zD D_L_merge_0 17 rfl)
    exact zX_none
def f_L_pass (n : Nat) (p0 : Nat) (p1 : Nat) (h : zH) : Option (Int32 × zH) := zrc h p0 5 <| (f_X5_pass n p0 h).bind fun (u : zO2) => zcs u (fun (r : Int32) (h1 : zH) => (zsl h1 p1 (0 : Int32) (Int32.toInt64 r)).bind fun (h7 : zH) => some ((0 : Int32), h7)) (fun (e : Nat) (h1 : zH) => if e = 2 then (some ((1 : Int32), h1)) else none)
theorem zn_L_pass : zNm yL_pass 2 := ⟨by decide +kernel, by decide +kernel⟩
set_option maxRecDepth 100000 in
set_option maxHeartbeats 4000000 in
theorem c_L_pass (l : Launch) (hl : l.stackTraces = false) (B : Nat) (D : va_G) (cA : Nat → ClassId) (n : Nat) (p0 : Nat) (p1 : Nat) (h : zH) : ∀ u, f_L_pass n p0 p1 h = some u → zMw l B D cA yL_pass cL_pass 3 (some .int) [(0, 8, 11, 25)] 7 [.ref (B + p0), .ref (B + p1)] h (some (.int u.1)) u.2 := by
  unfold f_L_pass
  refine z_metw (own := RL) rfl (by decide) rfl (fun Z C hr htab hlZ => ?_)
  have hlz : Z.1.2.1.stackTraces = false := by rw [hlZ]; exact hl
  refine z_aload_n (pc := 0) C (zD D_L_pass_0 0 rfl) rfl 1 rfl ?_
  refine z_iconst (pc := 1) (v := 0) C (zD D_L_pass_0 1 rfl) (by decide) ?_
  refine z_aload_n (pc := 2) C (zD D_L_pass_0 2 rfl) rfl 0 rfl ?_
  refine z_callX (pc := 3) (As := []) C [.int (0 : Int32), .ref (B + p1)] (c_X5_pass _ hlz _ _ _ n p0 h) zn_X5_pass (by decide) (by decide) zc5 rfl q_412 q_413 q_414 q_2 q_415 rfl rfl rfl (zD D_L_pass_0 3 rfl) (fun r h1 => ?_) (fun e h1 => ?_)
  · refine z_i2l (pc := 6) C (zD D_L_pass_0 4 rfl) ?_
    refine z_alstore (pc := 7) C (zD D_L_pass_0 5 rfl) (fun h7 => ?_)
    refine z_goto (pc := 8) C (zD D_L_pass_0 6 rfl) (tgt := 14) (by decide) ?_
    refine z_iconst (pc := 14) (v := 0) C (zD D_L_pass_0 10 rfl) (by decide) ?_
    exact z_wret (pc := 15) C hr (zD D_L_pass_0 11 rfl)
  · refine zX_ite (fun c0 => ?_) (fun c0 => ?_)
    · subst c0
      refine zX_catch (pc := 3) C htab [] ⟨0, 8, 11, 25⟩ [] rfl zPass_0 (by decide) rfl rfl (by decide) q_194 C.2.2.2.2.2.2.2.2.1.2.1.2.2.1 (fun q => ?_)
      refine z_astore_n (pc := 11) (lv' := [(2, .ref q), (0, .ref (B + p0)), (1, .ref (B + p1))]) C (zD D_L_pass_0 7 rfl) rfl (by decide) rfl ?_
      refine z_iconst (pc := 12) (v := 1) C (zD D_L_pass_0 8 rfl) (by decide) ?_
      exact z_wret (pc := 13) C hr (zD D_L_pass_0 9 rfl)
    exact zX_none
def f_L_extend (n : Nat) (p0 : Nat) (p1 : Nat) (h : zH) : Option (Int32 × zH) := zrc h p0 5 <| (f_X5_extend n p0 h).bind fun (u : zO2) => zcs u (fun (r : Int32) (h1 : zH) => (zsl h1 p1 (0 : Int32) (Int32.toInt64 r)).bind fun (h7 : zH) => some ((0 : Int32), h7)) (fun (e : Nat) (h1 : zH) => if e = 2 then (some ((1 : Int32), h1)) else none)
theorem zn_L_extend : zNm yL_extend 2 := ⟨by decide +kernel, by decide +kernel⟩
set_option maxRecDepth 100000 in
set_option maxHeartbeats 4000000 in
theorem c_L_extend (l : Launch) (hl : l.stackTraces = false) (B : Nat) (D : va_G) (cA : Nat → ClassId) (n : Nat) (p0 : Nat) (p1 : Nat) (h : zH) : ∀ u, f_L_extend n p0 p1 h = some u → zMw l B D cA yL_extend cL_extend 3 (some .int) [(0, 8, 11, 25)] 7 [.ref (B + p0), .ref (B + p1)] h (some (.int u.1)) u.2 := by
  unfold f_L_extend
  refine z_metw (own := RL) rfl (by decide) rfl (fun Z C hr htab hlZ => ?_)
  have hlz : Z.1.2.1.stackTraces = false := by rw [hlZ]; exact hl
  refine z_aload_n (pc := 0) C (zD D_L_extend_0 0 rfl) rfl 1 rfl ?_
  refine z_iconst (pc := 1) (v := 0) C (zD D_L_extend_0 1 rfl) (by decide) ?_
  refine z_aload_n (pc := 2) C (zD D_L_extend_0 2 rfl) rfl 0 rfl ?_
  refine z_callX (pc := 3) (As := []) C [.int (0 : Int32), .ref (B + p1)] (c_X5_extend _ hlz _ _ _ n p0 h) zn_X5_extend (by decide) (by decide) zc5 rfl q_456 q_457 q_458 q_2 q_459 rfl rfl rfl (zD D_L_extend_0 3 rfl) (fun r h1 => ?_) (fun e h1 => ?_)
  · refine z_i2l (pc := 6) C (zD D_L_extend_0 4 rfl) ?_
    refine z_alstore (pc := 7) C (zD D_L_extend_0 5 rfl) (fun h7 => ?_)
    refine z_goto (pc := 8) C (zD D_L_extend_0 6 rfl) (tgt := 14) (by decide) ?_
    refine z_iconst (pc := 14) (v := 0) C (zD D_L_extend_0 10 rfl) (by decide) ?_
    exact z_wret (pc := 15) C hr (zD D_L_extend_0 11 rfl)
  · refine zX_ite (fun c0 => ?_) (fun c0 => ?_)
    · subst c0
      refine zX_catch (pc := 3) C htab [] ⟨0, 8, 11, 25⟩ [] rfl zPass_0 (by decide) rfl rfl (by decide) q_194 C.2.2.2.2.2.2.2.2.1.2.1.2.2.1 (fun q => ?_)
      refine z_astore_n (pc := 11) (lv' := [(2, .ref q), (0, .ref (B + p0)), (1, .ref (B + p1))]) C (zD D_L_extend_0 7 rfl) rfl (by decide) rfl ?_
      refine z_iconst (pc := 12) (v := 1) C (zD D_L_extend_0 8 rfl) (by decide) ?_
      exact z_wret (pc := 13) C hr (zD D_L_extend_0 9 rfl)
    exact zX_none
def f_L_operate (n : Nat) (p0 : Nat) (p1 : Int32) (p2 : Int32) (p3 : Int32) (p4 : Nat) (h : zH) : Option (Int32 × zH) := zrc h p0 5 <| (f_X5_operate n p0 p1 p2 p3 h).bind fun (u : zO2) => zcs u (fun (r : Int32) (h1 : zH) => (zsl h1 p4 (0 : Int32) (Int32.toInt64 r)).bind fun (h11 : zH) => some ((0 : Int32), h11)) (fun (e : Nat) (h1 : zH) => if e = 1 then (some ((1 : Int32), h1)) else if e = 0 then (some ((2 : Int32), h1)) else if e = 2 then (some ((3 : Int32), h1)) else none)
theorem zn_L_operate : zNm yL_operate 5 := ⟨by decide +kernel, by decide +kernel⟩
set_option maxRecDepth 100000 in
set_option maxHeartbeats 4000000 in
theorem c_L_operate (l : Launch) (hl : l.stackTraces = false) (B : Nat) (D : va_G) (cA : Nat → ClassId) (n : Nat) (p0 : Nat) (p1 : Int32) (p2 : Int32) (p3 : Int32) (p4 : Nat) (h : zH) : ∀ u, f_L_operate n p0 p1 p2 p3 p4 h = some u → zMw l B D cA yL_operate cL_operate 6 (some .int) [(0, 12, 15, 19), (0, 12, 19, 13), (0, 12, 23, 25)] 14 [.ref (B + p0), .int p1, .int p2, .int p3, .ref (B + p4)] h (some (.int u.1)) u.2 := by
  unfold f_L_operate
  refine z_metw (own := RL) rfl (by decide) rfl (fun Z C hr htab hlZ => ?_)
  have hlz : Z.1.2.1.stackTraces = false := by rw [hlZ]; exact hl
  refine z_aload (pc := 0) C (zD D_L_operate_0 0 rfl) 4 rfl ?_
  refine z_iconst (pc := 2) (v := 0) C (zD D_L_operate_0 1 rfl) (by decide) ?_
  refine z_aload_n (pc := 3) C (zD D_L_operate_0 2 rfl) rfl 0 rfl ?_
  refine z_iload_n (pc := 4) C (zD D_L_operate_0 3 rfl) rfl 1 rfl ?_
  refine z_iload_n (pc := 5) C (zD D_L_operate_0 4 rfl) rfl 2 rfl ?_
  refine z_iload_n (pc := 6) C (zD D_L_operate_0 5 rfl) rfl 3 rfl ?_
  refine z_callX (pc := 7) (As := [.int p1, .int p2, .int p3]) C [.int (0 : Int32), .ref (B + p4)] (c_X5_operate _ hlz _ _ _ n p0 p1 p2 p3 h) zn_X5_operate (by decide) (by decide) zc5 rfl q_488 q_489 q_490 q_2 q_491 rfl rfl rfl (zD D_L_operate_0 6 rfl) (fun r h1 => ?_) (fun e h1 => ?_)
  · refine z_i2l (pc := 10) C (zD D_L_operate_0 7 rfl) ?_
    refine z_alstore (pc := 11) C (zD D_L_operate_0 8 rfl) (fun h11 => ?_)
    refine z_goto (pc := 12) C (zD D_L_operate_0 9 rfl) (tgt := 27) (by decide) ?_
    refine z_iconst (pc := 27) (v := 0) C (zD D_L_operate_0 19 rfl) (by decide) ?_
    exact z_wret (pc := 28) C hr (zD D_L_operate_0 20 rfl)
  · refine zX_ite (fun c0 => ?_) (fun c0 => ?_)
    · subst c0
      refine zX_catch (pc := 7) C htab [] ⟨0, 12, 15, 19⟩ [⟨0, 12, 19, 13⟩, ⟨0, 12, 23, 25⟩] rfl zPass_0 (by decide) rfl rfl (by decide) q_172 C.2.2.2.2.2.2.2.2.1.2.1.2.1 (fun q => ?_)
      refine z_astore (pc := 15) (lv' := [(5, .ref q), (0, .ref (B + p0)), (1, .int p1), (2, .int p2), (3, .int p3), (4, .ref (B + p4))]) C (zD D_L_operate_0 10 rfl) (by decide) rfl ?_
      refine z_iconst (pc := 17) (v := 1) C (zD D_L_operate_0 11 rfl) (by decide) ?_
      exact z_wret (pc := 18) C hr (zD D_L_operate_0 12 rfl)
    refine zX_ite (fun c1 => ?_) (fun c1 => ?_)
    · subst c1
      refine zX_catch (pc := 7) C htab [⟨0, 12, 15, 19⟩] ⟨0, 12, 19, 13⟩ [⟨0, 12, 23, 25⟩] rfl (zPass_c rfl (by decide) 1 q_172 C.2.2.2.2.2.2.2.2.1.2.2.1.1 zPass_0) (by decide) rfl rfl (by decide) q_117 C.2.2.2.2.2.2.2.2.1.2.1.1 (fun q => ?_)
      refine z_astore (pc := 19) (lv' := [(5, .ref q), (0, .ref (B + p0)), (1, .int p1), (2, .int p2), (3, .int p3), (4, .ref (B + p4))]) C (zD D_L_operate_0 13 rfl) (by decide) rfl ?_
      refine z_iconst (pc := 21) (v := 2) C (zD D_L_operate_0 14 rfl) (by decide) ?_
      exact z_wret (pc := 22) C hr (zD D_L_operate_0 15 rfl)
    refine zX_ite (fun c2 => ?_) (fun c2 => ?_)
    · subst c2
      refine zX_catch (pc := 7) C htab [⟨0, 12, 15, 19⟩, ⟨0, 12, 19, 13⟩] ⟨0, 12, 23, 25⟩ [] rfl (zPass_c rfl (by decide) 1 q_172 C.2.2.2.2.2.2.2.2.1.2.2.1.2.1 (zPass_c rfl (by decide) 0 q_117 C.2.2.2.2.2.2.2.2.1.2.2.1.2.2 zPass_0)) (by decide) rfl rfl (by decide) q_194 C.2.2.2.2.2.2.2.2.1.2.1.2.2.1 (fun q => ?_)
      refine z_astore (pc := 23) (lv' := [(5, .ref q), (0, .ref (B + p0)), (1, .int p1), (2, .int p2), (3, .int p3), (4, .ref (B + p4))]) C (zD D_L_operate_0 16 rfl) (by decide) rfl ?_
      refine z_iconst (pc := 25) (v := 3) C (zD D_L_operate_0 17 rfl) (by decide) ?_
      exact z_wret (pc := 26) C hr (zD D_L_operate_0 18 rfl)
    exact zX_none
def f_L_player (n : Nat) (p0 : Nat) (p1 : Int32) (p2 : Int32) (p3 : Nat) (h : zH) : Option (Int32 × zH) := zrc h p0 5 <| (f_X5_player n p0 p1 p2 h).bind fun (u : zO2) => zcs u (fun (r : Int32) (h1 : zH) => (zsl h1 p3 (0 : Int32) (Int32.toInt64 r)).bind fun (h9 : zH) => some ((0 : Int32), h9)) (fun (e : Nat) (h1 : zH) => if e = 1 then (some ((1 : Int32), h1)) else if e = 0 then (some ((2 : Int32), h1)) else none)
theorem zn_L_player : zNm yL_player 4 := ⟨by decide +kernel, by decide +kernel⟩
set_option maxRecDepth 100000 in
set_option maxHeartbeats 4000000 in
theorem c_L_player (l : Launch) (hl : l.stackTraces = false) (B : Nat) (D : va_G) (cA : Nat → ClassId) (n : Nat) (p0 : Nat) (p1 : Int32) (p2 : Int32) (p3 : Nat) (h : zH) : ∀ u, f_L_player n p0 p1 p2 p3 h = some u → zMw l B D cA yL_player cL_player 5 (some .int) [(0, 10, 13, 19), (0, 10, 17, 13)] 7 [.ref (B + p0), .int p1, .int p2, .ref (B + p3)] h (some (.int u.1)) u.2 := by
  unfold f_L_player
  refine z_metw (own := RL) rfl (by decide) rfl (fun Z C hr htab hlZ => ?_)
  have hlz : Z.1.2.1.stackTraces = false := by rw [hlZ]; exact hl
  refine z_aload_n (pc := 0) C (zD D_L_player_0 0 rfl) rfl 3 rfl ?_
  refine z_iconst (pc := 1) (v := 0) C (zD D_L_player_0 1 rfl) (by decide) ?_
  refine z_aload_n (pc := 2) C (zD D_L_player_0 2 rfl) rfl 0 rfl ?_
  refine z_iload_n (pc := 3) C (zD D_L_player_0 3 rfl) rfl 1 rfl ?_
  refine z_iload_n (pc := 4) C (zD D_L_player_0 4 rfl) rfl 2 rfl ?_
  refine z_callX (pc := 5) (As := [.int p1, .int p2]) C [.int (0 : Int32), .ref (B + p3)] (c_X5_player _ hlz _ _ _ n p0 p1 p2 h) zn_X5_player (by decide) (by decide) zc5 rfl q_645 q_646 q_647 q_2 q_648 rfl rfl rfl (zD D_L_player_0 5 rfl) (fun r h1 => ?_) (fun e h1 => ?_)
  · refine z_i2l (pc := 8) C (zD D_L_player_0 6 rfl) ?_
    refine z_alstore (pc := 9) C (zD D_L_player_0 7 rfl) (fun h9 => ?_)
    refine z_goto (pc := 10) C (zD D_L_player_0 8 rfl) (tgt := 21) (by decide) ?_
    refine z_iconst (pc := 21) (v := 0) C (zD D_L_player_0 15 rfl) (by decide) ?_
    exact z_wret (pc := 22) C hr (zD D_L_player_0 16 rfl)
  · refine zX_ite (fun c0 => ?_) (fun c0 => ?_)
    · subst c0
      refine zX_catch (pc := 5) C htab [] ⟨0, 10, 13, 19⟩ [⟨0, 10, 17, 13⟩] rfl zPass_0 (by decide) rfl rfl (by decide) q_172 C.2.2.2.2.2.2.2.2.1.2.1.2.1 (fun q => ?_)
      refine z_astore (pc := 13) (lv' := [(4, .ref q), (0, .ref (B + p0)), (1, .int p1), (2, .int p2), (3, .ref (B + p3))]) C (zD D_L_player_0 9 rfl) (by decide) rfl ?_
      refine z_iconst (pc := 15) (v := 1) C (zD D_L_player_0 10 rfl) (by decide) ?_
      exact z_wret (pc := 16) C hr (zD D_L_player_0 11 rfl)
    refine zX_ite (fun c1 => ?_) (fun c1 => ?_)
    · subst c1
      refine zX_catch (pc := 5) C htab [⟨0, 10, 13, 19⟩] ⟨0, 10, 17, 13⟩ [] rfl (zPass_c rfl (by decide) 1 q_172 C.2.2.2.2.2.2.2.2.1.2.2.1.1 zPass_0) (by decide) rfl rfl (by decide) q_117 C.2.2.2.2.2.2.2.2.1.2.1.1 (fun q => ?_)
      refine z_astore (pc := 17) (lv' := [(4, .ref q), (0, .ref (B + p0)), (1, .int p1), (2, .int p2), (3, .ref (B + p3))]) C (zD D_L_player_0 12 rfl) (by decide) rfl ?_
      refine z_iconst (pc := 19) (v := 2) C (zD D_L_player_0 13 rfl) (by decide) ?_
      exact z_wret (pc := 20) C hr (zD D_L_player_0 14 rfl)
    exact zX_none
def f_L_company (n : Nat) (p0 : Nat) (p1 : Int32) (p2 : Int32) (p3 : Nat) (h : zH) : Option (Int32 × zH) := zrc h p0 5 <| (f_X5_company n p0 p1 p2 h).bind fun (u : zO2) => zcs u (fun (r : Int32) (h1 : zH) => (zsl h1 p3 (0 : Int32) (Int32.toInt64 r)).bind fun (h9 : zH) => some ((0 : Int32), h9)) (fun (e : Nat) (h1 : zH) => if e = 1 then (some ((1 : Int32), h1)) else if e = 0 then (some ((2 : Int32), h1)) else none)
theorem zn_L_company : zNm yL_company 4 := ⟨by decide +kernel, by decide +kernel⟩
set_option maxRecDepth 100000 in
set_option maxHeartbeats 4000000 in
theorem c_L_company (l : Launch) (hl : l.stackTraces = false) (B : Nat) (D : va_G) (cA : Nat → ClassId) (n : Nat) (p0 : Nat) (p1 : Int32) (p2 : Int32) (p3 : Nat) (h : zH) : ∀ u, f_L_company n p0 p1 p2 p3 h = some u → zMw l B D cA yL_company cL_company 5 (some .int) [(0, 10, 13, 19), (0, 10, 17, 13)] 13 [.ref (B + p0), .int p1, .int p2, .ref (B + p3)] h (some (.int u.1)) u.2 := by
  unfold f_L_company
  refine z_metw (own := RL) rfl (by decide) rfl (fun Z C hr htab hlZ => ?_)
  have hlz : Z.1.2.1.stackTraces = false := by rw [hlZ]; exact hl
  refine z_aload_n (pc := 0) C (zD D_L_company_0 0 rfl) rfl 3 rfl ?_
  refine z_iconst (pc := 1) (v := 0) C (zD D_L_company_0 1 rfl) (by decide) ?_
  refine z_aload_n (pc := 2) C (zD D_L_company_0 2 rfl) rfl 0 rfl ?_
  refine z_iload_n (pc := 3) C (zD D_L_company_0 3 rfl) rfl 1 rfl ?_
  refine z_iload_n (pc := 4) C (zD D_L_company_0 4 rfl) rfl 2 rfl ?_
  refine z_callX (pc := 5) (As := [.int p1, .int p2]) C [.int (0 : Int32), .ref (B + p3)] (c_X5_company _ hlz _ _ _ n p0 p1 p2 h) zn_X5_company (by decide) (by decide) zc5 rfl q_682 q_683 q_684 q_2 q_685 rfl rfl rfl (zD D_L_company_0 5 rfl) (fun r h1 => ?_) (fun e h1 => ?_)
  · refine z_i2l (pc := 8) C (zD D_L_company_0 6 rfl) ?_
    refine z_alstore (pc := 9) C (zD D_L_company_0 7 rfl) (fun h9 => ?_)
    refine z_goto (pc := 10) C (zD D_L_company_0 8 rfl) (tgt := 21) (by decide) ?_
    refine z_iconst (pc := 21) (v := 0) C (zD D_L_company_0 15 rfl) (by decide) ?_
    exact z_wret (pc := 22) C hr (zD D_L_company_0 16 rfl)
  · refine zX_ite (fun c0 => ?_) (fun c0 => ?_)
    · subst c0
      refine zX_catch (pc := 5) C htab [] ⟨0, 10, 13, 19⟩ [⟨0, 10, 17, 13⟩] rfl zPass_0 (by decide) rfl rfl (by decide) q_172 C.2.2.2.2.2.2.2.2.1.2.1.2.1 (fun q => ?_)
      refine z_astore (pc := 13) (lv' := [(4, .ref q), (0, .ref (B + p0)), (1, .int p1), (2, .int p2), (3, .ref (B + p3))]) C (zD D_L_company_0 9 rfl) (by decide) rfl ?_
      refine z_iconst (pc := 15) (v := 1) C (zD D_L_company_0 10 rfl) (by decide) ?_
      exact z_wret (pc := 16) C hr (zD D_L_company_0 11 rfl)
    refine zX_ite (fun c1 => ?_) (fun c1 => ?_)
    · subst c1
      refine zX_catch (pc := 5) C htab [⟨0, 10, 13, 19⟩] ⟨0, 10, 17, 13⟩ [] rfl (zPass_c rfl (by decide) 1 q_172 C.2.2.2.2.2.2.2.2.1.2.2.1.1 zPass_0) (by decide) rfl rfl (by decide) q_117 C.2.2.2.2.2.2.2.2.1.2.1.1 (fun q => ?_)
      refine z_astore (pc := 17) (lv' := [(4, .ref q), (0, .ref (B + p0)), (1, .int p1), (2, .int p2), (3, .ref (B + p3))]) C (zD D_L_company_0 12 rfl) (by decide) rfl ?_
      refine z_iconst (pc := 19) (v := 2) C (zD D_L_company_0 13 rfl) (by decide) ?_
      exact z_wret (pc := 20) C hr (zD D_L_company_0 14 rfl)
    exact zX_none
def f_L_track (n : Nat) (p0 : Nat) (p1 : Int32) (p2 : Int32) (p3 : Nat) (h : zH) : Option (Int32 × zH) := zrc h p0 5 <| (f_X5_track n p0 p1 p2 h).bind fun (u : zO2) => zcs u (fun (r : Int32) (h1 : zH) => (zsl h1 p3 (0 : Int32) (Int32.toInt64 r)).bind fun (h9 : zH) => some ((0 : Int32), h9)) (fun (e : Nat) (h1 : zH) => if e = 1 then (some ((1 : Int32), h1)) else none)
theorem zn_L_track : zNm yL_track 4 := ⟨by decide +kernel, by decide +kernel⟩
set_option maxRecDepth 100000 in
set_option maxHeartbeats 4000000 in
theorem c_L_track (l : Launch) (hl : l.stackTraces = false) (B : Nat) (D : va_G) (cA : Nat → ClassId) (n : Nat) (p0 : Nat) (p1 : Int32) (p2 : Int32) (p3 : Nat) (h : zH) : ∀ u, f_L_track n p0 p1 p2 p3 h = some u → zMw l B D cA yL_track cL_track 5 (some .int) [(0, 10, 13, 19)] 7 [.ref (B + p0), .int p1, .int p2, .ref (B + p3)] h (some (.int u.1)) u.2 := by
  unfold f_L_track
  refine z_metw (own := RL) rfl (by decide) rfl (fun Z C hr htab hlZ => ?_)
  have hlz : Z.1.2.1.stackTraces = false := by rw [hlZ]; exact hl
  refine z_aload_n (pc := 0) C (zD D_L_track_0 0 rfl) rfl 3 rfl ?_
  refine z_iconst (pc := 1) (v := 0) C (zD D_L_track_0 1 rfl) (by decide) ?_
  refine z_aload_n (pc := 2) C (zD D_L_track_0 2 rfl) rfl 0 rfl ?_
  refine z_iload_n (pc := 3) C (zD D_L_track_0 3 rfl) rfl 1 rfl ?_
  refine z_iload_n (pc := 4) C (zD D_L_track_0 4 rfl) rfl 2 rfl ?_
  refine z_callX (pc := 5) (As := [.int p1, .int p2]) C [.int (0 : Int32), .ref (B + p3)] (c_X5_track _ hlz _ _ _ n p0 p1 p2 h) zn_X5_track (by decide) (by decide) zc5 rfl q_705 q_706 q_707 q_2 q_708 rfl rfl rfl (zD D_L_track_0 5 rfl) (fun r h1 => ?_) (fun e h1 => ?_)
  · refine z_i2l (pc := 8) C (zD D_L_track_0 6 rfl) ?_
    refine z_alstore (pc := 9) C (zD D_L_track_0 7 rfl) (fun h9 => ?_)
    refine z_goto (pc := 10) C (zD D_L_track_0 8 rfl) (tgt := 17) (by decide) ?_
    refine z_iconst (pc := 17) (v := 0) C (zD D_L_track_0 12 rfl) (by decide) ?_
    exact z_wret (pc := 18) C hr (zD D_L_track_0 13 rfl)
  · refine zX_ite (fun c0 => ?_) (fun c0 => ?_)
    · subst c0
      refine zX_catch (pc := 5) C htab [] ⟨0, 10, 13, 19⟩ [] rfl zPass_0 (by decide) rfl rfl (by decide) q_172 C.2.2.2.2.2.2.2.2.1.2.1.2.1 (fun q => ?_)
      refine z_astore (pc := 13) (lv' := [(4, .ref q), (0, .ref (B + p0)), (1, .int p1), (2, .int p2), (3, .ref (B + p3))]) C (zD D_L_track_0 9 rfl) (by decide) rfl ?_
      refine z_iconst (pc := 15) (v := 1) C (zD D_L_track_0 10 rfl) (by decide) ?_
      exact z_wret (pc := 16) C hr (zD D_L_track_0 11 rfl)
    exact zX_none
def f_L_value (n : Nat) (p0 : Nat) (p1 : Int32) (p2 : Nat) (h : zH) : Option (Int32 × zH) := zrc h p0 5 <| (f_X5_value n p0 p1 h).bind fun (u : zO2) => zcs u (fun (r : Int32) (h1 : zH) => (zsl h1 p2 (0 : Int32) (Int32.toInt64 r)).bind fun (h8 : zH) => some ((0 : Int32), h8)) (fun (e : Nat) (h1 : zH) => if e = 0 then (some ((1 : Int32), h1)) else none)
theorem zn_L_value : zNm yL_value 3 := ⟨by decide +kernel, by decide +kernel⟩
set_option maxRecDepth 100000 in
set_option maxHeartbeats 4000000 in
theorem c_L_value (l : Launch) (hl : l.stackTraces = false) (B : Nat) (D : va_G) (cA : Nat → ClassId) (n : Nat) (p0 : Nat) (p1 : Int32) (p2 : Nat) (h : zH) : ∀ u, f_L_value n p0 p1 p2 h = some u → zMw l B D cA yL_value cL_value 4 (some .int) [(0, 9, 12, 13)] 7 [.ref (B + p0), .int p1, .ref (B + p2)] h (some (.int u.1)) u.2 := by
  unfold f_L_value
  refine z_metw (own := RL) rfl (by decide) rfl (fun Z C hr htab hlZ => ?_)
  have hlz : Z.1.2.1.stackTraces = false := by rw [hlZ]; exact hl
  refine z_aload_n (pc := 0) C (zD D_L_value_0 0 rfl) rfl 2 rfl ?_
  refine z_iconst (pc := 1) (v := 0) C (zD D_L_value_0 1 rfl) (by decide) ?_
  refine z_aload_n (pc := 2) C (zD D_L_value_0 2 rfl) rfl 0 rfl ?_
  refine z_iload_n (pc := 3) C (zD D_L_value_0 3 rfl) rfl 1 rfl ?_
  refine z_callX (pc := 4) (As := [.int p1]) C [.int (0 : Int32), .ref (B + p2)] (c_X5_value _ hlz _ _ _ n p0 p1 h) zn_X5_value (by decide) (by decide) zc5 rfl q_717 q_718 q_719 q_2 q_720 rfl rfl rfl (zD D_L_value_0 4 rfl) (fun r h1 => ?_) (fun e h1 => ?_)
  · refine z_i2l (pc := 7) C (zD D_L_value_0 5 rfl) ?_
    refine z_alstore (pc := 8) C (zD D_L_value_0 6 rfl) (fun h8 => ?_)
    refine z_goto (pc := 9) C (zD D_L_value_0 7 rfl) (tgt := 15) (by decide) ?_
    refine z_iconst (pc := 15) (v := 0) C (zD D_L_value_0 11 rfl) (by decide) ?_
    exact z_wret (pc := 16) C hr (zD D_L_value_0 12 rfl)
  · refine zX_ite (fun c0 => ?_) (fun c0 => ?_)
    · subst c0
      refine zX_catch (pc := 4) C htab [] ⟨0, 9, 12, 13⟩ [] rfl zPass_0 (by decide) rfl rfl (by decide) q_117 C.2.2.2.2.2.2.2.2.1.2.1.1 (fun q => ?_)
      refine z_astore_n (pc := 12) (lv' := [(3, .ref q), (0, .ref (B + p0)), (1, .int p1), (2, .ref (B + p2))]) C (zD D_L_value_0 8 rfl) rfl (by decide) rfl ?_
      refine z_iconst (pc := 13) (v := 1) C (zD D_L_value_0 9 rfl) (by decide) ?_
      exact z_wret (pc := 14) C hr (zD D_L_value_0 10 rfl)
    exact zX_none
def f_L_town (n : Nat) (p0 : Nat) (p1 : Int32) (p2 : Nat) (h : zH) : Option (Int32 × zH) := zrc h p0 5 <| (f_X5_town n p0 p1 h).bind fun (u : zO2) => zcs u (fun (r : Int32) (h1 : zH) => (zsl h1 p2 (0 : Int32) (Int32.toInt64 r)).bind fun (h8 : zH) => some ((0 : Int32), h8)) (fun (e : Nat) (h1 : zH) => if e = 1 then (some ((1 : Int32), h1)) else none)
theorem zn_L_town : zNm yL_town 3 := ⟨by decide +kernel, by decide +kernel⟩
set_option maxRecDepth 100000 in
set_option maxHeartbeats 4000000 in
theorem c_L_town (l : Launch) (hl : l.stackTraces = false) (B : Nat) (D : va_G) (cA : Nat → ClassId) (n : Nat) (p0 : Nat) (p1 : Int32) (p2 : Nat) (h : zH) : ∀ u, f_L_town n p0 p1 p2 h = some u → zMw l B D cA yL_town cL_town 4 (some .int) [(0, 9, 12, 19)] 7 [.ref (B + p0), .int p1, .ref (B + p2)] h (some (.int u.1)) u.2 := by
  unfold f_L_town
  refine z_metw (own := RL) rfl (by decide) rfl (fun Z C hr htab hlZ => ?_)
  have hlz : Z.1.2.1.stackTraces = false := by rw [hlZ]; exact hl
  refine z_aload_n (pc := 0) C (zD D_L_town_0 0 rfl) rfl 2 rfl ?_
  refine z_iconst (pc := 1) (v := 0) C (zD D_L_town_0 1 rfl) (by decide) ?_
  refine z_aload_n (pc := 2) C (zD D_L_town_0 2 rfl) rfl 0 rfl ?_
  refine z_iload_n (pc := 3) C (zD D_L_town_0 3 rfl) rfl 1 rfl ?_
  refine z_callX (pc := 4) (As := [.int p1]) C [.int (0 : Int32), .ref (B + p2)] (c_X5_town _ hlz _ _ _ n p0 p1 h) zn_X5_town (by decide) (by decide) zc5 rfl q_752 q_753 q_754 q_2 q_755 rfl rfl rfl (zD D_L_town_0 4 rfl) (fun r h1 => ?_) (fun e h1 => ?_)
  · refine z_i2l (pc := 7) C (zD D_L_town_0 5 rfl) ?_
    refine z_alstore (pc := 8) C (zD D_L_town_0 6 rfl) (fun h8 => ?_)
    refine z_goto (pc := 9) C (zD D_L_town_0 7 rfl) (tgt := 15) (by decide) ?_
    refine z_iconst (pc := 15) (v := 0) C (zD D_L_town_0 11 rfl) (by decide) ?_
    exact z_wret (pc := 16) C hr (zD D_L_town_0 12 rfl)
  · refine zX_ite (fun c0 => ?_) (fun c0 => ?_)
    · subst c0
      refine zX_catch (pc := 4) C htab [] ⟨0, 9, 12, 19⟩ [] rfl zPass_0 (by decide) rfl rfl (by decide) q_172 C.2.2.2.2.2.2.2.2.1.2.1.2.1 (fun q => ?_)
      refine z_astore_n (pc := 12) (lv' := [(3, .ref q), (0, .ref (B + p0)), (1, .int p1), (2, .ref (B + p2))]) C (zD D_L_town_0 8 rfl) rfl (by decide) rfl ?_
      refine z_iconst (pc := 13) (v := 1) C (zD D_L_town_0 9 rfl) (by decide) ?_
      exact z_wret (pc := 14) C hr (zD D_L_town_0 10 rfl)
    exact zX_none
def f_L_route (n : Nat) (p0 : Nat) (p1 : Int32) (p2 : Int32) (p3 : Nat) (h : zH) : Option (Int32 × zH) := zrc h p0 5 <| (f_X5_route n p0 p1 p2 h).bind fun (u : zO2) => zcs u (fun (r : Int32) (h1 : zH) => (zsl h1 p3 (0 : Int32) (Int32.toInt64 r)).bind fun (h9 : zH) => some ((0 : Int32), h9)) (fun (e : Nat) (h1 : zH) => if e = 1 then (some ((1 : Int32), h1)) else none)
theorem zn_L_route : zNm yL_route 4 := ⟨by decide +kernel, by decide +kernel⟩
set_option maxRecDepth 100000 in
set_option maxHeartbeats 4000000 in
theorem c_L_route (l : Launch) (hl : l.stackTraces = false) (B : Nat) (D : va_G) (cA : Nat → ClassId) (n : Nat) (p0 : Nat) (p1 : Int32) (p2 : Int32) (p3 : Nat) (h : zH) : ∀ u, f_L_route n p0 p1 p2 p3 h = some u → zMw l B D cA yL_route cL_route 5 (some .int) [(0, 10, 13, 19)] 13 [.ref (B + p0), .int p1, .int p2, .ref (B + p3)] h (some (.int u.1)) u.2 := by
  unfold f_L_route
  refine z_metw (own := RL) rfl (by decide) rfl (fun Z C hr htab hlZ => ?_)
  have hlz : Z.1.2.1.stackTraces = false := by rw [hlZ]; exact hl
  refine z_aload_n (pc := 0) C (zD D_L_route_0 0 rfl) rfl 3 rfl ?_
  refine z_iconst (pc := 1) (v := 0) C (zD D_L_route_0 1 rfl) (by decide) ?_
  refine z_aload_n (pc := 2) C (zD D_L_route_0 2 rfl) rfl 0 rfl ?_
  refine z_iload_n (pc := 3) C (zD D_L_route_0 3 rfl) rfl 1 rfl ?_
  refine z_iload_n (pc := 4) C (zD D_L_route_0 4 rfl) rfl 2 rfl ?_
  refine z_callX (pc := 5) (As := [.int p1, .int p2]) C [.int (0 : Int32), .ref (B + p3)] (c_X5_route _ hlz _ _ _ n p0 p1 p2 h) zn_X5_route (by decide) (by decide) zc5 rfl q_763 q_764 q_765 q_2 q_766 rfl rfl rfl (zD D_L_route_0 5 rfl) (fun r h1 => ?_) (fun e h1 => ?_)
  · refine z_i2l (pc := 8) C (zD D_L_route_0 6 rfl) ?_
    refine z_alstore (pc := 9) C (zD D_L_route_0 7 rfl) (fun h9 => ?_)
    refine z_goto (pc := 10) C (zD D_L_route_0 8 rfl) (tgt := 17) (by decide) ?_
    refine z_iconst (pc := 17) (v := 0) C (zD D_L_route_0 12 rfl) (by decide) ?_
    exact z_wret (pc := 18) C hr (zD D_L_route_0 13 rfl)
  · refine zX_ite (fun c0 => ?_) (fun c0 => ?_)
    · subst c0
      refine zX_catch (pc := 5) C htab [] ⟨0, 10, 13, 19⟩ [] rfl zPass_0 (by decide) rfl rfl (by decide) q_172 C.2.2.2.2.2.2.2.2.1.2.1.2.1 (fun q => ?_)
      refine z_astore (pc := 13) (lv' := [(4, .ref q), (0, .ref (B + p0)), (1, .int p1), (2, .int p2), (3, .ref (B + p3))]) C (zD D_L_route_0 9 rfl) (by decide) rfl ?_
      refine z_iconst (pc := 15) (v := 1) C (zD D_L_route_0 10 rfl) (by decide) ?_
      exact z_wret (pc := 16) C hr (zD D_L_route_0 11 rfl)
    exact zX_none
def f_L_incomeWith (n : Nat) (p0 : Nat) (p1 : Int32) (p2 : Int32) (p3 : Int32) (p4 : Nat) (h : zH) : Option (Int32 × zH) := zrc h p0 5 <| (f_X5_incomeWith n p0 p1 p2 p3 h).bind fun (u : zO2) => zcs u (fun (r : Int32) (h1 : zH) => (zsl h1 p4 (0 : Int32) (Int32.toInt64 r)).bind fun (h11 : zH) => some ((0 : Int32), h11)) (fun (e : Nat) (h1 : zH) => if e = 1 then (some ((1 : Int32), h1)) else if e = 0 then (some ((2 : Int32), h1)) else none)
theorem zn_L_incomeWith : zNm yL_incomeWith 5 := ⟨by decide +kernel, by decide +kernel⟩
set_option maxRecDepth 100000 in
set_option maxHeartbeats 4000000 in
theorem c_L_incomeWith (l : Launch) (hl : l.stackTraces = false) (B : Nat) (D : va_G) (cA : Nat → ClassId) (n : Nat) (p0 : Nat) (p1 : Int32) (p2 : Int32) (p3 : Int32) (p4 : Nat) (h : zH) : ∀ u, f_L_incomeWith n p0 p1 p2 p3 p4 h = some u → zMw l B D cA yL_incomeWith cL_incomeWith 6 (some .int) [(0, 12, 15, 19), (0, 12, 19, 13)] 14 [.ref (B + p0), .int p1, .int p2, .int p3, .ref (B + p4)] h (some (.int u.1)) u.2 := by
  unfold f_L_incomeWith
  refine z_metw (own := RL) rfl (by decide) rfl (fun Z C hr htab hlZ => ?_)
  have hlz : Z.1.2.1.stackTraces = false := by rw [hlZ]; exact hl
  refine z_aload (pc := 0) C (zD D_L_incomeWith_0 0 rfl) 4 rfl ?_
  refine z_iconst (pc := 2) (v := 0) C (zD D_L_incomeWith_0 1 rfl) (by decide) ?_
  refine z_aload_n (pc := 3) C (zD D_L_incomeWith_0 2 rfl) rfl 0 rfl ?_
  refine z_iload_n (pc := 4) C (zD D_L_incomeWith_0 3 rfl) rfl 1 rfl ?_
  refine z_iload_n (pc := 5) C (zD D_L_incomeWith_0 4 rfl) rfl 2 rfl ?_
  refine z_iload_n (pc := 6) C (zD D_L_incomeWith_0 5 rfl) rfl 3 rfl ?_
  refine z_callX (pc := 7) (As := [.int p1, .int p2, .int p3]) C [.int (0 : Int32), .ref (B + p4)] (c_X5_incomeWith _ hlz _ _ _ n p0 p1 p2 p3 h) zn_X5_incomeWith (by decide) (by decide) zc5 rfl q_782 q_783 q_784 q_2 q_785 rfl rfl rfl (zD D_L_incomeWith_0 6 rfl) (fun r h1 => ?_) (fun e h1 => ?_)
  · refine z_i2l (pc := 10) C (zD D_L_incomeWith_0 7 rfl) ?_
    refine z_alstore (pc := 11) C (zD D_L_incomeWith_0 8 rfl) (fun h11 => ?_)
    refine z_goto (pc := 12) C (zD D_L_incomeWith_0 9 rfl) (tgt := 23) (by decide) ?_
    refine z_iconst (pc := 23) (v := 0) C (zD D_L_incomeWith_0 16 rfl) (by decide) ?_
    exact z_wret (pc := 24) C hr (zD D_L_incomeWith_0 17 rfl)
  · refine zX_ite (fun c0 => ?_) (fun c0 => ?_)
    · subst c0
      refine zX_catch (pc := 7) C htab [] ⟨0, 12, 15, 19⟩ [⟨0, 12, 19, 13⟩] rfl zPass_0 (by decide) rfl rfl (by decide) q_172 C.2.2.2.2.2.2.2.2.1.2.1.2.1 (fun q => ?_)
      refine z_astore (pc := 15) (lv' := [(5, .ref q), (0, .ref (B + p0)), (1, .int p1), (2, .int p2), (3, .int p3), (4, .ref (B + p4))]) C (zD D_L_incomeWith_0 10 rfl) (by decide) rfl ?_
      refine z_iconst (pc := 17) (v := 1) C (zD D_L_incomeWith_0 11 rfl) (by decide) ?_
      exact z_wret (pc := 18) C hr (zD D_L_incomeWith_0 12 rfl)
    refine zX_ite (fun c1 => ?_) (fun c1 => ?_)
    · subst c1
      refine zX_catch (pc := 7) C htab [⟨0, 12, 15, 19⟩] ⟨0, 12, 19, 13⟩ [] rfl (zPass_c rfl (by decide) 1 q_172 C.2.2.2.2.2.2.2.2.1.2.2.1.1 zPass_0) (by decide) rfl rfl (by decide) q_117 C.2.2.2.2.2.2.2.2.1.2.1.1 (fun q => ?_)
      refine z_astore (pc := 19) (lv' := [(5, .ref q), (0, .ref (B + p0)), (1, .int p1), (2, .int p2), (3, .int p3), (4, .ref (B + p4))]) C (zD D_L_incomeWith_0 13 rfl) (by decide) rfl ?_
      refine z_iconst (pc := 21) (v := 2) C (zD D_L_incomeWith_0 14 rfl) (by decide) ?_
      exact z_wret (pc := 22) C hr (zD D_L_incomeWith_0 15 rfl)
    exact zX_none
def f_L_bestTrack (n : Nat) (p0 : Nat) (p1 : Int32) (p2 : Nat) (h : zH) : Option (Int32 × zH) := zrc h p0 5 <| (f_X5_bestTrack n p0 p1 h).bind fun (u : zO2) => zcs u (fun (r : Int32) (h1 : zH) => (zsl h1 p2 (0 : Int32) (Int32.toInt64 r)).bind fun (h8 : zH) => some ((0 : Int32), h8)) (fun (e : Nat) (h1 : zH) => if e = 1 then (some ((1 : Int32), h1)) else none)
theorem zn_L_bestTrack : zNm yL_bestTrack 3 := ⟨by decide +kernel, by decide +kernel⟩
set_option maxRecDepth 100000 in
set_option maxHeartbeats 4000000 in
theorem c_L_bestTrack (l : Launch) (hl : l.stackTraces = false) (B : Nat) (D : va_G) (cA : Nat → ClassId) (n : Nat) (p0 : Nat) (p1 : Int32) (p2 : Nat) (h : zH) : ∀ u, f_L_bestTrack n p0 p1 p2 h = some u → zMw l B D cA yL_bestTrack cL_bestTrack 4 (some .int) [(0, 9, 12, 19)] 15 [.ref (B + p0), .int p1, .ref (B + p2)] h (some (.int u.1)) u.2 := by
  unfold f_L_bestTrack
  refine z_metw (own := RL) rfl (by decide) rfl (fun Z C hr htab hlZ => ?_)
  have hlz : Z.1.2.1.stackTraces = false := by rw [hlZ]; exact hl
  refine z_aload_n (pc := 0) C (zD D_L_bestTrack_0 0 rfl) rfl 2 rfl ?_
  refine z_iconst (pc := 1) (v := 0) C (zD D_L_bestTrack_0 1 rfl) (by decide) ?_
  refine z_aload_n (pc := 2) C (zD D_L_bestTrack_0 2 rfl) rfl 0 rfl ?_
  refine z_iload_n (pc := 3) C (zD D_L_bestTrack_0 3 rfl) rfl 1 rfl ?_
  refine z_callX (pc := 4) (As := [.int p1]) C [.int (0 : Int32), .ref (B + p2)] (c_X5_bestTrack _ hlz _ _ _ n p0 p1 h) zn_X5_bestTrack (by decide) (by decide) zc5 rfl q_801 q_802 q_803 q_2 q_804 rfl rfl rfl (zD D_L_bestTrack_0 4 rfl) (fun r h1 => ?_) (fun e h1 => ?_)
  · refine z_i2l (pc := 7) C (zD D_L_bestTrack_0 5 rfl) ?_
    refine z_alstore (pc := 8) C (zD D_L_bestTrack_0 6 rfl) (fun h8 => ?_)
    refine z_goto (pc := 9) C (zD D_L_bestTrack_0 7 rfl) (tgt := 15) (by decide) ?_
    refine z_iconst (pc := 15) (v := 0) C (zD D_L_bestTrack_0 11 rfl) (by decide) ?_
    exact z_wret (pc := 16) C hr (zD D_L_bestTrack_0 12 rfl)
  · refine zX_ite (fun c0 => ?_) (fun c0 => ?_)
    · subst c0
      refine zX_catch (pc := 4) C htab [] ⟨0, 9, 12, 19⟩ [] rfl zPass_0 (by decide) rfl rfl (by decide) q_172 C.2.2.2.2.2.2.2.2.1.2.1.2.1 (fun q => ?_)
      refine z_astore_n (pc := 12) (lv' := [(3, .ref q), (0, .ref (B + p0)), (1, .int p1), (2, .ref (B + p2))]) C (zD D_L_bestTrack_0 8 rfl) rfl (by decide) rfl ?_
      refine z_iconst (pc := 13) (v := 1) C (zD D_L_bestTrack_0 9 rfl) (by decide) ?_
      exact z_wret (pc := 14) C hr (zD D_L_bestTrack_0 10 rfl)
    exact zX_none
def f_L_dividend (n : Nat) (p0 : Nat) (p1 : Int32) (p2 : Nat) (h : zH) : Option (Int32 × zH) := zrc h p0 5 <| (f_X5_dividend n p0 p1 h).bind fun (u : zO2) => zcs u (fun (r : Int32) (h1 : zH) => (zsl h1 p2 (0 : Int32) (Int32.toInt64 r)).bind fun (h8 : zH) => some ((0 : Int32), h8)) (fun (e : Nat) (h1 : zH) => if e = 1 then (some ((1 : Int32), h1)) else none)
theorem zn_L_dividend : zNm yL_dividend 3 := ⟨by decide +kernel, by decide +kernel⟩
set_option maxRecDepth 100000 in
set_option maxHeartbeats 4000000 in
theorem c_L_dividend (l : Launch) (hl : l.stackTraces = false) (B : Nat) (D : va_G) (cA : Nat → ClassId) (n : Nat) (p0 : Nat) (p1 : Int32) (p2 : Nat) (h : zH) : ∀ u, f_L_dividend n p0 p1 p2 h = some u → zMw l B D cA yL_dividend cL_dividend 4 (some .int) [(0, 9, 12, 19)] 13 [.ref (B + p0), .int p1, .ref (B + p2)] h (some (.int u.1)) u.2 := by
  unfold f_L_dividend
  refine z_metw (own := RL) rfl (by decide) rfl (fun Z C hr htab hlZ => ?_)
  have hlz : Z.1.2.1.stackTraces = false := by rw [hlZ]; exact hl
  refine z_aload_n (pc := 0) C (zD D_L_dividend_0 0 rfl) rfl 2 rfl ?_
  refine z_iconst (pc := 1) (v := 0) C (zD D_L_dividend_0 1 rfl) (by decide) ?_
  refine z_aload_n (pc := 2) C (zD D_L_dividend_0 2 rfl) rfl 0 rfl ?_
  refine z_iload_n (pc := 3) C (zD D_L_dividend_0 3 rfl) rfl 1 rfl ?_
  refine z_callX (pc := 4) (As := [.int p1]) C [.int (0 : Int32), .ref (B + p2)] (c_X5_dividend _ hlz _ _ _ n p0 p1 h) zn_X5_dividend (by decide) (by decide) zc5 rfl q_817 q_818 q_819 q_2 q_820 rfl rfl rfl (zD D_L_dividend_0 4 rfl) (fun r h1 => ?_) (fun e h1 => ?_)
  · refine z_i2l (pc := 7) C (zD D_L_dividend_0 5 rfl) ?_
    refine z_alstore (pc := 8) C (zD D_L_dividend_0 6 rfl) (fun h8 => ?_)
    refine z_goto (pc := 9) C (zD D_L_dividend_0 7 rfl) (tgt := 15) (by decide) ?_
    refine z_iconst (pc := 15) (v := 0) C (zD D_L_dividend_0 11 rfl) (by decide) ?_
    exact z_wret (pc := 16) C hr (zD D_L_dividend_0 12 rfl)
  · refine zX_ite (fun c0 => ?_) (fun c0 => ?_)
    · subst c0
      refine zX_catch (pc := 4) C htab [] ⟨0, 9, 12, 19⟩ [] rfl zPass_0 (by decide) rfl rfl (by decide) q_172 C.2.2.2.2.2.2.2.2.1.2.1.2.1 (fun q => ?_)
      refine z_astore_n (pc := 12) (lv' := [(3, .ref q), (0, .ref (B + p0)), (1, .int p1), (2, .ref (B + p2))]) C (zD D_L_dividend_0 8 rfl) rfl (by decide) rfl ?_
      refine z_iconst (pc := 13) (v := 1) C (zD D_L_dividend_0 9 rfl) (by decide) ?_
      exact z_wret (pc := 14) C hr (zD D_L_dividend_0 10 rfl)
    exact zX_none
def f_L_append (n : Nat) (p0 : Nat) (p1 : Int32) (p2 : Nat) (h : zH) : Option (Int32 × zH) := zrc h p0 5 <| (f_X5_append n p0 p1 h).bind fun (u : zO2) => zcs u (fun (r : Int32) (h1 : zH) => (zsl h1 p2 (0 : Int32) (Int32.toInt64 r)).bind fun (h8 : zH) => some ((0 : Int32), h8)) (fun (e : Nat) (h1 : zH) => if e = 0 then (some ((1 : Int32), h1)) else if e = 2 then (some ((2 : Int32), h1)) else none)
theorem zn_L_append : zNm yL_append 3 := ⟨by decide +kernel, by decide +kernel⟩
set_option maxRecDepth 100000 in
set_option maxHeartbeats 4000000 in
theorem c_L_append (l : Launch) (hl : l.stackTraces = false) (B : Nat) (D : va_G) (cA : Nat → ClassId) (n : Nat) (p0 : Nat) (p1 : Int32) (p2 : Nat) (h : zH) : ∀ u, f_L_append n p0 p1 p2 h = some u → zMw l B D cA yL_append cL_append 4 (some .int) [(0, 9, 12, 13), (0, 9, 15, 25)] 7 [.ref (B + p0), .int p1, .ref (B + p2)] h (some (.int u.1)) u.2 := by
  unfold f_L_append
  refine z_metw (own := RL) rfl (by decide) rfl (fun Z C hr htab hlZ => ?_)
  have hlz : Z.1.2.1.stackTraces = false := by rw [hlZ]; exact hl
  refine z_aload_n (pc := 0) C (zD D_L_append_0 0 rfl) rfl 2 rfl ?_
  refine z_iconst (pc := 1) (v := 0) C (zD D_L_append_0 1 rfl) (by decide) ?_
  refine z_aload_n (pc := 2) C (zD D_L_append_0 2 rfl) rfl 0 rfl ?_
  refine z_iload_n (pc := 3) C (zD D_L_append_0 3 rfl) rfl 1 rfl ?_
  refine z_callX (pc := 4) (As := [.int p1]) C [.int (0 : Int32), .ref (B + p2)] (c_X5_append _ hlz _ _ _ n p0 p1 h) zn_X5_append (by decide) (by decide) zc5 rfl q_849 q_850 q_851 q_2 q_852 rfl rfl rfl (zD D_L_append_0 4 rfl) (fun r h1 => ?_) (fun e h1 => ?_)
  · refine z_i2l (pc := 7) C (zD D_L_append_0 5 rfl) ?_
    refine z_alstore (pc := 8) C (zD D_L_append_0 6 rfl) (fun h8 => ?_)
    refine z_goto (pc := 9) C (zD D_L_append_0 7 rfl) (tgt := 18) (by decide) ?_
    refine z_iconst (pc := 18) (v := 0) C (zD D_L_append_0 14 rfl) (by decide) ?_
    exact z_wret (pc := 19) C hr (zD D_L_append_0 15 rfl)
  · refine zX_ite (fun c0 => ?_) (fun c0 => ?_)
    · subst c0
      refine zX_catch (pc := 4) C htab [] ⟨0, 9, 12, 13⟩ [⟨0, 9, 15, 25⟩] rfl zPass_0 (by decide) rfl rfl (by decide) q_117 C.2.2.2.2.2.2.2.2.1.2.1.1 (fun q => ?_)
      refine z_astore_n (pc := 12) (lv' := [(3, .ref q), (0, .ref (B + p0)), (1, .int p1), (2, .ref (B + p2))]) C (zD D_L_append_0 8 rfl) rfl (by decide) rfl ?_
      refine z_iconst (pc := 13) (v := 1) C (zD D_L_append_0 9 rfl) (by decide) ?_
      exact z_wret (pc := 14) C hr (zD D_L_append_0 10 rfl)
    refine zX_ite (fun c1 => ?_) (fun c1 => ?_)
    · subst c1
      refine zX_catch (pc := 4) C htab [⟨0, 9, 12, 13⟩] ⟨0, 9, 15, 25⟩ [] rfl (zPass_c rfl (by decide) 0 q_117 C.2.2.2.2.2.2.2.2.1.2.2.1.2.2 zPass_0) (by decide) rfl rfl (by decide) q_194 C.2.2.2.2.2.2.2.2.1.2.1.2.2.1 (fun q => ?_)
      refine z_astore_n (pc := 15) (lv' := [(3, .ref q), (0, .ref (B + p0)), (1, .int p1), (2, .ref (B + p2))]) C (zD D_L_append_0 11 rfl) rfl (by decide) rfl ?_
      refine z_iconst (pc := 16) (v := 2) C (zD D_L_append_0 12 rfl) (by decide) ?_
      exact z_wret (pc := 17) C hr (zD D_L_append_0 13 rfl)
    exact zX_none
def f_L_undo (n : Nat) (p0 : Nat) (p1 : Nat) (h : zH) : Option (Int32 × zH) := zrc h p0 5 <| (f_X5_undo n p0 h).bind fun (u : zO2) => zcs u (fun (r : Int32) (h1 : zH) => (zsl h1 p1 (0 : Int32) (Int32.toInt64 r)).bind fun (h7 : zH) => some ((0 : Int32), h7)) (fun (e : Nat) (h1 : zH) => if e = 2 then (some ((1 : Int32), h1)) else none)
theorem zn_L_undo : zNm yL_undo 2 := ⟨by decide +kernel, by decide +kernel⟩
set_option maxRecDepth 100000 in
set_option maxHeartbeats 4000000 in
theorem c_L_undo (l : Launch) (hl : l.stackTraces = false) (B : Nat) (D : va_G) (cA : Nat → ClassId) (n : Nat) (p0 : Nat) (p1 : Nat) (h : zH) : ∀ u, f_L_undo n p0 p1 h = some u → zMw l B D cA yL_undo cL_undo 3 (some .int) [(0, 8, 11, 25)] 7 [.ref (B + p0), .ref (B + p1)] h (some (.int u.1)) u.2 := by
  unfold f_L_undo
  refine z_metw (own := RL) rfl (by decide) rfl (fun Z C hr htab hlZ => ?_)
  have hlz : Z.1.2.1.stackTraces = false := by rw [hlZ]; exact hl
  refine z_aload_n (pc := 0) C (zD D_L_undo_0 0 rfl) rfl 1 rfl ?_
  refine z_iconst (pc := 1) (v := 0) C (zD D_L_undo_0 1 rfl) (by decide) ?_
  refine z_aload_n (pc := 2) C (zD D_L_undo_0 2 rfl) rfl 0 rfl ?_
  refine z_callX (pc := 3) (As := []) C [.int (0 : Int32), .ref (B + p1)] (c_X5_undo _ hlz _ _ _ n p0 h) zn_X5_undo (by decide) (by decide) zc5 rfl q_937 q_938 q_939 q_2 q_940 rfl rfl rfl (zD D_L_undo_0 3 rfl) (fun r h1 => ?_) (fun e h1 => ?_)
  · refine z_i2l (pc := 6) C (zD D_L_undo_0 4 rfl) ?_
    refine z_alstore (pc := 7) C (zD D_L_undo_0 5 rfl) (fun h7 => ?_)
    refine z_goto (pc := 8) C (zD D_L_undo_0 6 rfl) (tgt := 14) (by decide) ?_
    refine z_iconst (pc := 14) (v := 0) C (zD D_L_undo_0 10 rfl) (by decide) ?_
    exact z_wret (pc := 15) C hr (zD D_L_undo_0 11 rfl)
  · refine zX_ite (fun c0 => ?_) (fun c0 => ?_)
    · subst c0
      refine zX_catch (pc := 3) C htab [] ⟨0, 8, 11, 25⟩ [] rfl zPass_0 (by decide) rfl rfl (by decide) q_194 C.2.2.2.2.2.2.2.2.1.2.1.2.2.1 (fun q => ?_)
      refine z_astore_n (pc := 11) (lv' := [(2, .ref q), (0, .ref (B + p0)), (1, .ref (B + p1))]) C (zD D_L_undo_0 7 rfl) rfl (by decide) rfl ?_
      refine z_iconst (pc := 12) (v := 1) C (zD D_L_undo_0 8 rfl) (by decide) ?_
      exact z_wret (pc := 13) C hr (zD D_L_undo_0 9 rfl)
    exact zX_none
