def f_L_refused (n : Nat) (p0 : Nat) (h : zH) : Option (Int32 × zH) := zrc h p0 5 <| zb2 (f_X5_digest n p0 h) fun (r1 : Int64) (h1 : zH) => (f_L_values' n p0 (0 : Int32) h1).bind fun (r7 : Int32) => (f_L_values' n p0 (3 : Int32) h1).bind fun (r13 : Int32) => zlet (fun (s0_24 : Int32) => zb2 (f_L_begins n p0 (5 : Int32) h1) fun (r28 : Int32) (h28 : zH) => zlet (fun (s0_303 : Int32) (h303 : zH) => zlet (fun (a5_411 : Int32) (h411 : zH) => zlet (fun (h429 : zH) => some ((0 : Int32), h429)) fun K429 => if a5_411 = 0 then (K429 h411) else (zrc h411 p0 5 <| zb2 (f_X5_digest n p0 h411) fun (r417 : Int64) (h417 : zH) => if (lg_cmp r417 r1) = 0 then (some ((1 : Int32), h417)) else (K429 h417))) fun K411 => if s0_24 = 0 then (zlet (fun (s0_409 : Int32) (h409 : zH) => K411 s0_409 h409) fun K409 => zlet (fun (h408 : zH) => K409 (0 : Int32) h408) fun K408 => if s0_303 = 0 then (K408 h303) else (zb2 (f_L_passes n p0 h303) fun (r352 : Int32) (h352 : zH) => if r352 = (-5000002 : Int32) then (zb2 (f_L_buys n p0 (0 : Int32) h352) fun (r362 : Int32) (h362 : zH) => if r362 = (-5000002 : Int32) then (zb2 (f_L_sells n p0 (0 : Int32) (1 : Int32) h362) fun (r373 : Int32) (h373 : zH) => if r373 = (-5000002 : Int32) then (zb2 (f_L_starts n p0 (0 : Int32) (0 : Int32) (2 : Int32) h373) fun (r385 : Int32) (h385 : zH) => if r385 = (-5000002 : Int32) then (zb2 (f_L_merges n p0 (0 : Int32) (1 : Int32) h385) fun (r396 : Int32) (h396 : zH) => if r396 = (-5000002 : Int32) then (K409 (1 : Int32) h396) else (K408 h396)) else (K408 h385)) else (K408 h373)) else (K408 h362)) else (K408 h352))) else (zlet (fun (s0_341 : Int32) (h341 : zH) => K411 s0_341 h341) fun K341 => zlet (fun (h340 : zH) => K341 (0 : Int32) h340) fun K340 => if s0_303 = 0 then (K340 h303) else (zb2 (f_L_extendsOne n p0 h303) fun (r316 : Int32) (h316 : zH) => if r316 = (-5000002 : Int32) then (zb2 (f_L_operates n p0 (-1 : Int32) (-1 : Int32) (0 : Int32) h316) fun (r328 : Int32) (h328 : zH) => if r328 = (-5000002 : Int32) then (K341 (1 : Int32) h328) else (K340 h328)) else (K340 h316)))) fun K303 => zlet (fun (h302 : zH) => K303 (0 : Int32) h302) fun K302 => if r28 = (-5000001 : Int32) then (zb2 (f_L_setsTown n p0 (-1 : Int32) (0 : Int32) h28) fun (r39 : Int32) (h39 : zH) => if r39 = (-5000003 : Int32) then (zb2 (f_L_setsTown n p0 (0 : Int32) (91 : Int32) h39) fun (r51 : Int32) (h51 : zH) => if r51 = (-5000001 : Int32) then (zb2 (f_L_starts n p0 (0 : Int32) (8 : Int32) (2 : Int32) h51) fun (r64 : Int32) (h64 : zH) => if r64 = (-5000003 : Int32) then (zb2 (f_L_starts n p0 (0 : Int32) (0 : Int32) (1 : Int32) h64) fun (r76 : Int32) (h76 : zH) => if r76 = (-5000001 : Int32) then (zb2 (f_L_buys n p0 (4 : Int32) h76) fun (r86 : Int32) (h86 : zH) => if r86 = (-5000003 : Int32) then (zb2 (f_L_sells n p0 (4 : Int32) (1 : Int32) h86) fun (r97 : Int32) (h97 : zH) => if r97 = (-5000003 : Int32) then (zb2 (f_L_sells n p0 (0 : Int32) (0 : Int32) h97) fun (r108 : Int32) (h108 : zH) => if r108 = (-5000001 : Int32) then (zb2 (f_L_merges n p0 (4 : Int32) (0 : Int32) h108) fun (r119 : Int32) (h119 : zH) => if r119 = (-5000003 : Int32) then (zb2 (f_L_merges n p0 (2 : Int32) (2 : Int32) h119) fun (r130 : Int32) (h130 : zH) => if r130 = (-5000001 : Int32) then (zb2 (f_L_operates n p0 (0 : Int32) (-1 : Int32) (1 : Int32) h130) fun (r142 : Int32) (h142 : zH) => if r142 = (-5000003 : Int32) then (zb2 (f_L_operates n p0 (0 : Int32) (0 : Int32) (1 : Int32) h142) fun (r154 : Int32) (h154 : zH) => if r154 = (-5000001 : Int32) then (zb2 (f_L_players n p0 r7 (0 : Int32) h154) fun (r165 : Int32) (h165 : zH) => if r165 = (-5000003 : Int32) then (zb2 (f_L_players n p0 (0 : Int32) (7 : Int32) h165) fun (r177 : Int32) (h177 : zH) => if r177 = (-5000001 : Int32) then (zb2 (f_L_companies n p0 (-1 : Int32) (0 : Int32) h177) fun (r188 : Int32) (h188 : zH) => if r188 = (-5000003 : Int32) then (zb2 (f_L_companies n p0 (0 : Int32) (9 : Int32) h188) fun (r200 : Int32) (h200 : zH) => if r200 = (-5000001 : Int32) then (zb2 (f_L_tracks n p0 (8 : Int32) (0 : Int32) h200) fun (r212 : Int32) (h212 : zH) => if r212 = (-5000003 : Int32) then (zb2 (f_L_values n p0 (10 : Int32) h212) fun (r223 : Int32) (h223 : zH) => if r223 = (-5000001 : Int32) then (zb2 (f_L_towns n p0 (8 : Int32) h223) fun (r234 : Int32) (h234 : zH) => if r234 = (-5000003 : Int32) then (zb2 (f_L_routes n p0 (4 : Int32) (0 : Int32) h234) fun (r245 : Int32) (h245 : zH) => if r245 = (-5000003 : Int32) then (zb2 (f_L_withTrack n p0 (0 : Int32) (0 : Int32) (8 : Int32) h245) fun (r258 : Int32) (h258 : zH) => if r258 = (-5000003 : Int32) then (zb2 (f_L_withTrack n p0 (0 : Int32) (0 : Int32) (0 : Int32) h258) fun (r270 : Int32) (h270 : zH) => if r270 = (-5000001 : Int32) then (zb2 (f_L_bestOf n p0 (4 : Int32) h270) fun (r280 : Int32) (h280 : zH) => if r280 = (-5000003 : Int32) then (zb2 (f_L_dividends n p0 (-1 : Int32) h280) fun (r290 : Int32) (h290 : zH) => if r290 = (-5000003 : Int32) then (K303 (1 : Int32) h290) else (K302 h290)) else (K302 h280)) else (K302 h270)) else (K302 h258)) else (K302 h245)) else (K302 h234)) else (K302 h223)) else (K302 h212)) else (K302 h200)) else (K302 h188)) else (K302 h177)) else (K302 h165)) else (K302 h154)) else (K302 h142)) else (K302 h130)) else (K302 h119)) else (K302 h108)) else (K302 h97)) else (K302 h86)) else (K302 h76)) else (K302 h64)) else (K302 h51)) else (K302 h39)) else (K302 h28)) fun K24 => if r13 = 0 then (K24 (1 : Int32)) else (K24 (0 : Int32))
theorem zn_L_refused : zNm yL_refused 1 := ⟨by decide +kernel, by decide +kernel⟩
set_option maxRecDepth 100000 in
set_option maxHeartbeats 40000000 in
theorem c_L_refused (l : Launch) (hl : l.stackTraces = false) (B : Nat) (D : va_G) (cA : Nat → ClassId) (n : Nat) (p0 : Nat) (h : zH) : ∀ u, f_L_refused n p0 h = some u → zMC l B D cA yL_refused cL_refused 6 (some .boolean) 16 31 186 [.ref (B + p0)] h (some (.int u.1)) u.2 := by
  unfold f_L_refused
  refine z_metC (own := RL) (fun u : Int32 × zH => (some (Value.int u.1), u.2)) rfl (by decide) rfl (fun Z C hr hlZ => ?_)
  have hlz : Z.1.2.1.stackTraces = false := by rw [hlZ]; exact hl
  refine z_widen (z' := zg Z 0 0 0) z00_up ?_
  refine z_aload_n (pc := 0) C (zD D_L_refused_0 0 rfl) rfl 0 rfl ?_
  refine z_cvL (pc := 1) (As := []) C [] (c_X5_digest _ _ _ _ n p0 h) zn_X5_digest (by decide) (by decide) ⟨Nat.le_of_ble_eq_true rfl, Nat.le_of_ble_eq_true rfl⟩ zc5 rfl q_130 q_131 q_132 q_2 q_133 rfl rfl rfl (zD D_L_refused_0 1 rfl) (fun r1 h1 => ?_)
  refine z_lstore_n (pc := 4) (lv' := [(1, .long r1), (0, .ref (B + p0))]) C (zD D_L_refused_0 2 rfl) rfl (by decide) rfl ?_
  refine z_aload_n (pc := 5) C (zD D_L_refused_0 3 rfl) rfl 1 rfl ?_
  refine z_iconst (pc := 6) (v := 0) C (zD D_L_refused_0 4 rfl) (by decide) ?_
  refine z_sWR (pc := 7) (As := [.ref (B + p0), .int (0 : Int32)]) C [] (c_L_values' _ _ _ _ n p0 (0 : Int32) h1) zn_L_values (by decide) (by decide) ⟨Nat.le_of_ble_eq_true rfl, Nat.le_of_ble_eq_true rfl⟩ q_263 q_264 q_98 q_265 rfl rfl rfl (zD D_L_refused_0 5 rfl) (fun r7 => ?_)
  refine z_istore_n (pc := 10) (lv' := [(3, .int r7), (1, .long r1), (0, .ref (B + p0))]) C (zD D_L_refused_0 6 rfl) rfl (by decide) rfl ?_
  refine z_aload_n (pc := 11) C (zD D_L_refused_0 7 rfl) rfl 2 rfl ?_
  refine z_iconst (pc := 12) (v := 3) C (zD D_L_refused_0 8 rfl) (by decide) ?_
  refine z_sWR (pc := 13) (As := [.ref (B + p0), .int (3 : Int32)]) C [] (c_L_values' _ _ _ _ n p0 (3 : Int32) h1) zn_L_values (by decide) (by decide) ⟨Nat.le_of_ble_eq_true rfl, Nat.le_of_ble_eq_true rfl⟩ q_263 q_264 q_98 q_265 rfl rfl rfl (zD D_L_refused_0 9 rfl) (fun r13 => ?_)
  refine z_letg (fun K24 => ∀ (s0_24 : Int32), zJ B Z (zEndG B Z (fun u : Int32 × zH => (some (Value.int u.1), u.2)) 31 186) (K24 s0_24) 24 [(0, .ref (B + p0)), (1, .long r1), (3, .int r7)] [.int s0_24] h1 (zg Z 0 0 0)) (fun s0_24 => ?_) (fun K24 hK24 => ?_)
  · refine z_istore (pc := 24) (lv' := [(4, .int s0_24), (0, .ref (B + p0)), (1, .long r1), (3, .int r7)]) C (zD D_L_refused_0 14 rfl) (by decide) rfl ?_
    refine z_aload_n (pc := 26) C (zD D_L_refused_0 15 rfl) rfl 1 rfl ?_
    refine z_iconst (pc := 27) (v := 5) C (zD D_L_refused_0 16 rfl) (by decide) ?_
    refine z_sWI (pc := 28) (z' := (zg Z 0 0 1)) (As := [.ref (B + p0), .int (5 : Int32)]) C [] (fun u hu => zMW_of (c_L_begins _ hlz _ _ _ n p0 (5 : Int32) h1 u hu)) zn_L_begins (by decide) (by decide) ⟨Nat.le_of_ble_eq_true rfl, Nat.le_of_ble_eq_true rfl⟩ q_268 q_269 q_98 q_270 rfl rfl rfl (zD D_L_refused_0 17 rfl) (zg_up rfl rfl) (fun r28 h28 => ?_)
    refine z_ldc (pc := 31) (v := -5000001) C q_128 (zD D_L_refused_0 18 rfl) ?_
    refine z_letg (fun K303 => ∀ (s0_303 : Int32) (h303 : zH), zJ B Z (zEndG B Z (fun u : Int32 × zH => (some (Value.int u.1), u.2)) 31 186) (K303 s0_303 h303) 303 [(0, .ref (B + p0)), (1, .long r1), (4, .int s0_24)] [.int s0_303] h303 (zg Z 0 0 24)) (fun s0_303 h303 => ?_) (fun K303 hK303 => ?_)
    · refine z_istore (pc := 303) (lv' := [(5, .int s0_303), (0, .ref (B + p0)), (1, .long r1), (4, .int s0_24)]) C (zD D_L_refused_2 42 rfl) (by decide) rfl ?_
      refine z_iload (pc := 305) C (zD D_L_refused_2 43 rfl) 3 rfl ?_
      refine z_letg (fun K411 => ∀ (a5_411 : Int32) (h411 : zH), zJ B Z (zEndG B Z (fun u : Int32 × zH => (some (Value.int u.1), u.2)) 31 186) (K411 a5_411 h411) 411 [(0, .ref (B + p0)), (1, .long r1), (5, .int a5_411)] [] h411 (zg Z 0 0 31)) (fun a5_411 h411 => ?_) (fun K411 hK411 => ?_)
      · refine z_iload (pc := 411) C (zD D_L_refused_3 37 rfl) 2 rfl ?_
        refine z_letg (fun K429 => ∀ (h429 : zH), zJ B Z (zEndG B Z (fun u : Int32 × zH => (some (Value.int u.1), u.2)) 31 186) (K429 h429) 429 [] [] h429 (zg Z 0 0 31)) (fun h429 => ?_) (fun K429 hK429 => ?_)
        · refine z_iconst (pc := 429) (v := 0) C (zD D_L_refused_3 46 rfl) (by decide) ?_
          exact z_zretG (pc := 430) C hr (zg_end rfl rfl) (by decide) rfl (zD D_L_refused_3 47 rfl)
        refine z_if_eq (pc := 413) C (zD D_L_refused_3 38 rfl) (tgt := 429) (by decide) (fun _ => ?_) (fun _ => ?_)
        · refine z_sub [] (lv' := []) rfl ?_
          exact hK429 h411
        · refine z_aload_n (pc := 416) C (zD D_L_refused_3 39 rfl) rfl 0 rfl ?_
          refine z_cvL (pc := 417) (As := []) C [] (c_X5_digest _ _ _ _ n p0 h411) zn_X5_digest (by decide) (by decide) ⟨Nat.le_of_ble_eq_true rfl, Nat.le_of_ble_eq_true rfl⟩ zc5 rfl q_130 q_131 q_132 q_2 q_133 rfl rfl rfl (zD D_L_refused_3 40 rfl) (fun r417 h417 => ?_)
          refine z_lload_n (pc := 420) C (zD D_L_refused_3 41 rfl) rfl 1 rfl ?_
          refine z_lcmp (pc := 421) C (zD D_L_refused_3 42 rfl) ?_
          refine z_if_ne (pc := 422) C (zD D_L_refused_3 43 rfl) (tgt := 429) (by decide) (fun _ => ?_) (fun _ => ?_)
          · refine z_sub [] (lv' := []) rfl ?_
            exact hK429 h417
          · refine z_iconst (pc := 425) (v := 1) C (zD D_L_refused_3 44 rfl) (by decide) ?_
            refine z_goto (pc := 426) C (zD D_L_refused_3 45 rfl) (tgt := 430) (by decide) ?_
            exact z_zretG (pc := 430) C hr (zg_end rfl rfl) (by decide) rfl (zD D_L_refused_3 47 rfl)
      refine z_if_eq (pc := 307) C (zD D_L_refused_2 44 rfl) (tgt := 346) (by decide) (fun _ => ?_) (fun _ => ?_)
      · refine z_iload (pc := 346) C (zD D_L_refused_3 3 rfl) 0 rfl ?_
        refine z_letg (fun K409 => ∀ (s0_409 : Int32) (h409 : zH), zJ B Z (zEndG B Z (fun u : Int32 × zH => (some (Value.int u.1), u.2)) 31 186) (K409 s0_409 h409) 409 [(0, .ref (B + p0)), (1, .long r1)] [.int s0_409] h409 (zg Z 0 0 31)) (fun s0_409 h409 => ?_) (fun K409 hK409 => ?_)
        · refine z_istore (pc := 409) (lv' := [(5, .int s0_409), (0, .ref (B + p0)), (1, .long r1)]) C (zD D_L_refused_3 36 rfl) (by decide) rfl ?_
          refine z_sub [1, 2, 0] (lv' := [(0, .ref (B + p0)), (1, .long r1), (5, .int s0_409)]) rfl ?_
          exact hK411 s0_409 h409
        refine z_letg (fun K408 => ∀ (h408 : zH), zJ B Z (zEndG B Z (fun u : Int32 × zH => (some (Value.int u.1), u.2)) 31 186) (K408 h408) 408 [(0, .ref (B + p0)), (1, .long r1)] [] h408 (zg Z 0 0 31)) (fun h408 => ?_) (fun K408 hK408 => ?_)
        · refine z_iconst (pc := 408) (v := 0) C (zD D_L_refused_3 35 rfl) (by decide) ?_
          exact hK409 (0 : Int32) h408
        refine z_if_eq (pc := 348) C (zD D_L_refused_3 4 rfl) (tgt := 408) (by decide) (fun _ => ?_) (fun _ => ?_)
        · refine z_sub [1, 2] (lv' := [(0, .ref (B + p0)), (1, .long r1)]) rfl ?_
          refine z_widen (z' := (zg Z 0 0 31)) (zg_up rfl rfl) ?_
          exact hK408 h303
        · refine z_aload_n (pc := 351) C (zD D_L_refused_3 5 rfl) rfl 1 rfl ?_
          refine z_sWI (pc := 352) (z' := (zg Z 0 0 25)) (As := [.ref (B + p0)]) C [] (fun u hu => zMW_of (c_L_passes _ hlz _ _ _ n p0 h303 u hu)) zn_L_passes (by decide) (by decide) ⟨Nat.le_of_ble_eq_true rfl, Nat.le_of_ble_eq_true rfl⟩ q_520 q_521 q_98 q_522 rfl rfl rfl (zD D_L_refused_3 6 rfl) (zg_up rfl rfl) (fun r352 h352 => ?_)
          refine z_ldc (pc := 355) (v := -5000002) C q_3 (zD D_L_refused_3 7 rfl) ?_
          refine z_icmp_ne (pc := 357) C (zD D_L_refused_3 8 rfl) (tgt := 408) (by decide) (fun _ => ?_) (fun _ => ?_)
          · refine z_sub [1, 2] (lv' := [(0, .ref (B + p0)), (1, .long r1)]) rfl ?_
            refine z_widen (z' := (zg Z 0 0 31)) (zg_up rfl rfl) ?_
            exact hK408 h352
          · refine z_aload_n (pc := 360) C (zD D_L_refused_3 9 rfl) rfl 1 rfl ?_
            refine z_iconst (pc := 361) (v := 0) C (zD D_L_refused_3 10 rfl) (by decide) ?_
            refine z_sWI (pc := 362) (z' := (zg Z 0 0 26)) (As := [.ref (B + p0), .int (0 : Int32)]) C [] (fun u hu => zMW_of (c_L_buys _ hlz _ _ _ n p0 (0 : Int32) h352 u hu)) zn_L_buys (by decide) (by decide) ⟨Nat.le_of_ble_eq_true rfl, Nat.le_of_ble_eq_true rfl⟩ q_327 q_328 q_98 q_329 rfl rfl rfl (zD D_L_refused_3 11 rfl) (zg_up rfl rfl) (fun r362 h362 => ?_)
            refine z_ldc (pc := 365) (v := -5000002) C q_3 (zD D_L_refused_3 12 rfl) ?_
            refine z_icmp_ne (pc := 367) C (zD D_L_refused_3 13 rfl) (tgt := 408) (by decide) (fun _ => ?_) (fun _ => ?_)
            · refine z_sub [1, 2] (lv' := [(0, .ref (B + p0)), (1, .long r1)]) rfl ?_
              refine z_widen (z' := (zg Z 0 0 31)) (zg_up rfl rfl) ?_
              exact hK408 h362
            · refine z_aload_n (pc := 370) C (zD D_L_refused_3 14 rfl) rfl 1 rfl ?_
              refine z_iconst (pc := 371) (v := 0) C (zD D_L_refused_3 15 rfl) (by decide) ?_
              refine z_iconst (pc := 372) (v := 1) C (zD D_L_refused_3 16 rfl) (by decide) ?_
              refine z_sWI (pc := 373) (z' := (zg Z 0 0 27)) (As := [.ref (B + p0), .int (0 : Int32), .int (1 : Int32)]) C [] (fun u hu => zMW_of (c_L_sells _ hlz _ _ _ n p0 (0 : Int32) (1 : Int32) h362 u hu)) zn_L_sells (by decide) (by decide) ⟨Nat.le_of_ble_eq_true rfl, Nat.le_of_ble_eq_true rfl⟩ q_343 q_344 q_98 q_345 rfl rfl rfl (zD D_L_refused_3 17 rfl) (zg_up rfl rfl) (fun r373 h373 => ?_)
              refine z_ldc (pc := 376) (v := -5000002) C q_3 (zD D_L_refused_3 18 rfl) ?_
              refine z_icmp_ne (pc := 378) C (zD D_L_refused_3 19 rfl) (tgt := 408) (by decide) (fun _ => ?_) (fun _ => ?_)
              · refine z_sub [1, 2] (lv' := [(0, .ref (B + p0)), (1, .long r1)]) rfl ?_
                refine z_widen (z' := (zg Z 0 0 31)) (zg_up rfl rfl) ?_
                exact hK408 h373
              · refine z_aload_n (pc := 381) C (zD D_L_refused_3 20 rfl) rfl 1 rfl ?_
                refine z_iconst (pc := 382) (v := 0) C (zD D_L_refused_3 21 rfl) (by decide) ?_
                refine z_iconst (pc := 383) (v := 0) C (zD D_L_refused_3 22 rfl) (by decide) ?_
                refine z_iconst (pc := 384) (v := 2) C (zD D_L_refused_3 23 rfl) (by decide) ?_
                refine z_sWI (pc := 385) (z' := (zg Z 0 0 28)) (As := [.ref (B + p0), .int (0 : Int32), .int (0 : Int32), .int (2 : Int32)]) C [] (fun u hu => zMW_of (c_L_starts _ hlz _ _ _ n p0 (0 : Int32) (0 : Int32) (2 : Int32) h373 u hu)) zn_L_starts (by decide) (by decide) ⟨Nat.le_of_ble_eq_true rfl, Nat.le_of_ble_eq_true rfl⟩ q_289 q_290 q_98 q_291 rfl rfl rfl (zD D_L_refused_3 24 rfl) (zg_up rfl rfl) (fun r385 h385 => ?_)
                refine z_ldc (pc := 388) (v := -5000002) C q_3 (zD D_L_refused_3 25 rfl) ?_
                refine z_icmp_ne (pc := 390) C (zD D_L_refused_3 26 rfl) (tgt := 408) (by decide) (fun _ => ?_) (fun _ => ?_)
                · refine z_sub [1, 2] (lv' := [(0, .ref (B + p0)), (1, .long r1)]) rfl ?_
                  refine z_widen (z' := (zg Z 0 0 31)) (zg_up rfl rfl) ?_
                  exact hK408 h385
                · refine z_aload_n (pc := 393) C (zD D_L_refused_3 27 rfl) rfl 1 rfl ?_
                  refine z_iconst (pc := 394) (v := 0) C (zD D_L_refused_3 28 rfl) (by decide) ?_
                  refine z_iconst (pc := 395) (v := 1) C (zD D_L_refused_3 29 rfl) (by decide) ?_
                  refine z_sWI (pc := 396) (z' := (zg Z 0 0 29)) (As := [.ref (B + p0), .int (0 : Int32), .int (1 : Int32)]) C [] (fun u hu => zMW_of (c_L_merges _ hlz _ _ _ n p0 (0 : Int32) (1 : Int32) h385 u hu)) zn_L_merges (by decide) (by decide) ⟨Nat.le_of_ble_eq_true rfl, Nat.le_of_ble_eq_true rfl⟩ q_364 q_365 q_98 q_366 rfl rfl rfl (zD D_L_refused_3 30 rfl) (zg_up rfl rfl) (fun r396 h396 => ?_)
                  refine z_ldc (pc := 399) (v := -5000002) C q_3 (zD D_L_refused_3 31 rfl) ?_
                  refine z_icmp_ne (pc := 401) C (zD D_L_refused_3 32 rfl) (tgt := 408) (by decide) (fun _ => ?_) (fun _ => ?_)
                  · refine z_sub [1, 2] (lv' := [(0, .ref (B + p0)), (1, .long r1)]) rfl ?_
                    refine z_widen (z' := (zg Z 0 0 31)) (zg_up rfl rfl) ?_
                    exact hK408 h396
                  · refine z_iconst (pc := 404) (v := 1) C (zD D_L_refused_3 33 rfl) (by decide) ?_
                    refine z_goto (pc := 405) C (zD D_L_refused_3 34 rfl) (tgt := 409) (by decide) ?_
                    refine z_sub [1, 2] (lv' := [(0, .ref (B + p0)), (1, .long r1)]) rfl ?_
                    refine z_widen (z' := (zg Z 0 0 31)) (zg_up rfl rfl) ?_
                    exact hK409 (1 : Int32) h396
      · refine z_iload (pc := 310) C (zD D_L_refused_2 45 rfl) 0 rfl ?_
        refine z_letg (fun K341 => ∀ (s0_341 : Int32) (h341 : zH), zJ B Z (zEndG B Z (fun u : Int32 × zH => (some (Value.int u.1), u.2)) 31 186) (K341 s0_341 h341) 341 [(0, .ref (B + p0)), (1, .long r1)] [.int s0_341] h341 (zg Z 0 0 26)) (fun s0_341 h341 => ?_) (fun K341 hK341 => ?_)
        · refine z_istore (pc := 341) (lv' := [(5, .int s0_341), (0, .ref (B + p0)), (1, .long r1)]) C (zD D_L_refused_3 1 rfl) (by decide) rfl ?_
          refine z_goto (pc := 343) C (zD D_L_refused_3 2 rfl) (tgt := 411) (by decide) ?_
          refine z_sub [1, 2, 0] (lv' := [(0, .ref (B + p0)), (1, .long r1), (5, .int s0_341)]) rfl ?_
          refine z_widen (z' := (zg Z 0 0 31)) (zg_up rfl rfl) ?_
          exact hK411 s0_341 h341
        refine z_letg (fun K340 => ∀ (h340 : zH), zJ B Z (zEndG B Z (fun u : Int32 × zH => (some (Value.int u.1), u.2)) 31 186) (K340 h340) 340 [(0, .ref (B + p0)), (1, .long r1)] [] h340 (zg Z 0 0 26)) (fun h340 => ?_) (fun K340 hK340 => ?_)
        · refine z_iconst (pc := 340) (v := 0) C (zD D_L_refused_3 0 rfl) (by decide) ?_
          exact hK341 (0 : Int32) h340
        refine z_if_eq (pc := 312) C (zD D_L_refused_2 46 rfl) (tgt := 340) (by decide) (fun _ => ?_) (fun _ => ?_)
        · refine z_sub [1, 2] (lv' := [(0, .ref (B + p0)), (1, .long r1)]) rfl ?_
          refine z_widen (z' := (zg Z 0 0 26)) (zg_up rfl rfl) ?_
          exact hK340 h303
        · refine z_aload_n (pc := 315) C (zD D_L_refused_2 47 rfl) rfl 1 rfl ?_
          refine z_sWI (pc := 316) (z' := (zg Z 0 0 25)) (As := [.ref (B + p0)]) C [] (fun u hu => zMW_of (c_L_extendsOne _ hlz _ _ _ n p0 h303 u hu)) zn_L_extendsOne (by decide) (by decide) ⟨Nat.le_of_ble_eq_true rfl, Nat.le_of_ble_eq_true rfl⟩ q_505 q_506 q_98 q_507 rfl rfl rfl (zD D_L_refused_2 48 rfl) (zg_up rfl rfl) (fun r316 h316 => ?_)
          refine z_ldc (pc := 319) (v := -5000002) C q_3 (zD D_L_refused_2 49 rfl) ?_
          refine z_icmp_ne (pc := 321) C (zD D_L_refused_2 50 rfl) (tgt := 340) (by decide) (fun _ => ?_) (fun _ => ?_)
          · refine z_sub [1, 2] (lv' := [(0, .ref (B + p0)), (1, .long r1)]) rfl ?_
            refine z_widen (z' := (zg Z 0 0 26)) (zg_up rfl rfl) ?_
            exact hK340 h316
          · refine z_aload_n (pc := 324) C (zD D_L_refused_2 51 rfl) rfl 1 rfl ?_
            refine z_iconst (pc := 325) (v := -1) C (zD D_L_refused_2 52 rfl) (by decide) ?_
            refine z_iconst (pc := 326) (v := -1) C (zD D_L_refused_2 53 rfl) (by decide) ?_
            refine z_iconst (pc := 327) (v := 0) C (zD D_L_refused_2 54 rfl) (by decide) ?_
            refine z_sWI (pc := 328) (z' := (zg Z 0 0 26)) (As := [.ref (B + p0), .int (-1 : Int32), .int (-1 : Int32), .int (0 : Int32)]) C [] (fun u hu => zMW_of (c_L_operates _ hlz _ _ _ n p0 (-1 : Int32) (-1 : Int32) (0 : Int32) h316 u hu)) zn_L_operates (by decide) (by decide) ⟨Nat.le_of_ble_eq_true rfl, Nat.le_of_ble_eq_true rfl⟩ q_383 q_384 q_98 q_385 rfl rfl rfl (zD D_L_refused_2 55 rfl) (zg_up rfl rfl) (fun r328 h328 => ?_)
            refine z_ldc (pc := 331) (v := -5000002) C q_3 (zD D_L_refused_2 56 rfl) ?_
            refine z_icmp_ne (pc := 333) C (zD D_L_refused_2 57 rfl) (tgt := 340) (by decide) (fun _ => ?_) (fun _ => ?_)
            · refine z_sub [1, 2] (lv' := [(0, .ref (B + p0)), (1, .long r1)]) rfl ?_
              exact hK340 h328
            · refine z_iconst (pc := 336) (v := 1) C (zD D_L_refused_2 58 rfl) (by decide) ?_
              refine z_goto (pc := 337) C (zD D_L_refused_2 59 rfl) (tgt := 341) (by decide) ?_
              refine z_sub [1, 2] (lv' := [(0, .ref (B + p0)), (1, .long r1)]) rfl ?_
              exact hK341 (1 : Int32) h328
    refine z_letg (fun K302 => ∀ (h302 : zH), zJ B Z (zEndG B Z (fun u : Int32 × zH => (some (Value.int u.1), u.2)) 31 186) (K302 h302) 302 [(0, .ref (B + p0)), (1, .long r1), (4, .int s0_24)] [] h302 (zg Z 0 0 24)) (fun h302 => ?_) (fun K302 hK302 => ?_)
    · refine z_iconst (pc := 302) (v := 0) C (zD D_L_refused_2 41 rfl) (by decide) ?_
      exact hK303 (0 : Int32) h302
    refine z_icmp_ne (pc := 33) C (zD D_L_refused_0 19 rfl) (tgt := 302) (by decide) (fun _ => ?_) (fun _ => ?_)
    · refine z_sub [1, 2, 0] (lv' := [(0, .ref (B + p0)), (1, .long r1), (4, .int s0_24)]) rfl ?_
      refine z_widen (z' := (zg Z 0 0 24)) (zg_up rfl rfl) ?_
      exact hK302 h28
    · refine z_aload_n (pc := 36) C (zD D_L_refused_0 20 rfl) rfl 1 rfl ?_
      refine z_iconst (pc := 37) (v := -1) C (zD D_L_refused_0 21 rfl) (by decide) ?_
      refine z_iconst (pc := 38) (v := 0) C (zD D_L_refused_0 22 rfl) (by decide) ?_
      refine z_sWI (pc := 39) (z' := (zg Z 0 0 2)) (As := [.ref (B + p0), .int (-1 : Int32), .int (0 : Int32)]) C [] (fun u hu => zMW_of (c_L_setsTown _ hlz _ _ _ n p0 (-1 : Int32) (0 : Int32) h28 u hu)) zn_L_setsTown (by decide) (by decide) ⟨Nat.le_of_ble_eq_true rfl, Nat.le_of_ble_eq_true rfl⟩ q_281 q_282 q_98 q_283 rfl rfl rfl (zD D_L_refused_0 23 rfl) (zg_up rfl rfl) (fun r39 h39 => ?_)
      refine z_ldc (pc := 42) (v := -5000003) C q_129 (zD D_L_refused_0 24 rfl) ?_
      refine z_icmp_ne (pc := 44) C (zD D_L_refused_0 25 rfl) (tgt := 302) (by decide) (fun _ => ?_) (fun _ => ?_)
      · refine z_sub [1, 2, 0] (lv' := [(0, .ref (B + p0)), (1, .long r1), (4, .int s0_24)]) rfl ?_
        refine z_widen (z' := (zg Z 0 0 24)) (zg_up rfl rfl) ?_
        exact hK302 h39
      · refine z_aload_n (pc := 47) C (zD D_L_refused_0 26 rfl) rfl 1 rfl ?_
        refine z_iconst (pc := 48) (v := 0) C (zD D_L_refused_0 27 rfl) (by decide) ?_
        refine z_bipush (pc := 49) (v := 91) C (zD D_L_refused_0 28 rfl) (by decide) ?_
        refine z_sWI (pc := 51) (z' := (zg Z 0 0 3)) (As := [.ref (B + p0), .int (0 : Int32), .int (91 : Int32)]) C [] (fun u hu => zMW_of (c_L_setsTown _ hlz _ _ _ n p0 (0 : Int32) (91 : Int32) h39 u hu)) zn_L_setsTown (by decide) (by decide) ⟨Nat.le_of_ble_eq_true rfl, Nat.le_of_ble_eq_true rfl⟩ q_281 q_282 q_98 q_283 rfl rfl rfl (zD D_L_refused_0 29 rfl) (zg_up rfl rfl) (fun r51 h51 => ?_)
        refine z_ldc (pc := 54) (v := -5000001) C q_128 (zD D_L_refused_0 30 rfl) ?_
        refine z_icmp_ne (pc := 56) C (zD D_L_refused_0 31 rfl) (tgt := 302) (by decide) (fun _ => ?_) (fun _ => ?_)
        · refine z_sub [1, 2, 0] (lv' := [(0, .ref (B + p0)), (1, .long r1), (4, .int s0_24)]) rfl ?_
          refine z_widen (z' := (zg Z 0 0 24)) (zg_up rfl rfl) ?_
          exact hK302 h51
        · refine z_aload_n (pc := 59) C (zD D_L_refused_0 32 rfl) rfl 1 rfl ?_
          refine z_iconst (pc := 60) (v := 0) C (zD D_L_refused_0 33 rfl) (by decide) ?_
          refine z_bipush (pc := 61) (v := 8) C (zD D_L_refused_0 34 rfl) (by decide) ?_
          refine z_iconst (pc := 63) (v := 2) C (zD D_L_refused_0 35 rfl) (by decide) ?_
          refine z_sWI (pc := 64) (z' := (zg Z 0 0 4)) (As := [.ref (B + p0), .int (0 : Int32), .int (8 : Int32), .int (2 : Int32)]) C [] (fun u hu => zMW_of (c_L_starts _ hlz _ _ _ n p0 (0 : Int32) (8 : Int32) (2 : Int32) h51 u hu)) zn_L_starts (by decide) (by decide) ⟨Nat.le_of_ble_eq_true rfl, Nat.le_of_ble_eq_true rfl⟩ q_289 q_290 q_98 q_291 rfl rfl rfl (zD D_L_refused_0 36 rfl) (zg_up rfl rfl) (fun r64 h64 => ?_)
          refine z_ldc (pc := 67) (v := -5000003) C q_129 (zD D_L_refused_0 37 rfl) ?_
          refine z_icmp_ne (pc := 69) C (zD D_L_refused_0 38 rfl) (tgt := 302) (by decide) (fun _ => ?_) (fun _ => ?_)
          · refine z_sub [1, 2, 0] (lv' := [(0, .ref (B + p0)), (1, .long r1), (4, .int s0_24)]) rfl ?_
            refine z_widen (z' := (zg Z 0 0 24)) (zg_up rfl rfl) ?_
            exact hK302 h64
          · refine z_aload_n (pc := 72) C (zD D_L_refused_0 39 rfl) rfl 1 rfl ?_
            refine z_iconst (pc := 73) (v := 0) C (zD D_L_refused_0 40 rfl) (by decide) ?_
            refine z_iconst (pc := 74) (v := 0) C (zD D_L_refused_0 41 rfl) (by decide) ?_
            refine z_iconst (pc := 75) (v := 1) C (zD D_L_refused_0 42 rfl) (by decide) ?_
            refine z_sWI (pc := 76) (z' := (zg Z 0 0 5)) (As := [.ref (B + p0), .int (0 : Int32), .int (0 : Int32), .int (1 : Int32)]) C [] (fun u hu => zMW_of (c_L_starts _ hlz _ _ _ n p0 (0 : Int32) (0 : Int32) (1 : Int32) h64 u hu)) zn_L_starts (by decide) (by decide) ⟨Nat.le_of_ble_eq_true rfl, Nat.le_of_ble_eq_true rfl⟩ q_289 q_290 q_98 q_291 rfl rfl rfl (zD D_L_refused_0 43 rfl) (zg_up rfl rfl) (fun r76 h76 => ?_)
            refine z_ldc (pc := 79) (v := -5000001) C q_128 (zD D_L_refused_0 44 rfl) ?_
            refine z_icmp_ne (pc := 81) C (zD D_L_refused_0 45 rfl) (tgt := 302) (by decide) (fun _ => ?_) (fun _ => ?_)
            · refine z_sub [1, 2, 0] (lv' := [(0, .ref (B + p0)), (1, .long r1), (4, .int s0_24)]) rfl ?_
              refine z_widen (z' := (zg Z 0 0 24)) (zg_up rfl rfl) ?_
              exact hK302 h76
            · refine z_aload_n (pc := 84) C (zD D_L_refused_0 46 rfl) rfl 1 rfl ?_
              refine z_iconst (pc := 85) (v := 4) C (zD D_L_refused_0 47 rfl) (by decide) ?_
              refine z_sWI (pc := 86) (z' := (zg Z 0 0 6)) (As := [.ref (B + p0), .int (4 : Int32)]) C [] (fun u hu => zMW_of (c_L_buys _ hlz _ _ _ n p0 (4 : Int32) h76 u hu)) zn_L_buys (by decide) (by decide) ⟨Nat.le_of_ble_eq_true rfl, Nat.le_of_ble_eq_true rfl⟩ q_327 q_328 q_98 q_329 rfl rfl rfl (zD D_L_refused_0 48 rfl) (zg_up rfl rfl) (fun r86 h86 => ?_)
              refine z_ldc (pc := 89) (v := -5000003) C q_129 (zD D_L_refused_0 49 rfl) ?_
              refine z_icmp_ne (pc := 91) C (zD D_L_refused_0 50 rfl) (tgt := 302) (by decide) (fun _ => ?_) (fun _ => ?_)
              · refine z_sub [1, 2, 0] (lv' := [(0, .ref (B + p0)), (1, .long r1), (4, .int s0_24)]) rfl ?_
                refine z_widen (z' := (zg Z 0 0 24)) (zg_up rfl rfl) ?_
                exact hK302 h86
              · refine z_aload_n (pc := 94) C (zD D_L_refused_0 51 rfl) rfl 1 rfl ?_
                refine z_iconst (pc := 95) (v := 4) C (zD D_L_refused_0 52 rfl) (by decide) ?_
                refine z_iconst (pc := 96) (v := 1) C (zD D_L_refused_0 53 rfl) (by decide) ?_
                refine z_sWI (pc := 97) (z' := (zg Z 0 0 7)) (As := [.ref (B + p0), .int (4 : Int32), .int (1 : Int32)]) C [] (fun u hu => zMW_of (c_L_sells _ hlz _ _ _ n p0 (4 : Int32) (1 : Int32) h86 u hu)) zn_L_sells (by decide) (by decide) ⟨Nat.le_of_ble_eq_true rfl, Nat.le_of_ble_eq_true rfl⟩ q_343 q_344 q_98 q_345 rfl rfl rfl (zD D_L_refused_0 54 rfl) (zg_up rfl rfl) (fun r97 h97 => ?_)
                refine z_ldc (pc := 100) (v := -5000003) C q_129 (zD D_L_refused_0 55 rfl) ?_
                refine z_icmp_ne (pc := 102) C (zD D_L_refused_0 56 rfl) (tgt := 302) (by decide) (fun _ => ?_) (fun _ => ?_)
                · refine z_sub [1, 2, 0] (lv' := [(0, .ref (B + p0)), (1, .long r1), (4, .int s0_24)]) rfl ?_
                  refine z_widen (z' := (zg Z 0 0 24)) (zg_up rfl rfl) ?_
                  exact hK302 h97
                · refine z_aload_n (pc := 105) C (zD D_L_refused_0 57 rfl) rfl 1 rfl ?_
                  refine z_iconst (pc := 106) (v := 0) C (zD D_L_refused_0 58 rfl) (by decide) ?_
                  refine z_iconst (pc := 107) (v := 0) C (zD D_L_refused_0 59 rfl) (by decide) ?_
                  refine z_sWI (pc := 108) (z' := (zg Z 0 0 8)) (As := [.ref (B + p0), .int (0 : Int32), .int (0 : Int32)]) C [] (fun u hu => zMW_of (c_L_sells _ hlz _ _ _ n p0 (0 : Int32) (0 : Int32) h97 u hu)) zn_L_sells (by decide) (by decide) ⟨Nat.le_of_ble_eq_true rfl, Nat.le_of_ble_eq_true rfl⟩ q_343 q_344 q_98 q_345 rfl rfl rfl (zD D_L_refused_1 0 rfl) (zg_up rfl rfl) (fun r108 h108 => ?_)
                  refine z_ldc (pc := 111) (v := -5000001) C q_128 (zD D_L_refused_1 1 rfl) ?_
                  refine z_icmp_ne (pc := 113) C (zD D_L_refused_1 2 rfl) (tgt := 302) (by decide) (fun _ => ?_) (fun _ => ?_)
                  · refine z_sub [1, 2, 0] (lv' := [(0, .ref (B + p0)), (1, .long r1), (4, .int s0_24)]) rfl ?_
                    refine z_widen (z' := (zg Z 0 0 24)) (zg_up rfl rfl) ?_
                    exact hK302 h108
                  · refine z_aload_n (pc := 116) C (zD D_L_refused_1 3 rfl) rfl 1 rfl ?_
                    refine z_iconst (pc := 117) (v := 4) C (zD D_L_refused_1 4 rfl) (by decide) ?_
                    refine z_iconst (pc := 118) (v := 0) C (zD D_L_refused_1 5 rfl) (by decide) ?_
                    refine z_sWI (pc := 119) (z' := (zg Z 0 0 9)) (As := [.ref (B + p0), .int (4 : Int32), .int (0 : Int32)]) C [] (fun u hu => zMW_of (c_L_merges _ hlz _ _ _ n p0 (4 : Int32) (0 : Int32) h108 u hu)) zn_L_merges (by decide) (by decide) ⟨Nat.le_of_ble_eq_true rfl, Nat.le_of_ble_eq_true rfl⟩ q_364 q_365 q_98 q_366 rfl rfl rfl (zD D_L_refused_1 6 rfl) (zg_up rfl rfl) (fun r119 h119 => ?_)
                    refine z_ldc (pc := 122) (v := -5000003) C q_129 (zD D_L_refused_1 7 rfl) ?_
                    refine z_icmp_ne (pc := 124) C (zD D_L_refused_1 8 rfl) (tgt := 302) (by decide) (fun _ => ?_) (fun _ => ?_)
                    · refine z_sub [1, 2, 0] (lv' := [(0, .ref (B + p0)), (1, .long r1), (4, .int s0_24)]) rfl ?_
                      refine z_widen (z' := (zg Z 0 0 24)) (zg_up rfl rfl) ?_
                      exact hK302 h119
                    · refine z_aload_n (pc := 127) C (zD D_L_refused_1 9 rfl) rfl 1 rfl ?_
                      refine z_iconst (pc := 128) (v := 2) C (zD D_L_refused_1 10 rfl) (by decide) ?_
                      refine z_iconst (pc := 129) (v := 2) C (zD D_L_refused_1 11 rfl) (by decide) ?_
                      refine z_sWI (pc := 130) (z' := (zg Z 0 0 10)) (As := [.ref (B + p0), .int (2 : Int32), .int (2 : Int32)]) C [] (fun u hu => zMW_of (c_L_merges _ hlz _ _ _ n p0 (2 : Int32) (2 : Int32) h119 u hu)) zn_L_merges (by decide) (by decide) ⟨Nat.le_of_ble_eq_true rfl, Nat.le_of_ble_eq_true rfl⟩ q_364 q_365 q_98 q_366 rfl rfl rfl (zD D_L_refused_1 12 rfl) (zg_up rfl rfl) (fun r130 h130 => ?_)
                      refine z_ldc (pc := 133) (v := -5000001) C q_128 (zD D_L_refused_1 13 rfl) ?_
                      refine z_icmp_ne (pc := 135) C (zD D_L_refused_1 14 rfl) (tgt := 302) (by decide) (fun _ => ?_) (fun _ => ?_)
                      · refine z_sub [1, 2, 0] (lv' := [(0, .ref (B + p0)), (1, .long r1), (4, .int s0_24)]) rfl ?_
                        refine z_widen (z' := (zg Z 0 0 24)) (zg_up rfl rfl) ?_
                        exact hK302 h130
                      · refine z_aload_n (pc := 138) C (zD D_L_refused_1 15 rfl) rfl 1 rfl ?_
                        refine z_iconst (pc := 139) (v := 0) C (zD D_L_refused_1 16 rfl) (by decide) ?_
                        refine z_iconst (pc := 140) (v := -1) C (zD D_L_refused_1 17 rfl) (by decide) ?_
                        refine z_iconst (pc := 141) (v := 1) C (zD D_L_refused_1 18 rfl) (by decide) ?_
                        refine z_sWI (pc := 142) (z' := (zg Z 0 0 11)) (As := [.ref (B + p0), .int (0 : Int32), .int (-1 : Int32), .int (1 : Int32)]) C [] (fun u hu => zMW_of (c_L_operates _ hlz _ _ _ n p0 (0 : Int32) (-1 : Int32) (1 : Int32) h130 u hu)) zn_L_operates (by decide) (by decide) ⟨Nat.le_of_ble_eq_true rfl, Nat.le_of_ble_eq_true rfl⟩ q_383 q_384 q_98 q_385 rfl rfl rfl (zD D_L_refused_1 19 rfl) (zg_up rfl rfl) (fun r142 h142 => ?_)
                        refine z_ldc (pc := 145) (v := -5000003) C q_129 (zD D_L_refused_1 20 rfl) ?_
                        refine z_icmp_ne (pc := 147) C (zD D_L_refused_1 21 rfl) (tgt := 302) (by decide) (fun _ => ?_) (fun _ => ?_)
                        · refine z_sub [1, 2, 0] (lv' := [(0, .ref (B + p0)), (1, .long r1), (4, .int s0_24)]) rfl ?_
                          refine z_widen (z' := (zg Z 0 0 24)) (zg_up rfl rfl) ?_
                          exact hK302 h142
                        · refine z_aload_n (pc := 150) C (zD D_L_refused_1 22 rfl) rfl 1 rfl ?_
                          refine z_iconst (pc := 151) (v := 0) C (zD D_L_refused_1 23 rfl) (by decide) ?_
                          refine z_iconst (pc := 152) (v := 0) C (zD D_L_refused_1 24 rfl) (by decide) ?_
                          refine z_iconst (pc := 153) (v := 1) C (zD D_L_refused_1 25 rfl) (by decide) ?_
                          refine z_sWI (pc := 154) (z' := (zg Z 0 0 12)) (As := [.ref (B + p0), .int (0 : Int32), .int (0 : Int32), .int (1 : Int32)]) C [] (fun u hu => zMW_of (c_L_operates _ hlz _ _ _ n p0 (0 : Int32) (0 : Int32) (1 : Int32) h142 u hu)) zn_L_operates (by decide) (by decide) ⟨Nat.le_of_ble_eq_true rfl, Nat.le_of_ble_eq_true rfl⟩ q_383 q_384 q_98 q_385 rfl rfl rfl (zD D_L_refused_1 26 rfl) (zg_up rfl rfl) (fun r154 h154 => ?_)
                          refine z_ldc (pc := 157) (v := -5000001) C q_128 (zD D_L_refused_1 27 rfl) ?_
                          refine z_icmp_ne (pc := 159) C (zD D_L_refused_1 28 rfl) (tgt := 302) (by decide) (fun _ => ?_) (fun _ => ?_)
                          · refine z_sub [1, 2, 0] (lv' := [(0, .ref (B + p0)), (1, .long r1), (4, .int s0_24)]) rfl ?_
                            refine z_widen (z' := (zg Z 0 0 24)) (zg_up rfl rfl) ?_
                            exact hK302 h154
                          · refine z_aload_n (pc := 162) C (zD D_L_refused_1 29 rfl) rfl 1 rfl ?_
                            refine z_iload_n (pc := 163) C (zD D_L_refused_1 30 rfl) rfl 3 rfl ?_
                            refine z_iconst (pc := 164) (v := 0) C (zD D_L_refused_1 31 rfl) (by decide) ?_
                            refine z_sWI (pc := 165) (z' := (zg Z 0 0 13)) (As := [.ref (B + p0), .int r7, .int (0 : Int32)]) C [] (fun u hu => zMW_of (c_L_players _ hlz _ _ _ n p0 r7 (0 : Int32) h154 u hu)) zn_L_players (by decide) (by decide) ⟨Nat.le_of_ble_eq_true rfl, Nat.le_of_ble_eq_true rfl⟩ q_444 q_445 q_98 q_446 rfl rfl rfl (zD D_L_refused_1 32 rfl) (zg_up rfl rfl) (fun r165 h165 => ?_)
                            refine z_ldc (pc := 168) (v := -5000003) C q_129 (zD D_L_refused_1 33 rfl) ?_
                            refine z_icmp_ne (pc := 170) C (zD D_L_refused_1 34 rfl) (tgt := 302) (by decide) (fun _ => ?_) (fun _ => ?_)
                            · refine z_sub [1, 2, 0] (lv' := [(0, .ref (B + p0)), (1, .long r1), (4, .int s0_24)]) rfl ?_
                              refine z_widen (z' := (zg Z 0 0 24)) (zg_up rfl rfl) ?_
                              exact hK302 h165
                            · refine z_aload_n (pc := 173) C (zD D_L_refused_1 35 rfl) rfl 1 rfl ?_
                              refine z_iconst (pc := 174) (v := 0) C (zD D_L_refused_1 36 rfl) (by decide) ?_
                              refine z_bipush (pc := 175) (v := 7) C (zD D_L_refused_1 37 rfl) (by decide) ?_
                              refine z_sWI (pc := 177) (z' := (zg Z 0 0 14)) (As := [.ref (B + p0), .int (0 : Int32), .int (7 : Int32)]) C [] (fun u hu => zMW_of (c_L_players _ hlz _ _ _ n p0 (0 : Int32) (7 : Int32) h165 u hu)) zn_L_players (by decide) (by decide) ⟨Nat.le_of_ble_eq_true rfl, Nat.le_of_ble_eq_true rfl⟩ q_444 q_445 q_98 q_446 rfl rfl rfl (zD D_L_refused_1 38 rfl) (zg_up rfl rfl) (fun r177 h177 => ?_)
                              refine z_ldc (pc := 180) (v := -5000001) C q_128 (zD D_L_refused_1 39 rfl) ?_
                              refine z_icmp_ne (pc := 182) C (zD D_L_refused_1 40 rfl) (tgt := 302) (by decide) (fun _ => ?_) (fun _ => ?_)
                              · refine z_sub [1, 2, 0] (lv' := [(0, .ref (B + p0)), (1, .long r1), (4, .int s0_24)]) rfl ?_
                                refine z_widen (z' := (zg Z 0 0 24)) (zg_up rfl rfl) ?_
                                exact hK302 h177
                              · refine z_aload_n (pc := 185) C (zD D_L_refused_1 41 rfl) rfl 1 rfl ?_
                                refine z_iconst (pc := 186) (v := -1) C (zD D_L_refused_1 42 rfl) (by decide) ?_
                                refine z_iconst (pc := 187) (v := 0) C (zD D_L_refused_1 43 rfl) (by decide) ?_
                                refine z_sWI (pc := 188) (z' := (zg Z 0 0 15)) (As := [.ref (B + p0), .int (-1 : Int32), .int (0 : Int32)]) C [] (fun u hu => zMW_of (c_L_companies _ hlz _ _ _ n p0 (-1 : Int32) (0 : Int32) h177 u hu)) zn_L_companies (by decide) (by decide) ⟨Nat.le_of_ble_eq_true rfl, Nat.le_of_ble_eq_true rfl⟩ q_448 q_449 q_98 q_450 rfl rfl rfl (zD D_L_refused_1 44 rfl) (zg_up rfl rfl) (fun r188 h188 => ?_)
                                refine z_ldc (pc := 191) (v := -5000003) C q_129 (zD D_L_refused_1 45 rfl) ?_
                                refine z_icmp_ne (pc := 193) C (zD D_L_refused_1 46 rfl) (tgt := 302) (by decide) (fun _ => ?_) (fun _ => ?_)
                                · refine z_sub [1, 2, 0] (lv' := [(0, .ref (B + p0)), (1, .long r1), (4, .int s0_24)]) rfl ?_
                                  refine z_widen (z' := (zg Z 0 0 24)) (zg_up rfl rfl) ?_
                                  exact hK302 h188
                                · refine z_aload_n (pc := 196) C (zD D_L_refused_1 47 rfl) rfl 1 rfl ?_
                                  refine z_iconst (pc := 197) (v := 0) C (zD D_L_refused_1 48 rfl) (by decide) ?_
                                  refine z_bipush (pc := 198) (v := 9) C (zD D_L_refused_1 49 rfl) (by decide) ?_
                                  refine z_sWI (pc := 200) (z' := (zg Z 0 0 16)) (As := [.ref (B + p0), .int (0 : Int32), .int (9 : Int32)]) C [] (fun u hu => zMW_of (c_L_companies _ hlz _ _ _ n p0 (0 : Int32) (9 : Int32) h188 u hu)) zn_L_companies (by decide) (by decide) ⟨Nat.le_of_ble_eq_true rfl, Nat.le_of_ble_eq_true rfl⟩ q_448 q_449 q_98 q_450 rfl rfl rfl (zD D_L_refused_1 50 rfl) (zg_up rfl rfl) (fun r200 h200 => ?_)
                                  refine z_ldc (pc := 203) (v := -5000001) C q_128 (zD D_L_refused_1 51 rfl) ?_
                                  refine z_icmp_ne (pc := 205) C (zD D_L_refused_1 52 rfl) (tgt := 302) (by decide) (fun _ => ?_) (fun _ => ?_)
                                  · refine z_sub [1, 2, 0] (lv' := [(0, .ref (B + p0)), (1, .long r1), (4, .int s0_24)]) rfl ?_
                                    refine z_widen (z' := (zg Z 0 0 24)) (zg_up rfl rfl) ?_
                                    exact hK302 h200
                                  · refine z_aload_n (pc := 208) C (zD D_L_refused_1 53 rfl) rfl 1 rfl ?_
                                    refine z_bipush (pc := 209) (v := 8) C (zD D_L_refused_1 54 rfl) (by decide) ?_
                                    refine z_iconst (pc := 211) (v := 0) C (zD D_L_refused_1 55 rfl) (by decide) ?_
                                    refine z_sWI (pc := 212) (z' := (zg Z 0 0 17)) (As := [.ref (B + p0), .int (8 : Int32), .int (0 : Int32)]) C [] (fun u hu => zMW_of (c_L_tracks _ hlz _ _ _ n p0 (8 : Int32) (0 : Int32) h200 u hu)) zn_L_tracks (by decide) (by decide) ⟨Nat.le_of_ble_eq_true rfl, Nat.le_of_ble_eq_true rfl⟩ q_452 q_453 q_98 q_454 rfl rfl rfl (zD D_L_refused_1 56 rfl) (zg_up rfl rfl) (fun r212 h212 => ?_)
                                    refine z_ldc (pc := 215) (v := -5000003) C q_129 (zD D_L_refused_1 57 rfl) ?_
                                    refine z_icmp_ne (pc := 217) C (zD D_L_refused_1 58 rfl) (tgt := 302) (by decide) (fun _ => ?_) (fun _ => ?_)
                                    · refine z_sub [1, 2, 0] (lv' := [(0, .ref (B + p0)), (1, .long r1), (4, .int s0_24)]) rfl ?_
                                      refine z_widen (z' := (zg Z 0 0 24)) (zg_up rfl rfl) ?_
                                      exact hK302 h212
                                    · refine z_aload_n (pc := 220) C (zD D_L_refused_1 59 rfl) rfl 1 rfl ?_
                                      refine z_bipush (pc := 221) (v := 10) C (zD D_L_refused_2 0 rfl) (by decide) ?_
                                      refine z_sWI (pc := 223) (z' := (zg Z 0 0 18)) (As := [.ref (B + p0), .int (10 : Int32)]) C [] (fun u hu => zMW_of (c_L_values _ hlz _ _ _ n p0 (10 : Int32) h212 u hu)) zn_L_values (by decide) (by decide) ⟨Nat.le_of_ble_eq_true rfl, Nat.le_of_ble_eq_true rfl⟩ q_263 q_264 q_98 q_265 rfl rfl rfl (zD D_L_refused_2 1 rfl) (zg_up rfl rfl) (fun r223 h223 => ?_)
                                      refine z_ldc (pc := 226) (v := -5000001) C q_128 (zD D_L_refused_2 2 rfl) ?_
                                      refine z_icmp_ne (pc := 228) C (zD D_L_refused_2 3 rfl) (tgt := 302) (by decide) (fun _ => ?_) (fun _ => ?_)
                                      · refine z_sub [1, 2, 0] (lv' := [(0, .ref (B + p0)), (1, .long r1), (4, .int s0_24)]) rfl ?_
                                        refine z_widen (z' := (zg Z 0 0 24)) (zg_up rfl rfl) ?_
                                        exact hK302 h223
                                      · refine z_aload_n (pc := 231) C (zD D_L_refused_2 4 rfl) rfl 1 rfl ?_
                                        refine z_bipush (pc := 232) (v := 8) C (zD D_L_refused_2 5 rfl) (by decide) ?_
                                        refine z_sWI (pc := 234) (z' := (zg Z 0 0 19)) (As := [.ref (B + p0), .int (8 : Int32)]) C [] (fun u hu => zMW_of (c_L_towns _ hlz _ _ _ n p0 (8 : Int32) h223 u hu)) zn_L_towns (by decide) (by decide) ⟨Nat.le_of_ble_eq_true rfl, Nat.le_of_ble_eq_true rfl⟩ q_456 q_457 q_98 q_458 rfl rfl rfl (zD D_L_refused_2 6 rfl) (zg_up rfl rfl) (fun r234 h234 => ?_)
                                        refine z_ldc (pc := 237) (v := -5000003) C q_129 (zD D_L_refused_2 7 rfl) ?_
                                        refine z_icmp_ne (pc := 239) C (zD D_L_refused_2 8 rfl) (tgt := 302) (by decide) (fun _ => ?_) (fun _ => ?_)
                                        · refine z_sub [1, 2, 0] (lv' := [(0, .ref (B + p0)), (1, .long r1), (4, .int s0_24)]) rfl ?_
                                          refine z_widen (z' := (zg Z 0 0 24)) (zg_up rfl rfl) ?_
                                          exact hK302 h234
                                        · refine z_aload_n (pc := 242) C (zD D_L_refused_2 9 rfl) rfl 1 rfl ?_
                                          refine z_iconst (pc := 243) (v := 4) C (zD D_L_refused_2 10 rfl) (by decide) ?_
                                          refine z_iconst (pc := 244) (v := 0) C (zD D_L_refused_2 11 rfl) (by decide) ?_
                                          refine z_sWI (pc := 245) (z' := (zg Z 0 0 20)) (As := [.ref (B + p0), .int (4 : Int32), .int (0 : Int32)]) C [] (fun u hu => zMW_of (c_L_routes _ hlz _ _ _ n p0 (4 : Int32) (0 : Int32) h234 u hu)) zn_L_routes (by decide) (by decide) ⟨Nat.le_of_ble_eq_true rfl, Nat.le_of_ble_eq_true rfl⟩ q_460 q_461 q_98 q_462 rfl rfl rfl (zD D_L_refused_2 12 rfl) (zg_up rfl rfl) (fun r245 h245 => ?_)
                                          refine z_ldc (pc := 248) (v := -5000003) C q_129 (zD D_L_refused_2 13 rfl) ?_
                                          refine z_icmp_ne (pc := 250) C (zD D_L_refused_2 14 rfl) (tgt := 302) (by decide) (fun _ => ?_) (fun _ => ?_)
                                          · refine z_sub [1, 2, 0] (lv' := [(0, .ref (B + p0)), (1, .long r1), (4, .int s0_24)]) rfl ?_
                                            refine z_widen (z' := (zg Z 0 0 24)) (zg_up rfl rfl) ?_
                                            exact hK302 h245
                                          · refine z_aload_n (pc := 253) C (zD D_L_refused_2 15 rfl) rfl 1 rfl ?_
                                            refine z_iconst (pc := 254) (v := 0) C (zD D_L_refused_2 16 rfl) (by decide) ?_
                                            refine z_iconst (pc := 255) (v := 0) C (zD D_L_refused_2 17 rfl) (by decide) ?_
                                            refine z_bipush (pc := 256) (v := 8) C (zD D_L_refused_2 18 rfl) (by decide) ?_
                                            refine z_sWI (pc := 258) (z' := (zg Z 0 0 21)) (As := [.ref (B + p0), .int (0 : Int32), .int (0 : Int32), .int (8 : Int32)]) C [] (fun u hu => zMW_of (c_L_withTrack _ hlz _ _ _ n p0 (0 : Int32) (0 : Int32) (8 : Int32) h245 u hu)) zn_L_withTrack (by decide) (by decide) ⟨Nat.le_of_ble_eq_true rfl, Nat.le_of_ble_eq_true rfl⟩ q_475 q_476 q_98 q_477 rfl rfl rfl (zD D_L_refused_2 19 rfl) (zg_up rfl rfl) (fun r258 h258 => ?_)
                                            refine z_ldc (pc := 261) (v := -5000003) C q_129 (zD D_L_refused_2 20 rfl) ?_
                                            refine z_icmp_ne (pc := 263) C (zD D_L_refused_2 21 rfl) (tgt := 302) (by decide) (fun _ => ?_) (fun _ => ?_)
                                            · refine z_sub [1, 2, 0] (lv' := [(0, .ref (B + p0)), (1, .long r1), (4, .int s0_24)]) rfl ?_
                                              refine z_widen (z' := (zg Z 0 0 24)) (zg_up rfl rfl) ?_
                                              exact hK302 h258
                                            · refine z_aload_n (pc := 266) C (zD D_L_refused_2 22 rfl) rfl 1 rfl ?_
                                              refine z_iconst (pc := 267) (v := 0) C (zD D_L_refused_2 23 rfl) (by decide) ?_
                                              refine z_iconst (pc := 268) (v := 0) C (zD D_L_refused_2 24 rfl) (by decide) ?_
                                              refine z_iconst (pc := 269) (v := 0) C (zD D_L_refused_2 25 rfl) (by decide) ?_
                                              refine z_sWI (pc := 270) (z' := (zg Z 0 0 22)) (As := [.ref (B + p0), .int (0 : Int32), .int (0 : Int32), .int (0 : Int32)]) C [] (fun u hu => zMW_of (c_L_withTrack _ hlz _ _ _ n p0 (0 : Int32) (0 : Int32) (0 : Int32) h258 u hu)) zn_L_withTrack (by decide) (by decide) ⟨Nat.le_of_ble_eq_true rfl, Nat.le_of_ble_eq_true rfl⟩ q_475 q_476 q_98 q_477 rfl rfl rfl (zD D_L_refused_2 26 rfl) (zg_up rfl rfl) (fun r270 h270 => ?_)
                                              refine z_ldc (pc := 273) (v := -5000001) C q_128 (zD D_L_refused_2 27 rfl) ?_
                                              refine z_icmp_ne (pc := 275) C (zD D_L_refused_2 28 rfl) (tgt := 302) (by decide) (fun _ => ?_) (fun _ => ?_)
                                              · refine z_sub [1, 2, 0] (lv' := [(0, .ref (B + p0)), (1, .long r1), (4, .int s0_24)]) rfl ?_
                                                refine z_widen (z' := (zg Z 0 0 24)) (zg_up rfl rfl) ?_
                                                exact hK302 h270
                                              · refine z_aload_n (pc := 278) C (zD D_L_refused_2 29 rfl) rfl 1 rfl ?_
                                                refine z_iconst (pc := 279) (v := 4) C (zD D_L_refused_2 30 rfl) (by decide) ?_
                                                refine z_sWI (pc := 280) (z' := (zg Z 0 0 23)) (As := [.ref (B + p0), .int (4 : Int32)]) C [] (fun u hu => zMW_of (c_L_bestOf _ hlz _ _ _ n p0 (4 : Int32) h270 u hu)) zn_L_bestOf (by decide) (by decide) ⟨Nat.le_of_ble_eq_true rfl, Nat.le_of_ble_eq_true rfl⟩ q_486 q_487 q_98 q_488 rfl rfl rfl (zD D_L_refused_2 31 rfl) (zg_up rfl rfl) (fun r280 h280 => ?_)
                                                refine z_ldc (pc := 283) (v := -5000003) C q_129 (zD D_L_refused_2 32 rfl) ?_
                                                refine z_icmp_ne (pc := 285) C (zD D_L_refused_2 33 rfl) (tgt := 302) (by decide) (fun _ => ?_) (fun _ => ?_)
                                                · refine z_sub [1, 2, 0] (lv' := [(0, .ref (B + p0)), (1, .long r1), (4, .int s0_24)]) rfl ?_
                                                  refine z_widen (z' := (zg Z 0 0 24)) (zg_up rfl rfl) ?_
                                                  exact hK302 h280
                                                · refine z_aload_n (pc := 288) C (zD D_L_refused_2 34 rfl) rfl 1 rfl ?_
                                                  refine z_iconst (pc := 289) (v := -1) C (zD D_L_refused_2 35 rfl) (by decide) ?_
                                                  refine z_sWI (pc := 290) (z' := (zg Z 0 0 24)) (As := [.ref (B + p0), .int (-1 : Int32)]) C [] (fun u hu => zMW_of (c_L_dividends _ hlz _ _ _ n p0 (-1 : Int32) h280 u hu)) zn_L_dividends (by decide) (by decide) ⟨Nat.le_of_ble_eq_true rfl, Nat.le_of_ble_eq_true rfl⟩ q_498 q_499 q_98 q_500 rfl rfl rfl (zD D_L_refused_2 36 rfl) (zg_up rfl rfl) (fun r290 h290 => ?_)
                                                  refine z_ldc (pc := 293) (v := -5000003) C q_129 (zD D_L_refused_2 37 rfl) ?_
                                                  refine z_icmp_ne (pc := 295) C (zD D_L_refused_2 38 rfl) (tgt := 302) (by decide) (fun _ => ?_) (fun _ => ?_)
                                                  · refine z_sub [1, 2, 0] (lv' := [(0, .ref (B + p0)), (1, .long r1), (4, .int s0_24)]) rfl ?_
                                                    exact hK302 h290
                                                  · refine z_iconst (pc := 298) (v := 1) C (zD D_L_refused_2 39 rfl) (by decide) ?_
                                                    refine z_goto (pc := 299) C (zD D_L_refused_2 40 rfl) (tgt := 303) (by decide) ?_
                                                    refine z_sub [1, 2, 0] (lv' := [(0, .ref (B + p0)), (1, .long r1), (4, .int s0_24)]) rfl ?_
                                                    exact hK303 (1 : Int32) h290
  refine z_if_ne (pc := 16) C (zD D_L_refused_0 10 rfl) (tgt := 23) (by decide) (fun _ => ?_) (fun _ => ?_)
  · refine z_iconst (pc := 23) (v := 0) C (zD D_L_refused_0 13 rfl) (by decide) ?_
    refine z_sub [2, 1, 0] (lv' := [(0, .ref (B + p0)), (1, .long r1), (3, .int r7)]) rfl ?_
    exact hK24 (0 : Int32)
  · refine z_iconst (pc := 19) (v := 1) C (zD D_L_refused_0 11 rfl) (by decide) ?_
    refine z_goto (pc := 20) C (zD D_L_refused_0 12 rfl) (tgt := 24) (by decide) ?_
    refine z_sub [2, 1, 0] (lv' := [(0, .ref (B + p0)), (1, .long r1), (3, .int r7)]) rfl ?_
    exact hK24 (1 : Int32)
def f_L_isOperated (n : Nat) (p0 : Nat) (p1 : Int32) (p2 : Int32) (h : zH) : Option (Int32 × zH) := (f_L_values' n p0 (3 : Int32) h).bind fun (r2 : Int32) => if r2 = 0 then (zb2 (f_L_operates n p0 (-1 : Int32) (-1 : Int32) (1 : Int32) h) fun (r12 : Int32) (h12 : zH) => if r12 = (-5000002 : Int32) then (some ((1 : Int32), h12)) else (some ((0 : Int32), h12))) else ((f_L_values' n p0 (4 : Int32) h).bind fun (r28 : Int32) => (f_L_low n p1 (3 : Int32) h).bind fun (r34 : Int32) => zlet (fun (h120 : zH) => (f_L_low n (p1 >>> ((2 : Int32) &&& 31)) (3 : Int32) h120).bind fun (r124 : Int32) => zlet (fun (s0_171 : Int32) (h171 : zH) => zlet (fun (s0_187 : Int32) => zlet (fun (s0_203 : Int32) => (f_L_low n (p1 >>> ((5 : Int32) &&& 31)) (2 : Int32) h171).bind fun (r209 : Int32) => zlet (fun (s0_220 : Int32) => zlet (fun (s0_253 : Int32) (h253 : zH) => zlet (fun (s0_272 : Int32) => zb2 (f_L_companies' n p0 r28 (2 : Int32) h253) fun (r277 : Int32) (h277 : zH) => zb2 (f_L_companies' n p0 r28 (4 : Int32) h277) fun (r285 : Int32) (h285 : zH) => zb2 (f_L_companies' n p0 r28 (3 : Int32) h285) fun (r293 : Int32) (h293 : zH) => zb2 (f_L_companies' n p0 r28 (5 : Int32) h293) fun (r301 : Int32) (h301 : zH) => (f_L_values' n p0 (9 : Int32) h301).bind fun (r309 : Int32) => (f_L_values' n p0 (5 : Int32) h301).bind fun (r316 : Int32) => zfix3 (fun rec330 (a16_330 : Int32) (a17_330 : Int32) (a18_330 : Int32) => (f_L_values' n p0 (0 : Int32) h301).bind fun (r334 : Int32) => if r334 ≤ a18_330 then (zb2 (f_L_operates n p0 s0_187 s0_203 s0_220 h301) fun (r379 : Int32) (h379 : zH) => if 0 ≤ r379 then (zlet (fun (s0_450 : Int32) => zlet (fun (s0_462 : Int32) => zlet (((r277 - s0_450) + s0_462)) fun (x463 : Int32) => zlet (((5 : Int32) * r285)) fun (x469 : Int32) => zlet (fun (s0_545 : Int32) => if x463 < x469 then (zlet (fun (h780 : zH) => some ((0 : Int32), h780)) fun K780 => if s0_545 = 0 then (K780 h379) else ((f_L_values' n p0 (9 : Int32) h379).bind fun (r734 : Int32) => zlet (fun (h776 : zH) => some ((1 : Int32), h776)) fun K776 => if r734 = r309 then (zb2 (f_L_companies' n p0 r28 (2 : Int32) h379) fun (r745 : Int32) (h745 : zH) => if r745 = 0 then (K776 h745) else (K780 h745)) else ((f_L_values' n p0 (9 : Int32) h379).bind fun (r757 : Int32) => if r757 = (r309 + (1 : Int32)) then (zb2 (f_L_companies' n p0 r28 (0 : Int32) h379) fun (r770 : Int32) (h770 : zH) => if r770 = 0 then (K776 h770) else (K780 h770)) else (K780 h379)))) else (zfix2 (fun rec560 (a22_560 : Int32) (a23_560 : Int32) => (f_L_values' n p0 (0 : Int32) h379).bind fun (r564 : Int32) => if r564 ≤ a23_560 then (zlet (fun (s0_629 : Int32) => zlet (fun (h724 : zH) => some ((0 : Int32), h724)) fun K724 => if s0_545 = 0 then (K724 h379) else ((f_L_values' n p0 (9 : Int32) h379).bind fun (r639 : Int32) => if r639 = r309 then (zb2 (f_L_companies' n p0 r28 (2 : Int32) h379) fun (r650 : Int32) (h650 : zH) => if r650 = (x463 - x469) then (zb2 (f_L_companies' n p0 r28 (3 : Int32) h650) fun (r664 : Int32) (h664 : zH) => if r664 = s0_629 then (zb2 (f_L_companies' n p0 r28 (8 : Int32) h664) fun (r676 : Int32) (h676 : zH) => if r676 = r379 then (zb2 (f_L_companies' n p0 r28 (5 : Int32) h676) fun (r687 : Int32) (h687 : zH) => if r687 = r301 then (zlet (fun (s0_716 : Int32) => if a22_560 = (a16_330 + s0_716) then (some ((1 : Int32), h687)) else (K724 h687)) fun K716 => if s0_220 = 0 then (K716 (0 : Int32)) else (K716 (a17_330 * (r379 / (10 : Int32))))) else (K724 h687)) else (K724 h676)) else (K724 h664)) else (K724 h650)) else (K724 h379))) fun K629 => zlet (if r293 ≤ (20 : Int32) then (K629 (20 : Int32)) else (K629 (r293 - (10 : Int32)))) fun K612 => if s0_220 = 0 then (K612) else (if r379 ≤ 0 then (K612) else ((f_L_least n (130 : Int32) (r293 + (10 : Int32)) h379).bind fun (r606 : Int32) => K629 r606))) else ((f_L_players' n p0 a23_560 (0 : Int32) h379).bind fun (r576 : Int32) => zlet ((a22_560 + r576)) fun (x580 : Int32) => zlet (a23_560 + 1) fun (x582 : Int32) => rec560 x580 x582)) n (0 : Int32) (0 : Int32))) fun K545 => zlet (K545 (0 : Int32)) fun K544 => if r379 = s0_253 then (zlet ((f_L_values' n p0 (3 : Int32) h379).bind fun (r500 : Int32) => zlet (K545 (1 : Int32)) fun K540 => if r500 = (1 : Int32) then ((f_L_values' n p0 (5 : Int32) h379).bind fun (r509 : Int32) => if r509 = r316 then (K540) else (K544)) else ((f_L_values' n p0 (5 : Int32) h379).bind fun (r522 : Int32) => if r522 = (r316 + (1 : Int32)) then ((f_L_values' n p0 (2 : Int32) h379).bind fun (r534 : Int32) => if r534 = 0 then (K540) else (K544)) else (K544))) fun K498 => if s0_187 < 0 then (K498) else ((f_L_tracks' n p0 s0_187 s0_203 h379).bind fun (r488 : Int32) => if r488 = (s0_272 + (1 : Int32)) then (K498) else (K544))) else (K544)) fun K462 => if s0_220 = 0 then (K462 r379) else (K462 (0 : Int32))) fun K450 => if 0 ≤ s0_187 then (K450 ((20 : Int32) * (s0_272 + (1 : Int32)))) else (K450 (0 : Int32))) else (zlet (some ((0 : Int32), h379)) fun K430 => if s0_187 < 0 then (K430) else (zlet (some ((1 : Int32), h379)) fun K426 => if s0_187 = s0_203 then (K426) else (if s0_272 = (2 : Int32) then (K426) else (if r277 < ((20 : Int32) * (s0_272 + (1 : Int32))) then (K426) else (if r379 = (-5000002 : Int32) then (K426) else (K430))))))) else ((f_L_players' n p0 a18_330 (0 : Int32) h301).bind fun (r346 : Int32) => zlet ((a16_330 + r346)) fun (x350 : Int32) => (f_L_players' n p0 a18_330 ((1 : Int32) + r28) h301).bind fun (r360 : Int32) => zlet ((a17_330 + r360)) fun (x364 : Int32) => zlet (a18_330 + 1) fun (x366 : Int32) => rec330 x350 x364 x366)) n (0 : Int32) (0 : Int32) (0 : Int32)) fun K272 => if 0 ≤ s0_187 then ((f_L_tracks' n p0 s0_187 s0_203 h253).bind fun (r269 : Int32) => K272 r269) else (K272 (0 : Int32))) fun K253 => zlet (zb2 (f_L_companies' n p0 r28 (7 : Int32) h171) fun (r238 : Int32) (h238 : zH) => K253 r238 h238) fun K234 => if s0_187 < 0 then (K234) else (if s0_187 = s0_203 then (K234) else (zb2 (f_L_withTrack' n p0 r28 s0_187 s0_203 h171) fun (r250 : Int32) (h250 : zH) => K253 r250 h250))) fun K220 => if r209 = 0 then (K220 (1 : Int32)) else (K220 (0 : Int32))) fun K203 => if 0 ≤ s0_171 then (K203 (zrem s0_171 (10 : Int32))) else (K203 (-1 : Int32))) fun K187 => if 0 ≤ s0_171 then (K187 (s0_171 / (10 : Int32))) else (K187 (-1 : Int32))) fun K171 => if r124 = 0 then (K171 (-1 : Int32) h120) else ((f_L_low n (p1 >>> ((2 : Int32) &&& 31)) (3 : Int32) h120).bind fun (r138 : Int32) => if r138 = (1 : Int32) then (zb2 (f_L_bestOf' n p0 r28 h120) fun (r147 : Int32) (h147 : zH) => K171 r147 h147) else ((f_L_low n p2 (8 : Int32) h120).bind fun (r158 : Int32) => (f_L_low n (p2 >>> ((3 : Int32) &&& 31)) (8 : Int32) h120).bind fun (r167 : Int32) => K171 (((10 : Int32) * r158) + r167) h120))) fun K120 => if r34 = 0 then (zb2 (f_L_companies' n p0 r28 (4 : Int32) h) fun (r43 : Int32) (h43 : zH) => zb2 (f_L_companies' n p0 r28 (2 : Int32) h43) fun (r51 : Int32) (h51 : zH) => zb2 (f_L_extendsOne n p0 h51) fun (r57 : Int32) (h57 : zH) => if r57 ≤ 0 then (K120 h57) else (zlet (fun (s0_111 : Int32) (h111 : zH) => if s0_111 = 0 then (some ((0 : Int32), h111)) else (K120 h111)) fun K111 => zlet (fun (h110 : zH) => K111 (0 : Int32) h110) fun K110 => if r57 = (r43 + (1 : Int32)) then (if r51 < (60 : Int32) then (K110 h57) else (zb2 (f_L_companies' n p0 r28 (2 : Int32) h57) fun (r86 : Int32) (h86 : zH) => if r86 = (r51 - (60 : Int32)) then (zb2 (f_L_extendsOne n p0 h86) fun (r98 : Int32) (h98 : zH) => if r98 = (-5000002 : Int32) then (K111 (1 : Int32) h98) else (K110 h98)) else (K110 h86))) else (K110 h57))) else (K120 h))
theorem zn_L_isOperated : zNm yL_isOperated 3 := ⟨by decide +kernel, by decide +kernel⟩
set_option maxRecDepth 100000 in
set_option maxHeartbeats 40000000 in
theorem c_L_isOperated (l : Launch) (hl : l.stackTraces = false) (B : Nat) (D : va_G) (cA : Nat → ClassId) (n : Nat) (p0 : Nat) (p1 : Int32) (p2 : Int32) (h : zH) : ∀ u, f_L_isOperated n p0 p1 p2 h = some u → zMC l B D cA yL_isOperated cL_isOperated 24 (some .boolean) 16 4 24 [.ref (B + p0), .int p1, .int p2] h (some (.int u.1)) u.2 := by
  unfold f_L_isOperated
  refine z_metC (own := RL) (fun u : Int32 × zH => (some (Value.int u.1), u.2)) rfl (by decide) rfl (fun Z C hr hlZ => ?_)
  have hlz : Z.1.2.1.stackTraces = false := by rw [hlZ]; exact hl
  refine z_widen (z' := zg Z 0 0 0) z00_up ?_
  refine z_aload_n (pc := 0) C (zD D_L_isOperated_0 0 rfl) rfl 0 rfl ?_
  refine z_iconst (pc := 1) (v := 3) C (zD D_L_isOperated_0 1 rfl) (by decide) ?_
  refine z_sWR (pc := 2) (As := [.ref (B + p0), .int (3 : Int32)]) C [] (c_L_values' _ _ _ _ n p0 (3 : Int32) h) zn_L_values (by decide) (by decide) ⟨Nat.le_of_ble_eq_true rfl, Nat.le_of_ble_eq_true rfl⟩ q_263 q_264 q_98 q_265 rfl rfl rfl (zD D_L_isOperated_0 2 rfl) (fun r2 => ?_)
  refine z_if_ne (pc := 5) C (zD D_L_isOperated_0 3 rfl) (tgt := 26) (by decide) (fun _ => ?_) (fun _ => ?_)
  · refine z_aload_n (pc := 26) C (zD D_L_isOperated_0 15 rfl) rfl 0 rfl ?_
    refine z_iconst (pc := 27) (v := 4) C (zD D_L_isOperated_0 16 rfl) (by decide) ?_
    refine z_sWR (pc := 28) (As := [.ref (B + p0), .int (4 : Int32)]) C [] (c_L_values' _ _ _ _ n p0 (4 : Int32) h) zn_L_values (by decide) (by decide) ⟨Nat.le_of_ble_eq_true rfl, Nat.le_of_ble_eq_true rfl⟩ q_263 q_264 q_98 q_265 rfl rfl rfl (zD D_L_isOperated_0 17 rfl) (fun r28 => ?_)
    refine z_istore_n (pc := 31) (lv' := [(3, .int r28), (0, .ref (B + p0)), (1, .int p1), (2, .int p2)]) C (zD D_L_isOperated_0 18 rfl) rfl (by decide) rfl ?_
    refine z_iload_n (pc := 32) C (zD D_L_isOperated_0 19 rfl) rfl 2 rfl ?_
    refine z_iconst (pc := 33) (v := 3) C (zD D_L_isOperated_0 20 rfl) (by decide) ?_
    refine z_csR (pc := 34) (As := [.int p1, .int (3 : Int32)]) C [] (c_L_low _ _ _ _ n p1 (3 : Int32) h) zn_L_low (by decide) (by decide) ⟨Nat.le_of_ble_eq_true rfl, Nat.le_of_ble_eq_true rfl⟩ q_566 q_567 q_98 q_568 rfl rfl rfl (zD D_L_isOperated_0 21 rfl) (fun r34 => ?_)
    refine z_letg (fun K120 => ∀ (h120 : zH), zJ B Z (zEndG B Z (fun u : Int32 × zH => (some (Value.int u.1), u.2)) 4 24) (K120 h120) 120 [(0, .ref (B + p0)), (1, .int p1), (2, .int p2), (3, .int r28)] [] h120 (zg Z 0 0 3)) (fun h120 => ?_) (fun K120 hK120 => ?_)
    · refine z_iload_n (pc := 120) C (zD D_L_isOperated_1 6 rfl) rfl 1 rfl ?_
      refine z_iconst (pc := 121) (v := 2) C (zD D_L_isOperated_1 7 rfl) (by decide) ?_
      refine z_ishr (pc := 122) C (zD D_L_isOperated_1 8 rfl) ?_
      refine z_iconst (pc := 123) (v := 3) C (zD D_L_isOperated_1 9 rfl) (by decide) ?_
      refine z_csR (pc := 124) (As := [.int (p1 >>> ((2 : Int32) &&& 31)), .int (3 : Int32)]) C [] (c_L_low _ _ _ _ n (p1 >>> ((2 : Int32) &&& 31)) (3 : Int32) h120) zn_L_low (by decide) (by decide) ⟨Nat.le_of_ble_eq_true rfl, Nat.le_of_ble_eq_true rfl⟩ q_566 q_567 q_98 q_568 rfl rfl rfl (zD D_L_isOperated_1 10 rfl) (fun r124 => ?_)
      refine z_letg (fun K171 => ∀ (s0_171 : Int32) (h171 : zH), zJ B Z (zEndG B Z (fun u : Int32 × zH => (some (Value.int u.1), u.2)) 4 24) (K171 s0_171 h171) 171 [(0, .ref (B + p0)), (1, .int p1), (3, .int r28)] [.int s0_171] h171 (zg Z 0 0 3)) (fun s0_171 h171 => ?_) (fun K171 hK171 => ?_)
      · refine z_istore (pc := 171) (lv' := [(4, .int s0_171), (0, .ref (B + p0)), (1, .int p1), (3, .int r28)]) C (zD D_L_isOperated_1 36 rfl) (by decide) rfl ?_
        refine z_iload (pc := 173) C (zD D_L_isOperated_1 37 rfl) 0 rfl ?_
        refine z_letg (fun K187 => ∀ (s0_187 : Int32), zJ B Z (zEndG B Z (fun u : Int32 × zH => (some (Value.int u.1), u.2)) 4 24) (K187 s0_187) 187 [(0, .ref (B + p0)), (1, .int p1), (3, .int r28), (4, .int s0_171)] [.int s0_187] h171 (zg Z 0 0 3)) (fun s0_187 => ?_) (fun K187 hK187 => ?_)
        · refine z_istore (pc := 187) (lv' := [(5, .int s0_187), (0, .ref (B + p0)), (1, .int p1), (3, .int r28), (4, .int s0_171)]) C (zD D_L_isOperated_1 44 rfl) (by decide) rfl ?_
          refine z_iload (pc := 189) C (zD D_L_isOperated_1 45 rfl) 4 rfl ?_
          refine z_letg (fun K203 => ∀ (s0_203 : Int32), zJ B Z (zEndG B Z (fun u : Int32 × zH => (some (Value.int u.1), u.2)) 4 24) (K203 s0_203) 203 [(0, .ref (B + p0)), (1, .int p1), (3, .int r28), (5, .int s0_187)] [.int s0_203] h171 (zg Z 0 0 3)) (fun s0_203 => ?_) (fun K203 hK203 => ?_)
          · refine z_istore (pc := 203) (lv' := [(6, .int s0_203), (0, .ref (B + p0)), (1, .int p1), (3, .int r28), (5, .int s0_187)]) C (zD D_L_isOperated_1 52 rfl) (by decide) rfl ?_
            refine z_iload_n (pc := 205) C (zD D_L_isOperated_1 53 rfl) rfl 2 rfl ?_
            refine z_iconst (pc := 206) (v := 5) C (zD D_L_isOperated_1 54 rfl) (by decide) ?_
            refine z_ishr (pc := 207) C (zD D_L_isOperated_1 55 rfl) ?_
            refine z_iconst (pc := 208) (v := 2) C (zD D_L_isOperated_1 56 rfl) (by decide) ?_
            refine z_csR (pc := 209) (As := [.int (p1 >>> ((5 : Int32) &&& 31)), .int (2 : Int32)]) C [] (c_L_low _ _ _ _ n (p1 >>> ((5 : Int32) &&& 31)) (2 : Int32) h171) zn_L_low (by decide) (by decide) ⟨Nat.le_of_ble_eq_true rfl, Nat.le_of_ble_eq_true rfl⟩ q_566 q_567 q_98 q_568 rfl rfl rfl (zD D_L_isOperated_1 57 rfl) (fun r209 => ?_)
            refine z_letg (fun K220 => ∀ (s0_220 : Int32), zJ B Z (zEndG B Z (fun u : Int32 × zH => (some (Value.int u.1), u.2)) 4 24) (K220 s0_220) 220 [(0, .ref (B + p0)), (3, .int r28), (5, .int s0_187), (6, .int s0_203)] [.int s0_220] h171 (zg Z 0 0 3)) (fun s0_220 => ?_) (fun K220 hK220 => ?_)
            · refine z_istore (pc := 220) (lv' := [(7, .int s0_220), (0, .ref (B + p0)), (3, .int r28), (5, .int s0_187), (6, .int s0_203)]) C (zD D_L_isOperated_2 2 rfl) (by decide) rfl ?_
              refine z_iload (pc := 222) C (zD D_L_isOperated_2 3 rfl) 3 rfl ?_
              refine z_letg (fun K253 => ∀ (s0_253 : Int32) (h253 : zH), zJ B Z (zEndG B Z (fun u : Int32 × zH => (some (Value.int u.1), u.2)) 4 24) (K253 s0_253 h253) 253 [(0, .ref (B + p0)), (3, .int r28), (5, .int s0_187), (6, .int s0_203), (7, .int s0_220)] [.int s0_253] h253 (zg Z 0 0 3)) (fun s0_253 h253 => ?_) (fun K253 hK253 => ?_)
              · refine z_istore (pc := 253) (lv' := [(8, .int s0_253), (0, .ref (B + p0)), (3, .int r28), (5, .int s0_187), (6, .int s0_203), (7, .int s0_220)]) C (zD D_L_isOperated_2 18 rfl) (by decide) rfl ?_
                refine z_iload (pc := 255) C (zD D_L_isOperated_2 19 rfl) 3 rfl ?_
                refine z_letg (fun K272 => ∀ (s0_272 : Int32), zJ B Z (zEndG B Z (fun u : Int32 × zH => (some (Value.int u.1), u.2)) 4 24) (K272 s0_272) 272 [(0, .ref (B + p0)), (3, .int r28), (5, .int s0_187), (6, .int s0_203), (7, .int s0_220), (8, .int s0_253)] [.int s0_272] h253 (zg Z 0 0 3)) (fun s0_272 => ?_) (fun K272 hK272 => ?_)
                · refine z_istore (pc := 272) (lv' := [(9, .int s0_272), (0, .ref (B + p0)), (3, .int r28), (5, .int s0_187), (6, .int s0_203), (7, .int s0_220), (8, .int s0_253)]) C (zD D_L_isOperated_2 27 rfl) (by decide) rfl ?_
                  refine z_aload_n (pc := 274) C (zD D_L_isOperated_2 28 rfl) rfl 1 rfl ?_
                  refine z_iload_n (pc := 275) C (zD D_L_isOperated_2 29 rfl) rfl 2 rfl ?_
                  refine z_iconst (pc := 276) (v := 2) C (zD D_L_isOperated_2 30 rfl) (by decide) ?_
                  refine z_sWI (pc := 277) (z' := (zg Z 0 0 3)) (As := [.ref (B + p0), .int r28, .int (2 : Int32)]) C [] (c_L_companies' _ _ _ _ n p0 r28 (2 : Int32) h253) zn_L_companies (by decide) (by decide) ⟨Nat.le_of_ble_eq_true rfl, Nat.le_of_ble_eq_true rfl⟩ q_448 q_449 q_98 q_450 rfl rfl rfl (zD D_L_isOperated_2 31 rfl) ⟨Nat.le_refl _, Nat.le_refl _, Nat.le_refl _⟩ (fun r277 h277 => ?_)
                  refine z_istore (pc := 280) (lv' := [(10, .int r277), (9, .int s0_272), (0, .ref (B + p0)), (3, .int r28), (5, .int s0_187), (6, .int s0_203), (7, .int s0_220), (8, .int s0_253)]) C (zD D_L_isOperated_2 32 rfl) (by decide) rfl ?_
                  refine z_aload_n (pc := 282) C (zD D_L_isOperated_2 33 rfl) rfl 2 rfl ?_
                  refine z_iload_n (pc := 283) C (zD D_L_isOperated_2 34 rfl) rfl 3 rfl ?_
                  refine z_iconst (pc := 284) (v := 4) C (zD D_L_isOperated_2 35 rfl) (by decide) ?_
                  refine z_sWI (pc := 285) (z' := (zg Z 0 0 3)) (As := [.ref (B + p0), .int r28, .int (4 : Int32)]) C [] (c_L_companies' _ _ _ _ n p0 r28 (4 : Int32) h277) zn_L_companies (by decide) (by decide) ⟨Nat.le_of_ble_eq_true rfl, Nat.le_of_ble_eq_true rfl⟩ q_448 q_449 q_98 q_450 rfl rfl rfl (zD D_L_isOperated_2 36 rfl) ⟨Nat.le_refl _, Nat.le_refl _, Nat.le_refl _⟩ (fun r285 h285 => ?_)
                  refine z_istore (pc := 288) (lv' := [(11, .int r285), (10, .int r277), (9, .int s0_272), (0, .ref (B + p0)), (3, .int r28), (5, .int s0_187), (6, .int s0_203), (7, .int s0_220), (8, .int s0_253)]) C (zD D_L_isOperated_2 37 rfl) (by decide) rfl ?_
                  refine z_aload_n (pc := 290) C (zD D_L_isOperated_2 38 rfl) rfl 3 rfl ?_
                  refine z_iload_n (pc := 291) C (zD D_L_isOperated_2 39 rfl) rfl 4 rfl ?_
                  refine z_iconst (pc := 292) (v := 3) C (zD D_L_isOperated_2 40 rfl) (by decide) ?_
                  refine z_sWI (pc := 293) (z' := (zg Z 0 0 3)) (As := [.ref (B + p0), .int r28, .int (3 : Int32)]) C [] (c_L_companies' _ _ _ _ n p0 r28 (3 : Int32) h285) zn_L_companies (by decide) (by decide) ⟨Nat.le_of_ble_eq_true rfl, Nat.le_of_ble_eq_true rfl⟩ q_448 q_449 q_98 q_450 rfl rfl rfl (zD D_L_isOperated_2 41 rfl) ⟨Nat.le_refl _, Nat.le_refl _, Nat.le_refl _⟩ (fun r293 h293 => ?_)
                  refine z_istore (pc := 296) (lv' := [(12, .int r293), (11, .int r285), (10, .int r277), (9, .int s0_272), (0, .ref (B + p0)), (3, .int r28), (5, .int s0_187), (6, .int s0_203), (7, .int s0_220), (8, .int s0_253)]) C (zD D_L_isOperated_2 42 rfl) (by decide) rfl ?_
                  refine z_aload_n (pc := 298) C (zD D_L_isOperated_2 43 rfl) rfl 4 rfl ?_
                  refine z_iload_n (pc := 299) C (zD D_L_isOperated_2 44 rfl) rfl 5 rfl ?_
                  refine z_iconst (pc := 300) (v := 5) C (zD D_L_isOperated_2 45 rfl) (by decide) ?_
                  refine z_sWI (pc := 301) (z' := (zg Z 0 0 3)) (As := [.ref (B + p0), .int r28, .int (5 : Int32)]) C [] (c_L_companies' _ _ _ _ n p0 r28 (5 : Int32) h293) zn_L_companies (by decide) (by decide) ⟨Nat.le_of_ble_eq_true rfl, Nat.le_of_ble_eq_true rfl⟩ q_448 q_449 q_98 q_450 rfl rfl rfl (zD D_L_isOperated_2 46 rfl) ⟨Nat.le_refl _, Nat.le_refl _, Nat.le_refl _⟩ (fun r301 h301 => ?_)
                  refine z_istore (pc := 304) (lv' := [(13, .int r301), (12, .int r293), (11, .int r285), (10, .int r277), (9, .int s0_272), (0, .ref (B + p0)), (3, .int r28), (5, .int s0_187), (6, .int s0_203), (7, .int s0_220), (8, .int s0_253)]) C (zD D_L_isOperated_2 47 rfl) (by decide) rfl ?_
                  refine z_aload_n (pc := 306) C (zD D_L_isOperated_2 48 rfl) rfl 5 rfl ?_
                  refine z_bipush (pc := 307) (v := 9) C (zD D_L_isOperated_2 49 rfl) (by decide) ?_
                  refine z_sWR (pc := 309) (As := [.ref (B + p0), .int (9 : Int32)]) C [] (c_L_values' _ _ _ _ n p0 (9 : Int32) h301) zn_L_values (by decide) (by decide) ⟨Nat.le_of_ble_eq_true rfl, Nat.le_of_ble_eq_true rfl⟩ q_263 q_264 q_98 q_265 rfl rfl rfl (zD D_L_isOperated_2 50 rfl) (fun r309 => ?_)
                  refine z_istore (pc := 312) (lv' := [(14, .int r309), (13, .int r301), (12, .int r293), (11, .int r285), (10, .int r277), (9, .int s0_272), (0, .ref (B + p0)), (3, .int r28), (5, .int s0_187), (6, .int s0_203), (7, .int s0_220), (8, .int s0_253)]) C (zD D_L_isOperated_2 51 rfl) (by decide) rfl ?_
                  refine z_aload_n (pc := 314) C (zD D_L_isOperated_2 52 rfl) rfl 6 rfl ?_
                  refine z_iconst (pc := 315) (v := 5) C (zD D_L_isOperated_2 53 rfl) (by decide) ?_
                  refine z_sWR (pc := 316) (As := [.ref (B + p0), .int (5 : Int32)]) C [] (c_L_values' _ _ _ _ n p0 (5 : Int32) h301) zn_L_values (by decide) (by decide) ⟨Nat.le_of_ble_eq_true rfl, Nat.le_of_ble_eq_true rfl⟩ q_263 q_264 q_98 q_265 rfl rfl rfl (zD D_L_isOperated_2 54 rfl) (fun r316 => ?_)
                  refine z_istore (pc := 319) (lv' := [(15, .int r316), (14, .int r309), (13, .int r301), (12, .int r293), (11, .int r285), (10, .int r277), (9, .int s0_272), (0, .ref (B + p0)), (3, .int r28), (5, .int s0_187), (6, .int s0_203), (7, .int s0_220), (8, .int s0_253)]) C (zD D_L_isOperated_2 55 rfl) (by decide) rfl ?_
                  refine z_iconst (pc := 321) (v := 0) C (zD D_L_isOperated_2 56 rfl) (by decide) ?_
                  refine z_istore (pc := 322) (lv' := [(16, .int (0 : Int32)), (15, .int r316), (14, .int r309), (13, .int r301), (12, .int r293), (11, .int r285), (10, .int r277), (9, .int s0_272), (0, .ref (B + p0)), (3, .int r28), (5, .int s0_187), (6, .int s0_203), (7, .int s0_220), (8, .int s0_253)]) C (zD D_L_isOperated_2 57 rfl) (by decide) rfl ?_
                  refine z_iconst (pc := 324) (v := 0) C (zD D_L_isOperated_2 58 rfl) (by decide) ?_
                  refine z_istore (pc := 325) (lv' := [(17, .int (0 : Int32)), (16, .int (0 : Int32)), (15, .int r316), (14, .int r309), (13, .int r301), (12, .int r293), (11, .int r285), (10, .int r277), (9, .int s0_272), (0, .ref (B + p0)), (3, .int r28), (5, .int s0_187), (6, .int s0_203), (7, .int s0_220), (8, .int s0_253)]) C (zD D_L_isOperated_2 59 rfl) (by decide) rfl ?_
                  refine z_iconst (pc := 327) (v := 0) C (zD D_L_isOperated_3 0 rfl) (by decide) ?_
                  refine z_istore (pc := 328) (lv' := [(18, .int (0 : Int32)), (17, .int (0 : Int32)), (16, .int (0 : Int32)), (15, .int r316), (14, .int r309), (13, .int r301), (12, .int r293), (11, .int r285), (10, .int r277), (9, .int s0_272), (0, .ref (B + p0)), (3, .int r28), (5, .int s0_187), (6, .int s0_203), (7, .int s0_220), (8, .int s0_253)]) C (zD D_L_isOperated_3 1 rfl) (by decide) rfl ?_
                  refine z_sub [10, 11, 12, 13, 14, 15, 9, 8, 7, 6, 5, 4, 3, 2, 1, 0] (lv' := [(0, .ref (B + p0)), (3, .int r28), (5, .int s0_187), (6, .int s0_203), (7, .int s0_220), (8, .int s0_253), (9, .int s0_272), (10, .int r277), (11, .int r285), (12, .int r293), (13, .int r301), (14, .int r309), (15, .int r316), (16, .int (0 : Int32)), (17, .int (0 : Int32)), (18, .int (0 : Int32))]) rfl ?_
                  refine z_fix3 (fun g330 => ∀ (a16_330 : Int32) (a17_330 : Int32) (a18_330 : Int32), zJ B Z (zEndG B Z (fun u : Int32 × zH => (some (Value.int u.1), u.2)) 4 24) (g330 a16_330 a17_330 a18_330) 330 [(0, .ref (B + p0)), (3, .int r28), (5, .int s0_187), (6, .int s0_203), (7, .int s0_220), (8, .int s0_253), (9, .int s0_272), (10, .int r277), (11, .int r285), (12, .int r293), (13, .int r301), (14, .int r309), (15, .int r316), (16, .int a16_330), (17, .int a17_330), (18, .int a18_330)] [] h301 (zg Z 0 0 3)) (fun _ _ _ => z_none) (fun rec330 hrec330 a16_330 a17_330 a18_330 => ?_) n (0 : Int32) (0 : Int32) (0 : Int32)
                  refine z_iload (pc := 330) C (zD D_L_isOperated_3 2 rfl) 15 rfl ?_
                  refine z_aload_n (pc := 332) C (zD D_L_isOperated_3 3 rfl) rfl 0 rfl ?_
                  refine z_iconst (pc := 333) (v := 0) C (zD D_L_isOperated_3 4 rfl) (by decide) ?_
                  refine z_sWR (pc := 334) (As := [.ref (B + p0), .int (0 : Int32)]) C [.int a18_330] (c_L_values' _ _ _ _ n p0 (0 : Int32) h301) zn_L_values (by decide) (by decide) ⟨Nat.le_of_ble_eq_true rfl, Nat.le_of_ble_eq_true rfl⟩ q_263 q_264 q_98 q_265 rfl rfl rfl (zD D_L_isOperated_3 5 rfl) (fun r334 => ?_)
                  refine z_icmp_ge (pc := 337) C (zD D_L_isOperated_3 6 rfl) (tgt := 372) (by decide) (fun _ => ?_) (fun _ => ?_)
                  · refine z_aload_n (pc := 372) C (zD D_L_isOperated_3 25 rfl) rfl 0 rfl ?_
                    refine z_iload (pc := 373) C (zD D_L_isOperated_3 26 rfl) 2 rfl ?_
                    refine z_iload (pc := 375) C (zD D_L_isOperated_3 27 rfl) 3 rfl ?_
                    refine z_iload (pc := 377) C (zD D_L_isOperated_3 28 rfl) 4 rfl ?_
                    refine z_sWI (pc := 379) (z' := (zg Z 0 0 4)) (As := [.ref (B + p0), .int s0_187, .int s0_203, .int s0_220]) C [] (fun u hu => zMW_of (c_L_operates _ hlz _ _ _ n p0 s0_187 s0_203 s0_220 h301 u hu)) zn_L_operates (by decide) (by decide) ⟨Nat.le_of_ble_eq_true rfl, Nat.le_of_ble_eq_true rfl⟩ q_383 q_384 q_98 q_385 rfl rfl rfl (zD D_L_isOperated_3 29 rfl) (zg_up rfl rfl) (fun r379 h379 => ?_)
                    refine z_istore (pc := 382) (lv' := [(18, .int r379), (0, .ref (B + p0)), (3, .int r28), (5, .int s0_187), (6, .int s0_203), (7, .int s0_220), (8, .int s0_253), (9, .int s0_272), (10, .int r277), (11, .int r285), (12, .int r293), (13, .int r301), (14, .int r309), (15, .int r316), (16, .int a16_330), (17, .int a17_330)]) C (zD D_L_isOperated_3 30 rfl) (by decide) rfl ?_
                    refine z_iload (pc := 384) C (zD D_L_isOperated_3 31 rfl) 0 rfl ?_
                    refine z_if_ge (pc := 386) C (zD D_L_isOperated_3 32 rfl) (tgt := 432) (by decide) (fun _ => ?_) (fun _ => ?_)
                    · refine z_iload (pc := 432) C (zD D_L_isOperated_3 55 rfl) 8 rfl ?_
                      refine z_iload (pc := 434) C (zD D_L_isOperated_3 56 rfl) 3 rfl ?_
                      refine z_letg (fun K450 => ∀ (s0_450 : Int32), zJ B Z (zEndG B Z (fun u : Int32 × zH => (some (Value.int u.1), u.2)) 4 24) (K450 s0_450) 450 [(0, .ref (B + p0)), (3, .int r28), (5, .int s0_187), (6, .int s0_203), (7, .int s0_220), (8, .int s0_253), (9, .int s0_272), (11, .int r285), (12, .int r293), (13, .int r301), (14, .int r309), (15, .int r316), (16, .int a16_330), (17, .int a17_330), (18, .int r379)] [.int s0_450, .int r277] h379 (zg Z 0 0 4)) (fun s0_450 => ?_) (fun K450 hK450 => ?_)
                      · refine z_isub (pc := 450) C (zD D_L_isOperated_4 5 rfl) ?_
                        refine z_iload (pc := 451) C (zD D_L_isOperated_4 6 rfl) 4 rfl ?_
                        refine z_letg (fun K462 => ∀ (s0_462 : Int32), zJ B Z (zEndG B Z (fun u : Int32 × zH => (some (Value.int u.1), u.2)) 4 24) (K462 s0_462) 462 [(0, .ref (B + p0)), (3, .int r28), (5, .int s0_187), (6, .int s0_203), (7, .int s0_220), (8, .int s0_253), (9, .int s0_272), (11, .int r285), (12, .int r293), (13, .int r301), (14, .int r309), (15, .int r316), (16, .int a16_330), (17, .int a17_330), (18, .int r379)] [.int s0_462, .int (r277 - s0_450)] h379 (zg Z 0 0 4)) (fun s0_462 => ?_) (fun K462 hK462 => ?_)
                        · refine z_iadd (pc := 462) C (zD D_L_isOperated_4 11 rfl) ?_
                          refine z_istoreL (pc := 463) (lv' := fun x463 => [(19, .int x463), (0, .ref (B + p0)), (3, .int r28), (5, .int s0_187), (6, .int s0_203), (7, .int s0_220), (8, .int s0_253), (9, .int s0_272), (11, .int r285), (12, .int r293), (13, .int r301), (14, .int r309), (15, .int r316), (16, .int a16_330), (17, .int a17_330), (18, .int r379)]) C (zD D_L_isOperated_4 12 rfl) (by decide) (fun _ => rfl) (fun x463 => ?_)
                          refine z_iconst (pc := 465) (v := 5) C (zD D_L_isOperated_4 13 rfl) (by decide) ?_
                          refine z_iload (pc := 466) C (zD D_L_isOperated_4 14 rfl) 8 rfl ?_
                          refine z_imul (pc := 468) C (zD D_L_isOperated_4 15 rfl) ?_
                          refine z_istoreL (pc := 469) (lv' := fun x469 => [(20, .int x469), (19, .int x463), (0, .ref (B + p0)), (3, .int r28), (5, .int s0_187), (6, .int s0_203), (7, .int s0_220), (8, .int s0_253), (9, .int s0_272), (11, .int r285), (12, .int r293), (13, .int r301), (14, .int r309), (15, .int r316), (16, .int a16_330), (17, .int a17_330), (18, .int r379)]) C (zD D_L_isOperated_4 16 rfl) (by decide) (fun _ => rfl) (fun x469 => ?_)
                          refine z_iload (pc := 471) C (zD D_L_isOperated_4 17 rfl) 16 rfl ?_
                          refine z_iload (pc := 473) C (zD D_L_isOperated_4 18 rfl) 7 rfl ?_
                          refine z_letg (fun K545 => ∀ (s0_545 : Int32), zJ B Z (zEndG B Z (fun u : Int32 × zH => (some (Value.int u.1), u.2)) 4 24) (K545 s0_545) 545 [(0, .ref (B + p0)), (3, .int r28), (7, .int s0_220), (12, .int r293), (13, .int r301), (14, .int r309), (16, .int a16_330), (17, .int a17_330), (18, .int r379), (19, .int x463), (20, .int x469)] [.int s0_545] h379 (zg Z 0 0 4)) (fun s0_545 => ?_) (fun K545 hK545 => ?_)
                          · refine z_istore (pc := 545) (lv' := [(21, .int s0_545), (0, .ref (B + p0)), (3, .int r28), (7, .int s0_220), (12, .int r293), (13, .int r301), (14, .int r309), (16, .int a16_330), (17, .int a17_330), (18, .int r379), (19, .int x463), (20, .int x469)]) C (zD D_L_isOperated_4 55 rfl) (by decide) rfl ?_
                            refine z_iload (pc := 547) C (zD D_L_isOperated_4 56 rfl) 10 rfl ?_
                            refine z_iload (pc := 549) C (zD D_L_isOperated_4 57 rfl) 11 rfl ?_
                            refine z_icmp_lt (pc := 551) C (zD D_L_isOperated_4 58 rfl) (tgt := 726) (by decide) (fun _ => ?_) (fun _ => ?_)
                            · refine z_iload (pc := 726) C (zD D_L_isOperated_6 26 rfl) 0 rfl ?_
                              refine z_letg (fun K780 => ∀ (h780 : zH), zJ B Z (zEndG B Z (fun u : Int32 × zH => (some (Value.int u.1), u.2)) 4 24) (K780 h780) 780 [] [] h780 (zg Z 0 0 4)) (fun h780 => ?_) (fun K780 hK780 => ?_)
                              · refine z_iconst (pc := 780) (v := 0) C (zD D_L_isOperated_6 53 rfl) (by decide) ?_
                                exact z_zretG (pc := 781) C hr (zg_end rfl rfl) (by decide) rfl (zD D_L_isOperated_6 54 rfl)
                              refine z_if_eq (pc := 728) C (zD D_L_isOperated_6 27 rfl) (tgt := 780) (by decide) (fun _ => ?_) (fun _ => ?_)
                              · refine z_sub [] (lv' := []) rfl ?_
                                exact hK780 h379
                              · refine z_aload_n (pc := 731) C (zD D_L_isOperated_6 28 rfl) rfl 1 rfl ?_
                                refine z_bipush (pc := 732) (v := 9) C (zD D_L_isOperated_6 29 rfl) (by decide) ?_
                                refine z_sWR (pc := 734) (As := [.ref (B + p0), .int (9 : Int32)]) C [] (c_L_values' _ _ _ _ n p0 (9 : Int32) h379) zn_L_values (by decide) (by decide) ⟨Nat.le_of_ble_eq_true rfl, Nat.le_of_ble_eq_true rfl⟩ q_263 q_264 q_98 q_265 rfl rfl rfl (zD D_L_isOperated_6 30 rfl) (fun r734 => ?_)
                                refine z_iload (pc := 737) C (zD D_L_isOperated_6 31 rfl) 6 rfl ?_
                                refine z_letg (fun K776 => ∀ (h776 : zH), zJ B Z (zEndG B Z (fun u : Int32 × zH => (some (Value.int u.1), u.2)) 4 24) (K776 h776) 776 [] [] h776 (zg Z 0 0 4)) (fun h776 => ?_) (fun K776 hK776 => ?_)
                                · refine z_iconst (pc := 776) (v := 1) C (zD D_L_isOperated_6 51 rfl) (by decide) ?_
                                  refine z_goto (pc := 777) C (zD D_L_isOperated_6 52 rfl) (tgt := 781) (by decide) ?_
                                  exact z_zretG (pc := 781) C hr (zg_end rfl rfl) (by decide) rfl (zD D_L_isOperated_6 54 rfl)
                                refine z_icmp_ne (pc := 739) C (zD D_L_isOperated_6 32 rfl) (tgt := 754) (by decide) (fun _ => ?_) (fun _ => ?_)
                                · refine z_aload_n (pc := 754) C (zD D_L_isOperated_6 39 rfl) rfl 1 rfl ?_
                                  refine z_bipush (pc := 755) (v := 9) C (zD D_L_isOperated_6 40 rfl) (by decide) ?_
                                  refine z_sWR (pc := 757) (As := [.ref (B + p0), .int (9 : Int32)]) C [] (c_L_values' _ _ _ _ n p0 (9 : Int32) h379) zn_L_values (by decide) (by decide) ⟨Nat.le_of_ble_eq_true rfl, Nat.le_of_ble_eq_true rfl⟩ q_263 q_264 q_98 q_265 rfl rfl rfl (zD D_L_isOperated_6 41 rfl) (fun r757 => ?_)
                                  refine z_iload (pc := 760) C (zD D_L_isOperated_6 42 rfl) 6 rfl ?_
                                  refine z_iconst (pc := 762) (v := 1) C (zD D_L_isOperated_6 43 rfl) (by decide) ?_
                                  refine z_iadd (pc := 763) C (zD D_L_isOperated_6 44 rfl) ?_
                                  refine z_icmp_ne (pc := 764) C (zD D_L_isOperated_6 45 rfl) (tgt := 780) (by decide) (fun _ => ?_) (fun _ => ?_)
                                  · refine z_sub [] (lv' := []) rfl ?_
                                    exact hK780 h379
                                  · refine z_aload_n (pc := 767) C (zD D_L_isOperated_6 46 rfl) rfl 1 rfl ?_
                                    refine z_iload_n (pc := 768) C (zD D_L_isOperated_6 47 rfl) rfl 2 rfl ?_
                                    refine z_iconst (pc := 769) (v := 0) C (zD D_L_isOperated_6 48 rfl) (by decide) ?_
                                    refine z_sWI (pc := 770) (z' := (zg Z 0 0 4)) (As := [.ref (B + p0), .int r28, .int (0 : Int32)]) C [] (c_L_companies' _ _ _ _ n p0 r28 (0 : Int32) h379) zn_L_companies (by decide) (by decide) ⟨Nat.le_of_ble_eq_true rfl, Nat.le_of_ble_eq_true rfl⟩ q_448 q_449 q_98 q_450 rfl rfl rfl (zD D_L_isOperated_6 49 rfl) ⟨Nat.le_refl _, Nat.le_refl _, Nat.le_refl _⟩ (fun r770 h770 => ?_)
                                    refine z_if_ne (pc := 773) C (zD D_L_isOperated_6 50 rfl) (tgt := 780) (by decide) (fun _ => ?_) (fun _ => ?_)
                                    · refine z_sub [] (lv' := []) rfl ?_
                                      exact hK780 h770
                                    · refine z_sub [] (lv' := []) rfl ?_
                                      exact hK776 h770
                                · refine z_aload_n (pc := 742) C (zD D_L_isOperated_6 33 rfl) rfl 1 rfl ?_
                                  refine z_iload_n (pc := 743) C (zD D_L_isOperated_6 34 rfl) rfl 2 rfl ?_
                                  refine z_iconst (pc := 744) (v := 2) C (zD D_L_isOperated_6 35 rfl) (by decide) ?_
                                  refine z_sWI (pc := 745) (z' := (zg Z 0 0 4)) (As := [.ref (B + p0), .int r28, .int (2 : Int32)]) C [] (c_L_companies' _ _ _ _ n p0 r28 (2 : Int32) h379) zn_L_companies (by decide) (by decide) ⟨Nat.le_of_ble_eq_true rfl, Nat.le_of_ble_eq_true rfl⟩ q_448 q_449 q_98 q_450 rfl rfl rfl (zD D_L_isOperated_6 36 rfl) ⟨Nat.le_refl _, Nat.le_refl _, Nat.le_refl _⟩ (fun r745 h745 => ?_)
                                  refine z_if_ne (pc := 748) C (zD D_L_isOperated_6 37 rfl) (tgt := 780) (by decide) (fun _ => ?_) (fun _ => ?_)
                                  · refine z_sub [] (lv' := []) rfl ?_
                                    exact hK780 h745
                                  · refine z_goto (pc := 751) C (zD D_L_isOperated_6 38 rfl) (tgt := 776) (by decide) ?_
                                    refine z_sub [] (lv' := []) rfl ?_
                                    exact hK776 h745
                            · refine z_iconst (pc := 554) (v := 0) C (zD D_L_isOperated_4 59 rfl) (by decide) ?_
                              refine z_istore (pc := 555) (lv' := [(22, .int (0 : Int32)), (21, .int s0_545), (0, .ref (B + p0)), (3, .int r28), (7, .int s0_220), (12, .int r293), (13, .int r301), (14, .int r309), (16, .int a16_330), (17, .int a17_330), (18, .int r379), (19, .int x463), (20, .int x469)]) C (zD D_L_isOperated_5 0 rfl) (by decide) rfl ?_
                              refine z_iconst (pc := 557) (v := 0) C (zD D_L_isOperated_5 1 rfl) (by decide) ?_
                              refine z_istore (pc := 558) (lv' := [(23, .int (0 : Int32)), (22, .int (0 : Int32)), (21, .int s0_545), (0, .ref (B + p0)), (3, .int r28), (7, .int s0_220), (12, .int r293), (13, .int r301), (14, .int r309), (16, .int a16_330), (17, .int a17_330), (18, .int r379), (19, .int x463), (20, .int x469)]) C (zD D_L_isOperated_5 2 rfl) (by decide) rfl ?_
                              refine z_sub [3, 4, 5, 6, 7, 8, 9, 10, 11, 12, 13, 2, 1, 0] (lv' := [(0, .ref (B + p0)), (3, .int r28), (7, .int s0_220), (12, .int r293), (13, .int r301), (14, .int r309), (16, .int a16_330), (17, .int a17_330), (18, .int r379), (19, .int x463), (20, .int x469), (21, .int s0_545), (22, .int (0 : Int32)), (23, .int (0 : Int32))]) rfl ?_
                              refine z_fix2 (fun g560 => ∀ (a22_560 : Int32) (a23_560 : Int32), zJ B Z (zEndG B Z (fun u : Int32 × zH => (some (Value.int u.1), u.2)) 4 24) (g560 a22_560 a23_560) 560 [(0, .ref (B + p0)), (3, .int r28), (7, .int s0_220), (12, .int r293), (13, .int r301), (14, .int r309), (16, .int a16_330), (17, .int a17_330), (18, .int r379), (19, .int x463), (20, .int x469), (21, .int s0_545), (22, .int a22_560), (23, .int a23_560)] [] h379 (zg Z 0 0 4)) (fun _ _ => z_none) (fun rec560 hrec560 a22_560 a23_560 => ?_) n (0 : Int32) (0 : Int32)
                              refine z_iload (pc := 560) C (zD D_L_isOperated_5 3 rfl) 13 rfl ?_
                              refine z_aload_n (pc := 562) C (zD D_L_isOperated_5 4 rfl) rfl 0 rfl ?_
                              refine z_iconst (pc := 563) (v := 0) C (zD D_L_isOperated_5 5 rfl) (by decide) ?_
                              refine z_sWR (pc := 564) (As := [.ref (B + p0), .int (0 : Int32)]) C [.int a23_560] (c_L_values' _ _ _ _ n p0 (0 : Int32) h379) zn_L_values (by decide) (by decide) ⟨Nat.le_of_ble_eq_true rfl, Nat.le_of_ble_eq_true rfl⟩ q_263 q_264 q_98 q_265 rfl rfl rfl (zD D_L_isOperated_5 6 rfl) (fun r564 => ?_)
                              refine z_icmp_ge (pc := 567) C (zD D_L_isOperated_5 7 rfl) (tgt := 588) (by decide) (fun _ => ?_) (fun _ => ?_)
                              · refine z_iload (pc := 588) C (zD D_L_isOperated_5 17 rfl) 2 rfl ?_
                                refine z_letg (fun K629 => ∀ (s0_629 : Int32), zJ B Z (zEndG B Z (fun u : Int32 × zH => (some (Value.int u.1), u.2)) 4 24) (K629 s0_629) 629 [(0, .ref (B + p0)), (3, .int r28), (7, .int s0_220), (13, .int r301), (14, .int r309), (16, .int a16_330), (17, .int a17_330), (18, .int r379), (19, .int x463), (20, .int x469), (21, .int s0_545), (22, .int a22_560)] [.int s0_629] h379 (zg Z 0 0 4)) (fun s0_629 => ?_) (fun K629 hK629 => ?_)
                                · refine z_istore (pc := 629) (lv' := [(23, .int s0_629), (0, .ref (B + p0)), (3, .int r28), (7, .int s0_220), (13, .int r301), (14, .int r309), (16, .int a16_330), (17, .int a17_330), (18, .int r379), (19, .int x463), (20, .int x469), (21, .int s0_545), (22, .int a22_560)]) C (zD D_L_isOperated_5 35 rfl) (by decide) rfl ?_
                                  refine z_iload (pc := 631) C (zD D_L_isOperated_5 36 rfl) 11 rfl ?_
                                  refine z_letg (fun K724 => ∀ (h724 : zH), zJ B Z (zEndG B Z (fun u : Int32 × zH => (some (Value.int u.1), u.2)) 4 24) (K724 h724) 724 [] [] h724 (zg Z 0 0 4)) (fun h724 => ?_) (fun K724 hK724 => ?_)
                                  · refine z_iconst (pc := 724) (v := 0) C (zD D_L_isOperated_6 24 rfl) (by decide) ?_
                                    exact z_zretG (pc := 725) C hr (zg_end rfl rfl) (by decide) rfl (zD D_L_isOperated_6 25 rfl)
                                  refine z_if_eq (pc := 633) C (zD D_L_isOperated_5 37 rfl) (tgt := 724) (by decide) (fun _ => ?_) (fun _ => ?_)
                                  · refine z_sub [] (lv' := []) rfl ?_
                                    exact hK724 h379
                                  · refine z_aload_n (pc := 636) C (zD D_L_isOperated_5 38 rfl) rfl 1 rfl ?_
                                    refine z_bipush (pc := 637) (v := 9) C (zD D_L_isOperated_5 39 rfl) (by decide) ?_
                                    refine z_sWR (pc := 639) (As := [.ref (B + p0), .int (9 : Int32)]) C [] (c_L_values' _ _ _ _ n p0 (9 : Int32) h379) zn_L_values (by decide) (by decide) ⟨Nat.le_of_ble_eq_true rfl, Nat.le_of_ble_eq_true rfl⟩ q_263 q_264 q_98 q_265 rfl rfl rfl (zD D_L_isOperated_5 40 rfl) (fun r639 => ?_)
                                    refine z_iload (pc := 642) C (zD D_L_isOperated_5 41 rfl) 5 rfl ?_
                                    refine z_icmp_ne (pc := 644) C (zD D_L_isOperated_5 42 rfl) (tgt := 724) (by decide) (fun _ => ?_) (fun _ => ?_)
                                    · refine z_sub [] (lv' := []) rfl ?_
                                      exact hK724 h379
                                    · refine z_aload_n (pc := 647) C (zD D_L_isOperated_5 43 rfl) rfl 1 rfl ?_
                                      refine z_iload_n (pc := 648) C (zD D_L_isOperated_5 44 rfl) rfl 2 rfl ?_
                                      refine z_iconst (pc := 649) (v := 2) C (zD D_L_isOperated_5 45 rfl) (by decide) ?_
                                      refine z_sWI (pc := 650) (z' := (zg Z 0 0 4)) (As := [.ref (B + p0), .int r28, .int (2 : Int32)]) C [] (c_L_companies' _ _ _ _ n p0 r28 (2 : Int32) h379) zn_L_companies (by decide) (by decide) ⟨Nat.le_of_ble_eq_true rfl, Nat.le_of_ble_eq_true rfl⟩ q_448 q_449 q_98 q_450 rfl rfl rfl (zD D_L_isOperated_5 46 rfl) ⟨Nat.le_refl _, Nat.le_refl _, Nat.le_refl _⟩ (fun r650 h650 => ?_)
                                      refine z_iload (pc := 653) C (zD D_L_isOperated_5 47 rfl) 9 rfl ?_
                                      refine z_iload (pc := 655) C (zD D_L_isOperated_5 48 rfl) 10 rfl ?_
                                      refine z_isub (pc := 657) C (zD D_L_isOperated_5 49 rfl) ?_
                                      refine z_icmp_ne (pc := 658) C (zD D_L_isOperated_5 50 rfl) (tgt := 724) (by decide) (fun _ => ?_) (fun _ => ?_)
                                      · refine z_sub [] (lv' := []) rfl ?_
                                        exact hK724 h650
                                      · refine z_aload_n (pc := 661) C (zD D_L_isOperated_5 51 rfl) rfl 1 rfl ?_
                                        refine z_iload_n (pc := 662) C (zD D_L_isOperated_5 52 rfl) rfl 2 rfl ?_
                                        refine z_iconst (pc := 663) (v := 3) C (zD D_L_isOperated_5 53 rfl) (by decide) ?_
                                        refine z_sWI (pc := 664) (z' := (zg Z 0 0 4)) (As := [.ref (B + p0), .int r28, .int (3 : Int32)]) C [] (c_L_companies' _ _ _ _ n p0 r28 (3 : Int32) h650) zn_L_companies (by decide) (by decide) ⟨Nat.le_of_ble_eq_true rfl, Nat.le_of_ble_eq_true rfl⟩ q_448 q_449 q_98 q_450 rfl rfl rfl (zD D_L_isOperated_5 54 rfl) ⟨Nat.le_refl _, Nat.le_refl _, Nat.le_refl _⟩ (fun r664 h664 => ?_)
                                        refine z_iload (pc := 667) C (zD D_L_isOperated_5 55 rfl) 0 rfl ?_
                                        refine z_icmp_ne (pc := 669) C (zD D_L_isOperated_5 56 rfl) (tgt := 724) (by decide) (fun _ => ?_) (fun _ => ?_)
                                        · refine z_sub [] (lv' := []) rfl ?_
                                          exact hK724 h664
                                        · refine z_aload_n (pc := 672) C (zD D_L_isOperated_5 57 rfl) rfl 1 rfl ?_
                                          refine z_iload_n (pc := 673) C (zD D_L_isOperated_5 58 rfl) rfl 2 rfl ?_
                                          refine z_bipush (pc := 674) (v := 8) C (zD D_L_isOperated_5 59 rfl) (by decide) ?_
                                          refine z_sWI (pc := 676) (z' := (zg Z 0 0 4)) (As := [.ref (B + p0), .int r28, .int (8 : Int32)]) C [] (c_L_companies' _ _ _ _ n p0 r28 (8 : Int32) h664) zn_L_companies (by decide) (by decide) ⟨Nat.le_of_ble_eq_true rfl, Nat.le_of_ble_eq_true rfl⟩ q_448 q_449 q_98 q_450 rfl rfl rfl (zD D_L_isOperated_6 0 rfl) ⟨Nat.le_refl _, Nat.le_refl _, Nat.le_refl _⟩ (fun r676 h676 => ?_)
                                          refine z_iload (pc := 679) C (zD D_L_isOperated_6 1 rfl) 8 rfl ?_
                                          refine z_icmp_ne (pc := 681) C (zD D_L_isOperated_6 2 rfl) (tgt := 724) (by decide) (fun _ => ?_) (fun _ => ?_)
                                          · refine z_sub [] (lv' := []) rfl ?_
                                            exact hK724 h676
                                          · refine z_aload_n (pc := 684) C (zD D_L_isOperated_6 3 rfl) rfl 1 rfl ?_
                                            refine z_iload_n (pc := 685) C (zD D_L_isOperated_6 4 rfl) rfl 2 rfl ?_
                                            refine z_iconst (pc := 686) (v := 5) C (zD D_L_isOperated_6 5 rfl) (by decide) ?_
                                            refine z_sWI (pc := 687) (z' := (zg Z 0 0 4)) (As := [.ref (B + p0), .int r28, .int (5 : Int32)]) C [] (c_L_companies' _ _ _ _ n p0 r28 (5 : Int32) h676) zn_L_companies (by decide) (by decide) ⟨Nat.le_of_ble_eq_true rfl, Nat.le_of_ble_eq_true rfl⟩ q_448 q_449 q_98 q_450 rfl rfl rfl (zD D_L_isOperated_6 6 rfl) ⟨Nat.le_refl _, Nat.le_refl _, Nat.le_refl _⟩ (fun r687 h687 => ?_)
                                            refine z_iload (pc := 690) C (zD D_L_isOperated_6 7 rfl) 4 rfl ?_
                                            refine z_icmp_ne (pc := 692) C (zD D_L_isOperated_6 8 rfl) (tgt := 724) (by decide) (fun _ => ?_) (fun _ => ?_)
                                            · refine z_sub [] (lv' := []) rfl ?_
                                              exact hK724 h687
                                            · refine z_iload (pc := 695) C (zD D_L_isOperated_6 9 rfl) 12 rfl ?_
                                              refine z_iload (pc := 697) C (zD D_L_isOperated_6 10 rfl) 6 rfl ?_
                                              refine z_iload (pc := 699) C (zD D_L_isOperated_6 11 rfl) 3 rfl ?_
                                              refine z_letg (fun K716 => ∀ (s0_716 : Int32), zJ B Z (zEndG B Z (fun u : Int32 × zH => (some (Value.int u.1), u.2)) 4 24) (K716 s0_716) 716 [] [.int s0_716, .int a16_330, .int a22_560] h687 (zg Z 0 0 4)) (fun s0_716 => ?_) (fun K716 hK716 => ?_)
                                              · refine z_iadd (pc := 716) C (zD D_L_isOperated_6 20 rfl) ?_
                                                refine z_icmp_ne (pc := 717) C (zD D_L_isOperated_6 21 rfl) (tgt := 724) (by decide) (fun _ => ?_) (fun _ => ?_)
                                                · exact hK724 h687
                                                · refine z_iconst (pc := 720) (v := 1) C (zD D_L_isOperated_6 22 rfl) (by decide) ?_
                                                  refine z_goto (pc := 721) C (zD D_L_isOperated_6 23 rfl) (tgt := 725) (by decide) ?_
                                                  exact z_zretG (pc := 725) C hr (zg_end rfl rfl) (by decide) rfl (zD D_L_isOperated_6 25 rfl)
                                              refine z_if_eq (pc := 701) C (zD D_L_isOperated_6 12 rfl) (tgt := 715) (by decide) (fun _ => ?_) (fun _ => ?_)
                                              · refine z_iconst (pc := 715) (v := 0) C (zD D_L_isOperated_6 19 rfl) (by decide) ?_
                                                refine z_sub [] (lv' := []) rfl ?_
                                                exact hK716 (0 : Int32)
                                              · refine z_iload (pc := 704) C (zD D_L_isOperated_6 13 rfl) 7 rfl ?_
                                                refine z_iload (pc := 706) C (zD D_L_isOperated_6 14 rfl) 8 rfl ?_
                                                refine z_bipush (pc := 708) (v := 10) C (zD D_L_isOperated_6 15 rfl) (by decide) ?_
                                                refine z_idivc (pc := 710) C (zD D_L_isOperated_6 16 rfl) (by decide) ?_
                                                refine z_imul (pc := 711) C (zD D_L_isOperated_6 17 rfl) ?_
                                                refine z_goto (pc := 712) C (zD D_L_isOperated_6 18 rfl) (tgt := 716) (by decide) ?_
                                                refine z_sub [] (lv' := []) rfl ?_
                                                exact hK716 (a17_330 * (r379 / (10 : Int32)))
                                refine z_letg (fun K612 => zJ B Z (zEndG B Z (fun u : Int32 × zH => (some (Value.int u.1), u.2)) 4 24) (K612) 612 [(0, .ref (B + p0)), (3, .int r28), (7, .int s0_220), (12, .int r293), (13, .int r301), (14, .int r309), (16, .int a16_330), (17, .int a17_330), (18, .int r379), (19, .int x463), (20, .int x469), (21, .int s0_545), (22, .int a22_560)] [] h379 (zg Z 0 0 4)) ?_ (fun K612 hK612 => ?_)
                                · refine z_iload (pc := 612) C (zD D_L_isOperated_5 27 rfl) 3 rfl ?_
                                  refine z_bipush (pc := 614) (v := 20) C (zD D_L_isOperated_5 28 rfl) (by decide) ?_
                                  refine z_icmp_le (pc := 616) C (zD D_L_isOperated_5 29 rfl) (tgt := 627) (by decide) (fun _ => ?_) (fun _ => ?_)
                                  · refine z_bipush (pc := 627) (v := 20) C (zD D_L_isOperated_5 34 rfl) (by decide) ?_
                                    refine z_sub [0, 1, 2, 4, 5, 6, 7, 8, 9, 10, 11, 12] (lv' := [(0, .ref (B + p0)), (3, .int r28), (7, .int s0_220), (13, .int r301), (14, .int r309), (16, .int a16_330), (17, .int a17_330), (18, .int r379), (19, .int x463), (20, .int x469), (21, .int s0_545), (22, .int a22_560)]) rfl ?_
                                    exact hK629 (20 : Int32)
                                  · refine z_iload (pc := 619) C (zD D_L_isOperated_5 30 rfl) 3 rfl ?_
                                    refine z_bipush (pc := 621) (v := 10) C (zD D_L_isOperated_5 31 rfl) (by decide) ?_
                                    refine z_isub (pc := 623) C (zD D_L_isOperated_5 32 rfl) ?_
                                    refine z_goto (pc := 624) C (zD D_L_isOperated_5 33 rfl) (tgt := 629) (by decide) ?_
                                    refine z_sub [0, 1, 2, 4, 5, 6, 7, 8, 9, 10, 11, 12] (lv' := [(0, .ref (B + p0)), (3, .int r28), (7, .int s0_220), (13, .int r301), (14, .int r309), (16, .int a16_330), (17, .int a17_330), (18, .int r379), (19, .int x463), (20, .int x469), (21, .int s0_545), (22, .int a22_560)]) rfl ?_
                                    exact hK629 (r293 - (10 : Int32))
                                refine z_if_eq (pc := 590) C (zD D_L_isOperated_5 18 rfl) (tgt := 612) (by decide) (fun _ => ?_) (fun _ => ?_)
                                · refine z_sub [0, 1, 2, 3, 4, 5, 6, 7, 8, 9, 10, 11, 12] (lv' := [(0, .ref (B + p0)), (3, .int r28), (7, .int s0_220), (12, .int r293), (13, .int r301), (14, .int r309), (16, .int a16_330), (17, .int a17_330), (18, .int r379), (19, .int x463), (20, .int x469), (21, .int s0_545), (22, .int a22_560)]) rfl ?_
                                  exact hK612
                                · refine z_iload (pc := 593) C (zD D_L_isOperated_5 19 rfl) 8 rfl ?_
                                  refine z_if_le (pc := 595) C (zD D_L_isOperated_5 20 rfl) (tgt := 612) (by decide) (fun _ => ?_) (fun _ => ?_)
                                  · refine z_sub [0, 1, 2, 3, 4, 5, 6, 7, 8, 9, 10, 11, 12] (lv' := [(0, .ref (B + p0)), (3, .int r28), (7, .int s0_220), (12, .int r293), (13, .int r301), (14, .int r309), (16, .int a16_330), (17, .int a17_330), (18, .int r379), (19, .int x463), (20, .int x469), (21, .int s0_545), (22, .int a22_560)]) rfl ?_
                                    exact hK612
                                  · refine z_sipush (pc := 598) (v := 130) C (zD D_L_isOperated_5 21 rfl) (by decide) ?_
                                    refine z_iload (pc := 601) C (zD D_L_isOperated_5 22 rfl) 3 rfl ?_
                                    refine z_bipush (pc := 603) (v := 10) C (zD D_L_isOperated_5 23 rfl) (by decide) ?_
                                    refine z_iadd (pc := 605) C (zD D_L_isOperated_5 24 rfl) ?_
                                    refine z_csR (pc := 606) (As := [.int (130 : Int32), .int (r293 + (10 : Int32))]) C [] (c_L_least _ _ _ _ n (130 : Int32) (r293 + (10 : Int32)) h379) zn_L_least (by decide) (by decide) ⟨Nat.le_of_ble_eq_true rfl, Nat.le_of_ble_eq_true rfl⟩ q_576 q_577 q_98 q_578 rfl rfl rfl (zD D_L_isOperated_5 25 rfl) (fun r606 => ?_)
                                    refine z_goto (pc := 609) C (zD D_L_isOperated_5 26 rfl) (tgt := 629) (by decide) ?_
                                    refine z_sub [0, 1, 2, 4, 5, 6, 7, 8, 9, 10, 11, 12] (lv' := [(0, .ref (B + p0)), (3, .int r28), (7, .int s0_220), (13, .int r301), (14, .int r309), (16, .int a16_330), (17, .int a17_330), (18, .int r379), (19, .int x463), (20, .int x469), (21, .int s0_545), (22, .int a22_560)]) rfl ?_
                                    exact hK629 r606
                              · refine z_iload (pc := 570) C (zD D_L_isOperated_5 8 rfl) 12 rfl ?_
                                refine z_aload_n (pc := 572) C (zD D_L_isOperated_5 9 rfl) rfl 0 rfl ?_
                                refine z_iload (pc := 573) C (zD D_L_isOperated_5 10 rfl) 13 rfl ?_
                                refine z_iconst (pc := 575) (v := 0) C (zD D_L_isOperated_5 11 rfl) (by decide) ?_
                                refine z_sWR (pc := 576) (As := [.ref (B + p0), .int a23_560, .int (0 : Int32)]) C [.int a22_560] (c_L_players' _ _ _ _ n p0 a23_560 (0 : Int32) h379) zn_L_players (by decide) (by decide) ⟨Nat.le_of_ble_eq_true rfl, Nat.le_of_ble_eq_true rfl⟩ q_444 q_445 q_98 q_446 rfl rfl rfl (zD D_L_isOperated_5 12 rfl) (fun r576 => ?_)
                                refine z_iadd (pc := 579) C (zD D_L_isOperated_5 13 rfl) ?_
                                refine z_istoreL (pc := 580) (lv' := fun x580 => [(22, .int x580), (0, .ref (B + p0)), (3, .int r28), (7, .int s0_220), (12, .int r293), (13, .int r301), (14, .int r309), (16, .int a16_330), (17, .int a17_330), (18, .int r379), (19, .int x463), (20, .int x469), (21, .int s0_545), (23, .int a23_560)]) C (zD D_L_isOperated_5 14 rfl) (by decide) (fun _ => rfl) (fun x580 => ?_)
                                refine z_iincL (pc := 582) (lv' := fun x582 => [(23, .int x582), (22, .int x580), (0, .ref (B + p0)), (3, .int r28), (7, .int s0_220), (12, .int r293), (13, .int r301), (14, .int r309), (16, .int a16_330), (17, .int a17_330), (18, .int r379), (19, .int x463), (20, .int x469), (21, .int s0_545)]) C (zD D_L_isOperated_5 15 rfl) 13 rfl (v := a23_560 + 1) rfl (by decide) (fun _ => rfl) (fun x582 => ?_)
                                refine z_goto (pc := 585) C (zD D_L_isOperated_5 16 rfl) (tgt := 560) (by decide) ?_
                                refine z_sub [2, 3, 4, 5, 6, 7, 8, 9, 10, 11, 12, 13, 1, 0] (lv' := [(0, .ref (B + p0)), (3, .int r28), (7, .int s0_220), (12, .int r293), (13, .int r301), (14, .int r309), (16, .int a16_330), (17, .int a17_330), (18, .int r379), (19, .int x463), (20, .int x469), (21, .int s0_545), (22, .int x580), (23, .int x582)]) rfl ?_
                                exact hrec560 x580 x582
                          refine z_letg (fun K544 => zJ B Z (zEndG B Z (fun u : Int32 × zH => (some (Value.int u.1), u.2)) 4 24) (K544) 544 [(0, .ref (B + p0)), (3, .int r28), (7, .int s0_220), (12, .int r293), (13, .int r301), (14, .int r309), (16, .int a16_330), (17, .int a17_330), (18, .int r379), (19, .int x463), (20, .int x469)] [] h379 (zg Z 0 0 4)) ?_ (fun K544 hK544 => ?_)
                          · refine z_iconst (pc := 544) (v := 0) C (zD D_L_isOperated_4 54 rfl) (by decide) ?_
                            exact hK545 (0 : Int32)
                          refine z_icmp_ne (pc := 475) C (zD D_L_isOperated_4 19 rfl) (tgt := 544) (by decide) (fun _ => ?_) (fun _ => ?_)
                          · refine z_sub [2, 3, 6, 10, 11, 12, 14, 15, 16, 1, 0] (lv' := [(0, .ref (B + p0)), (3, .int r28), (7, .int s0_220), (12, .int r293), (13, .int r301), (14, .int r309), (16, .int a16_330), (17, .int a17_330), (18, .int r379), (19, .int x463), (20, .int x469)]) rfl ?_
                            exact hK544
                          · refine z_iload (pc := 478) C (zD D_L_isOperated_4 20 rfl) 4 rfl ?_
                            refine z_letg (fun K498 => zJ B Z (zEndG B Z (fun u : Int32 × zH => (some (Value.int u.1), u.2)) 4 24) (K498) 498 [(0, .ref (B + p0)), (3, .int r28), (7, .int s0_220), (12, .int r293), (13, .int r301), (14, .int r309), (15, .int r316), (16, .int a16_330), (17, .int a17_330), (18, .int r379), (19, .int x463), (20, .int x469)] [] h379 (zg Z 0 0 4)) ?_ (fun K498 hK498 => ?_)
                            · refine z_aload_n (pc := 498) C (zD D_L_isOperated_4 30 rfl) rfl 0 rfl ?_
                              refine z_iconst (pc := 499) (v := 3) C (zD D_L_isOperated_4 31 rfl) (by decide) ?_
                              refine z_sWR (pc := 500) (As := [.ref (B + p0), .int (3 : Int32)]) C [] (c_L_values' _ _ _ _ n p0 (3 : Int32) h379) zn_L_values (by decide) (by decide) ⟨Nat.le_of_ble_eq_true rfl, Nat.le_of_ble_eq_true rfl⟩ q_263 q_264 q_98 q_265 rfl rfl rfl (zD D_L_isOperated_4 32 rfl) (fun r500 => ?_)
                              refine z_iconst (pc := 503) (v := 1) C (zD D_L_isOperated_4 33 rfl) (by decide) ?_
                              refine z_letg (fun K540 => zJ B Z (zEndG B Z (fun u : Int32 × zH => (some (Value.int u.1), u.2)) 4 24) (K540) 540 [(0, .ref (B + p0)), (3, .int r28), (7, .int s0_220), (12, .int r293), (13, .int r301), (14, .int r309), (16, .int a16_330), (17, .int a17_330), (18, .int r379), (19, .int x463), (20, .int x469)] [] h379 (zg Z 0 0 4)) ?_ (fun K540 hK540 => ?_)
                              · refine z_iconst (pc := 540) (v := 1) C (zD D_L_isOperated_4 52 rfl) (by decide) ?_
                                refine z_goto (pc := 541) C (zD D_L_isOperated_4 53 rfl) (tgt := 545) (by decide) ?_
                                exact hK545 (1 : Int32)
                              refine z_icmp_ne (pc := 504) C (zD D_L_isOperated_4 34 rfl) (tgt := 520) (by decide) (fun _ => ?_) (fun _ => ?_)
                              · refine z_aload_n (pc := 520) C (zD D_L_isOperated_4 41 rfl) rfl 0 rfl ?_
                                refine z_iconst (pc := 521) (v := 5) C (zD D_L_isOperated_4 42 rfl) (by decide) ?_
                                refine z_sWR (pc := 522) (As := [.ref (B + p0), .int (5 : Int32)]) C [] (c_L_values' _ _ _ _ n p0 (5 : Int32) h379) zn_L_values (by decide) (by decide) ⟨Nat.le_of_ble_eq_true rfl, Nat.le_of_ble_eq_true rfl⟩ q_263 q_264 q_98 q_265 rfl rfl rfl (zD D_L_isOperated_4 43 rfl) (fun r522 => ?_)
                                refine z_iload (pc := 525) C (zD D_L_isOperated_4 44 rfl) 6 rfl ?_
                                refine z_iconst (pc := 527) (v := 1) C (zD D_L_isOperated_4 45 rfl) (by decide) ?_
                                refine z_iadd (pc := 528) C (zD D_L_isOperated_4 46 rfl) ?_
                                refine z_icmp_ne (pc := 529) C (zD D_L_isOperated_4 47 rfl) (tgt := 544) (by decide) (fun _ => ?_) (fun _ => ?_)
                                · refine z_sub [0, 1, 2, 3, 4, 5, 7, 8, 9, 10, 11] (lv' := [(0, .ref (B + p0)), (3, .int r28), (7, .int s0_220), (12, .int r293), (13, .int r301), (14, .int r309), (16, .int a16_330), (17, .int a17_330), (18, .int r379), (19, .int x463), (20, .int x469)]) rfl ?_
                                  exact hK544
                                · refine z_aload_n (pc := 532) C (zD D_L_isOperated_4 48 rfl) rfl 0 rfl ?_
                                  refine z_iconst (pc := 533) (v := 2) C (zD D_L_isOperated_4 49 rfl) (by decide) ?_
                                  refine z_sWR (pc := 534) (As := [.ref (B + p0), .int (2 : Int32)]) C [] (c_L_values' _ _ _ _ n p0 (2 : Int32) h379) zn_L_values (by decide) (by decide) ⟨Nat.le_of_ble_eq_true rfl, Nat.le_of_ble_eq_true rfl⟩ q_263 q_264 q_98 q_265 rfl rfl rfl (zD D_L_isOperated_4 50 rfl) (fun r534 => ?_)
                                  refine z_if_ne (pc := 537) C (zD D_L_isOperated_4 51 rfl) (tgt := 544) (by decide) (fun _ => ?_) (fun _ => ?_)
                                  · refine z_sub [0, 1, 2, 3, 4, 5, 7, 8, 9, 10, 11] (lv' := [(0, .ref (B + p0)), (3, .int r28), (7, .int s0_220), (12, .int r293), (13, .int r301), (14, .int r309), (16, .int a16_330), (17, .int a17_330), (18, .int r379), (19, .int x463), (20, .int x469)]) rfl ?_
                                    exact hK544
                                  · refine z_sub [0, 1, 2, 3, 4, 5, 7, 8, 9, 10, 11] (lv' := [(0, .ref (B + p0)), (3, .int r28), (7, .int s0_220), (12, .int r293), (13, .int r301), (14, .int r309), (16, .int a16_330), (17, .int a17_330), (18, .int r379), (19, .int x463), (20, .int x469)]) rfl ?_
                                    exact hK540
                              · refine z_aload_n (pc := 507) C (zD D_L_isOperated_4 35 rfl) rfl 0 rfl ?_
                                refine z_iconst (pc := 508) (v := 5) C (zD D_L_isOperated_4 36 rfl) (by decide) ?_
                                refine z_sWR (pc := 509) (As := [.ref (B + p0), .int (5 : Int32)]) C [] (c_L_values' _ _ _ _ n p0 (5 : Int32) h379) zn_L_values (by decide) (by decide) ⟨Nat.le_of_ble_eq_true rfl, Nat.le_of_ble_eq_true rfl⟩ q_263 q_264 q_98 q_265 rfl rfl rfl (zD D_L_isOperated_4 37 rfl) (fun r509 => ?_)
                                refine z_iload (pc := 512) C (zD D_L_isOperated_4 38 rfl) 6 rfl ?_
                                refine z_icmp_ne (pc := 514) C (zD D_L_isOperated_4 39 rfl) (tgt := 544) (by decide) (fun _ => ?_) (fun _ => ?_)
                                · refine z_sub [0, 1, 2, 3, 4, 5, 7, 8, 9, 10, 11] (lv' := [(0, .ref (B + p0)), (3, .int r28), (7, .int s0_220), (12, .int r293), (13, .int r301), (14, .int r309), (16, .int a16_330), (17, .int a17_330), (18, .int r379), (19, .int x463), (20, .int x469)]) rfl ?_
                                  exact hK544
                                · refine z_goto (pc := 517) C (zD D_L_isOperated_4 40 rfl) (tgt := 540) (by decide) ?_
                                  refine z_sub [0, 1, 2, 3, 4, 5, 7, 8, 9, 10, 11] (lv' := [(0, .ref (B + p0)), (3, .int r28), (7, .int s0_220), (12, .int r293), (13, .int r301), (14, .int r309), (16, .int a16_330), (17, .int a17_330), (18, .int r379), (19, .int x463), (20, .int x469)]) rfl ?_
                                  exact hK540
                            refine z_if_lt (pc := 480) C (zD D_L_isOperated_4 21 rfl) (tgt := 498) (by decide) (fun _ => ?_) (fun _ => ?_)
                            · refine z_sub [2, 3, 6, 10, 11, 12, 13, 14, 15, 16, 1, 0] (lv' := [(0, .ref (B + p0)), (3, .int r28), (7, .int s0_220), (12, .int r293), (13, .int r301), (14, .int r309), (15, .int r316), (16, .int a16_330), (17, .int a17_330), (18, .int r379), (19, .int x463), (20, .int x469)]) rfl ?_
                              exact hK498
                            · refine z_aload_n (pc := 483) C (zD D_L_isOperated_4 22 rfl) rfl 2 rfl ?_
                              refine z_iload (pc := 484) C (zD D_L_isOperated_4 23 rfl) 4 rfl ?_
                              refine z_iload (pc := 486) C (zD D_L_isOperated_4 24 rfl) 5 rfl ?_
                              refine z_sWR (pc := 488) (As := [.ref (B + p0), .int s0_187, .int s0_203]) C [] (c_L_tracks' _ _ _ _ n p0 s0_187 s0_203 h379) zn_L_tracks (by decide) (by decide) ⟨Nat.le_of_ble_eq_true rfl, Nat.le_of_ble_eq_true rfl⟩ q_452 q_453 q_98 q_454 rfl rfl rfl (zD D_L_isOperated_4 25 rfl) (fun r488 => ?_)
                              refine z_iload (pc := 491) C (zD D_L_isOperated_4 26 rfl) 8 rfl ?_
                              refine z_iconst (pc := 493) (v := 1) C (zD D_L_isOperated_4 27 rfl) (by decide) ?_
                              refine z_iadd (pc := 494) C (zD D_L_isOperated_4 28 rfl) ?_
                              refine z_icmp_ne (pc := 495) C (zD D_L_isOperated_4 29 rfl) (tgt := 544) (by decide) (fun _ => ?_) (fun _ => ?_)
                              · refine z_sub [2, 3, 6, 10, 11, 12, 14, 15, 16, 1, 0] (lv' := [(0, .ref (B + p0)), (3, .int r28), (7, .int s0_220), (12, .int r293), (13, .int r301), (14, .int r309), (16, .int a16_330), (17, .int a17_330), (18, .int r379), (19, .int x463), (20, .int x469)]) rfl ?_
                                exact hK544
                              · refine z_sub [2, 3, 6, 10, 11, 12, 13, 14, 15, 16, 1, 0] (lv' := [(0, .ref (B + p0)), (3, .int r28), (7, .int s0_220), (12, .int r293), (13, .int r301), (14, .int r309), (15, .int r316), (16, .int a16_330), (17, .int a17_330), (18, .int r379), (19, .int x463), (20, .int x469)]) rfl ?_
                                exact hK498
                        refine z_if_eq (pc := 453) C (zD D_L_isOperated_4 7 rfl) (tgt := 460) (by decide) (fun _ => ?_) (fun _ => ?_)
                        · refine z_iload (pc := 460) C (zD D_L_isOperated_4 10 rfl) 14 rfl ?_
                          exact hK462 r379
                        · refine z_iconst (pc := 456) (v := 0) C (zD D_L_isOperated_4 8 rfl) (by decide) ?_
                          refine z_goto (pc := 457) C (zD D_L_isOperated_4 9 rfl) (tgt := 462) (by decide) ?_
                          exact hK462 (0 : Int32)
                      refine z_if_ge (pc := 436) C (zD D_L_isOperated_3 57 rfl) (tgt := 443) (by decide) (fun _ => ?_) (fun _ => ?_)
                      · refine z_bipush (pc := 443) (v := 20) C (zD D_L_isOperated_4 0 rfl) (by decide) ?_
                        refine z_iload (pc := 445) C (zD D_L_isOperated_4 1 rfl) 7 rfl ?_
                        refine z_iconst (pc := 447) (v := 1) C (zD D_L_isOperated_4 2 rfl) (by decide) ?_
                        refine z_iadd (pc := 448) C (zD D_L_isOperated_4 3 rfl) ?_
                        refine z_imul (pc := 449) C (zD D_L_isOperated_4 4 rfl) ?_
                        refine z_sub [1, 2, 3, 4, 5, 6, 7, 9, 10, 11, 12, 13, 14, 15, 0] (lv' := [(0, .ref (B + p0)), (3, .int r28), (5, .int s0_187), (6, .int s0_203), (7, .int s0_220), (8, .int s0_253), (9, .int s0_272), (11, .int r285), (12, .int r293), (13, .int r301), (14, .int r309), (15, .int r316), (16, .int a16_330), (17, .int a17_330), (18, .int r379)]) rfl ?_
                        exact hK450 ((20 : Int32) * (s0_272 + (1 : Int32)))
                      · refine z_iconst (pc := 439) (v := 0) C (zD D_L_isOperated_3 58 rfl) (by decide) ?_
                        refine z_goto (pc := 440) C (zD D_L_isOperated_3 59 rfl) (tgt := 450) (by decide) ?_
                        refine z_sub [1, 2, 3, 4, 5, 6, 7, 9, 10, 11, 12, 13, 14, 15, 0] (lv' := [(0, .ref (B + p0)), (3, .int r28), (5, .int s0_187), (6, .int s0_203), (7, .int s0_220), (8, .int s0_253), (9, .int s0_272), (11, .int r285), (12, .int r293), (13, .int r301), (14, .int r309), (15, .int r316), (16, .int a16_330), (17, .int a17_330), (18, .int r379)]) rfl ?_
                        exact hK450 (0 : Int32)
                    · refine z_iload (pc := 389) C (zD D_L_isOperated_3 33 rfl) 3 rfl ?_
                      refine z_letg (fun K430 => zJ B Z (zEndG B Z (fun u : Int32 × zH => (some (Value.int u.1), u.2)) 4 24) (K430) 430 [] [] h379 (zg Z 0 0 4)) ?_ (fun K430 hK430 => ?_)
                      · refine z_iconst (pc := 430) (v := 0) C (zD D_L_isOperated_3 53 rfl) (by decide) ?_
                        exact z_zretG (pc := 431) C hr (zg_end rfl rfl) (by decide) rfl (zD D_L_isOperated_3 54 rfl)
                      refine z_if_lt (pc := 391) C (zD D_L_isOperated_3 34 rfl) (tgt := 430) (by decide) (fun _ => ?_) (fun _ => ?_)
                      · refine z_sub [] (lv' := []) rfl ?_
                        exact hK430
                      · refine z_iload (pc := 394) C (zD D_L_isOperated_3 35 rfl) 3 rfl ?_
                        refine z_iload (pc := 396) C (zD D_L_isOperated_3 36 rfl) 4 rfl ?_
                        refine z_letg (fun K426 => zJ B Z (zEndG B Z (fun u : Int32 × zH => (some (Value.int u.1), u.2)) 4 24) (K426) 426 [] [] h379 (zg Z 0 0 4)) ?_ (fun K426 hK426 => ?_)
                        · refine z_iconst (pc := 426) (v := 1) C (zD D_L_isOperated_3 51 rfl) (by decide) ?_
                          refine z_goto (pc := 427) C (zD D_L_isOperated_3 52 rfl) (tgt := 431) (by decide) ?_
                          exact z_zretG (pc := 431) C hr (zg_end rfl rfl) (by decide) rfl (zD D_L_isOperated_3 54 rfl)
                        refine z_icmp_eq (pc := 398) C (zD D_L_isOperated_3 37 rfl) (tgt := 426) (by decide) (fun _ => ?_) (fun _ => ?_)
                        · refine z_sub [] (lv' := []) rfl ?_
                          exact hK426
                        · refine z_iload (pc := 401) C (zD D_L_isOperated_3 38 rfl) 7 rfl ?_
                          refine z_iconst (pc := 403) (v := 2) C (zD D_L_isOperated_3 39 rfl) (by decide) ?_
                          refine z_icmp_eq (pc := 404) C (zD D_L_isOperated_3 40 rfl) (tgt := 426) (by decide) (fun _ => ?_) (fun _ => ?_)
                          · refine z_sub [] (lv' := []) rfl ?_
                            exact hK426
                          · refine z_iload (pc := 407) C (zD D_L_isOperated_3 41 rfl) 8 rfl ?_
                            refine z_bipush (pc := 409) (v := 20) C (zD D_L_isOperated_3 42 rfl) (by decide) ?_
                            refine z_iload (pc := 411) C (zD D_L_isOperated_3 43 rfl) 7 rfl ?_
                            refine z_iconst (pc := 413) (v := 1) C (zD D_L_isOperated_3 44 rfl) (by decide) ?_
                            refine z_iadd (pc := 414) C (zD D_L_isOperated_3 45 rfl) ?_
                            refine z_imul (pc := 415) C (zD D_L_isOperated_3 46 rfl) ?_
                            refine z_icmp_lt (pc := 416) C (zD D_L_isOperated_3 47 rfl) (tgt := 426) (by decide) (fun _ => ?_) (fun _ => ?_)
                            · refine z_sub [] (lv' := []) rfl ?_
                              exact hK426
                            · refine z_iload (pc := 419) C (zD D_L_isOperated_3 48 rfl) 0 rfl ?_
                              refine z_ldc (pc := 421) (v := -5000002) C q_3 (zD D_L_isOperated_3 49 rfl) ?_
                              refine z_icmp_ne (pc := 423) C (zD D_L_isOperated_3 50 rfl) (tgt := 430) (by decide) (fun _ => ?_) (fun _ => ?_)
                              · refine z_sub [] (lv' := []) rfl ?_
                                exact hK430
                              · refine z_sub [] (lv' := []) rfl ?_
                                exact hK426
                  · refine z_iload (pc := 340) C (zD D_L_isOperated_3 7 rfl) 13 rfl ?_
                    refine z_aload_n (pc := 342) C (zD D_L_isOperated_3 8 rfl) rfl 0 rfl ?_
                    refine z_iload (pc := 343) C (zD D_L_isOperated_3 9 rfl) 15 rfl ?_
                    refine z_iconst (pc := 345) (v := 0) C (zD D_L_isOperated_3 10 rfl) (by decide) ?_
                    refine z_sWR (pc := 346) (As := [.ref (B + p0), .int a18_330, .int (0 : Int32)]) C [.int a16_330] (c_L_players' _ _ _ _ n p0 a18_330 (0 : Int32) h301) zn_L_players (by decide) (by decide) ⟨Nat.le_of_ble_eq_true rfl, Nat.le_of_ble_eq_true rfl⟩ q_444 q_445 q_98 q_446 rfl rfl rfl (zD D_L_isOperated_3 11 rfl) (fun r346 => ?_)
                    refine z_iadd (pc := 349) C (zD D_L_isOperated_3 12 rfl) ?_
                    refine z_istoreL (pc := 350) (lv' := fun x350 => [(16, .int x350), (0, .ref (B + p0)), (3, .int r28), (5, .int s0_187), (6, .int s0_203), (7, .int s0_220), (8, .int s0_253), (9, .int s0_272), (10, .int r277), (11, .int r285), (12, .int r293), (13, .int r301), (14, .int r309), (15, .int r316), (17, .int a17_330), (18, .int a18_330)]) C (zD D_L_isOperated_3 13 rfl) (by decide) (fun _ => rfl) (fun x350 => ?_)
                    refine z_iload (pc := 352) C (zD D_L_isOperated_3 14 rfl) 14 rfl ?_
                    refine z_aload_n (pc := 354) C (zD D_L_isOperated_3 15 rfl) rfl 1 rfl ?_
                    refine z_iload (pc := 355) C (zD D_L_isOperated_3 16 rfl) 15 rfl ?_
                    refine z_iconst (pc := 357) (v := 1) C (zD D_L_isOperated_3 17 rfl) (by decide) ?_
                    refine z_iload_n (pc := 358) C (zD D_L_isOperated_3 18 rfl) rfl 2 rfl ?_
                    refine z_iadd (pc := 359) C (zD D_L_isOperated_3 19 rfl) ?_
                    refine z_sWR (pc := 360) (As := [.ref (B + p0), .int a18_330, .int ((1 : Int32) + r28)]) C [.int a17_330] (c_L_players' _ _ _ _ n p0 a18_330 ((1 : Int32) + r28) h301) zn_L_players (by decide) (by decide) ⟨Nat.le_of_ble_eq_true rfl, Nat.le_of_ble_eq_true rfl⟩ q_444 q_445 q_98 q_446 rfl rfl rfl (zD D_L_isOperated_3 20 rfl) (fun r360 => ?_)
                    refine z_iadd (pc := 363) C (zD D_L_isOperated_3 21 rfl) ?_
                    refine z_istoreL (pc := 364) (lv' := fun x364 => [(17, .int x364), (16, .int x350), (0, .ref (B + p0)), (3, .int r28), (5, .int s0_187), (6, .int s0_203), (7, .int s0_220), (8, .int s0_253), (9, .int s0_272), (10, .int r277), (11, .int r285), (12, .int r293), (13, .int r301), (14, .int r309), (15, .int r316), (18, .int a18_330)]) C (zD D_L_isOperated_3 22 rfl) (by decide) (fun _ => rfl) (fun x364 => ?_)
                    refine z_iincL (pc := 366) (lv' := fun x366 => [(18, .int x366), (17, .int x364), (16, .int x350), (0, .ref (B + p0)), (3, .int r28), (5, .int s0_187), (6, .int s0_203), (7, .int s0_220), (8, .int s0_253), (9, .int s0_272), (10, .int r277), (11, .int r285), (12, .int r293), (13, .int r301), (14, .int r309), (15, .int r316)]) C (zD D_L_isOperated_3 23 rfl) 15 rfl (v := a18_330 + 1) rfl (by decide) (fun _ => rfl) (fun x366 => ?_)
                    refine z_goto (pc := 369) C (zD D_L_isOperated_3 24 rfl) (tgt := 330) (by decide) ?_
                    refine z_sub [3, 4, 5, 6, 7, 8, 9, 10, 11, 12, 13, 14, 15, 2, 1, 0] (lv' := [(0, .ref (B + p0)), (3, .int r28), (5, .int s0_187), (6, .int s0_203), (7, .int s0_220), (8, .int s0_253), (9, .int s0_272), (10, .int r277), (11, .int r285), (12, .int r293), (13, .int r301), (14, .int r309), (15, .int r316), (16, .int x350), (17, .int x364), (18, .int x366)]) rfl ?_
                    exact hrec330 x350 x364 x366
                refine z_if_ge (pc := 257) C (zD D_L_isOperated_2 20 rfl) (tgt := 264) (by decide) (fun _ => ?_) (fun _ => ?_)
                · refine z_aload_n (pc := 264) C (zD D_L_isOperated_2 23 rfl) rfl 1 rfl ?_
                  refine z_iload (pc := 265) C (zD D_L_isOperated_2 24 rfl) 3 rfl ?_
                  refine z_iload (pc := 267) C (zD D_L_isOperated_2 25 rfl) 4 rfl ?_
                  refine z_sWR (pc := 269) (As := [.ref (B + p0), .int s0_187, .int s0_203]) C [] (c_L_tracks' _ _ _ _ n p0 s0_187 s0_203 h253) zn_L_tracks (by decide) (by decide) ⟨Nat.le_of_ble_eq_true rfl, Nat.le_of_ble_eq_true rfl⟩ q_452 q_453 q_98 q_454 rfl rfl rfl (zD D_L_isOperated_2 26 rfl) (fun r269 => ?_)
                  refine z_sub [1, 2, 3, 4, 5, 0] (lv' := [(0, .ref (B + p0)), (3, .int r28), (5, .int s0_187), (6, .int s0_203), (7, .int s0_220), (8, .int s0_253)]) rfl ?_
                  exact hK272 r269
                · refine z_iconst (pc := 260) (v := 0) C (zD D_L_isOperated_2 21 rfl) (by decide) ?_
                  refine z_goto (pc := 261) C (zD D_L_isOperated_2 22 rfl) (tgt := 272) (by decide) ?_
                  refine z_sub [1, 2, 3, 4, 5, 0] (lv' := [(0, .ref (B + p0)), (3, .int r28), (5, .int s0_187), (6, .int s0_203), (7, .int s0_220), (8, .int s0_253)]) rfl ?_
                  exact hK272 (0 : Int32)
              refine z_letg (fun K234 => zJ B Z (zEndG B Z (fun u : Int32 × zH => (some (Value.int u.1), u.2)) 4 24) (K234) 234 [(0, .ref (B + p0)), (3, .int r28), (5, .int s0_187), (6, .int s0_203), (7, .int s0_220)] [] h171 (zg Z 0 0 3)) ?_ (fun K234 hK234 => ?_)
              · refine z_aload_n (pc := 234) C (zD D_L_isOperated_2 8 rfl) rfl 0 rfl ?_
                refine z_iload_n (pc := 235) C (zD D_L_isOperated_2 9 rfl) rfl 1 rfl ?_
                refine z_bipush (pc := 236) (v := 7) C (zD D_L_isOperated_2 10 rfl) (by decide) ?_
                refine z_sWI (pc := 238) (z' := (zg Z 0 0 3)) (As := [.ref (B + p0), .int r28, .int (7 : Int32)]) C [] (c_L_companies' _ _ _ _ n p0 r28 (7 : Int32) h171) zn_L_companies (by decide) (by decide) ⟨Nat.le_of_ble_eq_true rfl, Nat.le_of_ble_eq_true rfl⟩ q_448 q_449 q_98 q_450 rfl rfl rfl (zD D_L_isOperated_2 11 rfl) ⟨Nat.le_refl _, Nat.le_refl _, Nat.le_refl _⟩ (fun r238 h238 => ?_)
                refine z_goto (pc := 241) C (zD D_L_isOperated_2 12 rfl) (tgt := 253) (by decide) ?_
                exact hK253 r238 h238
              refine z_if_lt (pc := 224) C (zD D_L_isOperated_2 4 rfl) (tgt := 234) (by decide) (fun _ => ?_) (fun _ => ?_)
              · refine z_sub [1, 2, 3, 4, 0] (lv' := [(0, .ref (B + p0)), (3, .int r28), (5, .int s0_187), (6, .int s0_203), (7, .int s0_220)]) rfl ?_
                exact hK234
              · refine z_iload (pc := 227) C (zD D_L_isOperated_2 5 rfl) 3 rfl ?_
                refine z_iload (pc := 229) C (zD D_L_isOperated_2 6 rfl) 4 rfl ?_
                refine z_icmp_ne (pc := 231) C (zD D_L_isOperated_2 7 rfl) (tgt := 244) (by decide) (fun _ => ?_) (fun _ => ?_)
                · refine z_aload_n (pc := 244) C (zD D_L_isOperated_2 13 rfl) rfl 1 rfl ?_
                  refine z_iload_n (pc := 245) C (zD D_L_isOperated_2 14 rfl) rfl 2 rfl ?_
                  refine z_iload (pc := 246) C (zD D_L_isOperated_2 15 rfl) 3 rfl ?_
                  refine z_iload (pc := 248) C (zD D_L_isOperated_2 16 rfl) 4 rfl ?_
                  refine z_sWI (pc := 250) (z' := (zg Z 0 0 3)) (As := [.ref (B + p0), .int r28, .int s0_187, .int s0_203]) C [] (c_L_withTrack' _ _ _ _ n p0 r28 s0_187 s0_203 h171) zn_L_withTrack (by decide) (by decide) ⟨Nat.le_of_ble_eq_true rfl, Nat.le_of_ble_eq_true rfl⟩ q_475 q_476 q_98 q_477 rfl rfl rfl (zD D_L_isOperated_2 17 rfl) ⟨Nat.le_refl _, Nat.le_refl _, Nat.le_refl _⟩ (fun r250 h250 => ?_)
                  refine z_sub [1, 2, 3, 4, 0] (lv' := [(0, .ref (B + p0)), (3, .int r28), (5, .int s0_187), (6, .int s0_203), (7, .int s0_220)]) rfl ?_
                  exact hK253 r250 h250
                · refine z_sub [1, 2, 3, 4, 0] (lv' := [(0, .ref (B + p0)), (3, .int r28), (5, .int s0_187), (6, .int s0_203), (7, .int s0_220)]) rfl ?_
                  exact hK234
            refine z_if_ne (pc := 212) C (zD D_L_isOperated_1 58 rfl) (tgt := 219) (by decide) (fun _ => ?_) (fun _ => ?_)
            · refine z_iconst (pc := 219) (v := 0) C (zD D_L_isOperated_2 1 rfl) (by decide) ?_
              refine z_sub [1, 3, 4, 0] (lv' := [(0, .ref (B + p0)), (3, .int r28), (5, .int s0_187), (6, .int s0_203)]) rfl ?_
              exact hK220 (0 : Int32)
            · refine z_iconst (pc := 215) (v := 1) C (zD D_L_isOperated_1 59 rfl) (by decide) ?_
              refine z_goto (pc := 216) C (zD D_L_isOperated_2 0 rfl) (tgt := 220) (by decide) ?_
              refine z_sub [1, 3, 4, 0] (lv' := [(0, .ref (B + p0)), (3, .int r28), (5, .int s0_187), (6, .int s0_203)]) rfl ?_
              exact hK220 (1 : Int32)
          refine z_if_ge (pc := 191) C (zD D_L_isOperated_1 46 rfl) (tgt := 198) (by decide) (fun _ => ?_) (fun _ => ?_)
          · refine z_iload (pc := 198) C (zD D_L_isOperated_1 49 rfl) 4 rfl ?_
            refine z_bipush (pc := 200) (v := 10) C (zD D_L_isOperated_1 50 rfl) (by decide) ?_
            refine z_iremc (pc := 202) C (zD D_L_isOperated_1 51 rfl) (by decide) ?_
            refine z_sub [1, 2, 3, 0] (lv' := [(0, .ref (B + p0)), (1, .int p1), (3, .int r28), (5, .int s0_187)]) rfl ?_
            exact hK203 (zrem s0_171 (10 : Int32))
          · refine z_iconst (pc := 194) (v := -1) C (zD D_L_isOperated_1 47 rfl) (by decide) ?_
            refine z_goto (pc := 195) C (zD D_L_isOperated_1 48 rfl) (tgt := 203) (by decide) ?_
            refine z_sub [1, 2, 3, 0] (lv' := [(0, .ref (B + p0)), (1, .int p1), (3, .int r28), (5, .int s0_187)]) rfl ?_
            exact hK203 (-1 : Int32)
        refine z_if_ge (pc := 175) C (zD D_L_isOperated_1 38 rfl) (tgt := 182) (by decide) (fun _ => ?_) (fun _ => ?_)
        · refine z_iload (pc := 182) C (zD D_L_isOperated_1 41 rfl) 0 rfl ?_
          refine z_bipush (pc := 184) (v := 10) C (zD D_L_isOperated_1 42 rfl) (by decide) ?_
          refine z_idivc (pc := 186) C (zD D_L_isOperated_1 43 rfl) (by decide) ?_
          refine z_sub [1, 2, 3, 0] (lv' := [(0, .ref (B + p0)), (1, .int p1), (3, .int r28), (4, .int s0_171)]) rfl ?_
          exact hK187 (s0_171 / (10 : Int32))
        · refine z_iconst (pc := 178) (v := -1) C (zD D_L_isOperated_1 39 rfl) (by decide) ?_
          refine z_goto (pc := 179) C (zD D_L_isOperated_1 40 rfl) (tgt := 187) (by decide) ?_
          refine z_sub [1, 2, 3, 0] (lv' := [(0, .ref (B + p0)), (1, .int p1), (3, .int r28), (4, .int s0_171)]) rfl ?_
          exact hK187 (-1 : Int32)
      refine z_if_ne (pc := 127) C (zD D_L_isOperated_1 11 rfl) (tgt := 134) (by decide) (fun _ => ?_) (fun _ => ?_)
      · refine z_iload_n (pc := 134) C (zD D_L_isOperated_1 14 rfl) rfl 1 rfl ?_
        refine z_iconst (pc := 135) (v := 2) C (zD D_L_isOperated_1 15 rfl) (by decide) ?_
        refine z_ishr (pc := 136) C (zD D_L_isOperated_1 16 rfl) ?_
        refine z_iconst (pc := 137) (v := 3) C (zD D_L_isOperated_1 17 rfl) (by decide) ?_
        refine z_csR (pc := 138) (As := [.int (p1 >>> ((2 : Int32) &&& 31)), .int (3 : Int32)]) C [] (c_L_low _ _ _ _ n (p1 >>> ((2 : Int32) &&& 31)) (3 : Int32) h120) zn_L_low (by decide) (by decide) ⟨Nat.le_of_ble_eq_true rfl, Nat.le_of_ble_eq_true rfl⟩ q_566 q_567 q_98 q_568 rfl rfl rfl (zD D_L_isOperated_1 18 rfl) (fun r138 => ?_)
        refine z_iconst (pc := 141) (v := 1) C (zD D_L_isOperated_1 19 rfl) (by decide) ?_
        refine z_icmp_ne (pc := 142) C (zD D_L_isOperated_1 20 rfl) (tgt := 153) (by decide) (fun _ => ?_) (fun _ => ?_)
        · refine z_bipush (pc := 153) (v := 10) C (zD D_L_isOperated_1 25 rfl) (by decide) ?_
          refine z_iload_n (pc := 155) C (zD D_L_isOperated_1 26 rfl) rfl 2 rfl ?_
          refine z_bipush (pc := 156) (v := 8) C (zD D_L_isOperated_1 27 rfl) (by decide) ?_
          refine z_csR (pc := 158) (As := [.int p2, .int (8 : Int32)]) C [.int (10 : Int32)] (c_L_low _ _ _ _ n p2 (8 : Int32) h120) zn_L_low (by decide) (by decide) ⟨Nat.le_of_ble_eq_true rfl, Nat.le_of_ble_eq_true rfl⟩ q_566 q_567 q_98 q_568 rfl rfl rfl (zD D_L_isOperated_1 28 rfl) (fun r158 => ?_)
          refine z_imul (pc := 161) C (zD D_L_isOperated_1 29 rfl) ?_
          refine z_iload_n (pc := 162) C (zD D_L_isOperated_1 30 rfl) rfl 2 rfl ?_
          refine z_iconst (pc := 163) (v := 3) C (zD D_L_isOperated_1 31 rfl) (by decide) ?_
          refine z_ishr (pc := 164) C (zD D_L_isOperated_1 32 rfl) ?_
          refine z_bipush (pc := 165) (v := 8) C (zD D_L_isOperated_1 33 rfl) (by decide) ?_
          refine z_csR (pc := 167) (As := [.int (p2 >>> ((3 : Int32) &&& 31)), .int (8 : Int32)]) C [.int ((10 : Int32) * r158)] (c_L_low _ _ _ _ n (p2 >>> ((3 : Int32) &&& 31)) (8 : Int32) h120) zn_L_low (by decide) (by decide) ⟨Nat.le_of_ble_eq_true rfl, Nat.le_of_ble_eq_true rfl⟩ q_566 q_567 q_98 q_568 rfl rfl rfl (zD D_L_isOperated_1 34 rfl) (fun r167 => ?_)
          refine z_iadd (pc := 170) C (zD D_L_isOperated_1 35 rfl) ?_
          refine z_sub [0, 1, 3] (lv' := [(0, .ref (B + p0)), (1, .int p1), (3, .int r28)]) rfl ?_
          exact hK171 (((10 : Int32) * r158) + r167) h120
        · refine z_aload_n (pc := 145) C (zD D_L_isOperated_1 21 rfl) rfl 0 rfl ?_
          refine z_iload_n (pc := 146) C (zD D_L_isOperated_1 22 rfl) rfl 3 rfl ?_
          refine z_sWI (pc := 147) (z' := (zg Z 0 0 3)) (As := [.ref (B + p0), .int r28]) C [] (c_L_bestOf' _ _ _ _ n p0 r28 h120) zn_L_bestOf (by decide) (by decide) ⟨Nat.le_of_ble_eq_true rfl, Nat.le_of_ble_eq_true rfl⟩ q_486 q_487 q_98 q_488 rfl rfl rfl (zD D_L_isOperated_1 23 rfl) ⟨Nat.le_refl _, Nat.le_refl _, Nat.le_refl _⟩ (fun r147 h147 => ?_)
          refine z_goto (pc := 150) C (zD D_L_isOperated_1 24 rfl) (tgt := 171) (by decide) ?_
          refine z_sub [0, 1, 3] (lv' := [(0, .ref (B + p0)), (1, .int p1), (3, .int r28)]) rfl ?_
          exact hK171 r147 h147
      · refine z_iconst (pc := 130) (v := -1) C (zD D_L_isOperated_1 12 rfl) (by decide) ?_
        refine z_goto (pc := 131) C (zD D_L_isOperated_1 13 rfl) (tgt := 171) (by decide) ?_
        refine z_sub [0, 1, 3] (lv' := [(0, .ref (B + p0)), (1, .int p1), (3, .int r28)]) rfl ?_
        exact hK171 (-1 : Int32) h120
    refine z_if_ne (pc := 37) C (zD D_L_isOperated_0 22 rfl) (tgt := 120) (by decide) (fun _ => ?_) (fun _ => ?_)
    · refine z_sub [1, 2, 3, 0] (lv' := [(0, .ref (B + p0)), (1, .int p1), (2, .int p2), (3, .int r28)]) rfl ?_
      refine z_widen (z' := (zg Z 0 0 3)) (zg_up rfl rfl) ?_
      exact hK120 h
    · refine z_aload_n (pc := 40) C (zD D_L_isOperated_0 23 rfl) rfl 1 rfl ?_
      refine z_iload_n (pc := 41) C (zD D_L_isOperated_0 24 rfl) rfl 0 rfl ?_
      refine z_iconst (pc := 42) (v := 4) C (zD D_L_isOperated_0 25 rfl) (by decide) ?_
      refine z_sWI (pc := 43) (z' := (zg Z 0 0 0)) (As := [.ref (B + p0), .int r28, .int (4 : Int32)]) C [] (c_L_companies' _ _ _ _ n p0 r28 (4 : Int32) h) zn_L_companies (by decide) (by decide) ⟨Nat.le_of_ble_eq_true rfl, Nat.le_of_ble_eq_true rfl⟩ q_448 q_449 q_98 q_450 rfl rfl rfl (zD D_L_isOperated_0 26 rfl) ⟨Nat.le_refl _, Nat.le_refl _, Nat.le_refl _⟩ (fun r43 h43 => ?_)
      refine z_istore (pc := 46) (lv' := [(4, .int r43), (3, .int r28), (0, .ref (B + p0)), (1, .int p1), (2, .int p2)]) C (zD D_L_isOperated_0 27 rfl) (by decide) rfl ?_
      refine z_aload_n (pc := 48) C (zD D_L_isOperated_0 28 rfl) rfl 2 rfl ?_
      refine z_iload_n (pc := 49) C (zD D_L_isOperated_0 29 rfl) rfl 1 rfl ?_
      refine z_iconst (pc := 50) (v := 2) C (zD D_L_isOperated_0 30 rfl) (by decide) ?_
      refine z_sWI (pc := 51) (z' := (zg Z 0 0 0)) (As := [.ref (B + p0), .int r28, .int (2 : Int32)]) C [] (c_L_companies' _ _ _ _ n p0 r28 (2 : Int32) h43) zn_L_companies (by decide) (by decide) ⟨Nat.le_of_ble_eq_true rfl, Nat.le_of_ble_eq_true rfl⟩ q_448 q_449 q_98 q_450 rfl rfl rfl (zD D_L_isOperated_0 31 rfl) ⟨Nat.le_refl _, Nat.le_refl _, Nat.le_refl _⟩ (fun r51 h51 => ?_)
      refine z_istore (pc := 54) (lv' := [(5, .int r51), (4, .int r43), (3, .int r28), (0, .ref (B + p0)), (1, .int p1), (2, .int p2)]) C (zD D_L_isOperated_0 32 rfl) (by decide) rfl ?_
      refine z_aload_n (pc := 56) C (zD D_L_isOperated_0 33 rfl) rfl 3 rfl ?_
      refine z_sWI (pc := 57) (z' := (zg Z 0 0 1)) (As := [.ref (B + p0)]) C [] (fun u hu => zMW_of (c_L_extendsOne _ hlz _ _ _ n p0 h51 u hu)) zn_L_extendsOne (by decide) (by decide) ⟨Nat.le_of_ble_eq_true rfl, Nat.le_of_ble_eq_true rfl⟩ q_505 q_506 q_98 q_507 rfl rfl rfl (zD D_L_isOperated_0 34 rfl) (zg_up rfl rfl) (fun r57 h57 => ?_)
      refine z_istore (pc := 60) (lv' := [(6, .int r57), (5, .int r51), (4, .int r43), (3, .int r28), (0, .ref (B + p0)), (1, .int p1), (2, .int p2)]) C (zD D_L_isOperated_0 35 rfl) (by decide) rfl ?_
      refine z_iload (pc := 62) C (zD D_L_isOperated_0 36 rfl) 0 rfl ?_
      refine z_if_le (pc := 64) C (zD D_L_isOperated_0 37 rfl) (tgt := 120) (by decide) (fun _ => ?_) (fun _ => ?_)
      · refine z_sub [4, 5, 6, 3] (lv' := [(0, .ref (B + p0)), (1, .int p1), (2, .int p2), (3, .int r28)]) rfl ?_
        refine z_widen (z' := (zg Z 0 0 3)) (zg_up rfl rfl) ?_
        exact hK120 h57
      · refine z_iload (pc := 67) C (zD D_L_isOperated_0 38 rfl) 0 rfl ?_
        refine z_iload (pc := 69) C (zD D_L_isOperated_0 39 rfl) 2 rfl ?_
        refine z_iconst (pc := 71) (v := 1) C (zD D_L_isOperated_0 40 rfl) (by decide) ?_
        refine z_iadd (pc := 72) C (zD D_L_isOperated_0 41 rfl) ?_
        refine z_letg (fun K111 => ∀ (s0_111 : Int32) (h111 : zH), zJ B Z (zEndG B Z (fun u : Int32 × zH => (some (Value.int u.1), u.2)) 4 24) (K111 s0_111 h111) 111 [(0, .ref (B + p0)), (1, .int p1), (2, .int p2), (3, .int r28)] [.int s0_111] h111 (zg Z 0 0 3)) (fun s0_111 h111 => ?_) (fun K111 hK111 => ?_)
        · refine z_istore (pc := 111) (lv' := [(7, .int s0_111), (0, .ref (B + p0)), (1, .int p1), (2, .int p2), (3, .int r28)]) C (zD D_L_isOperated_1 1 rfl) (by decide) rfl ?_
          refine z_iload (pc := 113) C (zD D_L_isOperated_1 2 rfl) 0 rfl ?_
          refine z_if_ne (pc := 115) C (zD D_L_isOperated_1 3 rfl) (tgt := 120) (by decide) (fun _ => ?_) (fun _ => ?_)
          · refine z_sub [1, 2, 3, 4] (lv' := [(0, .ref (B + p0)), (1, .int p1), (2, .int p2), (3, .int r28)]) rfl ?_
            exact hK120 h111
          · refine z_iconst (pc := 118) (v := 0) C (zD D_L_isOperated_1 4 rfl) (by decide) ?_
            exact z_zretG (pc := 119) C hr (zg_end rfl rfl) (by decide) rfl (zD D_L_isOperated_1 5 rfl)
        refine z_letg (fun K110 => ∀ (h110 : zH), zJ B Z (zEndG B Z (fun u : Int32 × zH => (some (Value.int u.1), u.2)) 4 24) (K110 h110) 110 [(0, .ref (B + p0)), (1, .int p1), (2, .int p2), (3, .int r28)] [] h110 (zg Z 0 0 3)) (fun h110 => ?_) (fun K110 hK110 => ?_)
        · refine z_iconst (pc := 110) (v := 0) C (zD D_L_isOperated_1 0 rfl) (by decide) ?_
          exact hK111 (0 : Int32) h110
        refine z_icmp_ne (pc := 73) C (zD D_L_isOperated_0 42 rfl) (tgt := 110) (by decide) (fun _ => ?_) (fun _ => ?_)
        · refine z_sub [4, 5, 6, 3] (lv' := [(0, .ref (B + p0)), (1, .int p1), (2, .int p2), (3, .int r28)]) rfl ?_
          refine z_widen (z' := (zg Z 0 0 3)) (zg_up rfl rfl) ?_
          exact hK110 h57
        · refine z_iload (pc := 76) C (zD D_L_isOperated_0 43 rfl) 1 rfl ?_
          refine z_bipush (pc := 78) (v := 60) C (zD D_L_isOperated_0 44 rfl) (by decide) ?_
          refine z_icmp_lt (pc := 80) C (zD D_L_isOperated_0 45 rfl) (tgt := 110) (by decide) (fun _ => ?_) (fun _ => ?_)
          · refine z_sub [4, 5, 6, 3] (lv' := [(0, .ref (B + p0)), (1, .int p1), (2, .int p2), (3, .int r28)]) rfl ?_
            refine z_widen (z' := (zg Z 0 0 3)) (zg_up rfl rfl) ?_
            exact hK110 h57
          · refine z_aload_n (pc := 83) C (zD D_L_isOperated_0 46 rfl) rfl 4 rfl ?_
            refine z_iload_n (pc := 84) C (zD D_L_isOperated_0 47 rfl) rfl 3 rfl ?_
            refine z_iconst (pc := 85) (v := 2) C (zD D_L_isOperated_0 48 rfl) (by decide) ?_
            refine z_sWI (pc := 86) (z' := (zg Z 0 0 1)) (As := [.ref (B + p0), .int r28, .int (2 : Int32)]) C [] (c_L_companies' _ _ _ _ n p0 r28 (2 : Int32) h57) zn_L_companies (by decide) (by decide) ⟨Nat.le_of_ble_eq_true rfl, Nat.le_of_ble_eq_true rfl⟩ q_448 q_449 q_98 q_450 rfl rfl rfl (zD D_L_isOperated_0 49 rfl) ⟨Nat.le_refl _, Nat.le_refl _, Nat.le_refl _⟩ (fun r86 h86 => ?_)
            refine z_iload (pc := 89) C (zD D_L_isOperated_0 50 rfl) 1 rfl ?_
            refine z_bipush (pc := 91) (v := 60) C (zD D_L_isOperated_0 51 rfl) (by decide) ?_
            refine z_isub (pc := 93) C (zD D_L_isOperated_0 52 rfl) ?_
            refine z_icmp_ne (pc := 94) C (zD D_L_isOperated_0 53 rfl) (tgt := 110) (by decide) (fun _ => ?_) (fun _ => ?_)
            · refine z_sub [4, 5, 6, 3] (lv' := [(0, .ref (B + p0)), (1, .int p1), (2, .int p2), (3, .int r28)]) rfl ?_
              refine z_widen (z' := (zg Z 0 0 3)) (zg_up rfl rfl) ?_
              exact hK110 h86
            · refine z_aload_n (pc := 97) C (zD D_L_isOperated_0 54 rfl) rfl 4 rfl ?_
              refine z_sWI (pc := 98) (z' := (zg Z 0 0 2)) (As := [.ref (B + p0)]) C [] (fun u hu => zMW_of (c_L_extendsOne _ hlz _ _ _ n p0 h86 u hu)) zn_L_extendsOne (by decide) (by decide) ⟨Nat.le_of_ble_eq_true rfl, Nat.le_of_ble_eq_true rfl⟩ q_505 q_506 q_98 q_507 rfl rfl rfl (zD D_L_isOperated_0 55 rfl) (zg_up rfl rfl) (fun r98 h98 => ?_)
              refine z_ldc (pc := 101) (v := -5000002) C q_3 (zD D_L_isOperated_0 56 rfl) ?_
              refine z_icmp_ne (pc := 103) C (zD D_L_isOperated_0 57 rfl) (tgt := 110) (by decide) (fun _ => ?_) (fun _ => ?_)
              · refine z_sub [4, 5, 6, 3] (lv' := [(0, .ref (B + p0)), (1, .int p1), (2, .int p2), (3, .int r28)]) rfl ?_
                refine z_widen (z' := (zg Z 0 0 3)) (zg_up rfl rfl) ?_
                exact hK110 h98
              · refine z_iconst (pc := 106) (v := 1) C (zD D_L_isOperated_0 58 rfl) (by decide) ?_
                refine z_goto (pc := 107) C (zD D_L_isOperated_0 59 rfl) (tgt := 111) (by decide) ?_
                refine z_sub [4, 5, 6, 3] (lv' := [(0, .ref (B + p0)), (1, .int p1), (2, .int p2), (3, .int r28)]) rfl ?_
                refine z_widen (z' := (zg Z 0 0 3)) (zg_up rfl rfl) ?_
                exact hK111 (1 : Int32) h98
  · refine z_aload_n (pc := 8) C (zD D_L_isOperated_0 4 rfl) rfl 0 rfl ?_
    refine z_iconst (pc := 9) (v := -1) C (zD D_L_isOperated_0 5 rfl) (by decide) ?_
    refine z_iconst (pc := 10) (v := -1) C (zD D_L_isOperated_0 6 rfl) (by decide) ?_
    refine z_iconst (pc := 11) (v := 1) C (zD D_L_isOperated_0 7 rfl) (by decide) ?_
    refine z_sWI (pc := 12) (z' := (zg Z 0 0 1)) (As := [.ref (B + p0), .int (-1 : Int32), .int (-1 : Int32), .int (1 : Int32)]) C [] (fun u hu => zMW_of (c_L_operates _ hlz _ _ _ n p0 (-1 : Int32) (-1 : Int32) (1 : Int32) h u hu)) zn_L_operates (by decide) (by decide) ⟨Nat.le_of_ble_eq_true rfl, Nat.le_of_ble_eq_true rfl⟩ q_383 q_384 q_98 q_385 rfl rfl rfl (zD D_L_isOperated_0 8 rfl) (zg_up rfl rfl) (fun r12 h12 => ?_)
    refine z_ldc (pc := 15) (v := -5000002) C q_3 (zD D_L_isOperated_0 9 rfl) ?_
    refine z_icmp_ne (pc := 17) C (zD D_L_isOperated_0 10 rfl) (tgt := 24) (by decide) (fun _ => ?_) (fun _ => ?_)
    · refine z_iconst (pc := 24) (v := 0) C (zD D_L_isOperated_0 13 rfl) (by decide) ?_
      exact z_zretG (pc := 25) C hr (zg_end rfl rfl) (by decide) rfl (zD D_L_isOperated_0 14 rfl)
    · refine z_iconst (pc := 20) (v := 1) C (zD D_L_isOperated_0 11 rfl) (by decide) ?_
      refine z_goto (pc := 21) C (zD D_L_isOperated_0 12 rfl) (tgt := 25) (by decide) ?_
      exact z_zretG (pc := 25) C hr (zg_end rfl rfl) (by decide) rfl (zD D_L_isOperated_0 14 rfl)
def f_L_acts (n : Nat) (p0 : Nat) (p1 : Int32) (p2 : Int32) (h : zH) : Option (Int32 × zH) := (f_L_low n p2 (4 : Int32) h).bind fun (r2 : Int32) => (f_L_low n p1 (14 : Int32) h).bind fun (r9 : Int32) => if r9 = 0 then ((f_L_low n p2 (3 : Int32) h).bind fun (r76 : Int32) => zb2 (f_L_begins n p0 ((2 : Int32) + r76) h) fun (r80 : Int32) (h80 : zH) => some (r80, h80)) else if r9 = 1 then ((f_L_low n p2 (8 : Int32) h).bind fun (r88 : Int32) => (f_L_low n (p2 >>> ((3 : Int32) &&& 31)) (91 : Int32) h).bind fun (r96 : Int32) => zb2 (f_L_setsTown n p0 r88 r96 h) fun (r99 : Int32) (h99 : zH) => some (r99, h99)) else if r9 = 2 then ((f_L_low n (p2 >>> ((2 : Int32) &&& 31)) (8 : Int32) h).bind fun (r110 : Int32) => (f_L_low n (p2 >>> ((5 : Int32) &&& 31)) (7 : Int32) h).bind fun (r119 : Int32) => zb2 (f_L_starts n p0 r2 r110 ((2 : Int32) + r119) h) fun (r123 : Int32) (h123 : zH) => some (r123, h123)) else if r9 = 3 then ((f_L_low n (p2 >>> ((2 : Int32) &&& 31)) (8 : Int32) h).bind fun (r110_1 : Int32) => (f_L_low n (p2 >>> ((5 : Int32) &&& 31)) (7 : Int32) h).bind fun (r119_1 : Int32) => zb2 (f_L_starts n p0 r2 r110_1 ((2 : Int32) + r119_1) h) fun (r123_1 : Int32) (h123_1 : zH) => some (r123_1, h123_1)) else if r9 = 4 then (zb2 (f_L_buys n p0 r2 h) fun (r129 : Int32) (h129 : zH) => some (r129, h129)) else if r9 = 5 then (zb2 (f_L_buys n p0 r2 h) fun (r129_1 : Int32) (h129_1 : zH) => some (r129_1, h129_1)) else if r9 = 6 then ((f_L_low n (p2 >>> ((2 : Int32) &&& 31)) (3 : Int32) h).bind fun (r140 : Int32) => zb2 (f_L_sells n p0 r2 ((1 : Int32) + r140) h) fun (r144 : Int32) (h144 : zH) => some (r144, h144)) else if r9 = 7 then ((f_L_low n (p2 >>> ((2 : Int32) &&& 31)) (3 : Int32) h).bind fun (r157 : Int32) => zb2 (f_L_merges n p0 r2 (zrem ((r2 + (1 : Int32)) + r157) (4 : Int32)) h) fun (r163 : Int32) (h163 : zH) => some (r163, h163)) else if r9 = 8 then (zb2 (f_L_passes n p0 h) fun (r168 : Int32) (h168 : zH) => some (r168, h168)) else if r9 = 9 then (zb2 (f_L_passes n p0 h) fun (r168_1 : Int32) (h168_1 : zH) => some (r168_1, h168_1)) else if r9 = 10 then (zb2 (f_L_undoes n p0 h) fun (r173 : Int32) (h173 : zH) => some (r173, h173)) else ((f_L_values' n p0 (3 : Int32) h).bind fun (r179 : Int32) => if r179 = 0 then (zb2 (f_L_passes n p0 h) fun (r186 : Int32) (h186 : zH) => some (r186, h186)) else (zb2 (f_L_isOperated n p0 (p1 >>> ((4 : Int32) &&& 31)) p2 h) fun (r197 : Int32) (h197 : zH) => if r197 = 0 then (some ((-7 : Int32), h197)) else (some ((1 : Int32), h197))))
theorem zn_L_acts : zNm yL_acts 3 := ⟨by decide +kernel, by decide +kernel⟩
set_option maxRecDepth 100000 in
set_option maxHeartbeats 40000000 in
theorem c_L_acts (l : Launch) (hl : l.stackTraces = false) (B : Nat) (D : va_G) (cA : Nat → ClassId) (n : Nat) (p0 : Nat) (p1 : Int32) (p2 : Int32) (h : zH) : ∀ u, f_L_acts n p0 p1 p2 h = some u → zMC l B D cA yL_acts cL_acts 4 (some .int) 17 13 78 [.ref (B + p0), .int p1, .int p2] h (some (.int u.1)) u.2 := by
  unfold f_L_acts
  refine z_metC (own := RL) (fun u : Int32 × zH => (some (Value.int u.1), u.2)) rfl (by decide) rfl (fun Z C hr hlZ => ?_)
  have hlz : Z.1.2.1.stackTraces = false := by rw [hlZ]; exact hl
  refine z_widen (z' := zg Z 0 0 0) z00_up ?_
  refine z_iload_n (pc := 0) C (zD D_L_acts_0 0 rfl) rfl 2 rfl ?_
  refine z_iconst (pc := 1) (v := 4) C (zD D_L_acts_0 1 rfl) (by decide) ?_
  refine z_csR (pc := 2) (As := [.int p2, .int (4 : Int32)]) C [] (c_L_low _ _ _ _ n p2 (4 : Int32) h) zn_L_low (by decide) (by decide) ⟨Nat.le_of_ble_eq_true rfl, Nat.le_of_ble_eq_true rfl⟩ q_566 q_567 q_98 q_568 rfl rfl rfl (zD D_L_acts_0 2 rfl) (fun r2 => ?_)
  refine z_istore_n (pc := 5) (lv' := [(3, .int r2), (0, .ref (B + p0)), (1, .int p1), (2, .int p2)]) C (zD D_L_acts_0 3 rfl) rfl (by decide) rfl ?_
  refine z_iload_n (pc := 6) C (zD D_L_acts_0 4 rfl) rfl 2 rfl ?_
  refine z_bipush (pc := 7) (v := 14) C (zD D_L_acts_0 5 rfl) (by decide) ?_
  refine z_csR (pc := 9) (As := [.int p1, .int (14 : Int32)]) C [] (c_L_low _ _ _ _ n p1 (14 : Int32) h) zn_L_low (by decide) (by decide) ⟨Nat.le_of_ble_eq_true rfl, Nat.le_of_ble_eq_true rfl⟩ q_566 q_567 q_98 q_568 rfl rfl rfl (zD D_L_acts_0 6 rfl) (fun r9 => ?_)
  refine z_ite (fun c0 => ?_) (fun c0 => ?_)
  · refine z_tblIn (pc := 12) C (zD D_L_acts_0 7 rfl) (by rw [c0]; decide) (by rw [c0]; decide) (by rw [c0]; rfl) (tgt := 72) (by decide) ?_
    refine z_aload_n (pc := 72) C (zD D_L_acts_0 8 rfl) rfl 1 rfl ?_
    refine z_iconst (pc := 73) (v := 2) C (zD D_L_acts_0 9 rfl) (by decide) ?_
    refine z_iload_n (pc := 74) C (zD D_L_acts_0 10 rfl) rfl 3 rfl ?_
    refine z_iconst (pc := 75) (v := 3) C (zD D_L_acts_0 11 rfl) (by decide) ?_
    refine z_csR (pc := 76) (As := [.int p2, .int (3 : Int32)]) C [.int (2 : Int32), .ref (B + p0)] (c_L_low _ _ _ _ n p2 (3 : Int32) h) zn_L_low (by decide) (by decide) ⟨Nat.le_of_ble_eq_true rfl, Nat.le_of_ble_eq_true rfl⟩ q_566 q_567 q_98 q_568 rfl rfl rfl (zD D_L_acts_0 12 rfl) (fun r76 => ?_)
    refine z_iadd (pc := 79) C (zD D_L_acts_0 13 rfl) ?_
    refine z_sWI (pc := 80) (z' := (zg Z 0 0 1)) (As := [.ref (B + p0), .int ((2 : Int32) + r76)]) C [] (fun u hu => zMW_of (c_L_begins _ hlz _ _ _ n p0 ((2 : Int32) + r76) h u hu)) zn_L_begins (by decide) (by decide) ⟨Nat.le_of_ble_eq_true rfl, Nat.le_of_ble_eq_true rfl⟩ q_268 q_269 q_98 q_270 rfl rfl rfl (zD D_L_acts_0 14 rfl) (zg_up rfl rfl) (fun r80 h80 => ?_)
    exact z_iretG (pc := 83) C hr (zg_end rfl rfl) rfl (zD D_L_acts_0 15 rfl)
  refine z_ite (fun c1 => ?_) (fun c1 => ?_)
  · refine z_tblIn (pc := 12) C (zD D_L_acts_0 7 rfl) (by rw [c1]; decide) (by rw [c1]; decide) (by rw [c1]; rfl) (tgt := 84) (by decide) ?_
    refine z_aload_n (pc := 84) C (zD D_L_acts_0 16 rfl) rfl 1 rfl ?_
    refine z_iload_n (pc := 85) C (zD D_L_acts_0 17 rfl) rfl 3 rfl ?_
    refine z_bipush (pc := 86) (v := 8) C (zD D_L_acts_0 18 rfl) (by decide) ?_
    refine z_csR (pc := 88) (As := [.int p2, .int (8 : Int32)]) C [.ref (B + p0)] (c_L_low _ _ _ _ n p2 (8 : Int32) h) zn_L_low (by decide) (by decide) ⟨Nat.le_of_ble_eq_true rfl, Nat.le_of_ble_eq_true rfl⟩ q_566 q_567 q_98 q_568 rfl rfl rfl (zD D_L_acts_0 19 rfl) (fun r88 => ?_)
    refine z_iload_n (pc := 91) C (zD D_L_acts_0 20 rfl) rfl 3 rfl ?_
    refine z_iconst (pc := 92) (v := 3) C (zD D_L_acts_0 21 rfl) (by decide) ?_
    refine z_ishr (pc := 93) C (zD D_L_acts_0 22 rfl) ?_
    refine z_bipush (pc := 94) (v := 91) C (zD D_L_acts_0 23 rfl) (by decide) ?_
    refine z_csR (pc := 96) (As := [.int (p2 >>> ((3 : Int32) &&& 31)), .int (91 : Int32)]) C [.int r88, .ref (B + p0)] (c_L_low _ _ _ _ n (p2 >>> ((3 : Int32) &&& 31)) (91 : Int32) h) zn_L_low (by decide) (by decide) ⟨Nat.le_of_ble_eq_true rfl, Nat.le_of_ble_eq_true rfl⟩ q_566 q_567 q_98 q_568 rfl rfl rfl (zD D_L_acts_0 24 rfl) (fun r96 => ?_)
    refine z_sWI (pc := 99) (z' := (zg Z 0 0 1)) (As := [.ref (B + p0), .int r88, .int r96]) C [] (fun u hu => zMW_of (c_L_setsTown _ hlz _ _ _ n p0 r88 r96 h u hu)) zn_L_setsTown (by decide) (by decide) ⟨Nat.le_of_ble_eq_true rfl, Nat.le_of_ble_eq_true rfl⟩ q_281 q_282 q_98 q_283 rfl rfl rfl (zD D_L_acts_0 25 rfl) (zg_up rfl rfl) (fun r99 h99 => ?_)
    exact z_iretG (pc := 102) C hr (zg_end rfl rfl) rfl (zD D_L_acts_0 26 rfl)
  refine z_ite (fun c2 => ?_) (fun c2 => ?_)
  · refine z_tblIn (pc := 12) C (zD D_L_acts_0 7 rfl) (by rw [c2]; decide) (by rw [c2]; decide) (by rw [c2]; rfl) (tgt := 103) (by decide) ?_
    refine z_aload_n (pc := 103) C (zD D_L_acts_0 27 rfl) rfl 1 rfl ?_
    refine z_iload_n (pc := 104) C (zD D_L_acts_0 28 rfl) rfl 0 rfl ?_
    refine z_iload_n (pc := 105) C (zD D_L_acts_0 29 rfl) rfl 3 rfl ?_
    refine z_iconst (pc := 106) (v := 2) C (zD D_L_acts_0 30 rfl) (by decide) ?_
    refine z_ishr (pc := 107) C (zD D_L_acts_0 31 rfl) ?_
    refine z_bipush (pc := 108) (v := 8) C (zD D_L_acts_0 32 rfl) (by decide) ?_
    refine z_csR (pc := 110) (As := [.int (p2 >>> ((2 : Int32) &&& 31)), .int (8 : Int32)]) C [.int r2, .ref (B + p0)] (c_L_low _ _ _ _ n (p2 >>> ((2 : Int32) &&& 31)) (8 : Int32) h) zn_L_low (by decide) (by decide) ⟨Nat.le_of_ble_eq_true rfl, Nat.le_of_ble_eq_true rfl⟩ q_566 q_567 q_98 q_568 rfl rfl rfl (zD D_L_acts_0 33 rfl) (fun r110 => ?_)
    refine z_iconst (pc := 113) (v := 2) C (zD D_L_acts_0 34 rfl) (by decide) ?_
    refine z_iload_n (pc := 114) C (zD D_L_acts_0 35 rfl) rfl 3 rfl ?_
    refine z_iconst (pc := 115) (v := 5) C (zD D_L_acts_0 36 rfl) (by decide) ?_
    refine z_ishr (pc := 116) C (zD D_L_acts_0 37 rfl) ?_
    refine z_bipush (pc := 117) (v := 7) C (zD D_L_acts_0 38 rfl) (by decide) ?_
    refine z_csR (pc := 119) (As := [.int (p2 >>> ((5 : Int32) &&& 31)), .int (7 : Int32)]) C [.int (2 : Int32), .int r110, .int r2, .ref (B + p0)] (c_L_low _ _ _ _ n (p2 >>> ((5 : Int32) &&& 31)) (7 : Int32) h) zn_L_low (by decide) (by decide) ⟨Nat.le_of_ble_eq_true rfl, Nat.le_of_ble_eq_true rfl⟩ q_566 q_567 q_98 q_568 rfl rfl rfl (zD D_L_acts_0 39 rfl) (fun r119 => ?_)
    refine z_iadd (pc := 122) C (zD D_L_acts_0 40 rfl) ?_
    refine z_sWI (pc := 123) (z' := (zg Z 0 0 1)) (As := [.ref (B + p0), .int r2, .int r110, .int ((2 : Int32) + r119)]) C [] (fun u hu => zMW_of (c_L_starts _ hlz _ _ _ n p0 r2 r110 ((2 : Int32) + r119) h u hu)) zn_L_starts (by decide) (by decide) ⟨Nat.le_of_ble_eq_true rfl, Nat.le_of_ble_eq_true rfl⟩ q_289 q_290 q_98 q_291 rfl rfl rfl (zD D_L_acts_0 41 rfl) (zg_up rfl rfl) (fun r123 h123 => ?_)
    exact z_iretG (pc := 126) C hr (zg_end rfl rfl) rfl (zD D_L_acts_0 42 rfl)
  refine z_ite (fun c3 => ?_) (fun c3 => ?_)
  · refine z_tblIn (pc := 12) C (zD D_L_acts_0 7 rfl) (by rw [c3]; decide) (by rw [c3]; decide) (by rw [c3]; rfl) (tgt := 103) (by decide) ?_
    refine z_aload_n (pc := 103) C (zD D_L_acts_0 27 rfl) rfl 1 rfl ?_
    refine z_iload_n (pc := 104) C (zD D_L_acts_0 28 rfl) rfl 0 rfl ?_
    refine z_iload_n (pc := 105) C (zD D_L_acts_0 29 rfl) rfl 3 rfl ?_
    refine z_iconst (pc := 106) (v := 2) C (zD D_L_acts_0 30 rfl) (by decide) ?_
    refine z_ishr (pc := 107) C (zD D_L_acts_0 31 rfl) ?_
    refine z_bipush (pc := 108) (v := 8) C (zD D_L_acts_0 32 rfl) (by decide) ?_
    refine z_csR (pc := 110) (As := [.int (p2 >>> ((2 : Int32) &&& 31)), .int (8 : Int32)]) C [.int r2, .ref (B + p0)] (c_L_low _ _ _ _ n (p2 >>> ((2 : Int32) &&& 31)) (8 : Int32) h) zn_L_low (by decide) (by decide) ⟨Nat.le_of_ble_eq_true rfl, Nat.le_of_ble_eq_true rfl⟩ q_566 q_567 q_98 q_568 rfl rfl rfl (zD D_L_acts_0 33 rfl) (fun r110_1 => ?_)
    refine z_iconst (pc := 113) (v := 2) C (zD D_L_acts_0 34 rfl) (by decide) ?_
    refine z_iload_n (pc := 114) C (zD D_L_acts_0 35 rfl) rfl 3 rfl ?_
    refine z_iconst (pc := 115) (v := 5) C (zD D_L_acts_0 36 rfl) (by decide) ?_
    refine z_ishr (pc := 116) C (zD D_L_acts_0 37 rfl) ?_
    refine z_bipush (pc := 117) (v := 7) C (zD D_L_acts_0 38 rfl) (by decide) ?_
    refine z_csR (pc := 119) (As := [.int (p2 >>> ((5 : Int32) &&& 31)), .int (7 : Int32)]) C [.int (2 : Int32), .int r110_1, .int r2, .ref (B + p0)] (c_L_low _ _ _ _ n (p2 >>> ((5 : Int32) &&& 31)) (7 : Int32) h) zn_L_low (by decide) (by decide) ⟨Nat.le_of_ble_eq_true rfl, Nat.le_of_ble_eq_true rfl⟩ q_566 q_567 q_98 q_568 rfl rfl rfl (zD D_L_acts_0 39 rfl) (fun r119_1 => ?_)
    refine z_iadd (pc := 122) C (zD D_L_acts_0 40 rfl) ?_
    refine z_sWI (pc := 123) (z' := (zg Z 0 0 1)) (As := [.ref (B + p0), .int r2, .int r110_1, .int ((2 : Int32) + r119_1)]) C [] (fun u hu => zMW_of (c_L_starts _ hlz _ _ _ n p0 r2 r110_1 ((2 : Int32) + r119_1) h u hu)) zn_L_starts (by decide) (by decide) ⟨Nat.le_of_ble_eq_true rfl, Nat.le_of_ble_eq_true rfl⟩ q_289 q_290 q_98 q_291 rfl rfl rfl (zD D_L_acts_0 41 rfl) (zg_up rfl rfl) (fun r123_1 h123_1 => ?_)
    exact z_iretG (pc := 126) C hr (zg_end rfl rfl) rfl (zD D_L_acts_0 42 rfl)
  refine z_ite (fun c4 => ?_) (fun c4 => ?_)
  · refine z_tblIn (pc := 12) C (zD D_L_acts_0 7 rfl) (by rw [c4]; decide) (by rw [c4]; decide) (by rw [c4]; rfl) (tgt := 127) (by decide) ?_
    refine z_aload_n (pc := 127) C (zD D_L_acts_0 43 rfl) rfl 1 rfl ?_
    refine z_iload_n (pc := 128) C (zD D_L_acts_0 44 rfl) rfl 0 rfl ?_
    refine z_sWI (pc := 129) (z' := (zg Z 0 0 1)) (As := [.ref (B + p0), .int r2]) C [] (fun u hu => zMW_of (c_L_buys _ hlz _ _ _ n p0 r2 h u hu)) zn_L_buys (by decide) (by decide) ⟨Nat.le_of_ble_eq_true rfl, Nat.le_of_ble_eq_true rfl⟩ q_327 q_328 q_98 q_329 rfl rfl rfl (zD D_L_acts_0 45 rfl) (zg_up rfl rfl) (fun r129 h129 => ?_)
    exact z_iretG (pc := 132) C hr (zg_end rfl rfl) rfl (zD D_L_acts_0 46 rfl)
  refine z_ite (fun c5 => ?_) (fun c5 => ?_)
  · refine z_tblIn (pc := 12) C (zD D_L_acts_0 7 rfl) (by rw [c5]; decide) (by rw [c5]; decide) (by rw [c5]; rfl) (tgt := 127) (by decide) ?_
    refine z_aload_n (pc := 127) C (zD D_L_acts_0 43 rfl) rfl 1 rfl ?_
    refine z_iload_n (pc := 128) C (zD D_L_acts_0 44 rfl) rfl 0 rfl ?_
    refine z_sWI (pc := 129) (z' := (zg Z 0 0 1)) (As := [.ref (B + p0), .int r2]) C [] (fun u hu => zMW_of (c_L_buys _ hlz _ _ _ n p0 r2 h u hu)) zn_L_buys (by decide) (by decide) ⟨Nat.le_of_ble_eq_true rfl, Nat.le_of_ble_eq_true rfl⟩ q_327 q_328 q_98 q_329 rfl rfl rfl (zD D_L_acts_0 45 rfl) (zg_up rfl rfl) (fun r129_1 h129_1 => ?_)
    exact z_iretG (pc := 132) C hr (zg_end rfl rfl) rfl (zD D_L_acts_0 46 rfl)
  refine z_ite (fun c6 => ?_) (fun c6 => ?_)
  · refine z_tblIn (pc := 12) C (zD D_L_acts_0 7 rfl) (by rw [c6]; decide) (by rw [c6]; decide) (by rw [c6]; rfl) (tgt := 133) (by decide) ?_
    refine z_aload_n (pc := 133) C (zD D_L_acts_0 47 rfl) rfl 1 rfl ?_
    refine z_iload_n (pc := 134) C (zD D_L_acts_0 48 rfl) rfl 0 rfl ?_
    refine z_iconst (pc := 135) (v := 1) C (zD D_L_acts_0 49 rfl) (by decide) ?_
    refine z_iload_n (pc := 136) C (zD D_L_acts_0 50 rfl) rfl 3 rfl ?_
    refine z_iconst (pc := 137) (v := 2) C (zD D_L_acts_0 51 rfl) (by decide) ?_
    refine z_ishr (pc := 138) C (zD D_L_acts_0 52 rfl) ?_
    refine z_iconst (pc := 139) (v := 3) C (zD D_L_acts_0 53 rfl) (by decide) ?_
    refine z_csR (pc := 140) (As := [.int (p2 >>> ((2 : Int32) &&& 31)), .int (3 : Int32)]) C [.int (1 : Int32), .int r2, .ref (B + p0)] (c_L_low _ _ _ _ n (p2 >>> ((2 : Int32) &&& 31)) (3 : Int32) h) zn_L_low (by decide) (by decide) ⟨Nat.le_of_ble_eq_true rfl, Nat.le_of_ble_eq_true rfl⟩ q_566 q_567 q_98 q_568 rfl rfl rfl (zD D_L_acts_0 54 rfl) (fun r140 => ?_)
    refine z_iadd (pc := 143) C (zD D_L_acts_0 55 rfl) ?_
    refine z_sWI (pc := 144) (z' := (zg Z 0 0 1)) (As := [.ref (B + p0), .int r2, .int ((1 : Int32) + r140)]) C [] (fun u hu => zMW_of (c_L_sells _ hlz _ _ _ n p0 r2 ((1 : Int32) + r140) h u hu)) zn_L_sells (by decide) (by decide) ⟨Nat.le_of_ble_eq_true rfl, Nat.le_of_ble_eq_true rfl⟩ q_343 q_344 q_98 q_345 rfl rfl rfl (zD D_L_acts_0 56 rfl) (zg_up rfl rfl) (fun r144 h144 => ?_)
    exact z_iretG (pc := 147) C hr (zg_end rfl rfl) rfl (zD D_L_acts_0 57 rfl)
  refine z_ite (fun c7 => ?_) (fun c7 => ?_)
  · refine z_tblIn (pc := 12) C (zD D_L_acts_0 7 rfl) (by rw [c7]; decide) (by rw [c7]; decide) (by rw [c7]; rfl) (tgt := 148) (by decide) ?_
    refine z_aload_n (pc := 148) C (zD D_L_acts_0 58 rfl) rfl 1 rfl ?_
    refine z_iload_n (pc := 149) C (zD D_L_acts_0 59 rfl) rfl 0 rfl ?_
    refine z_iload_n (pc := 150) C (zD D_L_acts_1 0 rfl) rfl 0 rfl ?_
    refine z_iconst (pc := 151) (v := 1) C (zD D_L_acts_1 1 rfl) (by decide) ?_
    refine z_iadd (pc := 152) C (zD D_L_acts_1 2 rfl) ?_
    refine z_iload_n (pc := 153) C (zD D_L_acts_1 3 rfl) rfl 3 rfl ?_
    refine z_iconst (pc := 154) (v := 2) C (zD D_L_acts_1 4 rfl) (by decide) ?_
    refine z_ishr (pc := 155) C (zD D_L_acts_1 5 rfl) ?_
    refine z_iconst (pc := 156) (v := 3) C (zD D_L_acts_1 6 rfl) (by decide) ?_
    refine z_csR (pc := 157) (As := [.int (p2 >>> ((2 : Int32) &&& 31)), .int (3 : Int32)]) C [.int (r2 + (1 : Int32)), .int r2, .ref (B + p0)] (c_L_low _ _ _ _ n (p2 >>> ((2 : Int32) &&& 31)) (3 : Int32) h) zn_L_low (by decide) (by decide) ⟨Nat.le_of_ble_eq_true rfl, Nat.le_of_ble_eq_true rfl⟩ q_566 q_567 q_98 q_568 rfl rfl rfl (zD D_L_acts_1 7 rfl) (fun r157 => ?_)
    refine z_iadd (pc := 160) C (zD D_L_acts_1 8 rfl) ?_
    refine z_iconst (pc := 161) (v := 4) C (zD D_L_acts_1 9 rfl) (by decide) ?_
    refine z_iremc (pc := 162) C (zD D_L_acts_1 10 rfl) (by decide) ?_
    refine z_sWI (pc := 163) (z' := (zg Z 0 0 1)) (As := [.ref (B + p0), .int r2, .int (zrem ((r2 + (1 : Int32)) + r157) (4 : Int32))]) C [] (fun u hu => zMW_of (c_L_merges _ hlz _ _ _ n p0 r2 (zrem ((r2 + (1 : Int32)) + r157) (4 : Int32)) h u hu)) zn_L_merges (by decide) (by decide) ⟨Nat.le_of_ble_eq_true rfl, Nat.le_of_ble_eq_true rfl⟩ q_364 q_365 q_98 q_366 rfl rfl rfl (zD D_L_acts_1 11 rfl) (zg_up rfl rfl) (fun r163 h163 => ?_)
    exact z_iretG (pc := 166) C hr (zg_end rfl rfl) rfl (zD D_L_acts_1 12 rfl)
  refine z_ite (fun c8 => ?_) (fun c8 => ?_)
  · refine z_tblIn (pc := 12) C (zD D_L_acts_0 7 rfl) (by rw [c8]; decide) (by rw [c8]; decide) (by rw [c8]; rfl) (tgt := 167) (by decide) ?_
    refine z_aload_n (pc := 167) C (zD D_L_acts_1 13 rfl) rfl 1 rfl ?_
    refine z_sWI (pc := 168) (z' := (zg Z 0 0 1)) (As := [.ref (B + p0)]) C [] (fun u hu => zMW_of (c_L_passes _ hlz _ _ _ n p0 h u hu)) zn_L_passes (by decide) (by decide) ⟨Nat.le_of_ble_eq_true rfl, Nat.le_of_ble_eq_true rfl⟩ q_520 q_521 q_98 q_522 rfl rfl rfl (zD D_L_acts_1 14 rfl) (zg_up rfl rfl) (fun r168 h168 => ?_)
    exact z_iretG (pc := 171) C hr (zg_end rfl rfl) rfl (zD D_L_acts_1 15 rfl)
  refine z_ite (fun c9 => ?_) (fun c9 => ?_)
  · refine z_tblIn (pc := 12) C (zD D_L_acts_0 7 rfl) (by rw [c9]; decide) (by rw [c9]; decide) (by rw [c9]; rfl) (tgt := 167) (by decide) ?_
    refine z_aload_n (pc := 167) C (zD D_L_acts_1 13 rfl) rfl 1 rfl ?_
    refine z_sWI (pc := 168) (z' := (zg Z 0 0 1)) (As := [.ref (B + p0)]) C [] (fun u hu => zMW_of (c_L_passes _ hlz _ _ _ n p0 h u hu)) zn_L_passes (by decide) (by decide) ⟨Nat.le_of_ble_eq_true rfl, Nat.le_of_ble_eq_true rfl⟩ q_520 q_521 q_98 q_522 rfl rfl rfl (zD D_L_acts_1 14 rfl) (zg_up rfl rfl) (fun r168_1 h168_1 => ?_)
    exact z_iretG (pc := 171) C hr (zg_end rfl rfl) rfl (zD D_L_acts_1 15 rfl)
  refine z_ite (fun c10 => ?_) (fun c10 => ?_)
  · refine z_tblIn (pc := 12) C (zD D_L_acts_0 7 rfl) (by rw [c10]; decide) (by rw [c10]; decide) (by rw [c10]; rfl) (tgt := 172) (by decide) ?_
    refine z_aload_n (pc := 172) C (zD D_L_acts_1 16 rfl) rfl 1 rfl ?_
    refine z_sWI (pc := 173) (z' := (zg Z 0 0 1)) (As := [.ref (B + p0)]) C [] (fun u hu => zMW_of (c_L_undoes _ hlz _ _ _ n p0 h u hu)) zn_L_undoes (by decide) (by decide) ⟨Nat.le_of_ble_eq_true rfl, Nat.le_of_ble_eq_true rfl⟩ q_96 q_97 q_98 q_99 rfl rfl rfl (zD D_L_acts_1 17 rfl) (zg_up rfl rfl) (fun r173 h173 => ?_)
    exact z_iretG (pc := 176) C hr (zg_end rfl rfl) rfl (zD D_L_acts_1 18 rfl)
  refine z_tblOut (pc := 12) C (zD D_L_acts_0 7 rfl) (z_out _ (fun k h1 h2 => by rcases (show k = 0 ∨ k = 1 ∨ k = 2 ∨ k = 3 ∨ k = 4 ∨ k = 5 ∨ k = 6 ∨ k = 7 ∨ k = 8 ∨ k = 9 ∨ k = 10 by omega) with rfl | rfl | rfl | rfl | rfl | rfl | rfl | rfl | rfl | rfl | rfl; exact fun e => c0 (e.trans (by decide)); exact fun e => c1 (e.trans (by decide)); exact fun e => c2 (e.trans (by decide)); exact fun e => c3 (e.trans (by decide)); exact fun e => c4 (e.trans (by decide)); exact fun e => c5 (e.trans (by decide)); exact fun e => c6 (e.trans (by decide)); exact fun e => c7 (e.trans (by decide)); exact fun e => c8 (e.trans (by decide)); exact fun e => c9 (e.trans (by decide)); exact fun e => c10 (e.trans (by decide)))) (tgt := 177) (by decide) ?_
  refine z_aload_n (pc := 177) C (zD D_L_acts_1 19 rfl) rfl 1 rfl ?_
  refine z_iconst (pc := 178) (v := 3) C (zD D_L_acts_1 20 rfl) (by decide) ?_
  refine z_sWR (pc := 179) (As := [.ref (B + p0), .int (3 : Int32)]) C [] (c_L_values' _ _ _ _ n p0 (3 : Int32) h) zn_L_values (by decide) (by decide) ⟨Nat.le_of_ble_eq_true rfl, Nat.le_of_ble_eq_true rfl⟩ q_263 q_264 q_98 q_265 rfl rfl rfl (zD D_L_acts_1 21 rfl) (fun r179 => ?_)
  refine z_if_ne (pc := 182) C (zD D_L_acts_1 22 rfl) (tgt := 192) (by decide) (fun _ => ?_) (fun _ => ?_)
  · refine z_aload_n (pc := 192) C (zD D_L_acts_1 26 rfl) rfl 1 rfl ?_
    refine z_iload_n (pc := 193) C (zD D_L_acts_1 27 rfl) rfl 2 rfl ?_
    refine z_iconst (pc := 194) (v := 4) C (zD D_L_acts_1 28 rfl) (by decide) ?_
    refine z_ishr (pc := 195) C (zD D_L_acts_1 29 rfl) ?_
    refine z_iload_n (pc := 196) C (zD D_L_acts_1 30 rfl) rfl 3 rfl ?_
    refine z_sCI (pc := 197) (z' := (zg Z 0 0 4)) (As := [.ref (B + p0), .int (p1 >>> ((4 : Int32) &&& 31)), .int p2]) C [] (c_L_isOperated _ hlz _ _ _ n p0 (p1 >>> ((4 : Int32) &&& 31)) p2 h) zn_L_isOperated (by decide) (by decide) ⟨Nat.le_of_ble_eq_true rfl, Nat.le_of_ble_eq_true rfl⟩ q_573 q_574 q_98 q_575 rfl rfl rfl (zD D_L_acts_1 31 rfl) (zg_up rfl rfl) (fun r197 h197 => ?_)
    refine z_if_eq (pc := 200) C (zD D_L_acts_1 32 rfl) (tgt := 207) (by decide) (fun _ => ?_) (fun _ => ?_)
    · refine z_bipush (pc := 207) (v := -7) C (zD D_L_acts_1 35 rfl) (by decide) ?_
      exact z_iretG (pc := 209) C hr (zg_end rfl rfl) rfl (zD D_L_acts_1 36 rfl)
    · refine z_iconst (pc := 203) (v := 1) C (zD D_L_acts_1 33 rfl) (by decide) ?_
      refine z_goto (pc := 204) C (zD D_L_acts_1 34 rfl) (tgt := 209) (by decide) ?_
      exact z_iretG (pc := 209) C hr (zg_end rfl rfl) rfl (zD D_L_acts_1 36 rfl)
  · refine z_aload_n (pc := 185) C (zD D_L_acts_1 23 rfl) rfl 1 rfl ?_
    refine z_sWI (pc := 186) (z' := (zg Z 0 0 1)) (As := [.ref (B + p0)]) C [] (fun u hu => zMW_of (c_L_passes _ hlz _ _ _ n p0 h u hu)) zn_L_passes (by decide) (by decide) ⟨Nat.le_of_ble_eq_true rfl, Nat.le_of_ble_eq_true rfl⟩ q_520 q_521 q_98 q_522 rfl rfl rfl (zD D_L_acts_1 24 rfl) (zg_up rfl rfl) (fun r186 h186 => ?_)
    refine z_goto (pc := 189) C (zD D_L_acts_1 25 rfl) (tgt := 209) (by decide) ?_
    exact z_iretG (pc := 209) C hr (zg_end rfl rfl) rfl (zD D_L_acts_1 36 rfl)
