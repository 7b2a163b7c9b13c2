def f_X1_sellShares (n : Nat) (this : Nat) (p0 : Int32) (p1 : Int32) (p2 : Int32) (h : zH) : Option (zH) := (zgR h this 1 2).bind fun (v1 : Nat) => (zar h v1 3 p1).bind fun (v5 : Nat) => (zgI h v5 0 4).bind fun (v14 : Int32) => (f_X0_priceAt n v14 h).bind fun (r17 : Int32) => zrc h this 1 <| (f_X1_playerPays n this p0 ((-p2) * r17) h).bind fun (h21 : zH) => (zgR h21 v5 0 0).bind fun (v26 : Nat) => (zai h21 v26 p0).bind fun (v31 : Int32) => (zsi h21 v26 p0 (v31 - p2)).bind fun (h34 : zH) => zrc h34 v5 0 <| (f_X0_fall n v5 h34).bind fun (h37 : zH) => zrc h37 v5 0 <| (f_X0_findPresident n v5 h37).bind fun (h42 : zH) => some h42
theorem zn_X1_sellShares : zNm yX1_sellShares 3 := ⟨by decide +kernel, by decide +kernel⟩
set_option maxRecDepth 100000 in
set_option maxHeartbeats 4000000 in
theorem c_X1_sellShares (l : Launch) (B : Nat) (D : va_G) (cA : Nat → ClassId) (n : Nat) (this : Nat) (p0 : Int32) (p1 : Int32) (p2 : Int32) (h : zH) : ∀ u, f_X1_sellShares n this p0 p1 p2 h = some u → zM l B D cA yX1_sellShares cX1_sellShares 5 none 2 0 0 none [.ref (B + this), .int p0, .int p1, .int p2] h ((fun h1 : zH => ((none : Option Value), h1)) u).1 ((fun h1 : zH => ((none : Option Value), h1)) u).2 := by
  unfold f_X1_sellShares
  refine z_met (own := RX1) (fun h1 : zH => ((none : Option Value), h1)) rfl (by decide) rfl (fun Z C hr _ _ => ?_)
  have hz0 : (z00 Z).1 ≤ 0 ∧ (z00 Z).2.1 ≤ 0 := ⟨Nat.le_refl 0, Nat.le_refl 0⟩
  refine z_aload_n (pc := 0) C (zD D_X1_sellShares_0 0 rfl) rfl 0 rfl ?_
  refine z_getR (pc := 1) C zc1 2 (by decide) q_40 (zD D_X1_sellShares_0 1 rfl) (fun v1 => ?_)
  refine z_iload_n (pc := 4) C (zD D_X1_sellShares_0 2 rfl) rfl 2 rfl ?_
  refine z_arload (pc := 5) C (c := 3) (by decide) rfl (zD D_X1_sellShares_0 3 rfl) (fun v5 => ?_)
  refine z_astore (pc := 6) (lv' := [(4, .ref (B + v5)), (0, .ref (B + this)), (1, .int p0), (2, .int p1), (3, .int p2)]) C (zD D_X1_sellShares_0 4 rfl) (by decide) rfl ?_
  refine z_aload_n (pc := 8) C (zD D_X1_sellShares_0 5 rfl) rfl 1 rfl ?_
  refine z_iload_n (pc := 9) C (zD D_X1_sellShares_0 6 rfl) rfl 2 rfl ?_
  refine z_iload_n (pc := 10) C (zD D_X1_sellShares_0 7 rfl) rfl 4 rfl ?_
  refine z_ineg (pc := 11) C (zD D_X1_sellShares_0 8 rfl) ?_
  refine z_aload (pc := 12) C (zD D_X1_sellShares_0 9 rfl) 0 rfl ?_
  refine z_getI (pc := 14) C zc0 4 (by decide) q_359 (zD D_X1_sellShares_0 10 rfl) (fun v14 => ?_)
  refine z_csR (pc := 17) (As := [.int v14]) C [.int (-p2), .int p0, .ref (B + this)] (c_X0_priceAt _ _ _ _ n v14 h) zn_X0_priceAt (by decide) (by decide) hz0 q_301 q_180 q_45 q_181 rfl rfl rfl (zD D_X1_sellShares_0 11 rfl) (fun r17 => ?_)
  refine z_imul (pc := 20) C (zD D_X1_sellShares_0 12 rfl) ?_
  refine z_cvV (pc := 21) (As := [.int p0, .int ((-p2) * r17)]) C [] (c_X1_playerPays _ _ _ _ n this p0 ((-p2) * r17) h) zn_X1_playerPays (by decide) (by decide) hz0 zc1 rfl q_311 q_312 q_313 q_16 q_314 rfl rfl rfl (zD D_X1_sellShares_0 13 rfl) (fun h21 => ?_)
  refine z_aload (pc := 24) C (zD D_X1_sellShares_0 14 rfl) 0 rfl ?_
  refine z_getR (pc := 26) C zc0 0 (by decide) q_174 (zD D_X1_sellShares_0 15 rfl) (fun v26 => ?_)
  refine z_iload_n (pc := 29) C (zD D_X1_sellShares_0 16 rfl) rfl 2 rfl ?_
  refine z_dup2 (pc := 30) C (zD D_X1_sellShares_0 17 rfl) rfl rfl ?_
  refine z_aiload (pc := 31) C (zD D_X1_sellShares_0 18 rfl) (fun v31 => ?_)
  refine z_iload_n (pc := 32) C (zD D_X1_sellShares_0 19 rfl) rfl 4 rfl ?_
  refine z_isub (pc := 33) C (zD D_X1_sellShares_0 20 rfl) ?_
  refine z_aistore (pc := 34) C (zD D_X1_sellShares_0 21 rfl) (fun h34 => ?_)
  refine z_aload (pc := 35) C (zD D_X1_sellShares_0 22 rfl) 0 rfl ?_
  refine z_cvV (pc := 37) (As := []) C [] (c_X0_fall _ _ _ _ n v5 h34) zn_X0_fall (by decide) (by decide) hz0 zc0 rfl q_360 q_361 q_362 q_45 q_363 rfl rfl rfl (zD D_X1_sellShares_0 23 rfl) (fun h37 => ?_)
  refine z_aload (pc := 40) C (zD D_X1_sellShares_0 24 rfl) 0 rfl ?_
  refine z_cvV (pc := 42) (As := []) C [] (c_X0_findPresident _ _ _ _ n v5 h37) zn_X0_findPresident (by decide) (by decide) hz0 zc0 rfl q_315 q_316 q_317 q_45 q_318 rfl rfl rfl (zD D_X1_sellShares_0 25 rfl) (fun h42 => ?_)
  exact z_vret (pc := 45) C hr rfl (zD D_X1_sellShares_0 26 rfl)
def f_X1_unsoldShares (n : Nat) (this : Nat) (h : zH) : Option (Int32) := zfix2 (fun rec4 (a1_4 : Int32) (a2_4 : Int32) => if (4 : Int32) ≤ a2_4 then (some a1_4) else ((zgR h this 1 2).bind fun (v11 : Nat) => (zar h v11 3 a2_4).bind fun (v15 : Nat) => (zgI h v15 0 1).bind fun (v16 : Int32) => zlet (fun (s0_35 : Int32) => zlet ((a1_4 + s0_35)) fun (x36 : Int32) => zlet (a2_4 + 1) fun (x37 : Int32) => rec4 x36 x37) fun K35 => if v16 = 0 then (K35 (0 : Int32)) else ((zgR h this 1 2).bind fun (v23 : Nat) => (zar h v23 3 a2_4).bind fun (v27 : Nat) => zrc h v27 0 <| (f_X0_bankShares n v27 h).bind fun (r28 : Int32) => K35 r28))) n (0 : Int32) (0 : Int32)
theorem zn_X1_unsoldShares : zNm yX1_unsoldShares 0 := ⟨by decide +kernel, by decide +kernel⟩
set_option maxRecDepth 100000 in
set_option maxHeartbeats 4000000 in
theorem c_X1_unsoldShares (l : Launch) (B : Nat) (D : va_G) (cA : Nat → ClassId) (n : Nat) (this : Nat) (h : zH) : ∀ u, f_X1_unsoldShares n this h = some u → zM l B D cA yX1_unsoldShares cX1_unsoldShares 3 (some .int) 2 0 0 none [.ref (B + this)] h ((fun r : Int32 => (some (Value.int r), h)) u).1 ((fun r : Int32 => (some (Value.int r), h)) u).2 := by
  unfold f_X1_unsoldShares
  refine z_met (own := RX1) (fun r : Int32 => (some (Value.int r), h)) rfl (by decide) rfl (fun Z C hr _ _ => ?_)
  have hz0 : (z00 Z).1 ≤ 0 ∧ (z00 Z).2.1 ≤ 0 := ⟨Nat.le_refl 0, Nat.le_refl 0⟩
  refine z_iconst (pc := 0) (v := 0) C (zD D_X1_unsoldShares_0 0 rfl) (by decide) ?_
  refine z_istore_n (pc := 1) (lv' := [(1, .int (0 : Int32)), (0, .ref (B + this))]) C (zD D_X1_unsoldShares_0 1 rfl) rfl (by decide) rfl ?_
  refine z_iconst (pc := 2) (v := 0) C (zD D_X1_unsoldShares_0 2 rfl) (by decide) ?_
  refine z_istore_n (pc := 3) (lv' := [(2, .int (0 : Int32)), (1, .int (0 : Int32)), (0, .ref (B + this))]) C (zD D_X1_unsoldShares_0 3 rfl) rfl (by decide) rfl ?_
  refine z_sub [2, 1, 0] (lv' := [(0, .ref (B + this)), (1, .int (0 : Int32)), (2, .int (0 : Int32))]) rfl ?_
  refine z_fix2 (fun g4 => ∀ (a1_4 : Int32) (a2_4 : Int32), zJ B Z (zEnd B Z (fun r : Int32 => (some (Value.int r), h)) 0 0) (g4 a1_4 a2_4) 4 [(0, .ref (B + this)), (1, .int a1_4), (2, .int a2_4)] [] h (z00 Z)) (fun _ _ => z_none) (fun rec4 hrec4 a1_4 a2_4 => ?_) n (0 : Int32) (0 : Int32)
  refine z_iload_n (pc := 4) C (zD D_X1_unsoldShares_0 4 rfl) rfl 2 rfl ?_
  refine z_iconst (pc := 5) (v := 4) C (zD D_X1_unsoldShares_0 5 rfl) (by decide) ?_
  refine z_icmp_ge (pc := 6) C (zD D_X1_unsoldShares_0 6 rfl) (tgt := 43) (by decide) (fun _ => ?_) (fun _ => ?_)
  · refine z_iload_n (pc := 43) C (zD D_X1_unsoldShares_0 25 rfl) rfl 1 rfl ?_
    exact z_iret (pc := 44) C hr rfl (zD D_X1_unsoldShares_0 26 rfl)
  · refine z_iload_n (pc := 9) C (zD D_X1_unsoldShares_0 7 rfl) rfl 1 rfl ?_
    refine z_aload_n (pc := 10) C (zD D_X1_unsoldShares_0 8 rfl) rfl 0 rfl ?_
    refine z_getR (pc := 11) C zc1 2 (by decide) q_40 (zD D_X1_unsoldShares_0 9 rfl) (fun v11 => ?_)
    refine z_iload_n (pc := 14) C (zD D_X1_unsoldShares_0 10 rfl) rfl 2 rfl ?_
    refine z_arload (pc := 15) C (c := 3) (by decide) rfl (zD D_X1_unsoldShares_0 11 rfl) (fun v15 => ?_)
    refine z_getI (pc := 16) C zc0 1 (by decide) q_160 (zD D_X1_unsoldShares_0 12 rfl) (fun v16 => ?_)
    refine z_letg (fun K35 => ∀ (s0_35 : Int32), zJ B Z (zEnd B Z (fun r : Int32 => (some (Value.int r), h)) 0 0) (K35 s0_35) 35 [(0, .ref (B + this)), (2, .int a2_4)] [.int s0_35, .int a1_4] h (z00 Z)) (fun s0_35 => ?_) (fun K35 hK35 => ?_)
    · refine z_iadd (pc := 35) C (zD D_X1_unsoldShares_0 21 rfl) ?_
      refine z_istore_nL (pc := 36) (lv' := fun x36 => [(1, .int x36), (0, .ref (B + this)), (2, .int a2_4)]) C (zD D_X1_unsoldShares_0 22 rfl) rfl (by decide) (fun _ => rfl) (fun x36 => ?_)
      refine z_iincL (pc := 37) (lv' := fun x37 => [(2, .int x37), (1, .int x36), (0, .ref (B + this))]) C (zD D_X1_unsoldShares_0 23 rfl) 2 rfl (v := a2_4 + 1) rfl (by decide) (fun _ => rfl) (fun x37 => ?_)
      refine z_goto (pc := 40) C (zD D_X1_unsoldShares_0 24 rfl) (tgt := 4) (by decide) ?_
      refine z_sub [2, 1, 0] (lv' := [(0, .ref (B + this)), (1, .int x36), (2, .int x37)]) rfl ?_
      exact hrec4 x36 x37
    refine z_if_eq (pc := 19) C (zD D_X1_unsoldShares_0 13 rfl) (tgt := 34) (by decide) (fun _ => ?_) (fun _ => ?_)
    · refine z_iconst (pc := 34) (v := 0) C (zD D_X1_unsoldShares_0 20 rfl) (by decide) ?_
      refine z_sub [0, 2] (lv' := [(0, .ref (B + this)), (2, .int a2_4)]) rfl ?_
      exact hK35 (0 : Int32)
    · refine z_aload_n (pc := 22) C (zD D_X1_unsoldShares_0 14 rfl) rfl 0 rfl ?_
      refine z_getR (pc := 23) C zc1 2 (by decide) q_40 (zD D_X1_unsoldShares_0 15 rfl) (fun v23 => ?_)
      refine z_iload_n (pc := 26) C (zD D_X1_unsoldShares_0 16 rfl) rfl 2 rfl ?_
      refine z_arload (pc := 27) C (c := 3) (by decide) rfl (zD D_X1_unsoldShares_0 17 rfl) (fun v27 => ?_)
      refine z_cvR (pc := 28) (As := []) C [.int a1_4] (c_X0_bankShares _ _ _ _ n v27 h) zn_X0_bankShares (by decide) (by decide) hz0 zc0 rfl q_338 q_246 q_247 q_45 q_248 rfl rfl rfl (zD D_X1_unsoldShares_0 18 rfl) (fun r28 => ?_)
      refine z_goto (pc := 31) C (zD D_X1_unsoldShares_0 19 rfl) (tgt := 35) (by decide) ?_
      refine z_sub [0, 2] (lv' := [(0, .ref (B + this)), (2, .int a2_4)]) rfl ?_
      exact hK35 r28
def f_X1_buyShare (n : Nat) (this : Nat) (p0 : Int32) (h : zH) : Option (Int32 × zH) := (zgR h this 1 2).bind fun (v1 : Nat) => (zar h v1 3 p0).bind fun (v5 : Nat) => (zgI h this 1 9).bind fun (v9 : Int32) => zrc h v5 0 <| (f_X0_price n v5 h).bind fun (r13 : Int32) => zrc h this 1 <| (f_X1_playerPays n this v9 r13 h).bind fun (h16 : zH) => (zgR h16 v5 0 0).bind fun (v20 : Nat) => (zgI h16 this 1 9).bind fun (v24 : Int32) => (zai h16 v20 v24).bind fun (v28 : Int32) => (zsi h16 v20 v24 (v28 + (1 : Int32))).bind fun (h31 : zH) => zrc h31 v5 0 <| (f_X0_findPresident n v5 h31).bind fun (h33 : zH) => (zgR h33 v5 0 0).bind fun (v37 : Nat) => (zgI h33 this 1 9).bind fun (v41 : Int32) => (zai h33 v37 v41).bind fun (v44 : Int32) => zrc h33 this 1 <| (f_X1_endActiveTurn n this h33).bind fun (h47 : zH) => some (v44, h47)
theorem zn_X1_buyShare : zNm yX1_buyShare 1 := ⟨by decide +kernel, by decide +kernel⟩
set_option maxRecDepth 100000 in
set_option maxHeartbeats 4000000 in
theorem c_X1_buyShare (l : Launch) (B : Nat) (D : va_G) (cA : Nat → ClassId) (n : Nat) (this : Nat) (p0 : Int32) (h : zH) : ∀ u, f_X1_buyShare n this p0 h = some u → zM l B D cA yX1_buyShare cX1_buyShare 4 (some .int) 3 0 0 none [.ref (B + this), .int p0] h ((fun u : Int32 × zH => (some (Value.int u.1), u.2)) u).1 ((fun u : Int32 × zH => (some (Value.int u.1), u.2)) u).2 := by
  unfold f_X1_buyShare
  refine z_met (own := RX1) (fun u : Int32 × zH => (some (Value.int u.1), u.2)) rfl (by decide) rfl (fun Z C hr _ _ => ?_)
  have hz0 : (z00 Z).1 ≤ 0 ∧ (z00 Z).2.1 ≤ 0 := ⟨Nat.le_refl 0, Nat.le_refl 0⟩
  refine z_aload_n (pc := 0) C (zD D_X1_buyShare_0 0 rfl) rfl 0 rfl ?_
  refine z_getR (pc := 1) C zc1 2 (by decide) q_40 (zD D_X1_buyShare_0 1 rfl) (fun v1 => ?_)
  refine z_iload_n (pc := 4) C (zD D_X1_buyShare_0 2 rfl) rfl 1 rfl ?_
  refine z_arload (pc := 5) C (c := 3) (by decide) rfl (zD D_X1_buyShare_0 3 rfl) (fun v5 => ?_)
  refine z_astore_n (pc := 6) (lv' := [(2, .ref (B + v5)), (0, .ref (B + this)), (1, .int p0)]) C (zD D_X1_buyShare_0 4 rfl) rfl (by decide) rfl ?_
  refine z_aload_n (pc := 7) C (zD D_X1_buyShare_0 5 rfl) rfl 1 rfl ?_
  refine z_aload_n (pc := 8) C (zD D_X1_buyShare_0 6 rfl) rfl 1 rfl ?_
  refine z_getI (pc := 9) C zc1 9 (by decide) q_65 (zD D_X1_buyShare_0 7 rfl) (fun v9 => ?_)
  refine z_aload_n (pc := 12) C (zD D_X1_buyShare_0 8 rfl) rfl 0 rfl ?_
  refine z_cvR (pc := 13) (As := []) C [.int v9, .ref (B + this)] (c_X0_price _ _ _ _ n v5 h) zn_X0_price (by decide) (by decide) hz0 zc0 rfl q_175 q_176 q_177 q_45 q_178 rfl rfl rfl (zD D_X1_buyShare_0 9 rfl) (fun r13 => ?_)
  refine z_cvV (pc := 16) (As := [.int v9, .int r13]) C [] (c_X1_playerPays _ _ _ _ n this v9 r13 h) zn_X1_playerPays (by decide) (by decide) hz0 zc1 rfl q_311 q_312 q_313 q_16 q_314 rfl rfl rfl (zD D_X1_buyShare_0 10 rfl) (fun h16 => ?_)
  refine z_aload_n (pc := 19) C (zD D_X1_buyShare_0 11 rfl) rfl 0 rfl ?_
  refine z_getR (pc := 20) C zc0 0 (by decide) q_174 (zD D_X1_buyShare_0 12 rfl) (fun v20 => ?_)
  refine z_aload_n (pc := 23) C (zD D_X1_buyShare_0 13 rfl) rfl 1 rfl ?_
  refine z_getI (pc := 24) C zc1 9 (by decide) q_65 (zD D_X1_buyShare_0 14 rfl) (fun v24 => ?_)
  refine z_dup2 (pc := 27) C (zD D_X1_buyShare_0 15 rfl) rfl rfl ?_
  refine z_aiload (pc := 28) C (zD D_X1_buyShare_0 16 rfl) (fun v28 => ?_)
  refine z_iconst (pc := 29) (v := 1) C (zD D_X1_buyShare_0 17 rfl) (by decide) ?_
  refine z_iadd (pc := 30) C (zD D_X1_buyShare_0 18 rfl) ?_
  refine z_aistore (pc := 31) C (zD D_X1_buyShare_0 19 rfl) (fun h31 => ?_)
  refine z_aload_n (pc := 32) C (zD D_X1_buyShare_0 20 rfl) rfl 0 rfl ?_
  refine z_cvV (pc := 33) (As := []) C [] (c_X0_findPresident _ _ _ _ n v5 h31) zn_X0_findPresident (by decide) (by decide) hz0 zc0 rfl q_315 q_316 q_317 q_45 q_318 rfl rfl rfl (zD D_X1_buyShare_0 21 rfl) (fun h33 => ?_)
  refine z_aload_n (pc := 36) C (zD D_X1_buyShare_0 22 rfl) rfl 0 rfl ?_
  refine z_getR (pc := 37) C zc0 0 (by decide) q_174 (zD D_X1_buyShare_0 23 rfl) (fun v37 => ?_)
  refine z_aload_n (pc := 40) C (zD D_X1_buyShare_0 24 rfl) rfl 1 rfl ?_
  refine z_getI (pc := 41) C zc1 9 (by decide) q_65 (zD D_X1_buyShare_0 25 rfl) (fun v41 => ?_)
  refine z_aiload (pc := 44) C (zD D_X1_buyShare_0 26 rfl) (fun v44 => ?_)
  refine z_istore_n (pc := 45) (lv' := [(3, .int v44), (2, .ref (B + v5)), (0, .ref (B + this)), (1, .int p0)]) C (zD D_X1_buyShare_0 27 rfl) rfl (by decide) rfl ?_
  refine z_aload_n (pc := 46) C (zD D_X1_buyShare_0 28 rfl) rfl 2 rfl ?_
  refine z_cvV (pc := 47) (As := []) C [] (c_X1_endActiveTurn _ _ _ _ n this h33) zn_X1_endActiveTurn (by decide) (by decide) hz0 zc1 rfl q_319 q_320 q_321 q_16 q_322 rfl rfl rfl (zD D_X1_buyShare_0 29 rfl) (fun h47 => ?_)
  refine z_iload_n (pc := 50) C (zD D_X1_buyShare_0 30 rfl) rfl 0 rfl ?_
  exact z_iret (pc := 51) C hr rfl (zD D_X1_buyShare_0 31 rfl)
def f_X1_canBuy (n : Nat) (this : Nat) (p0 : Int32) (h : zH) : Option (Int32) := (zgR h this 1 2).bind fun (v1 : Nat) => (zar h v1 3 p0).bind fun (v5 : Nat) => (zgI h this 1 11).bind fun (v8 : Int32) => zlet (some (0 : Int32)) fun K62 => if v8 = 0 then ((zgI h v5 0 1).bind fun (v15 : Int32) => if v15 = 0 then (K62) else (zrc h v5 0 <| (f_X0_bankShares n v5 h).bind fun (r22 : Int32) => if r22 ≤ 0 then (K62) else ((zgR h v5 0 0).bind fun (v29 : Nat) => (zgI h this 1 9).bind fun (v33 : Int32) => (zai h v29 v33).bind fun (v36 : Int32) => if (6 : Int32) ≤ v36 then (K62) else ((zgR h this 1 3).bind fun (v43 : Nat) => (zgI h this 1 9).bind fun (v47 : Int32) => (zai h v43 v47).bind fun (v50 : Int32) => zrc h v5 0 <| (f_X0_price n v5 h).bind fun (r52 : Int32) => if v50 < r52 then (K62) else (some (1 : Int32)))))) else (K62)
theorem zn_X1_canBuy : zNm yX1_canBuy 1 := ⟨by decide +kernel, by decide +kernel⟩
set_option maxRecDepth 100000 in
set_option maxHeartbeats 4000000 in
theorem c_X1_canBuy (l : Launch) (B : Nat) (D : va_G) (cA : Nat → ClassId) (n : Nat) (this : Nat) (p0 : Int32) (h : zH) : ∀ u, f_X1_canBuy n this p0 h = some u → zM l B D cA yX1_canBuy cX1_canBuy 3 (some .boolean) 3 0 0 none [.ref (B + this), .int p0] h ((fun r : Int32 => (some (Value.int r), h)) u).1 ((fun r : Int32 => (some (Value.int r), h)) u).2 := by
  unfold f_X1_canBuy
  refine z_met (own := RX1) (fun r : Int32 => (some (Value.int r), h)) rfl (by decide) rfl (fun Z C hr _ _ => ?_)
  have hz0 : (z00 Z).1 ≤ 0 ∧ (z00 Z).2.1 ≤ 0 := ⟨Nat.le_refl 0, Nat.le_refl 0⟩
  refine z_aload_n (pc := 0) C (zD D_X1_canBuy_0 0 rfl) rfl 0 rfl ?_
  refine z_getR (pc := 1) C zc1 2 (by decide) q_40 (zD D_X1_canBuy_0 1 rfl) (fun v1 => ?_)
  refine z_iload_n (pc := 4) C (zD D_X1_canBuy_0 2 rfl) rfl 1 rfl ?_
  refine z_arload (pc := 5) C (c := 3) (by decide) rfl (zD D_X1_canBuy_0 3 rfl) (fun v5 => ?_)
  refine z_astore_n (pc := 6) (lv' := [(2, .ref (B + v5)), (0, .ref (B + this)), (1, .int p0)]) C (zD D_X1_canBuy_0 4 rfl) rfl (by decide) rfl ?_
  refine z_aload_n (pc := 7) C (zD D_X1_canBuy_0 5 rfl) rfl 1 rfl ?_
  refine z_getI (pc := 8) C zc1 11 (by decide) q_67 (zD D_X1_canBuy_0 6 rfl) (fun v8 => ?_)
  refine z_letg (fun K62 => zJ B Z (zEnd B Z (fun r : Int32 => (some (Value.int r), h)) 0 0) (K62) 62 [] [] h (z00 Z)) ?_ (fun K62 hK62 => ?_)
  · refine z_iconst (pc := 62) (v := 0) C (zD D_X1_canBuy_0 31 rfl) (by decide) ?_
    exact z_zret (pc := 63) C hr (by decide) rfl (zD D_X1_canBuy_0 32 rfl)
  refine z_if_ne (pc := 11) C (zD D_X1_canBuy_0 7 rfl) (tgt := 62) (by decide) (fun _ => ?_) (fun _ => ?_)
  · refine z_sub [] (lv' := []) rfl ?_
    exact hK62
  · refine z_aload_n (pc := 14) C (zD D_X1_canBuy_0 8 rfl) rfl 0 rfl ?_
    refine z_getI (pc := 15) C zc0 1 (by decide) q_160 (zD D_X1_canBuy_0 9 rfl) (fun v15 => ?_)
    refine z_if_eq (pc := 18) C (zD D_X1_canBuy_0 10 rfl) (tgt := 62) (by decide) (fun _ => ?_) (fun _ => ?_)
    · refine z_sub [] (lv' := []) rfl ?_
      exact hK62
    · refine z_aload_n (pc := 21) C (zD D_X1_canBuy_0 11 rfl) rfl 0 rfl ?_
      refine z_cvR (pc := 22) (As := []) C [] (c_X0_bankShares _ _ _ _ n v5 h) zn_X0_bankShares (by decide) (by decide) hz0 zc0 rfl q_338 q_246 q_247 q_45 q_248 rfl rfl rfl (zD D_X1_canBuy_0 12 rfl) (fun r22 => ?_)
      refine z_if_le (pc := 25) C (zD D_X1_canBuy_0 13 rfl) (tgt := 62) (by decide) (fun _ => ?_) (fun _ => ?_)
      · refine z_sub [] (lv' := []) rfl ?_
        exact hK62
      · refine z_aload_n (pc := 28) C (zD D_X1_canBuy_0 14 rfl) rfl 0 rfl ?_
        refine z_getR (pc := 29) C zc0 0 (by decide) q_174 (zD D_X1_canBuy_0 15 rfl) (fun v29 => ?_)
        refine z_aload_n (pc := 32) C (zD D_X1_canBuy_0 16 rfl) rfl 1 rfl ?_
        refine z_getI (pc := 33) C zc1 9 (by decide) q_65 (zD D_X1_canBuy_0 17 rfl) (fun v33 => ?_)
        refine z_aiload (pc := 36) C (zD D_X1_canBuy_0 18 rfl) (fun v36 => ?_)
        refine z_bipush (pc := 37) (v := 6) C (zD D_X1_canBuy_0 19 rfl) (by decide) ?_
        refine z_icmp_ge (pc := 39) C (zD D_X1_canBuy_0 20 rfl) (tgt := 62) (by decide) (fun _ => ?_) (fun _ => ?_)
        · refine z_sub [] (lv' := []) rfl ?_
          exact hK62
        · refine z_aload_n (pc := 42) C (zD D_X1_canBuy_0 21 rfl) rfl 1 rfl ?_
          refine z_getR (pc := 43) C zc1 3 (by decide) q_41 (zD D_X1_canBuy_0 22 rfl) (fun v43 => ?_)
          refine z_aload_n (pc := 46) C (zD D_X1_canBuy_0 23 rfl) rfl 1 rfl ?_
          refine z_getI (pc := 47) C zc1 9 (by decide) q_65 (zD D_X1_canBuy_0 24 rfl) (fun v47 => ?_)
          refine z_aiload (pc := 50) C (zD D_X1_canBuy_0 25 rfl) (fun v50 => ?_)
          refine z_aload_n (pc := 51) C (zD D_X1_canBuy_0 26 rfl) rfl 0 rfl ?_
          refine z_cvR (pc := 52) (As := []) C [.int v50] (c_X0_price _ _ _ _ n v5 h) zn_X0_price (by decide) (by decide) hz0 zc0 rfl q_175 q_176 q_177 q_45 q_178 rfl rfl rfl (zD D_X1_canBuy_0 27 rfl) (fun r52 => ?_)
          refine z_icmp_lt (pc := 55) C (zD D_X1_canBuy_0 28 rfl) (tgt := 62) (by decide) (fun _ => ?_) (fun _ => ?_)
          · refine z_sub [] (lv' := []) rfl ?_
            exact hK62
          · refine z_iconst (pc := 58) (v := 1) C (zD D_X1_canBuy_0 29 rfl) (by decide) ?_
            refine z_goto (pc := 59) C (zD D_X1_canBuy_0 30 rfl) (tgt := 63) (by decide) ?_
            exact z_zret (pc := 63) C hr (by decide) rfl (zD D_X1_canBuy_0 32 rfl)
def f_X1_canLay (n : Nat) (this : Nat) (p0 : Nat) (p1 : Int32) (p2 : Int32) (h : zH) : Option (Int32 × zH) := (f_X5_isTown n p1 h).bind fun (r1 : Int32) => if r1 = 0 then (some ((0 : Int32), h)) else ((f_X5_isTown n p2 h).bind fun (r8 : Int32) => if r8 = 0 then (some ((0 : Int32), h)) else (if p1 = p2 then (some ((0 : Int32), h)) else ((zgR h this 1 1).bind fun (v22 : Nat) => (zgR h v22 2 1).bind fun (v25 : Nat) => (zar h v25 2 p1).bind fun (v29 : Nat) => (zai h v29 p2).bind fun (v31 : Int32) => if (2 : Int32) ≤ v31 then (some ((0 : Int32), h)) else ((zgI h p0 0 3).bind fun (v41 : Int32) => if ((20 : Int32) * (v31 + (1 : Int32))) ≤ v41 then ((zgR h this 1 0).bind fun (v57 : Nat) => (zgR h this 1 1).bind fun (v61 : Nat) => (zgI h p0 0 2).bind fun (v65 : Int32) => zrc h v57 3 <| (f_X3_measure n v57 v61 v65 h).bind fun (h68 : zH) => (zgR h68 this 1 0).bind fun (v72 : Nat) => zrc h68 v72 3 <| (f_X3_reached n v72 p1 h68).bind fun (r76 : Int32) => zlet (some ((1 : Int32), h68)) fun K93 => if r76 = 0 then ((zgR h68 this 1 0).bind fun (v83 : Nat) => zrc h68 v83 3 <| (f_X3_reached n v83 p2 h68).bind fun (r87 : Int32) => if r87 = 0 then (some ((0 : Int32), h68)) else (K93)) else (K93)) else (some ((0 : Int32), h))))))
theorem zn_X1_canLay : zNm yX1_canLay 3 := ⟨by decide +kernel, by decide +kernel⟩
set_option maxRecDepth 100000 in
set_option maxHeartbeats 4000000 in
theorem c_X1_canLay (l : Launch) (B : Nat) (D : va_G) (cA : Nat → ClassId) (n : Nat) (this : Nat) (p0 : Nat) (p1 : Int32) (p2 : Int32) (h : zH) : ∀ u, f_X1_canLay n this p0 p1 p2 h = some u → zM l B D cA yX1_canLay cX1_canLay 5 (some .boolean) 3 0 0 none [.ref (B + this), .ref (B + p0), .int p1, .int p2] h ((fun u : Int32 × zH => (some (Value.int u.1), u.2)) u).1 ((fun u : Int32 × zH => (some (Value.int u.1), u.2)) u).2 := by
  unfold f_X1_canLay
  refine z_met (own := RX1) (fun u : Int32 × zH => (some (Value.int u.1), u.2)) rfl (by decide) rfl (fun Z C hr _ _ => ?_)
  have hz0 : (z00 Z).1 ≤ 0 ∧ (z00 Z).2.1 ≤ 0 := ⟨Nat.le_refl 0, Nat.le_refl 0⟩
  refine z_iload_n (pc := 0) C (zD D_X1_canLay_0 0 rfl) rfl 2 rfl ?_
  refine z_cnR (pc := 1) (As := [.int p1]) C [] (c_X5_isTown _ _ _ _ n p1 h) zn_X5_isTown (by decide) (by decide) hz0 C.nest q_256 q_2 q_257 rfl rfl rfl (zD D_X1_canLay_0 1 rfl) (fun r1 => ?_)
  refine z_if_eq (pc := 4) C (zD D_X1_canLay_0 2 rfl) (tgt := 19) (by decide) (fun _ => ?_) (fun _ => ?_)
  · refine z_iconst (pc := 19) (v := 0) C (zD D_X1_canLay_0 9 rfl) (by decide) ?_
    exact z_zret (pc := 20) C hr (by decide) rfl (zD D_X1_canLay_0 10 rfl)
  · refine z_iload_n (pc := 7) C (zD D_X1_canLay_0 3 rfl) rfl 3 rfl ?_
    refine z_cnR (pc := 8) (As := [.int p2]) C [] (c_X5_isTown _ _ _ _ n p2 h) zn_X5_isTown (by decide) (by decide) hz0 C.nest q_256 q_2 q_257 rfl rfl rfl (zD D_X1_canLay_0 4 rfl) (fun r8 => ?_)
    refine z_if_eq (pc := 11) C (zD D_X1_canLay_0 5 rfl) (tgt := 19) (by decide) (fun _ => ?_) (fun _ => ?_)
    · refine z_iconst (pc := 19) (v := 0) C (zD D_X1_canLay_0 9 rfl) (by decide) ?_
      exact z_zret (pc := 20) C hr (by decide) rfl (zD D_X1_canLay_0 10 rfl)
    · refine z_iload_n (pc := 14) C (zD D_X1_canLay_0 6 rfl) rfl 2 rfl ?_
      refine z_iload_n (pc := 15) C (zD D_X1_canLay_0 7 rfl) rfl 3 rfl ?_
      refine z_icmp_ne (pc := 16) C (zD D_X1_canLay_0 8 rfl) (tgt := 21) (by decide) (fun _ => ?_) (fun _ => ?_)
      · refine z_aload_n (pc := 21) C (zD D_X1_canLay_0 11 rfl) rfl 0 rfl ?_
        refine z_getR (pc := 22) C zc1 1 (by decide) q_38 (zD D_X1_canLay_0 12 rfl) (fun v22 => ?_)
        refine z_getR (pc := 25) C zc2 1 (by decide) q_398 (zD D_X1_canLay_0 13 rfl) (fun v25 => ?_)
        refine z_iload_n (pc := 28) C (zD D_X1_canLay_0 14 rfl) rfl 2 rfl ?_
        refine z_arload (pc := 29) C (c := 2) (by decide) rfl (zD D_X1_canLay_0 15 rfl) (fun v29 => ?_)
        refine z_iload_n (pc := 30) C (zD D_X1_canLay_0 16 rfl) rfl 3 rfl ?_
        refine z_aiload (pc := 31) C (zD D_X1_canLay_0 17 rfl) (fun v31 => ?_)
        refine z_istore (pc := 32) (lv' := [(4, .int v31), (0, .ref (B + this)), (1, .ref (B + p0)), (2, .int p1), (3, .int p2)]) C (zD D_X1_canLay_0 18 rfl) (by decide) rfl ?_
        refine z_iload (pc := 34) C (zD D_X1_canLay_0 19 rfl) 0 rfl ?_
        refine z_iconst (pc := 36) (v := 2) C (zD D_X1_canLay_0 20 rfl) (by decide) ?_
        refine z_icmp_ge (pc := 37) C (zD D_X1_canLay_0 21 rfl) (tgt := 54) (by decide) (fun _ => ?_) (fun _ => ?_)
        · refine z_iconst (pc := 54) (v := 0) C (zD D_X1_canLay_0 30 rfl) (by decide) ?_
          exact z_zret (pc := 55) C hr (by decide) rfl (zD D_X1_canLay_0 31 rfl)
        · refine z_aload_n (pc := 40) C (zD D_X1_canLay_0 22 rfl) rfl 2 rfl ?_
          refine z_getI (pc := 41) C zc0 3 (by decide) q_306 (zD D_X1_canLay_0 23 rfl) (fun v41 => ?_)
          refine z_bipush (pc := 44) (v := 20) C (zD D_X1_canLay_0 24 rfl) (by decide) ?_
          refine z_iload (pc := 46) C (zD D_X1_canLay_0 25 rfl) 0 rfl ?_
          refine z_iconst (pc := 48) (v := 1) C (zD D_X1_canLay_0 26 rfl) (by decide) ?_
          refine z_iadd (pc := 49) C (zD D_X1_canLay_0 27 rfl) ?_
          refine z_imul (pc := 50) C (zD D_X1_canLay_0 28 rfl) ?_
          refine z_icmp_ge (pc := 51) C (zD D_X1_canLay_0 29 rfl) (tgt := 56) (by decide) (fun _ => ?_) (fun _ => ?_)
          · refine z_aload_n (pc := 56) C (zD D_X1_canLay_0 32 rfl) rfl 1 rfl ?_
            refine z_getR (pc := 57) C zc1 0 (by decide) q_43 (zD D_X1_canLay_0 33 rfl) (fun v57 => ?_)
            refine z_aload_n (pc := 60) C (zD D_X1_canLay_0 34 rfl) rfl 1 rfl ?_
            refine z_getR (pc := 61) C zc1 1 (by decide) q_38 (zD D_X1_canLay_0 35 rfl) (fun v61 => ?_)
            refine z_aload_n (pc := 64) C (zD D_X1_canLay_0 36 rfl) rfl 2 rfl ?_
            refine z_getI (pc := 65) C zc0 2 (by decide) q_199 (zD D_X1_canLay_0 37 rfl) (fun v65 => ?_)
            refine z_cvV (pc := 68) (As := [.ref (B + v61), .int v65]) C [] (c_X3_measure _ _ _ _ n v57 v61 v65 h) zn_X3_measure (by decide) (by decide) hz0 zc3 rfl q_399 q_215 q_216 q_13 q_217 rfl rfl rfl (zD D_X1_canLay_0 38 rfl) (fun h68 => ?_)
            refine z_aload_n (pc := 71) C (zD D_X1_canLay_0 39 rfl) rfl 1 rfl ?_
            refine z_getR (pc := 72) C zc1 0 (by decide) q_43 (zD D_X1_canLay_0 40 rfl) (fun v72 => ?_)
            refine z_iload_n (pc := 75) C (zD D_X1_canLay_0 41 rfl) rfl 3 rfl ?_
            refine z_cvR (pc := 76) (As := [.int p1]) C [] (c_X3_reached _ _ _ _ n v72 p1 h68) zn_X3_reached (by decide) (by decide) hz0 zc3 rfl q_400 q_401 q_402 q_13 q_403 rfl rfl rfl (zD D_X1_canLay_0 42 rfl) (fun r76 => ?_)
            refine z_letg (fun K93 => zJ B Z (zEnd B Z (fun u : Int32 × zH => (some (Value.int u.1), u.2)) 0 0) (K93) 93 [] [] h68 (z00 Z)) ?_ (fun K93 hK93 => ?_)
            · refine z_iconst (pc := 93) (v := 1) C (zD D_X1_canLay_0 49 rfl) (by decide) ?_
              refine z_goto (pc := 94) C (zD D_X1_canLay_0 50 rfl) (tgt := 98) (by decide) ?_
              exact z_zret (pc := 98) C hr (by decide) rfl (zD D_X1_canLay_0 52 rfl)
            refine z_if_ne (pc := 79) C (zD D_X1_canLay_0 43 rfl) (tgt := 93) (by decide) (fun _ => ?_) (fun _ => ?_)
            · refine z_sub [] (lv' := []) rfl ?_
              exact hK93
            · refine z_aload_n (pc := 82) C (zD D_X1_canLay_0 44 rfl) rfl 1 rfl ?_
              refine z_getR (pc := 83) C zc1 0 (by decide) q_43 (zD D_X1_canLay_0 45 rfl) (fun v83 => ?_)
              refine z_iload_n (pc := 86) C (zD D_X1_canLay_0 46 rfl) rfl 4 rfl ?_
              refine z_cvR (pc := 87) (As := [.int p2]) C [] (c_X3_reached _ _ _ _ n v83 p2 h68) zn_X3_reached (by decide) (by decide) hz0 zc3 rfl q_400 q_401 q_402 q_13 q_403 rfl rfl rfl (zD D_X1_canLay_0 47 rfl) (fun r87 => ?_)
              refine z_if_eq (pc := 90) C (zD D_X1_canLay_0 48 rfl) (tgt := 97) (by decide) (fun _ => ?_) (fun _ => ?_)
              · refine z_iconst (pc := 97) (v := 0) C (zD D_X1_canLay_0 51 rfl) (by decide) ?_
                exact z_zret (pc := 98) C hr (by decide) rfl (zD D_X1_canLay_0 52 rfl)
              · refine z_sub [] (lv' := []) rfl ?_
                exact hK93
          · refine z_iconst (pc := 54) (v := 0) C (zD D_X1_canLay_0 30 rfl) (by decide) ?_
            exact z_zret (pc := 55) C hr (by decide) rfl (zD D_X1_canLay_0 31 rfl)
      · refine z_iconst (pc := 19) (v := 0) C (zD D_X1_canLay_0 9 rfl) (by decide) ?_
        exact z_zret (pc := 20) C hr (by decide) rfl (zD D_X1_canLay_0 10 rfl)
def f_X1_mergeCompanies (n : Nat) (this : Nat) (p0 : Int32) (p1 : Int32) (h : zH) : Option (zH) := (zgR h this 1 2).bind fun (v1 : Nat) => (zar h v1 3 p0).bind fun (v5 : Nat) => (zgR h this 1 2).bind fun (v8 : Nat) => (zar h v8 3 p1).bind fun (v12 : Nat) => zrc h v12 0 <| (f_X0_price n v12 h).bind fun (r17 : Int32) => zlet ((r17 / (2 : Int32))) fun (x22 : Int32) => zfix2 (fun rec27 (a6_27 : Int32) (h27 : zH) => (zgI h27 this 1 8).bind fun (v30 : Int32) => if v30 ≤ a6_27 then ((zgI h27 v5 0 3).bind fun (v82 : Int32) => (zgI h27 v12 0 3).bind fun (v87 : Int32) => (zp h27 v5 0 3 (.int (v82 + v87))).bind fun (h91 : zH) => zrc h91 v12 0 <| (f_X0_close n v12 h91).bind fun (h96 : zH) => zrc h96 v5 0 <| (f_X0_findPresident n v5 h96).bind fun (h100 : zH) => zrc h100 this 1 <| (f_X1_endActiveTurn n this h100).bind fun (h104 : zH) => some h104) else ((zgR h27 v12 0 0).bind fun (v38 : Nat) => (zai h27 v38 a6_27).bind fun (v43 : Int32) => (zgR h27 v5 0 0).bind fun (v47 : Nat) => (zai h27 v47 a6_27).bind fun (v53 : Int32) => (zsi h27 v47 a6_27 (v53 + (v43 / (2 : Int32)))).bind fun (h59 : zH) => zrc h59 this 1 <| (f_X1_playerPays n this a6_27 ((-(zrem v43 (2 : Int32))) * x22) h59).bind fun (h71 : zH) => zlet (a6_27 + 1) fun (x74 : Int32) => rec27 x74 h71)) n (0 : Int32) h
theorem zn_X1_mergeCompanies : zNm yX1_mergeCompanies 2 := ⟨by decide +kernel, by decide +kernel⟩
set_option maxRecDepth 100000 in
set_option maxHeartbeats 4000000 in
theorem c_X1_mergeCompanies (l : Launch) (B : Nat) (D : va_G) (cA : Nat → ClassId) (n : Nat) (this : Nat) (p0 : Int32) (p1 : Int32) (h : zH) : ∀ u, f_X1_mergeCompanies n this p0 p1 h = some u → zM l B D cA yX1_mergeCompanies cX1_mergeCompanies 8 none 3 0 0 none [.ref (B + this), .int p0, .int p1] h ((fun h1 : zH => ((none : Option Value), h1)) u).1 ((fun h1 : zH => ((none : Option Value), h1)) u).2 := by
  unfold f_X1_mergeCompanies
  refine z_met (own := RX1) (fun h1 : zH => ((none : Option Value), h1)) rfl (by decide) rfl (fun Z C hr _ _ => ?_)
  have hz0 : (z00 Z).1 ≤ 0 ∧ (z00 Z).2.1 ≤ 0 := ⟨Nat.le_refl 0, Nat.le_refl 0⟩
  refine z_aload_n (pc := 0) C (zD D_X1_mergeCompanies_0 0 rfl) rfl 0 rfl ?_
  refine z_getR (pc := 1) C zc1 2 (by decide) q_40 (zD D_X1_mergeCompanies_0 1 rfl) (fun v1 => ?_)
  refine z_iload_n (pc := 4) C (zD D_X1_mergeCompanies_0 2 rfl) rfl 1 rfl ?_
  refine z_arload (pc := 5) C (c := 3) (by decide) rfl (zD D_X1_mergeCompanies_0 3 rfl) (fun v5 => ?_)
  refine z_astore_n (pc := 6) (lv' := [(3, .ref (B + v5)), (0, .ref (B + this)), (1, .int p0), (2, .int p1)]) C (zD D_X1_mergeCompanies_0 4 rfl) rfl (by decide) rfl ?_
  refine z_aload_n (pc := 7) C (zD D_X1_mergeCompanies_0 5 rfl) rfl 1 rfl ?_
  refine z_getR (pc := 8) C zc1 2 (by decide) q_40 (zD D_X1_mergeCompanies_0 6 rfl) (fun v8 => ?_)
  refine z_iload_n (pc := 11) C (zD D_X1_mergeCompanies_0 7 rfl) rfl 3 rfl ?_
  refine z_arload (pc := 12) C (c := 3) (by decide) rfl (zD D_X1_mergeCompanies_0 8 rfl) (fun v12 => ?_)
  refine z_astore (pc := 13) (lv' := [(4, .ref (B + v12)), (3, .ref (B + v5)), (0, .ref (B + this)), (1, .int p0), (2, .int p1)]) C (zD D_X1_mergeCompanies_0 9 rfl) (by decide) rfl ?_
  refine z_aload (pc := 15) C (zD D_X1_mergeCompanies_0 10 rfl) 0 rfl ?_
  refine z_cvR (pc := 17) (As := []) C [] (c_X0_price _ _ _ _ n v12 h) zn_X0_price (by decide) (by decide) hz0 zc0 rfl q_175 q_176 q_177 q_45 q_178 rfl rfl rfl (zD D_X1_mergeCompanies_0 11 rfl) (fun r17 => ?_)
  refine z_iconst (pc := 20) (v := 2) C (zD D_X1_mergeCompanies_0 12 rfl) (by decide) ?_
  refine z_idivc (pc := 21) C (zD D_X1_mergeCompanies_0 13 rfl) (by decide) ?_
  refine z_istoreL (pc := 22) (lv' := fun x22 => [(5, .int x22), (4, .ref (B + v12)), (3, .ref (B + v5)), (0, .ref (B + this)), (1, .int p0), (2, .int p1)]) C (zD D_X1_mergeCompanies_0 14 rfl) (by decide) (fun _ => rfl) (fun x22 => ?_)
  refine z_iconst (pc := 24) (v := 0) C (zD D_X1_mergeCompanies_0 15 rfl) (by decide) ?_
  refine z_istore (pc := 25) (lv' := [(6, .int (0 : Int32)), (5, .int x22), (4, .ref (B + v12)), (3, .ref (B + v5)), (0, .ref (B + this)), (1, .int p0), (2, .int p1)]) C (zD D_X1_mergeCompanies_0 16 rfl) (by decide) rfl ?_
  refine z_sub [4, 3, 2, 1, 0] (lv' := [(0, .ref (B + this)), (3, .ref (B + v5)), (4, .ref (B + v12)), (5, .int x22), (6, .int (0 : Int32))]) rfl ?_
  refine z_fix2 (fun g27 => ∀ (a6_27 : Int32) (h27 : zH), zJ B Z (zEnd B Z (fun h1 : zH => ((none : Option Value), h1)) 0 0) (g27 a6_27 h27) 27 [(0, .ref (B + this)), (3, .ref (B + v5)), (4, .ref (B + v12)), (5, .int x22), (6, .int a6_27)] [] h27 (z00 Z)) (fun _ _ => z_none) (fun rec27 hrec27 a6_27 h27 => ?_) n (0 : Int32) h
  refine z_iload (pc := 27) C (zD D_X1_mergeCompanies_0 17 rfl) 4 rfl ?_
  refine z_aload_n (pc := 29) C (zD D_X1_mergeCompanies_0 18 rfl) rfl 0 rfl ?_
  refine z_getI (pc := 30) C zc1 8 (by decide) q_64 (zD D_X1_mergeCompanies_0 19 rfl) (fun v30 => ?_)
  refine z_icmp_ge (pc := 33) C (zD D_X1_mergeCompanies_0 20 rfl) (tgt := 80) (by decide) (fun _ => ?_) (fun _ => ?_)
  · refine z_aload_n (pc := 80) C (zD D_X1_mergeCompanies_0 47 rfl) rfl 1 rfl ?_
    refine z_dup (pc := 81) C (zD D_X1_mergeCompanies_0 48 rfl) rfl ?_
    refine z_getI (pc := 82) C zc0 3 (by decide) q_306 (zD D_X1_mergeCompanies_0 49 rfl) (fun v82 => ?_)
    refine z_aload (pc := 85) C (zD D_X1_mergeCompanies_0 50 rfl) 2 rfl ?_
    refine z_getI (pc := 87) C zc0 3 (by decide) q_306 (zD D_X1_mergeCompanies_0 51 rfl) (fun v87 => ?_)
    refine z_iadd (pc := 90) C (zD D_X1_mergeCompanies_0 52 rfl) ?_
    refine z_putI (pc := 91) C zc0 3 (by decide) q_306 rfl rfl (zD D_X1_mergeCompanies_0 53 rfl) (fun h91 => ?_)
    refine z_aload (pc := 94) C (zD D_X1_mergeCompanies_0 54 rfl) 2 rfl ?_
    refine z_cvV (pc := 96) (As := []) C [] (c_X0_close _ _ _ _ n v12 h91) zn_X0_close (by decide) (by decide) hz0 zc0 rfl q_79 q_80 q_81 q_45 q_82 rfl rfl rfl (zD D_X1_mergeCompanies_0 55 rfl) (fun h96 => ?_)
    refine z_aload_n (pc := 99) C (zD D_X1_mergeCompanies_0 56 rfl) rfl 1 rfl ?_
    refine z_cvV (pc := 100) (As := []) C [] (c_X0_findPresident _ _ _ _ n v5 h96) zn_X0_findPresident (by decide) (by decide) hz0 zc0 rfl q_315 q_316 q_317 q_45 q_318 rfl rfl rfl (zD D_X1_mergeCompanies_0 57 rfl) (fun h100 => ?_)
    refine z_aload_n (pc := 103) C (zD D_X1_mergeCompanies_0 58 rfl) rfl 0 rfl ?_
    refine z_cvV (pc := 104) (As := []) C [] (c_X1_endActiveTurn _ _ _ _ n this h100) zn_X1_endActiveTurn (by decide) (by decide) hz0 zc1 rfl q_319 q_320 q_321 q_16 q_322 rfl rfl rfl (zD D_X1_mergeCompanies_0 59 rfl) (fun h104 => ?_)
    exact z_vret (pc := 107) C hr rfl (zD D_X1_mergeCompanies_1 0 rfl)
  · refine z_aload (pc := 36) C (zD D_X1_mergeCompanies_0 21 rfl) 2 rfl ?_
    refine z_getR (pc := 38) C zc0 0 (by decide) q_174 (zD D_X1_mergeCompanies_0 22 rfl) (fun v38 => ?_)
    refine z_iload (pc := 41) C (zD D_X1_mergeCompanies_0 23 rfl) 4 rfl ?_
    refine z_aiload (pc := 43) C (zD D_X1_mergeCompanies_0 24 rfl) (fun v43 => ?_)
    refine z_istore (pc := 44) (lv' := [(7, .int v43), (0, .ref (B + this)), (3, .ref (B + v5)), (4, .ref (B + v12)), (5, .int x22), (6, .int a6_27)]) C (zD D_X1_mergeCompanies_0 25 rfl) (by decide) rfl ?_
    refine z_aload_n (pc := 46) C (zD D_X1_mergeCompanies_0 26 rfl) rfl 2 rfl ?_
    refine z_getR (pc := 47) C zc0 0 (by decide) q_174 (zD D_X1_mergeCompanies_0 27 rfl) (fun v47 => ?_)
    refine z_iload (pc := 50) C (zD D_X1_mergeCompanies_0 28 rfl) 5 rfl ?_
    refine z_dup2 (pc := 52) C (zD D_X1_mergeCompanies_0 29 rfl) rfl rfl ?_
    refine z_aiload (pc := 53) C (zD D_X1_mergeCompanies_0 30 rfl) (fun v53 => ?_)
    refine z_iload (pc := 54) C (zD D_X1_mergeCompanies_0 31 rfl) 0 rfl ?_
    refine z_iconst (pc := 56) (v := 2) C (zD D_X1_mergeCompanies_0 32 rfl) (by decide) ?_
    refine z_idivc (pc := 57) C (zD D_X1_mergeCompanies_0 33 rfl) (by decide) ?_
    refine z_iadd (pc := 58) C (zD D_X1_mergeCompanies_0 34 rfl) ?_
    refine z_aistore (pc := 59) C (zD D_X1_mergeCompanies_0 35 rfl) (fun h59 => ?_)
    refine z_aload_n (pc := 60) C (zD D_X1_mergeCompanies_0 36 rfl) rfl 1 rfl ?_
    refine z_iload (pc := 61) C (zD D_X1_mergeCompanies_0 37 rfl) 5 rfl ?_
    refine z_iload (pc := 63) C (zD D_X1_mergeCompanies_0 38 rfl) 0 rfl ?_
    refine z_iconst (pc := 65) (v := 2) C (zD D_X1_mergeCompanies_0 39 rfl) (by decide) ?_
    refine z_iremc (pc := 66) C (zD D_X1_mergeCompanies_0 40 rfl) (by decide) ?_
    refine z_ineg (pc := 67) C (zD D_X1_mergeCompanies_0 41 rfl) ?_
    refine z_iload (pc := 68) C (zD D_X1_mergeCompanies_0 42 rfl) 4 rfl ?_
    refine z_imul (pc := 70) C (zD D_X1_mergeCompanies_0 43 rfl) ?_
    refine z_cvV (pc := 71) (As := [.int a6_27, .int ((-(zrem v43 (2 : Int32))) * x22)]) C [] (c_X1_playerPays _ _ _ _ n this a6_27 ((-(zrem v43 (2 : Int32))) * x22) h59) zn_X1_playerPays (by decide) (by decide) hz0 zc1 rfl q_311 q_312 q_313 q_16 q_314 rfl rfl rfl (zD D_X1_mergeCompanies_0 44 rfl) (fun h71 => ?_)
    refine z_iincL (pc := 74) (lv' := fun x74 => [(6, .int x74), (7, .int v43), (0, .ref (B + this)), (3, .ref (B + v5)), (4, .ref (B + v12)), (5, .int x22)]) C (zD D_X1_mergeCompanies_0 45 rfl) 5 rfl (v := a6_27 + 1) rfl (by decide) (fun _ => rfl) (fun x74 => ?_)
    refine z_goto (pc := 77) C (zD D_X1_mergeCompanies_0 46 rfl) (tgt := 27) (by decide) ?_
    refine z_sub [2, 3, 4, 5, 0] (lv' := [(0, .ref (B + this)), (3, .ref (B + v5)), (4, .ref (B + v12)), (5, .int x22), (6, .int x74)]) rfl ?_
    exact hrec27 x74 h71
def f_X1_passTurn (n : Nat) (this : Nat) (h : zH) : Option (zH) := (zgI h this 1 10).bind fun (v2 : Int32) => (zp h this 1 10 (.int (v2 + (1 : Int32)))).bind fun (h7 : zH) => zrc h7 this 1 <| (f_X1_nextTurn n this h7).bind fun (h11 : zH) => (zgI h11 this 1 10).bind fun (v15 : Int32) => (zgI h11 this 1 8).bind fun (v19 : Int32) => if v15 < v19 then (some h11) else (zrc h11 this 1 <| (f_X1_beginOperating n this h11).bind fun (h26 : zH) => some h26)
theorem zn_X1_passTurn : zNm yX1_passTurn 0 := ⟨by decide +kernel, by decide +kernel⟩
set_option maxRecDepth 100000 in
set_option maxHeartbeats 4000000 in
theorem c_X1_passTurn (l : Launch) (B : Nat) (D : va_G) (cA : Nat → ClassId) (n : Nat) (this : Nat) (h : zH) : ∀ u, f_X1_passTurn n this h = some u → zM l B D cA yX1_passTurn cX1_passTurn 1 none 3 0 0 none [.ref (B + this)] h ((fun h1 : zH => ((none : Option Value), h1)) u).1 ((fun h1 : zH => ((none : Option Value), h1)) u).2 := by
  unfold f_X1_passTurn
  refine z_met (own := RX1) (fun h1 : zH => ((none : Option Value), h1)) rfl (by decide) rfl (fun Z C hr _ _ => ?_)
  have hz0 : (z00 Z).1 ≤ 0 ∧ (z00 Z).2.1 ≤ 0 := ⟨Nat.le_refl 0, Nat.le_refl 0⟩
  refine z_aload_n (pc := 0) C (zD D_X1_passTurn_0 0 rfl) rfl 0 rfl ?_
  refine z_dup (pc := 1) C (zD D_X1_passTurn_0 1 rfl) rfl ?_
  refine z_getI (pc := 2) C zc1 10 (by decide) q_66 (zD D_X1_passTurn_0 2 rfl) (fun v2 => ?_)
  refine z_iconst (pc := 5) (v := 1) C (zD D_X1_passTurn_0 3 rfl) (by decide) ?_
  refine z_iadd (pc := 6) C (zD D_X1_passTurn_0 4 rfl) ?_
  refine z_putI (pc := 7) C zc1 10 (by decide) q_66 rfl rfl (zD D_X1_passTurn_0 5 rfl) (fun h7 => ?_)
  refine z_aload_n (pc := 10) C (zD D_X1_passTurn_0 6 rfl) rfl 0 rfl ?_
  refine z_cvV (pc := 11) (As := []) C [] (c_X1_nextTurn _ _ _ _ n this h7) zn_X1_nextTurn (by decide) (by decide) hz0 zc1 rfl q_323 q_324 q_325 q_16 q_326 rfl rfl rfl (zD D_X1_passTurn_0 7 rfl) (fun h11 => ?_)
  refine z_aload_n (pc := 14) C (zD D_X1_passTurn_0 8 rfl) rfl 0 rfl ?_
  refine z_getI (pc := 15) C zc1 10 (by decide) q_66 (zD D_X1_passTurn_0 9 rfl) (fun v15 => ?_)
  refine z_aload_n (pc := 18) C (zD D_X1_passTurn_0 10 rfl) rfl 0 rfl ?_
  refine z_getI (pc := 19) C zc1 8 (by decide) q_64 (zD D_X1_passTurn_0 11 rfl) (fun v19 => ?_)
  refine z_icmp_lt (pc := 22) C (zD D_X1_passTurn_0 12 rfl) (tgt := 29) (by decide) (fun _ => ?_) (fun _ => ?_)
  · exact z_vret (pc := 29) C hr rfl (zD D_X1_passTurn_0 15 rfl)
  · refine z_aload_n (pc := 25) C (zD D_X1_passTurn_0 13 rfl) rfl 0 rfl ?_
    refine z_cvV (pc := 26) (As := []) C [] (c_X1_beginOperating _ _ _ _ n this h11) zn_X1_beginOperating (by decide) (by decide) hz0 zc1 rfl q_532 q_533 q_534 q_16 q_535 rfl rfl rfl (zD D_X1_passTurn_0 14 rfl) (fun h26 => ?_)
    exact z_vret (pc := 29) C hr rfl (zD D_X1_passTurn_0 15 rfl)
def f_X1_payRest (n : Nat) (this : Nat) (p0 : Int32) (p1 : Int32) (h : zH) : Option (Int32 × zH) := zfix2 (fun rec2 (a3_2 : Int32) (h2 : zH) => zlet ((zgR h2 this 1 3).bind fun (v50 : Nat) => (zai h2 v50 p0).bind fun (v54 : Int32) => zlet ((zmin p1 v54)) fun (x58 : Int32) => zrc h2 this 1 <| (f_X1_playerPays n this p0 x58 h2).bind fun (h62 : zH) => some (x58, h62)) fun K48 => if (40 : Int32) ≤ a3_2 then (K48) else ((zgR h2 this 1 3).bind fun (v9 : Nat) => (zai h2 v9 p0).bind fun (v13 : Int32) => if p1 ≤ v13 then (K48) else (zrc h2 this 1 <| (f_X1_cheapestHeld n this p0 h2).bind fun (r20 : Int32) => if r20 = (-1 : Int32) then (K48) else (zrc h2 this 1 <| (f_X1_sellShares n this p0 r20 (1 : Int32) h2).bind fun (h39 : zH) => zlet (a3_2 + 1) fun (x42 : Int32) => rec2 x42 h39)))) n (0 : Int32) h
theorem zn_X1_payRest : zNm yX1_payRest 2 := ⟨by decide +kernel, by decide +kernel⟩
set_option maxRecDepth 100000 in
set_option maxHeartbeats 4000000 in
theorem c_X1_payRest (l : Launch) (B : Nat) (D : va_G) (cA : Nat → ClassId) (n : Nat) (this : Nat) (p0 : Int32) (p1 : Int32) (h : zH) : ∀ u, f_X1_payRest n this p0 p1 h = some u → zM l B D cA yX1_payRest cX1_payRest 5 (some .int) 3 0 0 none [.ref (B + this), .int p0, .int p1] h ((fun u : Int32 × zH => (some (Value.int u.1), u.2)) u).1 ((fun u : Int32 × zH => (some (Value.int u.1), u.2)) u).2 := by
  unfold f_X1_payRest
  refine z_met (own := RX1) (fun u : Int32 × zH => (some (Value.int u.1), u.2)) rfl (by decide) rfl (fun Z C hr _ _ => ?_)
  have hz0 : (z00 Z).1 ≤ 0 ∧ (z00 Z).2.1 ≤ 0 := ⟨Nat.le_refl 0, Nat.le_refl 0⟩
  refine z_iconst (pc := 0) (v := 0) C (zD D_X1_payRest_0 0 rfl) (by decide) ?_
  refine z_istore_n (pc := 1) (lv' := [(3, .int (0 : Int32)), (0, .ref (B + this)), (1, .int p0), (2, .int p1)]) C (zD D_X1_payRest_0 1 rfl) rfl (by decide) rfl ?_
  refine z_sub [1, 2, 3, 0] (lv' := [(0, .ref (B + this)), (1, .int p0), (2, .int p1), (3, .int (0 : Int32))]) rfl ?_
  refine z_fix2 (fun g2 => ∀ (a3_2 : Int32) (h2 : zH), zJ B Z (zEnd B Z (fun u : Int32 × zH => (some (Value.int u.1), u.2)) 0 0) (g2 a3_2 h2) 2 [(0, .ref (B + this)), (1, .int p0), (2, .int p1), (3, .int a3_2)] [] h2 (z00 Z)) (fun _ _ => z_none) (fun rec2 hrec2 a3_2 h2 => ?_) n (0 : Int32) h
  refine z_iload_n (pc := 2) C (zD D_X1_payRest_0 2 rfl) rfl 3 rfl ?_
  refine z_bipush (pc := 3) (v := 40) C (zD D_X1_payRest_0 3 rfl) (by decide) ?_
  refine z_letg (fun K48 => zJ B Z (zEnd B Z (fun u : Int32 × zH => (some (Value.int u.1), u.2)) 0 0) (K48) 48 [(0, .ref (B + this)), (1, .int p0), (2, .int p1)] [] h2 (z00 Z)) ?_ (fun K48 hK48 => ?_)
  · refine z_iload_n (pc := 48) C (zD D_X1_payRest_0 26 rfl) rfl 2 rfl ?_
    refine z_aload_n (pc := 49) C (zD D_X1_payRest_0 27 rfl) rfl 0 rfl ?_
    refine z_getR (pc := 50) C zc1 3 (by decide) q_41 (zD D_X1_payRest_0 28 rfl) (fun v50 => ?_)
    refine z_iload_n (pc := 53) C (zD D_X1_payRest_0 29 rfl) rfl 1 rfl ?_
    refine z_aiload (pc := 54) C (zD D_X1_payRest_0 30 rfl) (fun v54 => ?_)
    refine z_min (pc := 55) C [] rfl q_430 q_208 q_209 q_210 (by decide) rfl hz0 (zD D_X1_payRest_0 31 rfl) ?_
    refine z_istore_nL (pc := 58) (lv' := fun x58 => [(3, .int x58), (0, .ref (B + this)), (1, .int p0), (2, .int p1)]) C (zD D_X1_payRest_0 32 rfl) rfl (by decide) (fun _ => rfl) (fun x58 => ?_)
    refine z_aload_n (pc := 59) C (zD D_X1_payRest_0 33 rfl) rfl 1 rfl ?_
    refine z_iload_n (pc := 60) C (zD D_X1_payRest_0 34 rfl) rfl 2 rfl ?_
    refine z_iload_n (pc := 61) C (zD D_X1_payRest_0 35 rfl) rfl 0 rfl ?_
    refine z_cvV (pc := 62) (As := [.int p0, .int x58]) C [] (c_X1_playerPays _ _ _ _ n this p0 x58 h2) zn_X1_playerPays (by decide) (by decide) hz0 zc1 rfl q_311 q_312 q_313 q_16 q_314 rfl rfl rfl (zD D_X1_payRest_0 36 rfl) (fun h62 => ?_)
    refine z_iload_n (pc := 65) C (zD D_X1_payRest_0 37 rfl) rfl 0 rfl ?_
    exact z_iret (pc := 66) C hr rfl (zD D_X1_payRest_0 38 rfl)
  refine z_icmp_ge (pc := 5) C (zD D_X1_payRest_0 4 rfl) (tgt := 48) (by decide) (fun _ => ?_) (fun _ => ?_)
  · refine z_sub [0, 1, 2] (lv' := [(0, .ref (B + this)), (1, .int p0), (2, .int p1)]) rfl ?_
    exact hK48
  · refine z_aload_n (pc := 8) C (zD D_X1_payRest_0 5 rfl) rfl 0 rfl ?_
    refine z_getR (pc := 9) C zc1 3 (by decide) q_41 (zD D_X1_payRest_0 6 rfl) (fun v9 => ?_)
    refine z_iload_n (pc := 12) C (zD D_X1_payRest_0 7 rfl) rfl 1 rfl ?_
    refine z_aiload (pc := 13) C (zD D_X1_payRest_0 8 rfl) (fun v13 => ?_)
    refine z_iload_n (pc := 14) C (zD D_X1_payRest_0 9 rfl) rfl 2 rfl ?_
    refine z_icmp_ge (pc := 15) C (zD D_X1_payRest_0 10 rfl) (tgt := 48) (by decide) (fun _ => ?_) (fun _ => ?_)
    · refine z_sub [0, 1, 2] (lv' := [(0, .ref (B + this)), (1, .int p0), (2, .int p1)]) rfl ?_
      exact hK48
    · refine z_aload_n (pc := 18) C (zD D_X1_payRest_0 11 rfl) rfl 0 rfl ?_
      refine z_iload_n (pc := 19) C (zD D_X1_payRest_0 12 rfl) rfl 1 rfl ?_
      refine z_cvR (pc := 20) (As := [.int p0]) C [] (c_X1_cheapestHeld _ _ _ _ n this p0 h2) zn_X1_cheapestHeld (by decide) (by decide) hz0 zc1 rfl q_435 q_436 q_437 q_16 q_438 rfl rfl rfl (zD D_X1_payRest_0 13 rfl) (fun r20 => ?_)
      refine z_istore (pc := 23) (lv' := [(4, .int r20), (0, .ref (B + this)), (1, .int p0), (2, .int p1), (3, .int a3_2)]) C (zD D_X1_payRest_0 14 rfl) (by decide) rfl ?_
      refine z_iload (pc := 25) C (zD D_X1_payRest_0 15 rfl) 0 rfl ?_
      refine z_iconst (pc := 27) (v := -1) C (zD D_X1_payRest_0 16 rfl) (by decide) ?_
      refine z_icmp_ne (pc := 28) C (zD D_X1_payRest_0 17 rfl) (tgt := 34) (by decide) (fun _ => ?_) (fun _ => ?_)
      · refine z_aload_n (pc := 34) C (zD D_X1_payRest_0 19 rfl) rfl 1 rfl ?_
        refine z_iload_n (pc := 35) C (zD D_X1_payRest_0 20 rfl) rfl 2 rfl ?_
        refine z_iload (pc := 36) C (zD D_X1_payRest_0 21 rfl) 0 rfl ?_
        refine z_iconst (pc := 38) (v := 1) C (zD D_X1_payRest_0 22 rfl) (by decide) ?_
        refine z_cvV (pc := 39) (As := [.int p0, .int r20, .int (1 : Int32)]) C [] (c_X1_sellShares _ _ _ _ n this p0 r20 (1 : Int32) h2) zn_X1_sellShares (by decide) (by decide) hz0 zc1 rfl q_439 q_356 q_357 q_16 q_358 rfl rfl rfl (zD D_X1_payRest_0 23 rfl) (fun h39 => ?_)
        refine z_iincL (pc := 42) (lv' := fun x42 => [(3, .int x42), (4, .int r20), (0, .ref (B + this)), (1, .int p0), (2, .int p1)]) C (zD D_X1_payRest_0 24 rfl) 4 rfl (v := a3_2 + 1) rfl (by decide) (fun _ => rfl) (fun x42 => ?_)
        refine z_goto (pc := 45) C (zD D_X1_payRest_0 25 rfl) (tgt := 2) (by decide) ?_
        refine z_sub [2, 3, 4, 0] (lv' := [(0, .ref (B + this)), (1, .int p0), (2, .int p1), (3, .int x42)]) rfl ?_
        exact hrec2 x42 h39
      · refine z_goto (pc := 31) C (zD D_X1_payRest_0 18 rfl) (tgt := 48) (by decide) ?_
        refine z_sub [1, 2, 3] (lv' := [(0, .ref (B + this)), (1, .int p0), (2, .int p1)]) rfl ?_
        exact hK48
def f_X1_reset (n : Nat) (this : Nat) (p0 : Int32) (h : zH) : Option (zH) := (zgR h this 1 1).bind fun (v1 : Nat) => zrc h v1 2 <| (f_X2_clearTracks n v1 h).bind fun (h4 : zH) => zfix2 (fun rec9 (a2_9 : Int32) (h9 : zH) => if (4 : Int32) ≤ a2_9 then ((zgR h9 this 1 3).bind fun (v37 : Nat) => (f_J7_fill_53178 n v37 (500 : Int32) h9).bind fun (h43 : zH) => (zp h43 this 1 5 (.int (0 : Int32))).bind fun (h48 : zH) => (zp h48 this 1 6 (.int (0 : Int32))).bind fun (h53 : zH) => (zp h53 this 1 7 (.int (0 : Int32))).bind fun (h58 : zH) => (zp h58 this 1 8 (.int p0)).bind fun (h63 : zH) => (zp h63 this 1 9 (.int (0 : Int32))).bind fun (h68 : zH) => (zp h68 this 1 10 (.int (0 : Int32))).bind fun (h73 : zH) => (zp h73 this 1 11 (.int (0 : Int32))).bind fun (h78 : zH) => (zp h78 this 1 12 (.int (0 : Int32))).bind fun (h83 : zH) => (zp h83 this 1 13 (.int (0 : Int32))).bind fun (h88 : zH) => (zp h88 this 1 14 (.int (0 : Int32))).bind fun (h93 : zH) => some h93) else ((zgR h9 this 1 2).bind fun (v15 : Nat) => (zar h9 v15 3 a2_9).bind fun (v19 : Nat) => zrc h9 v19 0 <| (f_X0_close n v19 h9).bind fun (h20 : zH) => (zgR h20 this 1 4).bind fun (v24 : Nat) => (zsi h20 v24 a2_9 (0 : Int32)).bind fun (h29 : zH) => zlet (a2_9 + 1) fun (x30 : Int32) => rec9 x30 h29)) n (0 : Int32) h4
theorem zn_X1_reset : zNm yX1_reset 1 := ⟨by decide +kernel, by decide +kernel⟩
set_option maxRecDepth 100000 in
set_option maxHeartbeats 4000000 in
theorem c_X1_reset (l : Launch) (B : Nat) (D : va_G) (cA : Nat → ClassId) (n : Nat) (this : Nat) (p0 : Int32) (h : zH) : ∀ u, f_X1_reset n this p0 h = some u → zM l B D cA yX1_reset cX1_reset 3 none 3 0 0 none [.ref (B + this), .int p0] h ((fun h1 : zH => ((none : Option Value), h1)) u).1 ((fun h1 : zH => ((none : Option Value), h1)) u).2 := by
  unfold f_X1_reset
  refine z_met (own := RX1) (fun h1 : zH => ((none : Option Value), h1)) rfl (by decide) rfl (fun Z C hr _ _ => ?_)
  have hz0 : (z00 Z).1 ≤ 0 ∧ (z00 Z).2.1 ≤ 0 := ⟨Nat.le_refl 0, Nat.le_refl 0⟩
  refine z_aload_n (pc := 0) C (zD D_X1_reset_0 0 rfl) rfl 0 rfl ?_
  refine z_getR (pc := 1) C zc1 1 (by decide) q_38 (zD D_X1_reset_0 1 rfl) (fun v1 => ?_)
  refine z_cvV (pc := 4) (As := []) C [] (c_X2_clearTracks _ _ _ _ n v1 h) zn_X2_clearTracks (by decide) (by decide) hz0 zc2 rfl q_71 q_72 q_73 q_37 q_74 rfl rfl rfl (zD D_X1_reset_0 2 rfl) (fun h4 => ?_)
  refine z_iconst (pc := 7) (v := 0) C (zD D_X1_reset_0 3 rfl) (by decide) ?_
  refine z_istore_n (pc := 8) (lv' := [(2, .int (0 : Int32)), (0, .ref (B + this)), (1, .int p0)]) C (zD D_X1_reset_0 4 rfl) rfl (by decide) rfl ?_
  refine z_sub [1, 2, 0] (lv' := [(0, .ref (B + this)), (1, .int p0), (2, .int (0 : Int32))]) rfl ?_
  refine z_fix2 (fun g9 => ∀ (a2_9 : Int32) (h9 : zH), zJ B Z (zEnd B Z (fun h1 : zH => ((none : Option Value), h1)) 0 0) (g9 a2_9 h9) 9 [(0, .ref (B + this)), (1, .int p0), (2, .int a2_9)] [] h9 (z00 Z)) (fun _ _ => z_none) (fun rec9 hrec9 a2_9 h9 => ?_) n (0 : Int32) h4
  refine z_iload_n (pc := 9) C (zD D_X1_reset_0 5 rfl) rfl 2 rfl ?_
  refine z_iconst (pc := 10) (v := 4) C (zD D_X1_reset_0 6 rfl) (by decide) ?_
  refine z_icmp_ge (pc := 11) C (zD D_X1_reset_0 7 rfl) (tgt := 36) (by decide) (fun _ => ?_) (fun _ => ?_)
  · refine z_aload_n (pc := 36) C (zD D_X1_reset_0 20 rfl) rfl 0 rfl ?_
    refine z_getR (pc := 37) C zc1 3 (by decide) q_41 (zD D_X1_reset_0 21 rfl) (fun v37 => ?_)
    refine z_sipush (pc := 40) (v := 500) C (zD D_X1_reset_0 22 rfl) (by decide) ?_
    refine z_csV (pc := 43) (As := [.ref (B + v37), .int (500 : Int32)]) C [] (c_J7_fill_53178 _ _ _ _ n v37 (500 : Int32) h9) zn_J7_fill_53178 (by decide) (by decide) hz0 q_91 q_76 q_77 q_78 rfl rfl rfl (zD D_X1_reset_0 23 rfl) (fun h43 => ?_)
    refine z_aload_n (pc := 46) C (zD D_X1_reset_0 24 rfl) rfl 0 rfl ?_
    refine z_iconst (pc := 47) (v := 0) C (zD D_X1_reset_0 25 rfl) (by decide) ?_
    refine z_putI (pc := 48) C zc1 5 (by decide) q_61 rfl rfl (zD D_X1_reset_0 26 rfl) (fun h48 => ?_)
    refine z_aload_n (pc := 51) C (zD D_X1_reset_0 27 rfl) rfl 0 rfl ?_
    refine z_iconst (pc := 52) (v := 0) C (zD D_X1_reset_0 28 rfl) (by decide) ?_
    refine z_putI (pc := 53) C zc1 6 (by decide) q_62 rfl rfl (zD D_X1_reset_0 29 rfl) (fun h53 => ?_)
    refine z_aload_n (pc := 56) C (zD D_X1_reset_0 30 rfl) rfl 0 rfl ?_
    refine z_iconst (pc := 57) (v := 0) C (zD D_X1_reset_0 31 rfl) (by decide) ?_
    refine z_putZ (pc := 58) C zc1 7 (by decide) q_63 rfl rfl (zD D_X1_reset_0 32 rfl) (by decide) (fun h58 => ?_)
    refine z_aload_n (pc := 61) C (zD D_X1_reset_0 33 rfl) rfl 0 rfl ?_
    refine z_iload_n (pc := 62) C (zD D_X1_reset_0 34 rfl) rfl 1 rfl ?_
    refine z_putI (pc := 63) C zc1 8 (by decide) q_64 rfl rfl (zD D_X1_reset_0 35 rfl) (fun h63 => ?_)
    refine z_aload_n (pc := 66) C (zD D_X1_reset_0 36 rfl) rfl 0 rfl ?_
    refine z_iconst (pc := 67) (v := 0) C (zD D_X1_reset_0 37 rfl) (by decide) ?_
    refine z_putI (pc := 68) C zc1 9 (by decide) q_65 rfl rfl (zD D_X1_reset_0 38 rfl) (fun h68 => ?_)
    refine z_aload_n (pc := 71) C (zD D_X1_reset_0 39 rfl) rfl 0 rfl ?_
    refine z_iconst (pc := 72) (v := 0) C (zD D_X1_reset_0 40 rfl) (by decide) ?_
    refine z_putI (pc := 73) C zc1 10 (by decide) q_66 rfl rfl (zD D_X1_reset_0 41 rfl) (fun h73 => ?_)
    refine z_aload_n (pc := 76) C (zD D_X1_reset_0 42 rfl) rfl 0 rfl ?_
    refine z_iconst (pc := 77) (v := 0) C (zD D_X1_reset_0 43 rfl) (by decide) ?_
    refine z_putZ (pc := 78) C zc1 11 (by decide) q_67 rfl rfl (zD D_X1_reset_0 44 rfl) (by decide) (fun h78 => ?_)
    refine z_aload_n (pc := 81) C (zD D_X1_reset_0 45 rfl) rfl 0 rfl ?_
    refine z_iconst (pc := 82) (v := 0) C (zD D_X1_reset_0 46 rfl) (by decide) ?_
    refine z_putI (pc := 83) C zc1 12 (by decide) q_68 rfl rfl (zD D_X1_reset_0 47 rfl) (fun h83 => ?_)
    refine z_aload_n (pc := 86) C (zD D_X1_reset_0 48 rfl) rfl 0 rfl ?_
    refine z_iconst (pc := 87) (v := 0) C (zD D_X1_reset_0 49 rfl) (by decide) ?_
    refine z_putI (pc := 88) C zc1 13 (by decide) q_69 rfl rfl (zD D_X1_reset_0 50 rfl) (fun h88 => ?_)
    refine z_aload_n (pc := 91) C (zD D_X1_reset_0 51 rfl) rfl 0 rfl ?_
    refine z_iconst (pc := 92) (v := 0) C (zD D_X1_reset_0 52 rfl) (by decide) ?_
    refine z_putI (pc := 93) C zc1 14 (by decide) q_70 rfl rfl (zD D_X1_reset_0 53 rfl) (fun h93 => ?_)
    exact z_vret (pc := 96) C hr rfl (zD D_X1_reset_0 54 rfl)
  · refine z_aload_n (pc := 14) C (zD D_X1_reset_0 8 rfl) rfl 0 rfl ?_
    refine z_getR (pc := 15) C zc1 2 (by decide) q_40 (zD D_X1_reset_0 9 rfl) (fun v15 => ?_)
    refine z_iload_n (pc := 18) C (zD D_X1_reset_0 10 rfl) rfl 2 rfl ?_
    refine z_arload (pc := 19) C (c := 3) (by decide) rfl (zD D_X1_reset_0 11 rfl) (fun v19 => ?_)
    refine z_cvV (pc := 20) (As := []) C [] (c_X0_close _ _ _ _ n v19 h9) zn_X0_close (by decide) (by decide) hz0 zc0 rfl q_79 q_80 q_81 q_45 q_82 rfl rfl rfl (zD D_X1_reset_0 12 rfl) (fun h20 => ?_)
    refine z_aload_n (pc := 23) C (zD D_X1_reset_0 13 rfl) rfl 0 rfl ?_
    refine z_getR (pc := 24) C zc1 4 (by decide) q_42 (zD D_X1_reset_0 14 rfl) (fun v24 => ?_)
    refine z_iload_n (pc := 27) C (zD D_X1_reset_0 15 rfl) rfl 2 rfl ?_
    refine z_iconst (pc := 28) (v := 0) C (zD D_X1_reset_0 16 rfl) (by decide) ?_
    refine z_aistore (pc := 29) C (zD D_X1_reset_0 17 rfl) (fun h29 => ?_)
    refine z_iincL (pc := 30) (lv' := fun x30 => [(2, .int x30), (0, .ref (B + this)), (1, .int p0)]) C (zD D_X1_reset_0 18 rfl) 2 rfl (v := a2_9 + 1) rfl (by decide) (fun _ => rfl) (fun x30 => ?_)
    refine z_goto (pc := 33) C (zD D_X1_reset_0 19 rfl) (tgt := 9) (by decide) ?_
    refine z_sub [1, 2, 0] (lv' := [(0, .ref (B + this)), (1, .int p0), (2, .int x30)]) rfl ?_
    exact hrec9 x30 h29
def f_X1_startCompany (n : Nat) (this : Nat) (p0 : Int32) (p1 : Int32) (p2 : Int32) (h : zH) : Option (zH) := (zgR h this 1 2).bind fun (v1 : Nat) => (zar h v1 3 p0).bind fun (v5 : Nat) => zrc h v5 0 <| (f_X0_openAt n v5 p1 p2 h).bind fun (h12 : zH) => zrc h12 v5 0 <| (f_X0_price n v5 h12).bind fun (r17 : Int32) => (zgI h12 this 1 9).bind fun (v24 : Int32) => zrc h12 this 1 <| (f_X1_playerPays n this v24 ((2 : Int32) * r17) h12).bind fun (h31 : zH) => (zgR h31 v5 0 0).bind fun (v36 : Nat) => (zgI h31 this 1 9).bind fun (v40 : Int32) => (zsi h31 v36 v40 (2 : Int32)).bind fun (h44 : zH) => zrc h44 v5 0 <| (f_X0_findPresident n v5 h44).bind fun (h47 : zH) => (zp h47 v5 0 3 (.int ((5 : Int32) * r17))).bind fun (h56 : zH) => (zgI h56 this 1 13).bind fun (v61 : Int32) => (zgI h56 v5 0 3).bind fun (v66 : Int32) => (zp h56 this 1 13 (.int (v61 - v66))).bind fun (h70 : zH) => zrc h70 this 1 <| (f_X1_endActiveTurn n this h70).bind fun (h74 : zH) => some h74
theorem zn_X1_startCompany : zNm yX1_startCompany 3 := ⟨by decide +kernel, by decide +kernel⟩
set_option maxRecDepth 100000 in
set_option maxHeartbeats 4000000 in
theorem c_X1_startCompany (l : Launch) (B : Nat) (D : va_G) (cA : Nat → ClassId) (n : Nat) (this : Nat) (p0 : Int32) (p1 : Int32) (p2 : Int32) (h : zH) : ∀ u, f_X1_startCompany n this p0 p1 p2 h = some u → zM l B D cA yX1_startCompany cX1_startCompany 6 none 3 0 0 none [.ref (B + this), .int p0, .int p1, .int p2] h ((fun h1 : zH => ((none : Option Value), h1)) u).1 ((fun h1 : zH => ((none : Option Value), h1)) u).2 := by
  unfold f_X1_startCompany
  refine z_met (own := RX1) (fun h1 : zH => ((none : Option Value), h1)) rfl (by decide) rfl (fun Z C hr _ _ => ?_)
  have hz0 : (z00 Z).1 ≤ 0 ∧ (z00 Z).2.1 ≤ 0 := ⟨Nat.le_refl 0, Nat.le_refl 0⟩
  refine z_aload_n (pc := 0) C (zD D_X1_startCompany_0 0 rfl) rfl 0 rfl ?_
  refine z_getR (pc := 1) C zc1 2 (by decide) q_40 (zD D_X1_startCompany_0 1 rfl) (fun v1 => ?_)
  refine z_iload_n (pc := 4) C (zD D_X1_startCompany_0 2 rfl) rfl 1 rfl ?_
  refine z_arload (pc := 5) C (c := 3) (by decide) rfl (zD D_X1_startCompany_0 3 rfl) (fun v5 => ?_)
  refine z_astore (pc := 6) (lv' := [(4, .ref (B + v5)), (0, .ref (B + this)), (1, .int p0), (2, .int p1), (3, .int p2)]) C (zD D_X1_startCompany_0 4 rfl) (by decide) rfl ?_
  refine z_aload (pc := 8) C (zD D_X1_startCompany_0 5 rfl) 0 rfl ?_
  refine z_iload_n (pc := 10) C (zD D_X1_startCompany_0 6 rfl) rfl 3 rfl ?_
  refine z_iload_n (pc := 11) C (zD D_X1_startCompany_0 7 rfl) rfl 4 rfl ?_
  refine z_cvV (pc := 12) (As := [.int p1, .int p2]) C [] (c_X0_openAt _ _ _ _ n v5 p1 p2 h) zn_X0_openAt (by decide) (by decide) hz0 zc0 rfl q_307 q_308 q_309 q_45 q_310 rfl rfl rfl (zD D_X1_startCompany_0 8 rfl) (fun h12 => ?_)
  refine z_aload (pc := 15) C (zD D_X1_startCompany_0 9 rfl) 0 rfl ?_
  refine z_cvR (pc := 17) (As := []) C [] (c_X0_price _ _ _ _ n v5 h12) zn_X0_price (by decide) (by decide) hz0 zc0 rfl q_175 q_176 q_177 q_45 q_178 rfl rfl rfl (zD D_X1_startCompany_0 10 rfl) (fun r17 => ?_)
  refine z_istore (pc := 20) (lv' := [(5, .int r17), (4, .ref (B + v5)), (0, .ref (B + this)), (1, .int p0), (2, .int p1), (3, .int p2)]) C (zD D_X1_startCompany_0 11 rfl) (by decide) rfl ?_
  refine z_aload_n (pc := 22) C (zD D_X1_startCompany_0 12 rfl) rfl 2 rfl ?_
  refine z_aload_n (pc := 23) C (zD D_X1_startCompany_0 13 rfl) rfl 2 rfl ?_
  refine z_getI (pc := 24) C zc1 9 (by decide) q_65 (zD D_X1_startCompany_0 14 rfl) (fun v24 => ?_)
  refine z_iconst (pc := 27) (v := 2) C (zD D_X1_startCompany_0 15 rfl) (by decide) ?_
  refine z_iload (pc := 28) C (zD D_X1_startCompany_0 16 rfl) 0 rfl ?_
  refine z_imul (pc := 30) C (zD D_X1_startCompany_0 17 rfl) ?_
  refine z_cvV (pc := 31) (As := [.int v24, .int ((2 : Int32) * r17)]) C [] (c_X1_playerPays _ _ _ _ n this v24 ((2 : Int32) * r17) h12) zn_X1_playerPays (by decide) (by decide) hz0 zc1 rfl q_311 q_312 q_313 q_16 q_314 rfl rfl rfl (zD D_X1_startCompany_0 18 rfl) (fun h31 => ?_)
  refine z_aload (pc := 34) C (zD D_X1_startCompany_0 19 rfl) 1 rfl ?_
  refine z_getR (pc := 36) C zc0 0 (by decide) q_174 (zD D_X1_startCompany_0 20 rfl) (fun v36 => ?_)
  refine z_aload_n (pc := 39) C (zD D_X1_startCompany_0 21 rfl) rfl 2 rfl ?_
  refine z_getI (pc := 40) C zc1 9 (by decide) q_65 (zD D_X1_startCompany_0 22 rfl) (fun v40 => ?_)
  refine z_iconst (pc := 43) (v := 2) C (zD D_X1_startCompany_0 23 rfl) (by decide) ?_
  refine z_aistore (pc := 44) C (zD D_X1_startCompany_0 24 rfl) (fun h44 => ?_)
  refine z_aload (pc := 45) C (zD D_X1_startCompany_0 25 rfl) 1 rfl ?_
  refine z_cvV (pc := 47) (As := []) C [] (c_X0_findPresident _ _ _ _ n v5 h44) zn_X0_findPresident (by decide) (by decide) hz0 zc0 rfl q_315 q_316 q_317 q_45 q_318 rfl rfl rfl (zD D_X1_startCompany_0 26 rfl) (fun h47 => ?_)
  refine z_aload (pc := 50) C (zD D_X1_startCompany_0 27 rfl) 1 rfl ?_
  refine z_iconst (pc := 52) (v := 5) C (zD D_X1_startCompany_0 28 rfl) (by decide) ?_
  refine z_iload (pc := 53) C (zD D_X1_startCompany_0 29 rfl) 0 rfl ?_
  refine z_imul (pc := 55) C (zD D_X1_startCompany_0 30 rfl) ?_
  refine z_putI (pc := 56) C zc0 3 (by decide) q_306 rfl rfl (zD D_X1_startCompany_0 31 rfl) (fun h56 => ?_)
  refine z_aload_n (pc := 59) C (zD D_X1_startCompany_0 32 rfl) rfl 2 rfl ?_
  refine z_dup (pc := 60) C (zD D_X1_startCompany_0 33 rfl) rfl ?_
  refine z_getI (pc := 61) C zc1 13 (by decide) q_69 (zD D_X1_startCompany_0 34 rfl) (fun v61 => ?_)
  refine z_aload (pc := 64) C (zD D_X1_startCompany_0 35 rfl) 1 rfl ?_
  refine z_getI (pc := 66) C zc0 3 (by decide) q_306 (zD D_X1_startCompany_0 36 rfl) (fun v66 => ?_)
  refine z_isub (pc := 69) C (zD D_X1_startCompany_0 37 rfl) ?_
  refine z_putI (pc := 70) C zc1 13 (by decide) q_69 rfl rfl (zD D_X1_startCompany_0 38 rfl) (fun h70 => ?_)
  refine z_aload_n (pc := 73) C (zD D_X1_startCompany_0 39 rfl) rfl 2 rfl ?_
  refine z_cvV (pc := 74) (As := []) C [] (c_X1_endActiveTurn _ _ _ _ n this h70) zn_X1_endActiveTurn (by decide) (by decide) hz0 zc1 rfl q_319 q_320 q_321 q_16 q_322 rfl rfl rfl (zD D_X1_startCompany_0 40 rfl) (fun h74 => ?_)
  exact z_vret (pc := 77) C hr rfl (zD D_X1_startCompany_0 41 rfl)
def f_X1_worthOf (n : Nat) (this : Nat) (p0 : Int32) (h : zH) : Option (Int32) := (zgR h this 1 3).bind fun (v1 : Nat) => (zai h v1 p0).bind fun (v5 : Int32) => zfix2 (fun rec9 (a2_9 : Int32) (a3_9 : Int32) => if (4 : Int32) ≤ a3_9 then (some a2_9) else ((zgR h this 1 2).bind fun (v16 : Nat) => (zar h v16 3 a3_9).bind fun (v20 : Nat) => (zgR h v20 0 0).bind fun (v21 : Nat) => (zai h v21 p0).bind fun (v25 : Int32) => (zgR h this 1 2).bind fun (v27 : Nat) => (zar h v27 3 a3_9).bind fun (v31 : Nat) => zrc h v31 0 <| (f_X0_price n v31 h).bind fun (r32 : Int32) => zlet ((a2_9 + (v25 * r32))) fun (x37 : Int32) => zlet (a3_9 + 1) fun (x38 : Int32) => rec9 x37 x38)) n v5 (0 : Int32)
theorem zn_X1_worthOf : zNm yX1_worthOf 1 := ⟨by decide +kernel, by decide +kernel⟩
set_option maxRecDepth 100000 in
set_option maxHeartbeats 4000000 in
theorem c_X1_worthOf (l : Launch) (B : Nat) (D : va_G) (cA : Nat → ClassId) (n : Nat) (this : Nat) (p0 : Int32) (h : zH) : ∀ u, f_X1_worthOf n this p0 h = some u → zM l B D cA yX1_worthOf cX1_worthOf 4 (some .int) 3 0 0 none [.ref (B + this), .int p0] h ((fun r : Int32 => (some (Value.int r), h)) u).1 ((fun r : Int32 => (some (Value.int r), h)) u).2 := by
  unfold f_X1_worthOf
  refine z_met (own := RX1) (fun r : Int32 => (some (Value.int r), h)) rfl (by decide) rfl (fun Z C hr _ _ => ?_)
  have hz0 : (z00 Z).1 ≤ 0 ∧ (z00 Z).2.1 ≤ 0 := ⟨Nat.le_refl 0, Nat.le_refl 0⟩
  refine z_aload_n (pc := 0) C (zD D_X1_worthOf_0 0 rfl) rfl 0 rfl ?_
  refine z_getR (pc := 1) C zc1 3 (by decide) q_41 (zD D_X1_worthOf_0 1 rfl) (fun v1 => ?_)
  refine z_iload_n (pc := 4) C (zD D_X1_worthOf_0 2 rfl) rfl 1 rfl ?_
  refine z_aiload (pc := 5) C (zD D_X1_worthOf_0 3 rfl) (fun v5 => ?_)
  refine z_istore_n (pc := 6) (lv' := [(2, .int v5), (0, .ref (B + this)), (1, .int p0)]) C (zD D_X1_worthOf_0 4 rfl) rfl (by decide) rfl ?_
  refine z_iconst (pc := 7) (v := 0) C (zD D_X1_worthOf_0 5 rfl) (by decide) ?_
  refine z_istore_n (pc := 8) (lv' := [(3, .int (0 : Int32)), (2, .int v5), (0, .ref (B + this)), (1, .int p0)]) C (zD D_X1_worthOf_0 6 rfl) rfl (by decide) rfl ?_
  refine z_sub [2, 3, 1, 0] (lv' := [(0, .ref (B + this)), (1, .int p0), (2, .int v5), (3, .int (0 : Int32))]) rfl ?_
  refine z_fix2 (fun g9 => ∀ (a2_9 : Int32) (a3_9 : Int32), zJ B Z (zEnd B Z (fun r : Int32 => (some (Value.int r), h)) 0 0) (g9 a2_9 a3_9) 9 [(0, .ref (B + this)), (1, .int p0), (2, .int a2_9), (3, .int a3_9)] [] h (z00 Z)) (fun _ _ => z_none) (fun rec9 hrec9 a2_9 a3_9 => ?_) n v5 (0 : Int32)
  refine z_iload_n (pc := 9) C (zD D_X1_worthOf_0 7 rfl) rfl 3 rfl ?_
  refine z_iconst (pc := 10) (v := 4) C (zD D_X1_worthOf_0 8 rfl) (by decide) ?_
  refine z_icmp_ge (pc := 11) C (zD D_X1_worthOf_0 9 rfl) (tgt := 44) (by decide) (fun _ => ?_) (fun _ => ?_)
  · refine z_iload_n (pc := 44) C (zD D_X1_worthOf_0 28 rfl) rfl 2 rfl ?_
    exact z_iret (pc := 45) C hr rfl (zD D_X1_worthOf_0 29 rfl)
  · refine z_iload_n (pc := 14) C (zD D_X1_worthOf_0 10 rfl) rfl 2 rfl ?_
    refine z_aload_n (pc := 15) C (zD D_X1_worthOf_0 11 rfl) rfl 0 rfl ?_
    refine z_getR (pc := 16) C zc1 2 (by decide) q_40 (zD D_X1_worthOf_0 12 rfl) (fun v16 => ?_)
    refine z_iload_n (pc := 19) C (zD D_X1_worthOf_0 13 rfl) rfl 3 rfl ?_
    refine z_arload (pc := 20) C (c := 3) (by decide) rfl (zD D_X1_worthOf_0 14 rfl) (fun v20 => ?_)
    refine z_getR (pc := 21) C zc0 0 (by decide) q_174 (zD D_X1_worthOf_0 15 rfl) (fun v21 => ?_)
    refine z_iload_n (pc := 24) C (zD D_X1_worthOf_0 16 rfl) rfl 1 rfl ?_
    refine z_aiload (pc := 25) C (zD D_X1_worthOf_0 17 rfl) (fun v25 => ?_)
    refine z_aload_n (pc := 26) C (zD D_X1_worthOf_0 18 rfl) rfl 0 rfl ?_
    refine z_getR (pc := 27) C zc1 2 (by decide) q_40 (zD D_X1_worthOf_0 19 rfl) (fun v27 => ?_)
    refine z_iload_n (pc := 30) C (zD D_X1_worthOf_0 20 rfl) rfl 3 rfl ?_
    refine z_arload (pc := 31) C (c := 3) (by decide) rfl (zD D_X1_worthOf_0 21 rfl) (fun v31 => ?_)
    refine z_cvR (pc := 32) (As := []) C [.int v25, .int a2_9] (c_X0_price _ _ _ _ n v31 h) zn_X0_price (by decide) (by decide) hz0 zc0 rfl q_175 q_176 q_177 q_45 q_178 rfl rfl rfl (zD D_X1_worthOf_0 22 rfl) (fun r32 => ?_)
    refine z_imul (pc := 35) C (zD D_X1_worthOf_0 23 rfl) ?_
    refine z_iadd (pc := 36) C (zD D_X1_worthOf_0 24 rfl) ?_
    refine z_istore_nL (pc := 37) (lv' := fun x37 => [(2, .int x37), (0, .ref (B + this)), (1, .int p0), (3, .int a3_9)]) C (zD D_X1_worthOf_0 25 rfl) rfl (by decide) (fun _ => rfl) (fun x37 => ?_)
    refine z_iincL (pc := 38) (lv' := fun x38 => [(3, .int x38), (2, .int x37), (0, .ref (B + this)), (1, .int p0)]) C (zD D_X1_worthOf_0 26 rfl) 3 rfl (v := a3_9 + 1) rfl (by decide) (fun _ => rfl) (fun x38 => ?_)
    refine z_goto (pc := 41) C (zD D_X1_worthOf_0 27 rfl) (tgt := 9) (by decide) ?_
    refine z_sub [2, 3, 1, 0] (lv' := [(0, .ref (B + this)), (1, .int p0), (2, .int x37), (3, .int x38)]) rfl ?_
    exact hrec9 x37 x38
def f_X1_canOperate (n : Nat) (this : Nat) (p0 : Int32) (p1 : Int32) (h : zH) : Option (Int32 × zH) := zrc h this 1 <| (f_X1_nextCompany n this h).bind fun (r1 : Int32) => if r1 = (-1 : Int32) then (some ((0 : Int32), h)) else (zlet (fun (s0_27 : Int32) => zlet (fun (h49 : zH) => some ((1 : Int32), h49)) fun K49 => if s0_27 = 0 then (K49 h) else ((zgR h this 1 2).bind fun (v36 : Nat) => (zar h v36 3 r1).bind fun (v40 : Nat) => zrc h this 1 <| zb2 (f_X1_canLay n this v40 p0 p1 h) fun (r43 : Int32) (h43 : zH) => if r43 = 0 then (some ((0 : Int32), h43)) else (K49 h43))) fun K27 => zlet (K27 (1 : Int32)) fun K22 => if p0 = (-1 : Int32) then (if p1 = (-1 : Int32) then (K27 (0 : Int32)) else (K22)) else (K22))
theorem zn_X1_canOperate : zNm yX1_canOperate 2 := ⟨by decide +kernel, by decide +kernel⟩
set_option maxRecDepth 100000 in
set_option maxHeartbeats 4000000 in
theorem c_X1_canOperate (l : Launch) (B : Nat) (D : va_G) (cA : Nat → ClassId) (n : Nat) (this : Nat) (p0 : Int32) (p1 : Int32) (h : zH) : ∀ u, f_X1_canOperate n this p0 p1 h = some u → zM l B D cA yX1_canOperate cX1_canOperate 5 (some .boolean) 4 0 0 none [.ref (B + this), .int p0, .int p1] h ((fun u : Int32 × zH => (some (Value.int u.1), u.2)) u).1 ((fun u : Int32 × zH => (some (Value.int u.1), u.2)) u).2 := by
  unfold f_X1_canOperate
  refine z_met (own := RX1) (fun u : Int32 × zH => (some (Value.int u.1), u.2)) rfl (by decide) rfl (fun Z C hr _ _ => ?_)
  have hz0 : (z00 Z).1 ≤ 0 ∧ (z00 Z).2.1 ≤ 0 := ⟨Nat.le_refl 0, Nat.le_refl 0⟩
  refine z_aload_n (pc := 0) C (zD D_X1_canOperate_0 0 rfl) rfl 0 rfl ?_
  refine z_cvR (pc := 1) (As := []) C [] (c_X1_nextCompany _ _ _ _ n this h) zn_X1_nextCompany (by decide) (by decide) hz0 zc1 rfl q_148 q_149 q_150 q_16 q_151 rfl rfl rfl (zD D_X1_canOperate_0 1 rfl) (fun r1 => ?_)
  refine z_istore_n (pc := 4) (lv' := [(3, .int r1), (0, .ref (B + this)), (1, .int p0), (2, .int p1)]) C (zD D_X1_canOperate_0 2 rfl) rfl (by decide) rfl ?_
  refine z_iload_n (pc := 5) C (zD D_X1_canOperate_0 3 rfl) rfl 0 rfl ?_
  refine z_iconst (pc := 6) (v := -1) C (zD D_X1_canOperate_0 4 rfl) (by decide) ?_
  refine z_icmp_ne (pc := 7) C (zD D_X1_canOperate_0 5 rfl) (tgt := 12) (by decide) (fun _ => ?_) (fun _ => ?_)
  · refine z_iload_n (pc := 12) C (zD D_X1_canOperate_0 8 rfl) rfl 2 rfl ?_
    refine z_iconst (pc := 13) (v := -1) C (zD D_X1_canOperate_0 9 rfl) (by decide) ?_
    refine z_letg (fun K27 => ∀ (s0_27 : Int32), zJ B Z (zEnd B Z (fun u : Int32 × zH => (some (Value.int u.1), u.2)) 0 0) (K27 s0_27) 27 [(0, .ref (B + this)), (1, .int p0), (2, .int p1), (3, .int r1)] [.int s0_27] h (z00 Z)) (fun s0_27 => ?_) (fun K27 hK27 => ?_)
    · refine z_istore (pc := 27) (lv' := [(4, .int s0_27), (0, .ref (B + this)), (1, .int p0), (2, .int p1), (3, .int r1)]) C (zD D_X1_canOperate_0 17 rfl) (by decide) rfl ?_
      refine z_iload (pc := 29) C (zD D_X1_canOperate_0 18 rfl) 0 rfl ?_
      refine z_letg (fun K49 => ∀ (h49 : zH), zJ B Z (zEnd B Z (fun u : Int32 × zH => (some (Value.int u.1), u.2)) 0 0) (K49 h49) 49 [] [] h49 (z00 Z)) (fun h49 => ?_) (fun K49 hK49 => ?_)
      · refine z_iconst (pc := 49) (v := 1) C (zD D_X1_canOperate_0 29 rfl) (by decide) ?_
        refine z_goto (pc := 50) C (zD D_X1_canOperate_0 30 rfl) (tgt := 54) (by decide) ?_
        exact z_zret (pc := 54) C hr (by decide) rfl (zD D_X1_canOperate_0 32 rfl)
      refine z_if_eq (pc := 31) C (zD D_X1_canOperate_0 19 rfl) (tgt := 49) (by decide) (fun _ => ?_) (fun _ => ?_)
      · refine z_sub [] (lv' := []) rfl ?_
        exact hK49 h
      · refine z_aload_n (pc := 34) C (zD D_X1_canOperate_0 20 rfl) rfl 1 rfl ?_
        refine z_aload_n (pc := 35) C (zD D_X1_canOperate_0 21 rfl) rfl 1 rfl ?_
        refine z_getR (pc := 36) C zc1 2 (by decide) q_40 (zD D_X1_canOperate_0 22 rfl) (fun v36 => ?_)
        refine z_iload_n (pc := 39) C (zD D_X1_canOperate_0 23 rfl) rfl 4 rfl ?_
        refine z_arload (pc := 40) C (c := 3) (by decide) rfl (zD D_X1_canOperate_0 24 rfl) (fun v40 => ?_)
        refine z_iload_n (pc := 41) C (zD D_X1_canOperate_0 25 rfl) rfl 2 rfl ?_
        refine z_iload_n (pc := 42) C (zD D_X1_canOperate_0 26 rfl) rfl 3 rfl ?_
        refine z_cvI (pc := 43) (As := [.ref (B + v40), .int p0, .int p1]) C [] (c_X1_canLay _ _ _ _ n this v40 p0 p1 h) zn_X1_canLay (by decide) (by decide) hz0 zc1 rfl q_394 q_395 q_396 q_16 q_397 rfl rfl rfl (zD D_X1_canOperate_0 27 rfl) (fun r43 h43 => ?_)
        refine z_if_eq (pc := 46) C (zD D_X1_canOperate_0 28 rfl) (tgt := 53) (by decide) (fun _ => ?_) (fun _ => ?_)
        · refine z_iconst (pc := 53) (v := 0) C (zD D_X1_canOperate_0 31 rfl) (by decide) ?_
          exact z_zret (pc := 54) C hr (by decide) rfl (zD D_X1_canOperate_0 32 rfl)
        · refine z_sub [] (lv' := []) rfl ?_
          exact hK49 h43
    refine z_letg (fun K22 => zJ B Z (zEnd B Z (fun u : Int32 × zH => (some (Value.int u.1), u.2)) 0 0) (K22) 22 [(0, .ref (B + this)), (1, .int p0), (2, .int p1), (3, .int r1)] [] h (z00 Z)) ?_ (fun K22 hK22 => ?_)
    · refine z_iconst (pc := 22) (v := 1) C (zD D_X1_canOperate_0 14 rfl) (by decide) ?_
      refine z_goto (pc := 23) C (zD D_X1_canOperate_0 15 rfl) (tgt := 27) (by decide) ?_
      exact hK27 (1 : Int32)
    refine z_icmp_ne (pc := 14) C (zD D_X1_canOperate_0 10 rfl) (tgt := 22) (by decide) (fun _ => ?_) (fun _ => ?_)
    · refine z_sub [1, 2, 3, 0] (lv' := [(0, .ref (B + this)), (1, .int p0), (2, .int p1), (3, .int r1)]) rfl ?_
      exact hK22
    · refine z_iload_n (pc := 17) C (zD D_X1_canOperate_0 11 rfl) rfl 3 rfl ?_
      refine z_iconst (pc := 18) (v := -1) C (zD D_X1_canOperate_0 12 rfl) (by decide) ?_
      refine z_icmp_eq (pc := 19) C (zD D_X1_canOperate_0 13 rfl) (tgt := 26) (by decide) (fun _ => ?_) (fun _ => ?_)
      · refine z_iconst (pc := 26) (v := 0) C (zD D_X1_canOperate_0 16 rfl) (by decide) ?_
        refine z_sub [1, 2, 3, 0] (lv' := [(0, .ref (B + this)), (1, .int p0), (2, .int p1), (3, .int r1)]) rfl ?_
        exact hK27 (0 : Int32)
      · refine z_sub [1, 2, 3, 0] (lv' := [(0, .ref (B + this)), (1, .int p0), (2, .int p1), (3, .int r1)]) rfl ?_
        exact hK22
  · refine z_iconst (pc := 10) (v := 0) C (zD D_X1_canOperate_0 6 rfl) (by decide) ?_
    exact z_zret (pc := 11) C hr (by decide) rfl (zD D_X1_canOperate_0 7 rfl)
def f_X1_payUpkeep (n : Nat) (this : Nat) (p0 : Nat) (h : zH) : Option (zH) := (zgI h p0 0 5).bind fun (v2 : Int32) => zlet (((5 : Int32) * v2)) fun (x6 : Int32) => (zgI h p0 0 3).bind fun (v9 : Int32) => zlet ((zmin x6 v9)) fun (x15 : Int32) => zrc h this 1 <| (f_X1_companyPays n this p0 x15 h).bind fun (h19 : zH) => zlet ((x6 - x15)) fun (x25 : Int32) => zlet (fun (a4_55 : Int32) (h55 : zH) => if a4_55 ≤ 0 then (some h55) else ((zgI h55 p0 0 3).bind fun (v63 : Int32) => zrc h55 this 1 <| (f_X1_companyPays n this p0 v63 h55).bind fun (h66 : zH) => zrc h66 p0 0 <| (f_X0_close n p0 h66).bind fun (h70 : zH) => (zgI h70 this 1 14).bind fun (v75 : Int32) => (zp h70 this 1 14 (.int (v75 + (1 : Int32)))).bind fun (h80 : zH) => some h80)) fun K55 => if x25 ≤ 0 then (K55 x25 h19) else ((zgI h19 p0 0 6).bind fun (v33 : Int32) => if v33 = (-1 : Int32) then (K55 x25 h19) else ((zgI h19 p0 0 6).bind fun (v44 : Int32) => zrc h19 this 1 <| zb2 (f_X1_payRest n this v44 x25 h19) fun (r49 : Int32) (h49 : zH) => zlet ((x25 - r49)) fun (x53 : Int32) => K55 x53 h49))
theorem zn_X1_payUpkeep : zNm yX1_payUpkeep 1 := ⟨by decide +kernel, by decide +kernel⟩
set_option maxRecDepth 100000 in
set_option maxHeartbeats 4000000 in
theorem c_X1_payUpkeep (l : Launch) (B : Nat) (D : va_G) (cA : Nat → ClassId) (n : Nat) (this : Nat) (p0 : Nat) (h : zH) : ∀ u, f_X1_payUpkeep n this p0 h = some u → zM l B D cA yX1_payUpkeep cX1_payUpkeep 5 none 4 0 0 none [.ref (B + this), .ref (B + p0)] h ((fun h1 : zH => ((none : Option Value), h1)) u).1 ((fun h1 : zH => ((none : Option Value), h1)) u).2 := by
  unfold f_X1_payUpkeep
  refine z_met (own := RX1) (fun h1 : zH => ((none : Option Value), h1)) rfl (by decide) rfl (fun Z C hr _ _ => ?_)
  have hz0 : (z00 Z).1 ≤ 0 ∧ (z00 Z).2.1 ≤ 0 := ⟨Nat.le_refl 0, Nat.le_refl 0⟩
  refine z_iconst (pc := 0) (v := 5) C (zD D_X1_payUpkeep_0 0 rfl) (by decide) ?_
  refine z_aload_n (pc := 1) C (zD D_X1_payUpkeep_0 1 rfl) rfl 1 rfl ?_
  refine z_getI (pc := 2) C zc0 5 (by decide) q_200 (zD D_X1_payUpkeep_0 2 rfl) (fun v2 => ?_)
  refine z_imul (pc := 5) C (zD D_X1_payUpkeep_0 3 rfl) ?_
  refine z_istore_nL (pc := 6) (lv' := fun x6 => [(2, .int x6), (0, .ref (B + this)), (1, .ref (B + p0))]) C (zD D_X1_payUpkeep_0 4 rfl) rfl (by decide) (fun _ => rfl) (fun x6 => ?_)
  refine z_iload_n (pc := 7) C (zD D_X1_payUpkeep_0 5 rfl) rfl 0 rfl ?_
  refine z_aload_n (pc := 8) C (zD D_X1_payUpkeep_0 6 rfl) rfl 2 rfl ?_
  refine z_getI (pc := 9) C zc0 3 (by decide) q_306 (zD D_X1_payUpkeep_0 7 rfl) (fun v9 => ?_)
  refine z_min (pc := 12) C [] rfl q_430 q_208 q_209 q_210 (by decide) rfl hz0 (zD D_X1_payUpkeep_0 8 rfl) ?_
  refine z_istore_nL (pc := 15) (lv' := fun x15 => [(3, .int x15), (2, .int x6), (0, .ref (B + this)), (1, .ref (B + p0))]) C (zD D_X1_payUpkeep_0 9 rfl) rfl (by decide) (fun _ => rfl) (fun x15 => ?_)
  refine z_aload_n (pc := 16) C (zD D_X1_payUpkeep_0 10 rfl) rfl 2 rfl ?_
  refine z_aload_n (pc := 17) C (zD D_X1_payUpkeep_0 11 rfl) rfl 3 rfl ?_
  refine z_iload_n (pc := 18) C (zD D_X1_payUpkeep_0 12 rfl) rfl 0 rfl ?_
  refine z_cvV (pc := 19) (As := [.ref (B + p0), .int x15]) C [] (c_X1_companyPays _ _ _ _ n this p0 x15 h) zn_X1_companyPays (by decide) (by decide) hz0 zc1 rfl q_413 q_414 q_415 q_16 q_416 rfl rfl rfl (zD D_X1_payUpkeep_0 13 rfl) (fun h19 => ?_)
  refine z_iload_n (pc := 22) C (zD D_X1_payUpkeep_0 14 rfl) rfl 1 rfl ?_
  refine z_iload_n (pc := 23) C (zD D_X1_payUpkeep_0 15 rfl) rfl 0 rfl ?_
  refine z_isub (pc := 24) C (zD D_X1_payUpkeep_0 16 rfl) ?_
  refine z_istoreL (pc := 25) (lv' := fun x25 => [(4, .int x25), (3, .int x15), (2, .int x6), (0, .ref (B + this)), (1, .ref (B + p0))]) C (zD D_X1_payUpkeep_0 17 rfl) (by decide) (fun _ => rfl) (fun x25 => ?_)
  refine z_iload (pc := 27) C (zD D_X1_payUpkeep_0 18 rfl) 0 rfl ?_
  refine z_letg (fun K55 => ∀ (a4_55 : Int32) (h55 : zH), zJ B Z (zEnd B Z (fun h1 : zH => ((none : Option Value), h1)) 0 0) (K55 a4_55 h55) 55 [(0, .ref (B + this)), (1, .ref (B + p0)), (4, .int a4_55)] [] h55 (z00 Z)) (fun a4_55 h55 => ?_) (fun K55 hK55 => ?_)
  · refine z_iload (pc := 55) C (zD D_X1_payUpkeep_0 32 rfl) 2 rfl ?_
    refine z_if_le (pc := 57) C (zD D_X1_payUpkeep_0 33 rfl) (tgt := 83) (by decide) (fun _ => ?_) (fun _ => ?_)
    · exact z_vret (pc := 83) C hr rfl (zD D_X1_payUpkeep_0 47 rfl)
    · refine z_aload_n (pc := 60) C (zD D_X1_payUpkeep_0 34 rfl) rfl 0 rfl ?_
      refine z_aload_n (pc := 61) C (zD D_X1_payUpkeep_0 35 rfl) rfl 1 rfl ?_
      refine z_aload_n (pc := 62) C (zD D_X1_payUpkeep_0 36 rfl) rfl 1 rfl ?_
      refine z_getI (pc := 63) C zc0 3 (by decide) q_306 (zD D_X1_payUpkeep_0 37 rfl) (fun v63 => ?_)
      refine z_cvV (pc := 66) (As := [.ref (B + p0), .int v63]) C [] (c_X1_companyPays _ _ _ _ n this p0 v63 h55) zn_X1_companyPays (by decide) (by decide) hz0 zc1 rfl q_413 q_414 q_415 q_16 q_416 rfl rfl rfl (zD D_X1_payUpkeep_0 38 rfl) (fun h66 => ?_)
      refine z_aload_n (pc := 69) C (zD D_X1_payUpkeep_0 39 rfl) rfl 1 rfl ?_
      refine z_cvV (pc := 70) (As := []) C [] (c_X0_close _ _ _ _ n p0 h66) zn_X0_close (by decide) (by decide) hz0 zc0 rfl q_79 q_80 q_81 q_45 q_82 rfl rfl rfl (zD D_X1_payUpkeep_0 40 rfl) (fun h70 => ?_)
      refine z_aload_n (pc := 73) C (zD D_X1_payUpkeep_0 41 rfl) rfl 0 rfl ?_
      refine z_dup (pc := 74) C (zD D_X1_payUpkeep_0 42 rfl) rfl ?_
      refine z_getI (pc := 75) C zc1 14 (by decide) q_70 (zD D_X1_payUpkeep_0 43 rfl) (fun v75 => ?_)
      refine z_iconst (pc := 78) (v := 1) C (zD D_X1_payUpkeep_0 44 rfl) (by decide) ?_
      refine z_iadd (pc := 79) C (zD D_X1_payUpkeep_0 45 rfl) ?_
      refine z_putI (pc := 80) C zc1 14 (by decide) q_70 rfl rfl (zD D_X1_payUpkeep_0 46 rfl) (fun h80 => ?_)
      exact z_vret (pc := 83) C hr rfl (zD D_X1_payUpkeep_0 47 rfl)
  refine z_if_le (pc := 29) C (zD D_X1_payUpkeep_0 19 rfl) (tgt := 55) (by decide) (fun _ => ?_) (fun _ => ?_)
  · refine z_sub [3, 4, 0] (lv' := [(0, .ref (B + this)), (1, .ref (B + p0)), (4, .int x25)]) rfl ?_
    exact hK55 x25 h19
  · refine z_aload_n (pc := 32) C (zD D_X1_payUpkeep_0 20 rfl) rfl 4 rfl ?_
    refine z_getI (pc := 33) C zc0 6 (by decide) q_186 (zD D_X1_payUpkeep_0 21 rfl) (fun v33 => ?_)
    refine z_iconst (pc := 36) (v := -1) C (zD D_X1_payUpkeep_0 22 rfl) (by decide) ?_
    refine z_icmp_eq (pc := 37) C (zD D_X1_payUpkeep_0 23 rfl) (tgt := 55) (by decide) (fun _ => ?_) (fun _ => ?_)
    · refine z_sub [3, 4, 0] (lv' := [(0, .ref (B + this)), (1, .ref (B + p0)), (4, .int x25)]) rfl ?_
      exact hK55 x25 h19
    · refine z_iload (pc := 40) C (zD D_X1_payUpkeep_0 24 rfl) 0 rfl ?_
      refine z_aload_n (pc := 42) C (zD D_X1_payUpkeep_0 25 rfl) rfl 3 rfl ?_
      refine z_aload_n (pc := 43) C (zD D_X1_payUpkeep_0 26 rfl) rfl 4 rfl ?_
      refine z_getI (pc := 44) C zc0 6 (by decide) q_186 (zD D_X1_payUpkeep_0 27 rfl) (fun v44 => ?_)
      refine z_iload (pc := 47) C (zD D_X1_payUpkeep_0 28 rfl) 0 rfl ?_
      refine z_cvI (pc := 49) (As := [.int v44, .int x25]) C [.int x25] (c_X1_payRest _ _ _ _ n this v44 x25 h19) zn_X1_payRest (by decide) (by decide) hz0 zc1 rfl q_431 q_432 q_433 q_16 q_434 rfl rfl rfl (zD D_X1_payUpkeep_0 29 rfl) (fun r49 h49 => ?_)
      refine z_isub (pc := 52) C (zD D_X1_payUpkeep_0 30 rfl) ?_
      refine z_istoreL (pc := 53) (lv' := fun x53 => [(4, .int x53), (3, .int x15), (2, .int x6), (0, .ref (B + this)), (1, .ref (B + p0))]) C (zD D_X1_payUpkeep_0 31 rfl) (by decide) (fun _ => rfl) (fun x53 => ?_)
      refine z_sub [3, 4, 0] (lv' := [(0, .ref (B + this)), (1, .ref (B + p0)), (4, .int x53)]) rfl ?_
      exact hK55 x53 h49
def f_X1_incomeOf (n : Nat) (this : Nat) (p0 : Nat) (h : zH) : Option (Int32 × zH) := (zgR h this 1 0).bind fun (v1 : Nat) => (zgR h this 1 1).bind fun (v5 : Nat) => (zgI h p0 0 2).bind fun (v9 : Int32) => (zgI h p0 0 5).bind fun (v13 : Int32) => zrc h v1 3 <| (f_X3_find n v1 v5 v9 v13 h).bind fun (h16 : zH) => (zgR h16 this 1 0).bind fun (v20 : Nat) => zrc h16 v20 3 <| (f_X3_income n v20 h16).bind fun (r23 : Int32) => some (r23, h16)
theorem zn_X1_incomeOf : zNm yX1_incomeOf 1 := ⟨by decide +kernel, by decide +kernel⟩
set_option maxRecDepth 100000 in
set_option maxHeartbeats 4000000 in
theorem c_X1_incomeOf (l : Launch) (B : Nat) (D : va_G) (cA : Nat → ClassId) (n : Nat) (this : Nat) (p0 : Nat) (h : zH) : ∀ u, f_X1_incomeOf n this p0 h = some u → zM l B D cA yX1_incomeOf cX1_incomeOf 2 (some .int) 11 0 0 none [.ref (B + this), .ref (B + p0)] h ((fun u : Int32 × zH => (some (Value.int u.1), u.2)) u).1 ((fun u : Int32 × zH => (some (Value.int u.1), u.2)) u).2 := by
  unfold f_X1_incomeOf
  refine z_met (own := RX1) (fun u : Int32 × zH => (some (Value.int u.1), u.2)) rfl (by decide) rfl (fun Z C hr _ _ => ?_)
  have hz0 : (z00 Z).1 ≤ 0 ∧ (z00 Z).2.1 ≤ 0 := ⟨Nat.le_refl 0, Nat.le_refl 0⟩
  refine z_aload_n (pc := 0) C (zD D_X1_incomeOf_0 0 rfl) rfl 0 rfl ?_
  refine z_getR (pc := 1) C zc1 0 (by decide) q_43 (zD D_X1_incomeOf_0 1 rfl) (fun v1 => ?_)
  refine z_aload_n (pc := 4) C (zD D_X1_incomeOf_0 2 rfl) rfl 0 rfl ?_
  refine z_getR (pc := 5) C zc1 1 (by decide) q_38 (zD D_X1_incomeOf_0 3 rfl) (fun v5 => ?_)
  refine z_aload_n (pc := 8) C (zD D_X1_incomeOf_0 4 rfl) rfl 1 rfl ?_
  refine z_getI (pc := 9) C zc0 2 (by decide) q_199 (zD D_X1_incomeOf_0 5 rfl) (fun v9 => ?_)
  refine z_aload_n (pc := 12) C (zD D_X1_incomeOf_0 6 rfl) rfl 1 rfl ?_
  refine z_getI (pc := 13) C zc0 5 (by decide) q_200 (zD D_X1_incomeOf_0 7 rfl) (fun v13 => ?_)
  refine z_cvV (pc := 16) (As := [.ref (B + v5), .int v9, .int v13]) C [] (c_X3_find _ _ _ _ n v1 v5 v9 v13 h) zn_X3_find (by decide) (by decide) hz0 zc3 rfl q_201 q_202 q_203 q_13 q_204 rfl rfl rfl (zD D_X1_incomeOf_0 8 rfl) (fun h16 => ?_)
  refine z_aload_n (pc := 19) C (zD D_X1_incomeOf_0 9 rfl) rfl 0 rfl ?_
  refine z_getR (pc := 20) C zc1 0 (by decide) q_43 (zD D_X1_incomeOf_0 10 rfl) (fun v20 => ?_)
  refine z_cvR (pc := 23) (As := []) C [] (c_X3_income _ _ _ _ n v20 h16) zn_X3_income (by decide) (by decide) hz0 zc3 rfl q_233 q_234 q_235 q_13 q_236 rfl rfl rfl (zD D_X1_incomeOf_0 11 rfl) (fun r23 => ?_)
  exact z_iret (pc := 26) C hr rfl (zD D_X1_incomeOf_0 12 rfl)
def f_X1_routeTown (n : Nat) (this : Nat) (p0 : Nat) (p1 : Int32) (h : zH) : Option (Int32 × zH) := (zgI h p0 0 1).bind fun (v1 : Int32) => if v1 = 0 then (some ((-1 : Int32), h)) else ((zgR h this 1 0).bind fun (v10 : Nat) => (zgR h this 1 1).bind fun (v14 : Nat) => (zgI h p0 0 2).bind fun (v18 : Int32) => (zgI h p0 0 5).bind fun (v22 : Int32) => zrc h v10 3 <| (f_X3_find n v10 v14 v18 v22 h).bind fun (h25 : zH) => (zgR h25 this 1 0).bind fun (v29 : Nat) => zrc h25 v29 3 <| (f_X3_routeTown n v29 p1 h25).bind fun (r33 : Int32) => some (r33, h25))
theorem zn_X1_routeTown : zNm yX1_routeTown 2 := ⟨by decide +kernel, by decide +kernel⟩
set_option maxRecDepth 100000 in
set_option maxHeartbeats 4000000 in
theorem c_X1_routeTown (l : Launch) (B : Nat) (D : va_G) (cA : Nat → ClassId) (n : Nat) (this : Nat) (p0 : Nat) (p1 : Int32) (h : zH) : ∀ u, f_X1_routeTown n this p0 p1 h = some u → zM l B D cA yX1_routeTown cX1_routeTown 3 (some .int) 11 0 0 none [.ref (B + this), .ref (B + p0), .int p1] h ((fun u : Int32 × zH => (some (Value.int u.1), u.2)) u).1 ((fun u : Int32 × zH => (some (Value.int u.1), u.2)) u).2 := by
  unfold f_X1_routeTown
  refine z_met (own := RX1) (fun u : Int32 × zH => (some (Value.int u.1), u.2)) rfl (by decide) rfl (fun Z C hr _ _ => ?_)
  have hz0 : (z00 Z).1 ≤ 0 ∧ (z00 Z).2.1 ≤ 0 := ⟨Nat.le_refl 0, Nat.le_refl 0⟩
  refine z_aload_n (pc := 0) C (zD D_X1_routeTown_0 0 rfl) rfl 1 rfl ?_
  refine z_getI (pc := 1) C zc0 1 (by decide) q_160 (zD D_X1_routeTown_0 1 rfl) (fun v1 => ?_)
  refine z_if_ne (pc := 4) C (zD D_X1_routeTown_0 2 rfl) (tgt := 9) (by decide) (fun _ => ?_) (fun _ => ?_)
  · refine z_aload_n (pc := 9) C (zD D_X1_routeTown_0 5 rfl) rfl 0 rfl ?_
    refine z_getR (pc := 10) C zc1 0 (by decide) q_43 (zD D_X1_routeTown_0 6 rfl) (fun v10 => ?_)
    refine z_aload_n (pc := 13) C (zD D_X1_routeTown_0 7 rfl) rfl 0 rfl ?_
    refine z_getR (pc := 14) C zc1 1 (by decide) q_38 (zD D_X1_routeTown_0 8 rfl) (fun v14 => ?_)
    refine z_aload_n (pc := 17) C (zD D_X1_routeTown_0 9 rfl) rfl 1 rfl ?_
    refine z_getI (pc := 18) C zc0 2 (by decide) q_199 (zD D_X1_routeTown_0 10 rfl) (fun v18 => ?_)
    refine z_aload_n (pc := 21) C (zD D_X1_routeTown_0 11 rfl) rfl 1 rfl ?_
    refine z_getI (pc := 22) C zc0 5 (by decide) q_200 (zD D_X1_routeTown_0 12 rfl) (fun v22 => ?_)
    refine z_cvV (pc := 25) (As := [.ref (B + v14), .int v18, .int v22]) C [] (c_X3_find _ _ _ _ n v10 v14 v18 v22 h) zn_X3_find (by decide) (by decide) hz0 zc3 rfl q_201 q_202 q_203 q_13 q_204 rfl rfl rfl (zD D_X1_routeTown_0 13 rfl) (fun h25 => ?_)
    refine z_aload_n (pc := 28) C (zD D_X1_routeTown_0 14 rfl) rfl 0 rfl ?_
    refine z_getR (pc := 29) C zc1 0 (by decide) q_43 (zD D_X1_routeTown_0 15 rfl) (fun v29 => ?_)
    refine z_iload_n (pc := 32) C (zD D_X1_routeTown_0 16 rfl) rfl 2 rfl ?_
    refine z_cvR (pc := 33) (As := [.int p1]) C [] (c_X3_routeTown _ _ _ _ n v29 p1 h25) zn_X3_routeTown (by decide) (by decide) hz0 zc3 rfl q_471 q_472 q_473 q_13 q_474 rfl rfl rfl (zD D_X1_routeTown_0 17 rfl) (fun r33 => ?_)
    exact z_iret (pc := 36) C hr rfl (zD D_X1_routeTown_0 18 rfl)
  · refine z_iconst (pc := 7) (v := -1) C (zD D_X1_routeTown_0 3 rfl) (by decide) ?_
    exact z_iret (pc := 8) C hr rfl (zD D_X1_routeTown_0 4 rfl)
def f_X1_incomeIfRaised (n : Nat) (this : Nat) (p0 : Nat) (p1 : Int32) (p2 : Int32) (h : zH) : Option (Int32 × zH) := (zgR h this 1 1).bind fun (v1 : Nat) => (zgR h v1 2 1).bind fun (v4 : Nat) => (zar h v4 2 p1).bind fun (v8 : Nat) => (zai h v8 p2).bind fun (v10 : Int32) => (zgR h this 1 1).bind fun (v14 : Nat) => zrc h v14 2 <| (f_X2_setLevel n v14 p1 p2 (v10 + (1 : Int32)) h).bind fun (h23 : zH) => zrc h23 this 1 <| zb2 (f_X1_incomeOf n this p0 h23) fun (r28 : Int32) (h28 : zH) => (zgR h28 this 1 1).bind fun (v34 : Nat) => zrc h28 v34 2 <| (f_X2_setLevel n v34 p1 p2 v10 h28).bind fun (h41 : zH) => some (r28, h41)
theorem zn_X1_incomeIfRaised : zNm yX1_incomeIfRaised 3 := ⟨by decide +kernel, by decide +kernel⟩
set_option maxRecDepth 100000 in
set_option maxHeartbeats 4000000 in
theorem c_X1_incomeIfRaised (l : Launch) (B : Nat) (D : va_G) (cA : Nat → ClassId) (n : Nat) (this : Nat) (p0 : Nat) (p1 : Int32) (p2 : Int32) (h : zH) : ∀ u, f_X1_incomeIfRaised n this p0 p1 p2 h = some u → zM l B D cA yX1_incomeIfRaised cX1_incomeIfRaised 6 (some .int) 12 0 0 none [.ref (B + this), .ref (B + p0), .int p1, .int p2] h ((fun u : Int32 × zH => (some (Value.int u.1), u.2)) u).1 ((fun u : Int32 × zH => (some (Value.int u.1), u.2)) u).2 := by
  unfold f_X1_incomeIfRaised
  refine z_met (own := RX1) (fun u : Int32 × zH => (some (Value.int u.1), u.2)) rfl (by decide) rfl (fun Z C hr _ _ => ?_)
  have hz0 : (z00 Z).1 ≤ 0 ∧ (z00 Z).2.1 ≤ 0 := ⟨Nat.le_refl 0, Nat.le_refl 0⟩
  refine z_aload_n (pc := 0) C (zD D_X1_incomeIfRaised_0 0 rfl) rfl 0 rfl ?_
  refine z_getR (pc := 1) C zc1 1 (by decide) q_38 (zD D_X1_incomeIfRaised_0 1 rfl) (fun v1 => ?_)
  refine z_getR (pc := 4) C zc2 1 (by decide) q_398 (zD D_X1_incomeIfRaised_0 2 rfl) (fun v4 => ?_)
  refine z_iload_n (pc := 7) C (zD D_X1_incomeIfRaised_0 3 rfl) rfl 2 rfl ?_
  refine z_arload (pc := 8) C (c := 2) (by decide) rfl (zD D_X1_incomeIfRaised_0 4 rfl) (fun v8 => ?_)
  refine z_iload_n (pc := 9) C (zD D_X1_incomeIfRaised_0 5 rfl) rfl 3 rfl ?_
  refine z_aiload (pc := 10) C (zD D_X1_incomeIfRaised_0 6 rfl) (fun v10 => ?_)
  refine z_istore (pc := 11) (lv' := [(4, .int v10), (0, .ref (B + this)), (1, .ref (B + p0)), (2, .int p1), (3, .int p2)]) C (zD D_X1_incomeIfRaised_0 7 rfl) (by decide) rfl ?_
  refine z_aload_n (pc := 13) C (zD D_X1_incomeIfRaised_0 8 rfl) rfl 1 rfl ?_
  refine z_getR (pc := 14) C zc1 1 (by decide) q_38 (zD D_X1_incomeIfRaised_0 9 rfl) (fun v14 => ?_)
  refine z_iload_n (pc := 17) C (zD D_X1_incomeIfRaised_0 10 rfl) rfl 3 rfl ?_
  refine z_iload_n (pc := 18) C (zD D_X1_incomeIfRaised_0 11 rfl) rfl 4 rfl ?_
  refine z_iload (pc := 19) C (zD D_X1_incomeIfRaised_0 12 rfl) 0 rfl ?_
  refine z_iconst (pc := 21) (v := 1) C (zD D_X1_incomeIfRaised_0 13 rfl) (by decide) ?_
  refine z_iadd (pc := 22) C (zD D_X1_incomeIfRaised_0 14 rfl) ?_
  refine z_cvV (pc := 23) (As := [.int p1, .int p2, .int (v10 + (1 : Int32))]) C [] (c_X2_setLevel _ _ _ _ n v14 p1 p2 (v10 + (1 : Int32)) h) zn_X2_setLevel (by decide) (by decide) hz0 zc2 rfl q_409 q_410 q_411 q_37 q_412 rfl rfl rfl (zD D_X1_incomeIfRaised_0 15 rfl) (fun h23 => ?_)
  refine z_aload_n (pc := 26) C (zD D_X1_incomeIfRaised_0 16 rfl) rfl 1 rfl ?_
  refine z_aload_n (pc := 27) C (zD D_X1_incomeIfRaised_0 17 rfl) rfl 2 rfl ?_
  refine z_cvI (pc := 28) (As := [.ref (B + p0)]) C [] (c_X1_incomeOf _ _ _ _ n this p0 h23) zn_X1_incomeOf (by decide) (by decide) hz0 zc1 rfl q_417 q_196 q_197 q_16 q_198 rfl rfl rfl (zD D_X1_incomeIfRaised_0 18 rfl) (fun r28 h28 => ?_)
  refine z_istore (pc := 31) (lv' := [(5, .int r28), (4, .int v10), (0, .ref (B + this)), (1, .ref (B + p0)), (2, .int p1), (3, .int p2)]) C (zD D_X1_incomeIfRaised_0 19 rfl) (by decide) rfl ?_
  refine z_aload_n (pc := 33) C (zD D_X1_incomeIfRaised_0 20 rfl) rfl 2 rfl ?_
  refine z_getR (pc := 34) C zc1 1 (by decide) q_38 (zD D_X1_incomeIfRaised_0 21 rfl) (fun v34 => ?_)
  refine z_iload_n (pc := 37) C (zD D_X1_incomeIfRaised_0 22 rfl) rfl 4 rfl ?_
  refine z_iload_n (pc := 38) C (zD D_X1_incomeIfRaised_0 23 rfl) rfl 5 rfl ?_
  refine z_iload (pc := 39) C (zD D_X1_incomeIfRaised_0 24 rfl) 1 rfl ?_
  refine z_cvV (pc := 41) (As := [.int p1, .int p2, .int v10]) C [] (c_X2_setLevel _ _ _ _ n v34 p1 p2 v10 h28) zn_X2_setLevel (by decide) (by decide) hz0 zc2 rfl q_409 q_410 q_411 q_37 q_412 rfl rfl rfl (zD D_X1_incomeIfRaised_0 25 rfl) (fun h41 => ?_)
  refine z_iload (pc := 44) C (zD D_X1_incomeIfRaised_0 26 rfl) 0 rfl ?_
  exact z_iret (pc := 46) C hr rfl (zD D_X1_incomeIfRaised_0 27 rfl)
