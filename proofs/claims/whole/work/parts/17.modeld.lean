def f_X6_buys (n : Nat) (this : Nat) (p0 : Int32) (h : zH) : Option (Int32 × zH) := (zgR h this 6 0).bind fun (v1 : Nat) => (zai h v1 (1 : Int32)).bind fun (v5 : Int32) => zrc h this 6 <| (f_X6_price n this p0 h).bind fun (r11 : Int32) => zrc h this 6 <| (f_X6_pays n this v5 r11 h).bind fun (h14 : zH) => zrc h14 this 6 <| (f_X6_holds n this v5 p0 (1 : Int32) h14).bind fun (h21 : zH) => zrc h21 this 6 <| (f_X6_ends n this h21).bind fun (h25 : zH) => zrc h25 this 6 <| (f_X6_shares n this v5 p0 h25).bind fun (r31 : Int32) => some (r31, h25)
theorem zn_X6_buys : zNm yX6_buys 1 := ⟨by decide +kernel, by decide +kernel⟩
set_option maxRecDepth 100000 in
set_option maxHeartbeats 4000000 in
theorem c_X6_buys (l : Launch) (B : Nat) (D : va_G) (cA : Nat → ClassId) (n : Nat) (this : Nat) (p0 : Int32) (h : zH) : ∀ u, f_X6_buys n this p0 h = some u → zM l B D cA yX6_buys cX6_buys 3 (some .int) 4 0 0 none [.ref (B + this), .int p0] h ((fun u : Int32 × zH => (some (Value.int u.1), u.2)) u).1 ((fun u : Int32 × zH => (some (Value.int u.1), u.2)) u).2 := by
  unfold f_X6_buys
  refine z_met (own := RX6) (fun u : Int32 × zH => (some (Value.int u.1), u.2)) rfl (by decide) rfl (fun Z C hr _ _ => ?_)
  have hz0 : (z00 Z).1 ≤ 0 ∧ (z00 Z).2.1 ≤ 0 := ⟨Nat.le_refl 0, Nat.le_refl 0⟩
  refine z_aload_n (pc := 0) C (zD D_X6_buys_0 0 rfl) rfl 0 rfl ?_
  refine z_getR (pc := 1) C zc6 0 (by decide) q_102 (zD D_X6_buys_0 1 rfl) (fun v1 => ?_)
  refine z_iconst (pc := 4) (v := 1) C (zD D_X6_buys_0 2 rfl) (by decide) ?_
  refine z_aiload (pc := 5) C (zD D_X6_buys_0 3 rfl) (fun v5 => ?_)
  refine z_istore_n (pc := 6) (lv' := [(2, .int v5), (0, .ref (B + this)), (1, .int p0)]) C (zD D_X6_buys_0 4 rfl) rfl (by decide) rfl ?_
  refine z_aload_n (pc := 7) C (zD D_X6_buys_0 5 rfl) rfl 1 rfl ?_
  refine z_iload_n (pc := 8) C (zD D_X6_buys_0 6 rfl) rfl 0 rfl ?_
  refine z_aload_n (pc := 9) C (zD D_X6_buys_0 7 rfl) rfl 1 rfl ?_
  refine z_iload_n (pc := 10) C (zD D_X6_buys_0 8 rfl) rfl 2 rfl ?_
  refine z_cvR (pc := 11) (As := [.int p0]) C [.int v5, .ref (B + this)] (c_X6_price _ _ _ _ n this p0 h) zn_X6_price (by decide) (by decide) hz0 zc6 rfl q_268 q_269 q_270 q_5 q_271 rfl rfl rfl (zD D_X6_buys_0 9 rfl) (fun r11 => ?_)
  refine z_cvV (pc := 14) (As := [.int v5, .int r11]) C [] (c_X6_pays _ _ _ _ n this v5 r11 h) zn_X6_pays (by decide) (by decide) hz0 zc6 rfl q_272 q_273 q_274 q_5 q_275 rfl rfl rfl (zD D_X6_buys_0 10 rfl) (fun h14 => ?_)
  refine z_aload_n (pc := 17) C (zD D_X6_buys_0 11 rfl) rfl 1 rfl ?_
  refine z_iload_n (pc := 18) C (zD D_X6_buys_0 12 rfl) rfl 0 rfl ?_
  refine z_iload_n (pc := 19) C (zD D_X6_buys_0 13 rfl) rfl 2 rfl ?_
  refine z_iconst (pc := 20) (v := 1) C (zD D_X6_buys_0 14 rfl) (by decide) ?_
  refine z_cvV (pc := 21) (As := [.int v5, .int p0, .int (1 : Int32)]) C [] (c_X6_holds _ _ _ _ n this v5 p0 (1 : Int32) h14) zn_X6_holds (by decide) (by decide) hz0 zc6 rfl q_276 q_277 q_278 q_5 q_279 rfl rfl rfl (zD D_X6_buys_0 15 rfl) (fun h21 => ?_)
  refine z_aload_n (pc := 24) C (zD D_X6_buys_0 16 rfl) rfl 1 rfl ?_
  refine z_cvV (pc := 25) (As := []) C [] (c_X6_ends _ _ _ _ n this h21) zn_X6_ends (by decide) (by decide) hz0 zc6 rfl q_292 q_293 q_294 q_5 q_295 rfl rfl rfl (zD D_X6_buys_0 17 rfl) (fun h25 => ?_)
  refine z_aload_n (pc := 28) C (zD D_X6_buys_0 18 rfl) rfl 1 rfl ?_
  refine z_iload_n (pc := 29) C (zD D_X6_buys_0 19 rfl) rfl 0 rfl ?_
  refine z_iload_n (pc := 30) C (zD D_X6_buys_0 20 rfl) rfl 2 rfl ?_
  refine z_cvR (pc := 31) (As := [.int v5, .int p0]) C [] (c_X6_shares _ _ _ _ n this v5 p0 h25) zn_X6_shares (by decide) (by decide) hz0 zc6 rfl q_284 q_285 q_286 q_5 q_287 rfl rfl rfl (zD D_X6_buys_0 21 rfl) (fun r31 => ?_)
  exact z_iret (pc := 34) C hr rfl (zD D_X6_buys_0 22 rfl)
def f_X6_canOperate (n : Nat) (this : Nat) (p0 : Int32) (p1 : Int32) (h : zH) : Option (Int32) := zrc h this 6 <| (f_X6_isStock n this h).bind fun (r1 : Int32) => zlet (some (0 : Int32)) fun K29 => if r1 = 0 then (zlet (some (1 : Int32)) fun K25 => if p0 = (-1 : Int32) then (K25) else (zrc h this 6 <| (f_X6_next n this h).bind fun (r14 : Int32) => zrc h this 6 <| (f_X6_canLay n this r14 p0 p1 h).bind fun (r19 : Int32) => if r19 = 0 then (K29) else (K25))) else (K29)
theorem zn_X6_canOperate : zNm yX6_canOperate 2 := ⟨by decide +kernel, by decide +kernel⟩
set_option maxRecDepth 100000 in
set_option maxHeartbeats 4000000 in
theorem c_X6_canOperate (l : Launch) (B : Nat) (D : va_G) (cA : Nat → ClassId) (n : Nat) (this : Nat) (p0 : Int32) (p1 : Int32) (h : zH) : ∀ u, f_X6_canOperate n this p0 p1 h = some u → zM l B D cA yX6_canOperate cX6_canOperate 3 (some .boolean) 4 0 0 none [.ref (B + this), .int p0, .int p1] h ((fun r : Int32 => (some (Value.int r), h)) u).1 ((fun r : Int32 => (some (Value.int r), h)) u).2 := by
  unfold f_X6_canOperate
  refine z_met (own := RX6) (fun r : Int32 => (some (Value.int r), h)) rfl (by decide) rfl (fun Z C hr _ _ => ?_)
  have hz0 : (z00 Z).1 ≤ 0 ∧ (z00 Z).2.1 ≤ 0 := ⟨Nat.le_refl 0, Nat.le_refl 0⟩
  refine z_aload_n (pc := 0) C (zD D_X6_canOperate_0 0 rfl) rfl 0 rfl ?_
  refine z_cvR (pc := 1) (As := []) C [] (c_X6_isStock _ _ _ _ n this h) zn_X6_isStock (by decide) (by decide) hz0 zc6 rfl q_252 q_253 q_254 q_5 q_255 rfl rfl rfl (zD D_X6_canOperate_0 1 rfl) (fun r1 => ?_)
  refine z_letg (fun K29 => zJ B Z (zEnd B Z (fun r : Int32 => (some (Value.int r), h)) 0 0) (K29) 29 [] [] h (z00 Z)) ?_ (fun K29 hK29 => ?_)
  · refine z_iconst (pc := 29) (v := 0) C (zD D_X6_canOperate_0 15 rfl) (by decide) ?_
    exact z_zret (pc := 30) C hr (by decide) rfl (zD D_X6_canOperate_0 16 rfl)
  refine z_if_ne (pc := 4) C (zD D_X6_canOperate_0 2 rfl) (tgt := 29) (by decide) (fun _ => ?_) (fun _ => ?_)
  · refine z_sub [] (lv' := []) rfl ?_
    exact hK29
  · refine z_iload_n (pc := 7) C (zD D_X6_canOperate_0 3 rfl) rfl 1 rfl ?_
    refine z_iconst (pc := 8) (v := -1) C (zD D_X6_canOperate_0 4 rfl) (by decide) ?_
    refine z_letg (fun K25 => zJ B Z (zEnd B Z (fun r : Int32 => (some (Value.int r), h)) 0 0) (K25) 25 [] [] h (z00 Z)) ?_ (fun K25 hK25 => ?_)
    · refine z_iconst (pc := 25) (v := 1) C (zD D_X6_canOperate_0 13 rfl) (by decide) ?_
      refine z_goto (pc := 26) C (zD D_X6_canOperate_0 14 rfl) (tgt := 30) (by decide) ?_
      exact z_zret (pc := 30) C hr (by decide) rfl (zD D_X6_canOperate_0 16 rfl)
    refine z_icmp_eq (pc := 9) C (zD D_X6_canOperate_0 5 rfl) (tgt := 25) (by decide) (fun _ => ?_) (fun _ => ?_)
    · refine z_sub [] (lv' := []) rfl ?_
      exact hK25
    · refine z_aload_n (pc := 12) C (zD D_X6_canOperate_0 6 rfl) rfl 0 rfl ?_
      refine z_aload_n (pc := 13) C (zD D_X6_canOperate_0 7 rfl) rfl 0 rfl ?_
      refine z_cvR (pc := 14) (As := []) C [.ref (B + this)] (c_X6_next _ _ _ _ n this h) zn_X6_next (by decide) (by decide) hz0 zc6 rfl q_481 q_482 q_483 q_5 q_484 rfl rfl rfl (zD D_X6_canOperate_0 8 rfl) (fun r14 => ?_)
      refine z_iload_n (pc := 17) C (zD D_X6_canOperate_0 9 rfl) rfl 1 rfl ?_
      refine z_iload_n (pc := 18) C (zD D_X6_canOperate_0 10 rfl) rfl 2 rfl ?_
      refine z_cvR (pc := 19) (As := [.int r14, .int p0, .int p1]) C [] (c_X6_canLay _ _ _ _ n this r14 p0 p1 h) zn_X6_canLay (by decide) (by decide) hz0 zc6 rfl q_589 q_590 q_591 q_5 q_592 rfl rfl rfl (zD D_X6_canOperate_0 11 rfl) (fun r19 => ?_)
      refine z_if_eq (pc := 22) C (zD D_X6_canOperate_0 12 rfl) (tgt := 29) (by decide) (fun _ => ?_) (fun _ => ?_)
      · refine z_sub [] (lv' := []) rfl ?_
        exact hK29
      · refine z_sub [] (lv' := []) rfl ?_
        exact hK25
def f_X6_income (n : Nat) (this : Nat) (p0 : Int32) (h : zH) : Option (Int32 × zH) := zrc h this 6 <| (f_X6_findsRoute n this p0 h).bind fun (h2 : zH) => (zgI h2 this 6 11).bind fun (v6 : Int32) => some (v6, h2)
theorem zn_X6_income : zNm yX6_income 1 := ⟨by decide +kernel, by decide +kernel⟩
set_option maxRecDepth 100000 in
set_option maxHeartbeats 4000000 in
theorem c_X6_income (l : Launch) (B : Nat) (D : va_G) (cA : Nat → ClassId) (n : Nat) (this : Nat) (p0 : Int32) (h : zH) : ∀ u, f_X6_income n this p0 h = some u → zM l B D cA yX6_income cX6_income 2 (some .int) 4 0 0 none [.ref (B + this), .int p0] h ((fun u : Int32 × zH => (some (Value.int u.1), u.2)) u).1 ((fun u : Int32 × zH => (some (Value.int u.1), u.2)) u).2 := by
  unfold f_X6_income
  refine z_met (own := RX6) (fun u : Int32 × zH => (some (Value.int u.1), u.2)) rfl (by decide) rfl (fun Z C hr _ _ => ?_)
  have hz0 : (z00 Z).1 ≤ 0 ∧ (z00 Z).2.1 ≤ 0 := ⟨Nat.le_refl 0, Nat.le_refl 0⟩
  refine z_aload_n (pc := 0) C (zD D_X6_income_0 0 rfl) rfl 0 rfl ?_
  refine z_iload_n (pc := 1) C (zD D_X6_income_0 1 rfl) rfl 1 rfl ?_
  refine z_cvV (pc := 2) (As := [.int p0]) C [] (c_X6_findsRoute _ _ _ _ n this p0 h) zn_X6_findsRoute (by decide) (by decide) hz0 zc6 rfl q_617 q_618 q_619 q_5 q_620 rfl rfl rfl (zD D_X6_income_0 2 rfl) (fun h2 => ?_)
  refine z_aload_n (pc := 5) C (zD D_X6_income_0 3 rfl) rfl 0 rfl ?_
  refine z_getI (pc := 6) C zc6 11 (by decide) q_616 (zD D_X6_income_0 4 rfl) (fun v6 => ?_)
  exact z_iret (pc := 9) C hr rfl (zD D_X6_income_0 5 rfl)
def f_X6_isPaid (n : Nat) (this : Nat) (p0 : Int32) (p1 : Int32) (h : zH) : Option (Int32 × zH) := zrc h this 6 <| (f_X6_of n this p0 (5 : Int32) h).bind fun (r3 : Int32) => zlet (if p1 = 0 then (some ((1 : Int32), h)) else (some ((0 : Int32), h))) fun K16 => if p1 = 0 then (K16) else (if r3 = (-1 : Int32) then (K16) else (zrc h this 6 <| (f_X6_cheapest n this r3 h).bind fun (r28 : Int32) => zfix2 (fun rec33 (a4_33 : Int32) (h33 : zH) => (zgR h33 this 6 0).bind fun (v34 : Nat) => (zai h33 v34 ((14 : Int32) + r3)).bind fun (v41 : Int32) => zlet ((zgR h33 this 6 0).bind fun (v90 : Nat) => (zai h33 v90 ((14 : Int32) + r3)).bind fun (v97 : Int32) => zlet (fun (s0_115 : Int32) => zrc h33 this 6 <| (f_X6_pays n this r3 s0_115 h33).bind fun (h121 : zH) => if s0_115 = p1 then (some ((1 : Int32), h121)) else (some ((0 : Int32), h121))) fun K115 => if p1 ≤ v97 then (K115 p1) else ((zgR h33 this 6 0).bind fun (v103 : Nat) => (zai h33 v103 ((14 : Int32) + r3)).bind fun (v110 : Int32) => K115 v110)) fun K89 => if p1 ≤ v41 then (K89) else (if a4_33 = (-1 : Int32) then (K89) else (zrc h33 this 6 <| (f_X6_price n this a4_33 h33).bind fun (r57 : Int32) => zrc h33 this 6 <| (f_X6_pays n this r3 (-r57) h33).bind fun (h61 : zH) => zrc h61 this 6 <| (f_X6_holds n this r3 a4_33 (-1 : Int32) h61).bind fun (h69 : zH) => zrc h69 this 6 <| (f_X6_shifts n this a4_33 (-1 : Int32) h69).bind fun (h76 : zH) => zrc h76 this 6 <| (f_X6_cheapest n this r3 h76).bind fun (r81 : Int32) => rec33 r81 h76))) n r28 h))
theorem zn_X6_isPaid : zNm yX6_isPaid 2 := ⟨by decide +kernel, by decide +kernel⟩
set_option maxRecDepth 100000 in
set_option maxHeartbeats 4000000 in
theorem c_X6_isPaid (l : Launch) (B : Nat) (D : va_G) (cA : Nat → ClassId) (n : Nat) (this : Nat) (p0 : Int32) (p1 : Int32) (h : zH) : ∀ u, f_X6_isPaid n this p0 p1 h = some u → zM l B D cA yX6_isPaid cX6_isPaid 6 (some .boolean) 4 0 0 none [.ref (B + this), .int p0, .int p1] h ((fun u : Int32 × zH => (some (Value.int u.1), u.2)) u).1 ((fun u : Int32 × zH => (some (Value.int u.1), u.2)) u).2 := by
  unfold f_X6_isPaid
  refine z_met (own := RX6) (fun u : Int32 × zH => (some (Value.int u.1), u.2)) rfl (by decide) rfl (fun Z C hr _ _ => ?_)
  have hz0 : (z00 Z).1 ≤ 0 ∧ (z00 Z).2.1 ≤ 0 := ⟨Nat.le_refl 0, Nat.le_refl 0⟩
  refine z_aload_n (pc := 0) C (zD D_X6_isPaid_0 0 rfl) rfl 0 rfl ?_
  refine z_iload_n (pc := 1) C (zD D_X6_isPaid_0 1 rfl) rfl 1 rfl ?_
  refine z_iconst (pc := 2) (v := 5) C (zD D_X6_isPaid_0 2 rfl) (by decide) ?_
  refine z_cvR (pc := 3) (As := [.int p0, .int (5 : Int32)]) C [] (c_X6_of _ _ _ _ n this p0 (5 : Int32) h) zn_X6_of (by decide) (by decide) hz0 zc6 rfl q_260 q_261 q_262 q_5 q_263 rfl rfl rfl (zD D_X6_isPaid_0 3 rfl) (fun r3 => ?_)
  refine z_istore_n (pc := 6) (lv' := [(3, .int r3), (0, .ref (B + this)), (1, .int p0), (2, .int p1)]) C (zD D_X6_isPaid_0 4 rfl) rfl (by decide) rfl ?_
  refine z_iload_n (pc := 7) C (zD D_X6_isPaid_0 5 rfl) rfl 3 rfl ?_
  refine z_letg (fun K16 => zJ B Z (zEnd B Z (fun u : Int32 × zH => (some (Value.int u.1), u.2)) 0 0) (K16) 16 [(2, .int p1)] [] h (z00 Z)) ?_ (fun K16 hK16 => ?_)
  · refine z_iload_n (pc := 16) C (zD D_X6_isPaid_0 10 rfl) rfl 0 rfl ?_
    refine z_if_ne (pc := 17) C (zD D_X6_isPaid_0 11 rfl) (tgt := 24) (by decide) (fun _ => ?_) (fun _ => ?_)
    · refine z_iconst (pc := 24) (v := 0) C (zD D_X6_isPaid_0 14 rfl) (by decide) ?_
      exact z_zret (pc := 25) C hr (by decide) rfl (zD D_X6_isPaid_0 15 rfl)
    · refine z_iconst (pc := 20) (v := 1) C (zD D_X6_isPaid_0 12 rfl) (by decide) ?_
      refine z_goto (pc := 21) C (zD D_X6_isPaid_0 13 rfl) (tgt := 25) (by decide) ?_
      exact z_zret (pc := 25) C hr (by decide) rfl (zD D_X6_isPaid_0 15 rfl)
  refine z_if_eq (pc := 8) C (zD D_X6_isPaid_0 6 rfl) (tgt := 16) (by decide) (fun _ => ?_) (fun _ => ?_)
  · refine z_sub [3] (lv' := [(2, .int p1)]) rfl ?_
    exact hK16
  · refine z_iload_n (pc := 11) C (zD D_X6_isPaid_0 7 rfl) rfl 0 rfl ?_
    refine z_iconst (pc := 12) (v := -1) C (zD D_X6_isPaid_0 8 rfl) (by decide) ?_
    refine z_icmp_ne (pc := 13) C (zD D_X6_isPaid_0 9 rfl) (tgt := 26) (by decide) (fun _ => ?_) (fun _ => ?_)
    · refine z_aload_n (pc := 26) C (zD D_X6_isPaid_0 16 rfl) rfl 1 rfl ?_
      refine z_iload_n (pc := 27) C (zD D_X6_isPaid_0 17 rfl) rfl 0 rfl ?_
      refine z_cvR (pc := 28) (As := [.int r3]) C [] (c_X6_cheapest _ _ _ _ n this r3 h) zn_X6_cheapest (by decide) (by decide) hz0 zc6 rfl q_638 q_639 q_640 q_5 q_641 rfl rfl rfl (zD D_X6_isPaid_0 18 rfl) (fun r28 => ?_)
      refine z_istore (pc := 31) (lv' := [(4, .int r28), (3, .int r3), (0, .ref (B + this)), (1, .int p0), (2, .int p1)]) C (zD D_X6_isPaid_0 19 rfl) (by decide) rfl ?_
      refine z_sub [2, 4, 1, 0] (lv' := [(0, .ref (B + this)), (2, .int p1), (3, .int r3), (4, .int r28)]) rfl ?_
      refine z_fix2 (fun g33 => ∀ (a4_33 : Int32) (h33 : zH), zJ B Z (zEnd B Z (fun u : Int32 × zH => (some (Value.int u.1), u.2)) 0 0) (g33 a4_33 h33) 33 [(0, .ref (B + this)), (2, .int p1), (3, .int r3), (4, .int a4_33)] [] h33 (z00 Z)) (fun _ _ => z_none) (fun rec33 hrec33 a4_33 h33 => ?_) n r28 h
      refine z_aload_n (pc := 33) C (zD D_X6_isPaid_0 20 rfl) rfl 0 rfl ?_
      refine z_getR (pc := 34) C zc6 0 (by decide) q_102 (zD D_X6_isPaid_0 21 rfl) (fun v34 => ?_)
      refine z_bipush (pc := 37) (v := 14) C (zD D_X6_isPaid_0 22 rfl) (by decide) ?_
      refine z_iload_n (pc := 39) C (zD D_X6_isPaid_0 23 rfl) rfl 2 rfl ?_
      refine z_iadd (pc := 40) C (zD D_X6_isPaid_0 24 rfl) ?_
      refine z_aiload (pc := 41) C (zD D_X6_isPaid_0 25 rfl) (fun v41 => ?_)
      refine z_iload_n (pc := 42) C (zD D_X6_isPaid_0 26 rfl) rfl 1 rfl ?_
      refine z_letg (fun K89 => zJ B Z (zEnd B Z (fun u : Int32 × zH => (some (Value.int u.1), u.2)) 0 0) (K89) 89 [(0, .ref (B + this)), (2, .int p1), (3, .int r3)] [] h33 (z00 Z)) ?_ (fun K89 hK89 => ?_)
      · refine z_aload_n (pc := 89) C (zD D_X6_isPaid_0 52 rfl) rfl 0 rfl ?_
        refine z_getR (pc := 90) C zc6 0 (by decide) q_102 (zD D_X6_isPaid_0 53 rfl) (fun v90 => ?_)
        refine z_bipush (pc := 93) (v := 14) C (zD D_X6_isPaid_0 54 rfl) (by decide) ?_
        refine z_iload_n (pc := 95) C (zD D_X6_isPaid_0 55 rfl) rfl 2 rfl ?_
        refine z_iadd (pc := 96) C (zD D_X6_isPaid_0 56 rfl) ?_
        refine z_aiload (pc := 97) C (zD D_X6_isPaid_0 57 rfl) (fun v97 => ?_)
        refine z_iload_n (pc := 98) C (zD D_X6_isPaid_0 58 rfl) rfl 1 rfl ?_
        refine z_letg (fun K115 => ∀ (s0_115 : Int32), zJ B Z (zEnd B Z (fun u : Int32 × zH => (some (Value.int u.1), u.2)) 0 0) (K115 s0_115) 115 [(0, .ref (B + this)), (2, .int p1), (3, .int r3)] [.int s0_115] h33 (z00 Z)) (fun s0_115 => ?_) (fun K115 hK115 => ?_)
        · refine z_istore (pc := 115) (lv' := [(5, .int s0_115), (0, .ref (B + this)), (2, .int p1), (3, .int r3)]) C (zD D_X6_isPaid_1 8 rfl) (by decide) rfl ?_
          refine z_aload_n (pc := 117) C (zD D_X6_isPaid_1 9 rfl) rfl 1 rfl ?_
          refine z_iload_n (pc := 118) C (zD D_X6_isPaid_1 10 rfl) rfl 3 rfl ?_
          refine z_iload (pc := 119) C (zD D_X6_isPaid_1 11 rfl) 0 rfl ?_
          refine z_cvV (pc := 121) (As := [.int r3, .int s0_115]) C [] (c_X6_pays _ _ _ _ n this r3 s0_115 h33) zn_X6_pays (by decide) (by decide) hz0 zc6 rfl q_272 q_273 q_274 q_5 q_275 rfl rfl rfl (zD D_X6_isPaid_1 12 rfl) (fun h121 => ?_)
          refine z_iload (pc := 124) C (zD D_X6_isPaid_1 13 rfl) 0 rfl ?_
          refine z_iload_n (pc := 126) C (zD D_X6_isPaid_1 14 rfl) rfl 2 rfl ?_
          refine z_icmp_ne (pc := 127) C (zD D_X6_isPaid_1 15 rfl) (tgt := 134) (by decide) (fun _ => ?_) (fun _ => ?_)
          · refine z_iconst (pc := 134) (v := 0) C (zD D_X6_isPaid_1 18 rfl) (by decide) ?_
            exact z_zret (pc := 135) C hr (by decide) rfl (zD D_X6_isPaid_1 19 rfl)
          · refine z_iconst (pc := 130) (v := 1) C (zD D_X6_isPaid_1 16 rfl) (by decide) ?_
            refine z_goto (pc := 131) C (zD D_X6_isPaid_1 17 rfl) (tgt := 135) (by decide) ?_
            exact z_zret (pc := 135) C hr (by decide) rfl (zD D_X6_isPaid_1 19 rfl)
        refine z_icmp_ge (pc := 99) C (zD D_X6_isPaid_0 59 rfl) (tgt := 114) (by decide) (fun _ => ?_) (fun _ => ?_)
        · refine z_iload_n (pc := 114) C (zD D_X6_isPaid_1 7 rfl) rfl 1 rfl ?_
          exact hK115 p1
        · refine z_aload_n (pc := 102) C (zD D_X6_isPaid_1 0 rfl) rfl 0 rfl ?_
          refine z_getR (pc := 103) C zc6 0 (by decide) q_102 (zD D_X6_isPaid_1 1 rfl) (fun v103 => ?_)
          refine z_bipush (pc := 106) (v := 14) C (zD D_X6_isPaid_1 2 rfl) (by decide) ?_
          refine z_iload_n (pc := 108) C (zD D_X6_isPaid_1 3 rfl) rfl 2 rfl ?_
          refine z_iadd (pc := 109) C (zD D_X6_isPaid_1 4 rfl) ?_
          refine z_aiload (pc := 110) C (zD D_X6_isPaid_1 5 rfl) (fun v110 => ?_)
          refine z_goto (pc := 111) C (zD D_X6_isPaid_1 6 rfl) (tgt := 115) (by decide) ?_
          exact hK115 v110
      refine z_icmp_ge (pc := 43) C (zD D_X6_isPaid_0 27 rfl) (tgt := 89) (by decide) (fun _ => ?_) (fun _ => ?_)
      · refine z_sub [0, 1, 2] (lv' := [(0, .ref (B + this)), (2, .int p1), (3, .int r3)]) rfl ?_
        exact hK89
      · refine z_iload (pc := 46) C (zD D_X6_isPaid_0 28 rfl) 3 rfl ?_
        refine z_iconst (pc := 48) (v := -1) C (zD D_X6_isPaid_0 29 rfl) (by decide) ?_
        refine z_icmp_eq (pc := 49) C (zD D_X6_isPaid_0 30 rfl) (tgt := 89) (by decide) (fun _ => ?_) (fun _ => ?_)
        · refine z_sub [0, 1, 2] (lv' := [(0, .ref (B + this)), (2, .int p1), (3, .int r3)]) rfl ?_
          exact hK89
        · refine z_aload_n (pc := 52) C (zD D_X6_isPaid_0 31 rfl) rfl 0 rfl ?_
          refine z_iload_n (pc := 53) C (zD D_X6_isPaid_0 32 rfl) rfl 2 rfl ?_
          refine z_aload_n (pc := 54) C (zD D_X6_isPaid_0 33 rfl) rfl 0 rfl ?_
          refine z_iload (pc := 55) C (zD D_X6_isPaid_0 34 rfl) 3 rfl ?_
          refine z_cvR (pc := 57) (As := [.int a4_33]) C [.int r3, .ref (B + this)] (c_X6_price _ _ _ _ n this a4_33 h33) zn_X6_price (by decide) (by decide) hz0 zc6 rfl q_268 q_269 q_270 q_5 q_271 rfl rfl rfl (zD D_X6_isPaid_0 35 rfl) (fun r57 => ?_)
          refine z_ineg (pc := 60) C (zD D_X6_isPaid_0 36 rfl) ?_
          refine z_cvV (pc := 61) (As := [.int r3, .int (-r57)]) C [] (c_X6_pays _ _ _ _ n this r3 (-r57) h33) zn_X6_pays (by decide) (by decide) hz0 zc6 rfl q_272 q_273 q_274 q_5 q_275 rfl rfl rfl (zD D_X6_isPaid_0 37 rfl) (fun h61 => ?_)
          refine z_aload_n (pc := 64) C (zD D_X6_isPaid_0 38 rfl) rfl 0 rfl ?_
          refine z_iload_n (pc := 65) C (zD D_X6_isPaid_0 39 rfl) rfl 2 rfl ?_
          refine z_iload (pc := 66) C (zD D_X6_isPaid_0 40 rfl) 3 rfl ?_
          refine z_iconst (pc := 68) (v := -1) C (zD D_X6_isPaid_0 41 rfl) (by decide) ?_
          refine z_cvV (pc := 69) (As := [.int r3, .int a4_33, .int (-1 : Int32)]) C [] (c_X6_holds _ _ _ _ n this r3 a4_33 (-1 : Int32) h61) zn_X6_holds (by decide) (by decide) hz0 zc6 rfl q_276 q_277 q_278 q_5 q_279 rfl rfl rfl (zD D_X6_isPaid_0 42 rfl) (fun h69 => ?_)
          refine z_aload_n (pc := 72) C (zD D_X6_isPaid_0 43 rfl) rfl 0 rfl ?_
          refine z_iload (pc := 73) C (zD D_X6_isPaid_0 44 rfl) 3 rfl ?_
          refine z_iconst (pc := 75) (v := -1) C (zD D_X6_isPaid_0 45 rfl) (by decide) ?_
          refine z_cvV (pc := 76) (As := [.int a4_33, .int (-1 : Int32)]) C [] (c_X6_shifts _ _ _ _ n this a4_33 (-1 : Int32) h69) zn_X6_shifts (by decide) (by decide) hz0 zc6 rfl q_369 q_370 q_371 q_5 q_372 rfl rfl rfl (zD D_X6_isPaid_0 46 rfl) (fun h76 => ?_)
          refine z_aload_n (pc := 79) C (zD D_X6_isPaid_0 47 rfl) rfl 0 rfl ?_
          refine z_iload_n (pc := 80) C (zD D_X6_isPaid_0 48 rfl) rfl 2 rfl ?_
          refine z_cvR (pc := 81) (As := [.int r3]) C [] (c_X6_cheapest _ _ _ _ n this r3 h76) zn_X6_cheapest (by decide) (by decide) hz0 zc6 rfl q_638 q_639 q_640 q_5 q_641 rfl rfl rfl (zD D_X6_isPaid_0 49 rfl) (fun r81 => ?_)
          refine z_istore (pc := 84) (lv' := [(4, .int r81), (0, .ref (B + this)), (2, .int p1), (3, .int r3)]) C (zD D_X6_isPaid_0 50 rfl) (by decide) rfl ?_
          refine z_goto (pc := 86) C (zD D_X6_isPaid_0 51 rfl) (tgt := 33) (by decide) ?_
          refine z_sub [1, 2, 3, 0] (lv' := [(0, .ref (B + this)), (2, .int p1), (3, .int r3), (4, .int r81)]) rfl ?_
          exact hrec33 r81 h76
    · refine z_sub [3] (lv' := [(2, .int p1)]) rfl ?_
      exact hK16
def f_X6_leader (n : Nat) (this : Nat) (h : zH) : Option (Int32 × zH) := (zp h this 6 5 (.int (0 : Int32))).bind fun (h2 : zH) => zfix2 (fun rec9 (a1_9 : Int32) (a2_9 : Int32) => (zgR h2 this 6 0).bind fun (v11 : Nat) => (zai h2 v11 (0 : Int32)).bind fun (v15 : Int32) => if v15 ≤ a2_9 then (some (a1_9, h2)) else (zrc h2 this 6 <| (f_X6_worth n this a2_9 h2).bind fun (r21 : Int32) => zrc h2 this 6 <| (f_X6_worth n this a1_9 h2).bind fun (r26 : Int32) => zlet (fun (s0_37 : Int32) => zlet (a2_9 + 1) fun (x38 : Int32) => rec9 s0_37 x38) fun K37 => if r21 ≤ r26 then (K37 a1_9) else (K37 a2_9))) n (0 : Int32) (1 : Int32)
theorem zn_X6_leader : zNm yX6_leader 0 := ⟨by decide +kernel, by decide +kernel⟩
set_option maxRecDepth 100000 in
set_option maxHeartbeats 4000000 in
theorem c_X6_leader (l : Launch) (B : Nat) (D : va_G) (cA : Nat → ClassId) (n : Nat) (this : Nat) (h : zH) : ∀ u, f_X6_leader n this h = some u → zM l B D cA yX6_leader cX6_leader 3 (some .int) 4 0 0 none [.ref (B + this)] h ((fun u : Int32 × zH => (some (Value.int u.1), u.2)) u).1 ((fun u : Int32 × zH => (some (Value.int u.1), u.2)) u).2 := by
  unfold f_X6_leader
  refine z_met (own := RX6) (fun u : Int32 × zH => (some (Value.int u.1), u.2)) rfl (by decide) rfl (fun Z C hr _ _ => ?_)
  have hz0 : (z00 Z).1 ≤ 0 ∧ (z00 Z).2.1 ≤ 0 := ⟨Nat.le_refl 0, Nat.le_refl 0⟩
  refine z_aload_n (pc := 0) C (zD D_X6_leader_0 0 rfl) rfl 0 rfl ?_
  refine z_iconst (pc := 1) (v := 0) C (zD D_X6_leader_0 1 rfl) (by decide) ?_
  refine z_putI (pc := 2) C zc6 5 (by decide) q_159 rfl rfl (zD D_X6_leader_0 2 rfl) (fun h2 => ?_)
  refine z_iconst (pc := 5) (v := 0) C (zD D_X6_leader_0 3 rfl) (by decide) ?_
  refine z_istore_n (pc := 6) (lv' := [(1, .int (0 : Int32)), (0, .ref (B + this))]) C (zD D_X6_leader_0 4 rfl) rfl (by decide) rfl ?_
  refine z_iconst (pc := 7) (v := 1) C (zD D_X6_leader_0 5 rfl) (by decide) ?_
  refine z_istore_n (pc := 8) (lv' := [(2, .int (1 : Int32)), (1, .int (0 : Int32)), (0, .ref (B + this))]) C (zD D_X6_leader_0 6 rfl) rfl (by decide) rfl ?_
  refine z_sub [2, 1, 0] (lv' := [(0, .ref (B + this)), (1, .int (0 : Int32)), (2, .int (1 : Int32))]) rfl ?_
  refine z_fix2 (fun g9 => ∀ (a1_9 : Int32) (a2_9 : Int32), zJ B Z (zEnd B Z (fun u : Int32 × zH => (some (Value.int u.1), u.2)) 0 0) (g9 a1_9 a2_9) 9 [(0, .ref (B + this)), (1, .int a1_9), (2, .int a2_9)] [] h2 (z00 Z)) (fun _ _ => z_none) (fun rec9 hrec9 a1_9 a2_9 => ?_) n (0 : Int32) (1 : Int32)
  refine z_iload_n (pc := 9) C (zD D_X6_leader_0 7 rfl) rfl 2 rfl ?_
  refine z_aload_n (pc := 10) C (zD D_X6_leader_0 8 rfl) rfl 0 rfl ?_
  refine z_getR (pc := 11) C zc6 0 (by decide) q_102 (zD D_X6_leader_0 9 rfl) (fun v11 => ?_)
  refine z_iconst (pc := 14) (v := 0) C (zD D_X6_leader_0 10 rfl) (by decide) ?_
  refine z_aiload (pc := 15) C (zD D_X6_leader_0 11 rfl) (fun v15 => ?_)
  refine z_icmp_ge (pc := 16) C (zD D_X6_leader_0 12 rfl) (tgt := 44) (by decide) (fun _ => ?_) (fun _ => ?_)
  · refine z_iload_n (pc := 44) C (zD D_X6_leader_0 26 rfl) rfl 1 rfl ?_
    exact z_iret (pc := 45) C hr rfl (zD D_X6_leader_0 27 rfl)
  · refine z_aload_n (pc := 19) C (zD D_X6_leader_0 13 rfl) rfl 0 rfl ?_
    refine z_iload_n (pc := 20) C (zD D_X6_leader_0 14 rfl) rfl 2 rfl ?_
    refine z_cvR (pc := 21) (As := [.int a2_9]) C [] (c_X6_worth _ _ _ _ n this a2_9 h2) zn_X6_worth (by decide) (by decide) hz0 zc6 rfl q_671 q_672 q_673 q_5 q_674 rfl rfl rfl (zD D_X6_leader_0 15 rfl) (fun r21 => ?_)
    refine z_aload_n (pc := 24) C (zD D_X6_leader_0 16 rfl) rfl 0 rfl ?_
    refine z_iload_n (pc := 25) C (zD D_X6_leader_0 17 rfl) rfl 1 rfl ?_
    refine z_cvR (pc := 26) (As := [.int a1_9]) C [.int r21] (c_X6_worth _ _ _ _ n this a1_9 h2) zn_X6_worth (by decide) (by decide) hz0 zc6 rfl q_671 q_672 q_673 q_5 q_674 rfl rfl rfl (zD D_X6_leader_0 18 rfl) (fun r26 => ?_)
    refine z_letg (fun K37 => ∀ (s0_37 : Int32), zJ B Z (zEnd B Z (fun u : Int32 × zH => (some (Value.int u.1), u.2)) 0 0) (K37 s0_37) 37 [(0, .ref (B + this)), (2, .int a2_9)] [.int s0_37] h2 (z00 Z)) (fun s0_37 => ?_) (fun K37 hK37 => ?_)
    · refine z_istore_n (pc := 37) (lv' := [(1, .int s0_37), (0, .ref (B + this)), (2, .int a2_9)]) C (zD D_X6_leader_0 23 rfl) rfl (by decide) rfl ?_
      refine z_iincL (pc := 38) (lv' := fun x38 => [(2, .int x38), (1, .int s0_37), (0, .ref (B + this))]) C (zD D_X6_leader_0 24 rfl) 2 rfl (v := a2_9 + 1) rfl (by decide) (fun _ => rfl) (fun x38 => ?_)
      refine z_goto (pc := 41) C (zD D_X6_leader_0 25 rfl) (tgt := 9) (by decide) ?_
      refine z_sub [2, 1, 0] (lv' := [(0, .ref (B + this)), (1, .int s0_37), (2, .int x38)]) rfl ?_
      exact hrec9 s0_37 x38
    refine z_icmp_le (pc := 29) C (zD D_X6_leader_0 19 rfl) (tgt := 36) (by decide) (fun _ => ?_) (fun _ => ?_)
    · refine z_iload_n (pc := 36) C (zD D_X6_leader_0 22 rfl) rfl 1 rfl ?_
      refine z_sub [0, 2] (lv' := [(0, .ref (B + this)), (2, .int a2_9)]) rfl ?_
      exact hK37 a1_9
    · refine z_iload_n (pc := 32) C (zD D_X6_leader_0 20 rfl) rfl 2 rfl ?_
      refine z_goto (pc := 33) C (zD D_X6_leader_0 21 rfl) (tgt := 37) (by decide) ?_
      refine z_sub [0, 2] (lv' := [(0, .ref (B + this)), (2, .int a2_9)]) rfl ?_
      exact hK37 a2_9
def f_X6_merge (n : Nat) (this : Nat) (p0 : Int32) (p1 : Int32) (h : zH) : Option (Int32 × zH) := (f_X6_isCompany n p0 h).bind fun (r2 : Int32) => zlet (fun (s0_42 : Int32) => zrc h this 6 <| zb2 (f_X6_refused n this s0_42 h) fun (r42 : Int32) (h42 : zH) => if r42 = 0 then (zrc h42 this 6 <| (f_X6_saves n this h42).bind fun (h51 : zH) => zrc h51 this 6 <| (f_X6_price n this p1 h51).bind fun (r56 : Int32) => zlet ((r56 / (2 : Int32))) fun (x61 : Int32) => zfix2 (fun rec65 (a4_65 : Int32) (h65 : zH) => (zgR h65 this 6 0).bind fun (v68 : Nat) => (zai h65 v68 (0 : Int32)).bind fun (v72 : Int32) => if v72 ≤ a4_65 then (zrc h65 this 6 <| (f_X6_presides n this p0 h65).bind fun (h134 : zH) => (zgR h134 this 6 0).bind fun (v138 : Nat) => (zai h134 v138 (((34 : Int32) + ((7 : Int32) * p0)) + (2 : Int32))).bind fun (v151 : Int32) => zrc h134 this 6 <| (f_X6_of n this p1 (2 : Int32) h134).bind fun (r155 : Int32) => (zsi h134 v138 (((34 : Int32) + ((7 : Int32) * p0)) + (2 : Int32)) (v151 + r155)).bind fun (h159 : zH) => zrc h159 this 6 <| (f_X6_closes n this p1 h159).bind fun (h162 : zH) => zrc h162 this 6 <| (f_X6_ends n this h162).bind fun (h166 : zH) => zrc h166 this 6 <| (f_X6_of n this p0 (2 : Int32) h166).bind fun (r172 : Int32) => some (r172, h166)) else ((zgR h65 this 6 0).bind fun (v77 : Nat) => (zai h65 v77 (((18 : Int32) + ((4 : Int32) * a4_65)) + p0)).bind fun (v90 : Int32) => zrc h65 this 6 <| (f_X6_shares n this a4_65 p1 h65).bind fun (r95 : Int32) => (zsi h65 v77 (((18 : Int32) + ((4 : Int32) * a4_65)) + p0) (v90 + (r95 / (2 : Int32)))).bind fun (h101 : zH) => zrc h101 this 6 <| (f_X6_shares n this a4_65 p1 h101).bind fun (r109 : Int32) => zlet (fun (s0_123 : Int32) => zrc h101 this 6 <| (f_X6_pays n this a4_65 s0_123 h101).bind fun (h123 : zH) => zlet (a4_65 + 1) fun (x126 : Int32) => rec65 x126 h123) fun K123 => if (zrem r109 (2 : Int32)) = 0 then (K123 (0 : Int32)) else (K123 (-x61)))) n (0 : Int32) h51) else (some ((0 : Int32), h42))) fun K42 => zlet (K42 (1 : Int32)) fun K15 => if r2 = 0 then (K15) else ((f_X6_isCompany n p1 h).bind fun (r9 : Int32) => if r9 = 0 then (K15) else (if p0 = p1 then (K42 (2 : Int32)) else (zrc h this 6 <| (f_X6_canMerge n this p0 p1 h).bind fun (r31 : Int32) => if r31 = 0 then (K42 (3 : Int32)) else (K42 (0 : Int32)))))
theorem zn_X6_merge : zNm yX6_merge 2 := ⟨by decide +kernel, by decide +kernel⟩
set_option maxRecDepth 100000 in
set_option maxHeartbeats 4000000 in
theorem c_X6_merge (l : Launch) (B : Nat) (D : va_G) (cA : Nat → ClassId) (n : Nat) (this : Nat) (p0 : Int32) (p1 : Int32) (h : zH) : ∀ u, f_X6_merge n this p0 p1 h = some u → zM l B D cA yX6_merge cX6_merge 5 (some .int) 4 0 0 none [.ref (B + this), .int p0, .int p1] h ((fun u : Int32 × zH => (some (Value.int u.1), u.2)) u).1 ((fun u : Int32 × zH => (some (Value.int u.1), u.2)) u).2 := by
  unfold f_X6_merge
  refine z_met (own := RX6) (fun u : Int32 × zH => (some (Value.int u.1), u.2)) rfl (by decide) rfl (fun Z C hr _ _ => ?_)
  have hz0 : (z00 Z).1 ≤ 0 ∧ (z00 Z).2.1 ≤ 0 := ⟨Nat.le_refl 0, Nat.le_refl 0⟩
  refine z_aload_n (pc := 0) C (zD D_X6_merge_0 0 rfl) rfl 0 rfl ?_
  refine z_iload_n (pc := 1) C (zD D_X6_merge_0 1 rfl) rfl 1 rfl ?_
  refine z_csR (pc := 2) (As := [.int p0]) C [.ref (B + this)] (c_X6_isCompany _ _ _ _ n p0 h) zn_X6_isCompany (by decide) (by decide) hz0 q_249 q_250 q_5 q_251 rfl rfl rfl (zD D_X6_merge_0 2 rfl) (fun r2 => ?_)
  refine z_letg (fun K42 => ∀ (s0_42 : Int32), zJ B Z (zEnd B Z (fun u : Int32 × zH => (some (Value.int u.1), u.2)) 0 0) (K42 s0_42) 42 [(0, .ref (B + this)), (1, .int p0), (2, .int p1)] [.int s0_42, .ref (B + this)] h (z00 Z)) (fun s0_42 => ?_) (fun K42 hK42 => ?_)
  · refine z_cvI (pc := 42) (As := [.int s0_42]) C [] (c_X6_refused _ _ _ _ n this s0_42 h) zn_X6_refused (by decide) (by decide) hz0 zc6 rfl q_155 q_156 q_157 q_5 q_158 rfl rfl rfl (zD D_X6_merge_0 22 rfl) (fun r42 h42 => ?_)
    refine z_if_eq (pc := 45) C (zD D_X6_merge_0 23 rfl) (tgt := 50) (by decide) (fun _ => ?_) (fun _ => ?_)
    · refine z_aload_n (pc := 50) C (zD D_X6_merge_0 26 rfl) rfl 0 rfl ?_
      refine z_cvV (pc := 51) (As := []) C [] (c_X6_saves _ _ _ _ n this h42) zn_X6_saves (by decide) (by decide) hz0 zc6 rfl q_160 q_161 q_162 q_5 q_163 rfl rfl rfl (zD D_X6_merge_0 27 rfl) (fun h51 => ?_)
      refine z_aload_n (pc := 54) C (zD D_X6_merge_0 28 rfl) rfl 0 rfl ?_
      refine z_iload_n (pc := 55) C (zD D_X6_merge_0 29 rfl) rfl 2 rfl ?_
      refine z_cvR (pc := 56) (As := [.int p1]) C [] (c_X6_price _ _ _ _ n this p1 h51) zn_X6_price (by decide) (by decide) hz0 zc6 rfl q_268 q_269 q_270 q_5 q_271 rfl rfl rfl (zD D_X6_merge_0 30 rfl) (fun r56 => ?_)
      refine z_iconst (pc := 59) (v := 2) C (zD D_X6_merge_0 31 rfl) (by decide) ?_
      refine z_idivc (pc := 60) C (zD D_X6_merge_0 32 rfl) (by decide) ?_
      refine z_istore_nL (pc := 61) (lv' := fun x61 => [(3, .int x61), (0, .ref (B + this)), (1, .int p0), (2, .int p1)]) C (zD D_X6_merge_0 33 rfl) rfl (by decide) (fun _ => rfl) (fun x61 => ?_)
      refine z_iconst (pc := 62) (v := 0) C (zD D_X6_merge_0 34 rfl) (by decide) ?_
      refine z_istore (pc := 63) (lv' := [(4, .int (0 : Int32)), (3, .int x61), (0, .ref (B + this)), (1, .int p0), (2, .int p1)]) C (zD D_X6_merge_0 35 rfl) (by decide) rfl ?_
      refine z_sub [2, 3, 4, 1, 0] (lv' := [(0, .ref (B + this)), (1, .int p0), (2, .int p1), (3, .int x61), (4, .int (0 : Int32))]) rfl ?_
      refine z_fix2 (fun g65 => ∀ (a4_65 : Int32) (h65 : zH), zJ B Z (zEnd B Z (fun u : Int32 × zH => (some (Value.int u.1), u.2)) 0 0) (g65 a4_65 h65) 65 [(0, .ref (B + this)), (1, .int p0), (2, .int p1), (3, .int x61), (4, .int a4_65)] [] h65 (z00 Z)) (fun _ _ => z_none) (fun rec65 hrec65 a4_65 h65 => ?_) n (0 : Int32) h51
      refine z_iload (pc := 65) C (zD D_X6_merge_0 36 rfl) 4 rfl ?_
      refine z_aload_n (pc := 67) C (zD D_X6_merge_0 37 rfl) rfl 0 rfl ?_
      refine z_getR (pc := 68) C zc6 0 (by decide) q_102 (zD D_X6_merge_0 38 rfl) (fun v68 => ?_)
      refine z_iconst (pc := 71) (v := 0) C (zD D_X6_merge_0 39 rfl) (by decide) ?_
      refine z_aiload (pc := 72) C (zD D_X6_merge_0 40 rfl) (fun v72 => ?_)
      refine z_icmp_ge (pc := 73) C (zD D_X6_merge_0 41 rfl) (tgt := 132) (by decide) (fun _ => ?_) (fun _ => ?_)
      · refine z_aload_n (pc := 132) C (zD D_X6_merge_1 17 rfl) rfl 0 rfl ?_
        refine z_iload_n (pc := 133) C (zD D_X6_merge_1 18 rfl) rfl 1 rfl ?_
        refine z_cvV (pc := 134) (As := [.int p0]) C [] (c_X6_presides _ _ _ _ n this p0 h65) zn_X6_presides (by decide) (by decide) hz0 zc6 rfl q_280 q_281 q_282 q_5 q_283 rfl rfl rfl (zD D_X6_merge_1 19 rfl) (fun h134 => ?_)
        refine z_aload_n (pc := 137) C (zD D_X6_merge_1 20 rfl) rfl 0 rfl ?_
        refine z_getR (pc := 138) C zc6 0 (by decide) q_102 (zD D_X6_merge_1 21 rfl) (fun v138 => ?_)
        refine z_bipush (pc := 141) (v := 34) C (zD D_X6_merge_1 22 rfl) (by decide) ?_
        refine z_bipush (pc := 143) (v := 7) C (zD D_X6_merge_1 23 rfl) (by decide) ?_
        refine z_iload_n (pc := 145) C (zD D_X6_merge_1 24 rfl) rfl 1 rfl ?_
        refine z_imul (pc := 146) C (zD D_X6_merge_1 25 rfl) ?_
        refine z_iadd (pc := 147) C (zD D_X6_merge_1 26 rfl) ?_
        refine z_iconst (pc := 148) (v := 2) C (zD D_X6_merge_1 27 rfl) (by decide) ?_
        refine z_iadd (pc := 149) C (zD D_X6_merge_1 28 rfl) ?_
        refine z_dup2 (pc := 150) C (zD D_X6_merge_1 29 rfl) rfl rfl ?_
        refine z_aiload (pc := 151) C (zD D_X6_merge_1 30 rfl) (fun v151 => ?_)
        refine z_aload_n (pc := 152) C (zD D_X6_merge_1 31 rfl) rfl 0 rfl ?_
        refine z_iload_n (pc := 153) C (zD D_X6_merge_1 32 rfl) rfl 2 rfl ?_
        refine z_iconst (pc := 154) (v := 2) C (zD D_X6_merge_1 33 rfl) (by decide) ?_
        refine z_cvR (pc := 155) (As := [.int p1, .int (2 : Int32)]) C [.int v151, .int (((34 : Int32) + ((7 : Int32) * p0)) + (2 : Int32)), .ref (B + v138)] (c_X6_of _ _ _ _ n this p1 (2 : Int32) h134) zn_X6_of (by decide) (by decide) hz0 zc6 rfl q_260 q_261 q_262 q_5 q_263 rfl rfl rfl (zD D_X6_merge_1 34 rfl) (fun r155 => ?_)
        refine z_iadd (pc := 158) C (zD D_X6_merge_1 35 rfl) ?_
        refine z_aistore (pc := 159) C (zD D_X6_merge_1 36 rfl) (fun h159 => ?_)
        refine z_aload_n (pc := 160) C (zD D_X6_merge_1 37 rfl) rfl 0 rfl ?_
        refine z_iload_n (pc := 161) C (zD D_X6_merge_1 38 rfl) rfl 2 rfl ?_
        refine z_cvV (pc := 162) (As := [.int p1]) C [] (c_X6_closes _ _ _ _ n this p1 h159) zn_X6_closes (by decide) (by decide) hz0 zc6 rfl q_405 q_406 q_407 q_5 q_408 rfl rfl rfl (zD D_X6_merge_1 39 rfl) (fun h162 => ?_)
        refine z_aload_n (pc := 165) C (zD D_X6_merge_1 40 rfl) rfl 0 rfl ?_
        refine z_cvV (pc := 166) (As := []) C [] (c_X6_ends _ _ _ _ n this h162) zn_X6_ends (by decide) (by decide) hz0 zc6 rfl q_292 q_293 q_294 q_5 q_295 rfl rfl rfl (zD D_X6_merge_1 41 rfl) (fun h166 => ?_)
        refine z_aload_n (pc := 169) C (zD D_X6_merge_1 42 rfl) rfl 0 rfl ?_
        refine z_iload_n (pc := 170) C (zD D_X6_merge_1 43 rfl) rfl 1 rfl ?_
        refine z_iconst (pc := 171) (v := 2) C (zD D_X6_merge_1 44 rfl) (by decide) ?_
        refine z_cvR (pc := 172) (As := [.int p0, .int (2 : Int32)]) C [] (c_X6_of _ _ _ _ n this p0 (2 : Int32) h166) zn_X6_of (by decide) (by decide) hz0 zc6 rfl q_260 q_261 q_262 q_5 q_263 rfl rfl rfl (zD D_X6_merge_1 45 rfl) (fun r172 => ?_)
        exact z_iret (pc := 175) C hr rfl (zD D_X6_merge_1 46 rfl)
      · refine z_aload_n (pc := 76) C (zD D_X6_merge_0 42 rfl) rfl 0 rfl ?_
        refine z_getR (pc := 77) C zc6 0 (by decide) q_102 (zD D_X6_merge_0 43 rfl) (fun v77 => ?_)
        refine z_bipush (pc := 80) (v := 18) C (zD D_X6_merge_0 44 rfl) (by decide) ?_
        refine z_iconst (pc := 82) (v := 4) C (zD D_X6_merge_0 45 rfl) (by decide) ?_
        refine z_iload (pc := 83) C (zD D_X6_merge_0 46 rfl) 4 rfl ?_
        refine z_imul (pc := 85) C (zD D_X6_merge_0 47 rfl) ?_
        refine z_iadd (pc := 86) C (zD D_X6_merge_0 48 rfl) ?_
        refine z_iload_n (pc := 87) C (zD D_X6_merge_0 49 rfl) rfl 1 rfl ?_
        refine z_iadd (pc := 88) C (zD D_X6_merge_0 50 rfl) ?_
        refine z_dup2 (pc := 89) C (zD D_X6_merge_0 51 rfl) rfl rfl ?_
        refine z_aiload (pc := 90) C (zD D_X6_merge_0 52 rfl) (fun v90 => ?_)
        refine z_aload_n (pc := 91) C (zD D_X6_merge_0 53 rfl) rfl 0 rfl ?_
        refine z_iload (pc := 92) C (zD D_X6_merge_0 54 rfl) 4 rfl ?_
        refine z_iload_n (pc := 94) C (zD D_X6_merge_0 55 rfl) rfl 2 rfl ?_
        refine z_cvR (pc := 95) (As := [.int a4_65, .int p1]) C [.int v90, .int (((18 : Int32) + ((4 : Int32) * a4_65)) + p0), .ref (B + v77)] (c_X6_shares _ _ _ _ n this a4_65 p1 h65) zn_X6_shares (by decide) (by decide) hz0 zc6 rfl q_284 q_285 q_286 q_5 q_287 rfl rfl rfl (zD D_X6_merge_0 56 rfl) (fun r95 => ?_)
        refine z_iconst (pc := 98) (v := 2) C (zD D_X6_merge_0 57 rfl) (by decide) ?_
        refine z_idivc (pc := 99) C (zD D_X6_merge_0 58 rfl) (by decide) ?_
        refine z_iadd (pc := 100) C (zD D_X6_merge_0 59 rfl) ?_
        refine z_aistore (pc := 101) C (zD D_X6_merge_1 0 rfl) (fun h101 => ?_)
        refine z_aload_n (pc := 102) C (zD D_X6_merge_1 1 rfl) rfl 0 rfl ?_
        refine z_iload (pc := 103) C (zD D_X6_merge_1 2 rfl) 4 rfl ?_
        refine z_aload_n (pc := 105) C (zD D_X6_merge_1 3 rfl) rfl 0 rfl ?_
        refine z_iload (pc := 106) C (zD D_X6_merge_1 4 rfl) 4 rfl ?_
        refine z_iload_n (pc := 108) C (zD D_X6_merge_1 5 rfl) rfl 2 rfl ?_
        refine z_cvR (pc := 109) (As := [.int a4_65, .int p1]) C [.int a4_65, .ref (B + this)] (c_X6_shares _ _ _ _ n this a4_65 p1 h101) zn_X6_shares (by decide) (by decide) hz0 zc6 rfl q_284 q_285 q_286 q_5 q_287 rfl rfl rfl (zD D_X6_merge_1 6 rfl) (fun r109 => ?_)
        refine z_iconst (pc := 112) (v := 2) C (zD D_X6_merge_1 7 rfl) (by decide) ?_
        refine z_iremc (pc := 113) C (zD D_X6_merge_1 8 rfl) (by decide) ?_
        refine z_letg (fun K123 => ∀ (s0_123 : Int32), zJ B Z (zEnd B Z (fun u : Int32 × zH => (some (Value.int u.1), u.2)) 0 0) (K123 s0_123) 123 [(0, .ref (B + this)), (1, .int p0), (2, .int p1), (3, .int x61), (4, .int a4_65)] [.int s0_123, .int a4_65, .ref (B + this)] h101 (z00 Z)) (fun s0_123 => ?_) (fun K123 hK123 => ?_)
        · refine z_cvV (pc := 123) (As := [.int a4_65, .int s0_123]) C [] (c_X6_pays _ _ _ _ n this a4_65 s0_123 h101) zn_X6_pays (by decide) (by decide) hz0 zc6 rfl q_272 q_273 q_274 q_5 q_275 rfl rfl rfl (zD D_X6_merge_1 14 rfl) (fun h123 => ?_)
          refine z_iincL (pc := 126) (lv' := fun x126 => [(4, .int x126), (0, .ref (B + this)), (1, .int p0), (2, .int p1), (3, .int x61)]) C (zD D_X6_merge_1 15 rfl) 4 rfl (v := a4_65 + 1) rfl (by decide) (fun _ => rfl) (fun x126 => ?_)
          refine z_goto (pc := 129) C (zD D_X6_merge_1 16 rfl) (tgt := 65) (by decide) ?_
          refine z_sub [1, 2, 3, 4, 0] (lv' := [(0, .ref (B + this)), (1, .int p0), (2, .int p1), (3, .int x61), (4, .int x126)]) rfl ?_
          exact hrec65 x126 h123
        refine z_if_ne (pc := 114) C (zD D_X6_merge_1 9 rfl) (tgt := 121) (by decide) (fun _ => ?_) (fun _ => ?_)
        · refine z_iload_n (pc := 121) C (zD D_X6_merge_1 12 rfl) rfl 3 rfl ?_
          refine z_ineg (pc := 122) C (zD D_X6_merge_1 13 rfl) ?_
          exact hK123 (-x61)
        · refine z_iconst (pc := 117) (v := 0) C (zD D_X6_merge_1 10 rfl) (by decide) ?_
          refine z_goto (pc := 118) C (zD D_X6_merge_1 11 rfl) (tgt := 123) (by decide) ?_
          exact hK123 (0 : Int32)
    · refine z_iconst (pc := 48) (v := 0) C (zD D_X6_merge_0 24 rfl) (by decide) ?_
      exact z_iret (pc := 49) C hr rfl (zD D_X6_merge_0 25 rfl)
  refine z_letg (fun K15 => zJ B Z (zEnd B Z (fun u : Int32 × zH => (some (Value.int u.1), u.2)) 0 0) (K15) 15 [(0, .ref (B + this)), (1, .int p0), (2, .int p1)] [.ref (B + this)] h (z00 Z)) ?_ (fun K15 hK15 => ?_)
  · refine z_iconst (pc := 15) (v := 1) C (zD D_X6_merge_0 7 rfl) (by decide) ?_
    refine z_goto (pc := 16) C (zD D_X6_merge_0 8 rfl) (tgt := 42) (by decide) ?_
    exact hK42 (1 : Int32)
  refine z_if_eq (pc := 5) C (zD D_X6_merge_0 3 rfl) (tgt := 15) (by decide) (fun _ => ?_) (fun _ => ?_)
  · exact hK15
  · refine z_iload_n (pc := 8) C (zD D_X6_merge_0 4 rfl) rfl 2 rfl ?_
    refine z_csR (pc := 9) (As := [.int p1]) C [.ref (B + this)] (c_X6_isCompany _ _ _ _ n p1 h) zn_X6_isCompany (by decide) (by decide) hz0 q_249 q_250 q_5 q_251 rfl rfl rfl (zD D_X6_merge_0 5 rfl) (fun r9 => ?_)
    refine z_if_ne (pc := 12) C (zD D_X6_merge_0 6 rfl) (tgt := 19) (by decide) (fun _ => ?_) (fun _ => ?_)
    · refine z_iload_n (pc := 19) C (zD D_X6_merge_0 9 rfl) rfl 1 rfl ?_
      refine z_iload_n (pc := 20) C (zD D_X6_merge_0 10 rfl) rfl 2 rfl ?_
      refine z_icmp_ne (pc := 21) C (zD D_X6_merge_0 11 rfl) (tgt := 28) (by decide) (fun _ => ?_) (fun _ => ?_)
      · refine z_aload_n (pc := 28) C (zD D_X6_merge_0 14 rfl) rfl 0 rfl ?_
        refine z_iload_n (pc := 29) C (zD D_X6_merge_0 15 rfl) rfl 1 rfl ?_
        refine z_iload_n (pc := 30) C (zD D_X6_merge_0 16 rfl) rfl 2 rfl ?_
        refine z_cvR (pc := 31) (As := [.int p0, .int p1]) C [.ref (B + this)] (c_X6_canMerge _ _ _ _ n this p0 p1 h) zn_X6_canMerge (by decide) (by decide) hz0 zc6 rfl q_397 q_398 q_399 q_5 q_400 rfl rfl rfl (zD D_X6_merge_0 17 rfl) (fun r31 => ?_)
        refine z_if_eq (pc := 34) C (zD D_X6_merge_0 18 rfl) (tgt := 41) (by decide) (fun _ => ?_) (fun _ => ?_)
        · refine z_iconst (pc := 41) (v := 3) C (zD D_X6_merge_0 21 rfl) (by decide) ?_
          exact hK42 (3 : Int32)
        · refine z_iconst (pc := 37) (v := 0) C (zD D_X6_merge_0 19 rfl) (by decide) ?_
          refine z_goto (pc := 38) C (zD D_X6_merge_0 20 rfl) (tgt := 42) (by decide) ?_
          exact hK42 (0 : Int32)
      · refine z_iconst (pc := 24) (v := 2) C (zD D_X6_merge_0 12 rfl) (by decide) ?_
        refine z_goto (pc := 25) C (zD D_X6_merge_0 13 rfl) (tgt := 42) (by decide) ?_
        exact hK42 (2 : Int32)
    · exact hK15
def f_X6_orders (n : Nat) (this : Nat) (h : zH) : Option (zH) := (zgR h this 6 0).bind fun (v1 : Nat) => (zsi h v1 (9 : Int32) (0 : Int32)).bind fun (h7 : zH) => zfix2 (fun rec10 (a1_10 : Int32) (h10 : zH) => if (4 : Int32) ≤ a1_10 then (zfix2 (fun rec33 (a1_33 : Int32) (h33 : zH) => if (4 : Int32) ≤ a1_33 then (some h33) else (zfix2 (fun rec42 (a2_42 : Int32) (a3_42 : Int32) => if (4 : Int32) ≤ a3_42 then (zrc h33 this 6 <| (f_X6_isOpen n this a1_33 h33).bind fun (r85 : Int32) => zlet (fun (h112 : zH) => zlet (a1_33 + 1) fun (x112 : Int32) => rec33 x112 h112) fun K112 => if r85 = 0 then (K112 h33) else ((zgR h33 this 6 0).bind fun (v92 : Nat) => (zsi h33 v92 ((10 : Int32) + a2_42) a1_33).bind fun (h100 : zH) => (zgR h100 this 6 0).bind fun (v102 : Nat) => (zai h100 v102 (9 : Int32)).bind fun (v108 : Int32) => (zsi h100 v102 (9 : Int32) (v108 + (1 : Int32))).bind fun (h111 : zH) => K112 h111)) else (zlet (fun (s0_75 : Int32) => zlet ((a2_42 + s0_75)) fun (x76 : Int32) => zlet (a3_42 + 1) fun (x77 : Int32) => rec42 x76 x77) fun K75 => zlet (K75 (0 : Int32)) fun K74 => if a3_42 = a1_33 then (K74) else (zrc h33 this 6 <| (f_X6_isOpen n this a3_42 h33).bind fun (r55 : Int32) => if r55 = 0 then (K74) else (zrc h33 this 6 <| (f_X6_isAhead n this a3_42 a1_33 h33).bind fun (r64 : Int32) => if r64 = 0 then (K74) else (K75 (1 : Int32)))))) n (0 : Int32) (0 : Int32))) n (0 : Int32) h10) else ((zgR h10 this 6 0).bind fun (v16 : Nat) => (zsi h10 v16 ((10 : Int32) + a1_10) (0 : Int32)).bind fun (h24 : zH) => zlet (a1_10 + 1) fun (x25 : Int32) => rec10 x25 h24)) n (0 : Int32) h7
theorem zn_X6_orders : zNm yX6_orders 0 := ⟨by decide +kernel, by decide +kernel⟩
set_option maxRecDepth 100000 in
set_option maxHeartbeats 4000000 in
theorem c_X6_orders (l : Launch) (B : Nat) (D : va_G) (cA : Nat → ClassId) (n : Nat) (this : Nat) (h : zH) : ∀ u, f_X6_orders n this h = some u → zM l B D cA yX6_orders cX6_orders 4 none 4 0 0 none [.ref (B + this)] h ((fun h1 : zH => ((none : Option Value), h1)) u).1 ((fun h1 : zH => ((none : Option Value), h1)) u).2 := by
  unfold f_X6_orders
  refine z_met (own := RX6) (fun h1 : zH => ((none : Option Value), h1)) rfl (by decide) rfl (fun Z C hr _ _ => ?_)
  have hz0 : (z00 Z).1 ≤ 0 ∧ (z00 Z).2.1 ≤ 0 := ⟨Nat.le_refl 0, Nat.le_refl 0⟩
  refine z_aload_n (pc := 0) C (zD D_X6_orders_0 0 rfl) rfl 0 rfl ?_
  refine z_getR (pc := 1) C zc6 0 (by decide) q_102 (zD D_X6_orders_0 1 rfl) (fun v1 => ?_)
  refine z_bipush (pc := 4) (v := 9) C (zD D_X6_orders_0 2 rfl) (by decide) ?_
  refine z_iconst (pc := 6) (v := 0) C (zD D_X6_orders_0 3 rfl) (by decide) ?_
  refine z_aistore (pc := 7) C (zD D_X6_orders_0 4 rfl) (fun h7 => ?_)
  refine z_iconst (pc := 8) (v := 0) C (zD D_X6_orders_0 5 rfl) (by decide) ?_
  refine z_istore_n (pc := 9) (lv' := [(1, .int (0 : Int32)), (0, .ref (B + this))]) C (zD D_X6_orders_0 6 rfl) rfl (by decide) rfl ?_
  refine z_sub [1, 0] (lv' := [(0, .ref (B + this)), (1, .int (0 : Int32))]) rfl ?_
  refine z_fix2 (fun g10 => ∀ (a1_10 : Int32) (h10 : zH), zJ B Z (zEnd B Z (fun h1 : zH => ((none : Option Value), h1)) 0 0) (g10 a1_10 h10) 10 [(0, .ref (B + this)), (1, .int a1_10)] [] h10 (z00 Z)) (fun _ _ => z_none) (fun rec10 hrec10 a1_10 h10 => ?_) n (0 : Int32) h7
  refine z_iload_n (pc := 10) C (zD D_X6_orders_0 7 rfl) rfl 1 rfl ?_
  refine z_iconst (pc := 11) (v := 4) C (zD D_X6_orders_0 8 rfl) (by decide) ?_
  refine z_icmp_ge (pc := 12) C (zD D_X6_orders_0 9 rfl) (tgt := 31) (by decide) (fun _ => ?_) (fun _ => ?_)
  · refine z_iconst (pc := 31) (v := 0) C (zD D_X6_orders_0 19 rfl) (by decide) ?_
    refine z_istore_n (pc := 32) (lv' := [(1, .int (0 : Int32)), (0, .ref (B + this))]) C (zD D_X6_orders_0 20 rfl) rfl (by decide) rfl ?_
    refine z_sub [1, 0] (lv' := [(0, .ref (B + this)), (1, .int (0 : Int32))]) rfl ?_
    refine z_fix2 (fun g33 => ∀ (a1_33 : Int32) (h33 : zH), zJ B Z (zEnd B Z (fun h1 : zH => ((none : Option Value), h1)) 0 0) (g33 a1_33 h33) 33 [(0, .ref (B + this)), (1, .int a1_33)] [] h33 (z00 Z)) (fun _ _ => z_none) (fun rec33 hrec33 a1_33 h33 => ?_) n (0 : Int32) h10
    refine z_iload_n (pc := 33) C (zD D_X6_orders_0 21 rfl) rfl 1 rfl ?_
    refine z_iconst (pc := 34) (v := 4) C (zD D_X6_orders_0 22 rfl) (by decide) ?_
    refine z_icmp_ge (pc := 35) C (zD D_X6_orders_0 23 rfl) (tgt := 118) (by decide) (fun _ => ?_) (fun _ => ?_)
    · exact z_vret (pc := 118) C hr rfl (zD D_X6_orders_1 12 rfl)
    · refine z_iconst (pc := 38) (v := 0) C (zD D_X6_orders_0 24 rfl) (by decide) ?_
      refine z_istore_n (pc := 39) (lv' := [(2, .int (0 : Int32)), (0, .ref (B + this)), (1, .int a1_33)]) C (zD D_X6_orders_0 25 rfl) rfl (by decide) rfl ?_
      refine z_iconst (pc := 40) (v := 0) C (zD D_X6_orders_0 26 rfl) (by decide) ?_
      refine z_istore_n (pc := 41) (lv' := [(3, .int (0 : Int32)), (2, .int (0 : Int32)), (0, .ref (B + this)), (1, .int a1_33)]) C (zD D_X6_orders_0 27 rfl) rfl (by decide) rfl ?_
      refine z_sub [2, 3, 1, 0] (lv' := [(0, .ref (B + this)), (1, .int a1_33), (2, .int (0 : Int32)), (3, .int (0 : Int32))]) rfl ?_
      refine z_fix2 (fun g42 => ∀ (a2_42 : Int32) (a3_42 : Int32), zJ B Z (zEnd B Z (fun h1 : zH => ((none : Option Value), h1)) 0 0) (g42 a2_42 a3_42) 42 [(0, .ref (B + this)), (1, .int a1_33), (2, .int a2_42), (3, .int a3_42)] [] h33 (z00 Z)) (fun _ _ => z_none) (fun rec42 hrec42 a2_42 a3_42 => ?_) n (0 : Int32) (0 : Int32)
      refine z_iload_n (pc := 42) C (zD D_X6_orders_0 28 rfl) rfl 3 rfl ?_
      refine z_iconst (pc := 43) (v := 4) C (zD D_X6_orders_0 29 rfl) (by decide) ?_
      refine z_icmp_ge (pc := 44) C (zD D_X6_orders_0 30 rfl) (tgt := 83) (by decide) (fun _ => ?_) (fun _ => ?_)
      · refine z_aload_n (pc := 83) C (zD D_X6_orders_0 51 rfl) rfl 0 rfl ?_
        refine z_iload_n (pc := 84) C (zD D_X6_orders_0 52 rfl) rfl 1 rfl ?_
        refine z_cvR (pc := 85) (As := [.int a1_33]) C [] (c_X6_isOpen _ _ _ _ n this a1_33 h33) zn_X6_isOpen (by decide) (by decide) hz0 zc6 rfl q_256 q_257 q_258 q_5 q_259 rfl rfl rfl (zD D_X6_orders_0 53 rfl) (fun r85 => ?_)
        refine z_letg (fun K112 => ∀ (h112 : zH), zJ B Z (zEnd B Z (fun h1 : zH => ((none : Option Value), h1)) 0 0) (K112 h112) 112 [(0, .ref (B + this)), (1, .int a1_33)] [] h112 (z00 Z)) (fun h112 => ?_) (fun K112 hK112 => ?_)
        · refine z_iincL (pc := 112) (lv' := fun x112 => [(1, .int x112), (0, .ref (B + this))]) C (zD D_X6_orders_1 10 rfl) 1 rfl (v := a1_33 + 1) rfl (by decide) (fun _ => rfl) (fun x112 => ?_)
          refine z_goto (pc := 115) C (zD D_X6_orders_1 11 rfl) (tgt := 33) (by decide) ?_
          refine z_sub [1, 0] (lv' := [(0, .ref (B + this)), (1, .int x112)]) rfl ?_
          exact hrec33 x112 h112
        refine z_if_eq (pc := 88) C (zD D_X6_orders_0 54 rfl) (tgt := 112) (by decide) (fun _ => ?_) (fun _ => ?_)
        · refine z_sub [0, 1] (lv' := [(0, .ref (B + this)), (1, .int a1_33)]) rfl ?_
          exact hK112 h33
        · refine z_aload_n (pc := 91) C (zD D_X6_orders_0 55 rfl) rfl 0 rfl ?_
          refine z_getR (pc := 92) C zc6 0 (by decide) q_102 (zD D_X6_orders_0 56 rfl) (fun v92 => ?_)
          refine z_bipush (pc := 95) (v := 10) C (zD D_X6_orders_0 57 rfl) (by decide) ?_
          refine z_iload_n (pc := 97) C (zD D_X6_orders_0 58 rfl) rfl 2 rfl ?_
          refine z_iadd (pc := 98) C (zD D_X6_orders_0 59 rfl) ?_
          refine z_iload_n (pc := 99) C (zD D_X6_orders_1 0 rfl) rfl 1 rfl ?_
          refine z_aistore (pc := 100) C (zD D_X6_orders_1 1 rfl) (fun h100 => ?_)
          refine z_aload_n (pc := 101) C (zD D_X6_orders_1 2 rfl) rfl 0 rfl ?_
          refine z_getR (pc := 102) C zc6 0 (by decide) q_102 (zD D_X6_orders_1 3 rfl) (fun v102 => ?_)
          refine z_bipush (pc := 105) (v := 9) C (zD D_X6_orders_1 4 rfl) (by decide) ?_
          refine z_dup2 (pc := 107) C (zD D_X6_orders_1 5 rfl) rfl rfl ?_
          refine z_aiload (pc := 108) C (zD D_X6_orders_1 6 rfl) (fun v108 => ?_)
          refine z_iconst (pc := 109) (v := 1) C (zD D_X6_orders_1 7 rfl) (by decide) ?_
          refine z_iadd (pc := 110) C (zD D_X6_orders_1 8 rfl) ?_
          refine z_aistore (pc := 111) C (zD D_X6_orders_1 9 rfl) (fun h111 => ?_)
          refine z_sub [0, 1] (lv' := [(0, .ref (B + this)), (1, .int a1_33)]) rfl ?_
          exact hK112 h111
      · refine z_iload_n (pc := 47) C (zD D_X6_orders_0 31 rfl) rfl 2 rfl ?_
        refine z_iload_n (pc := 48) C (zD D_X6_orders_0 32 rfl) rfl 3 rfl ?_
        refine z_iload_n (pc := 49) C (zD D_X6_orders_0 33 rfl) rfl 1 rfl ?_
        refine z_letg (fun K75 => ∀ (s0_75 : Int32), zJ B Z (zEnd B Z (fun h1 : zH => ((none : Option Value), h1)) 0 0) (K75 s0_75) 75 [(0, .ref (B + this)), (1, .int a1_33), (3, .int a3_42)] [.int s0_75, .int a2_42] h33 (z00 Z)) (fun s0_75 => ?_) (fun K75 hK75 => ?_)
        · refine z_iadd (pc := 75) C (zD D_X6_orders_0 47 rfl) ?_
          refine z_istore_nL (pc := 76) (lv' := fun x76 => [(2, .int x76), (0, .ref (B + this)), (1, .int a1_33), (3, .int a3_42)]) C (zD D_X6_orders_0 48 rfl) rfl (by decide) (fun _ => rfl) (fun x76 => ?_)
          refine z_iincL (pc := 77) (lv' := fun x77 => [(3, .int x77), (2, .int x76), (0, .ref (B + this)), (1, .int a1_33)]) C (zD D_X6_orders_0 49 rfl) 3 rfl (v := a3_42 + 1) rfl (by decide) (fun _ => rfl) (fun x77 => ?_)
          refine z_goto (pc := 80) C (zD D_X6_orders_0 50 rfl) (tgt := 42) (by decide) ?_
          refine z_sub [2, 3, 1, 0] (lv' := [(0, .ref (B + this)), (1, .int a1_33), (2, .int x76), (3, .int x77)]) rfl ?_
          exact hrec42 x76 x77
        refine z_letg (fun K74 => zJ B Z (zEnd B Z (fun h1 : zH => ((none : Option Value), h1)) 0 0) (K74) 74 [(0, .ref (B + this)), (1, .int a1_33), (3, .int a3_42)] [.int a2_42] h33 (z00 Z)) ?_ (fun K74 hK74 => ?_)
        · refine z_iconst (pc := 74) (v := 0) C (zD D_X6_orders_0 46 rfl) (by decide) ?_
          exact hK75 (0 : Int32)
        refine z_icmp_eq (pc := 50) C (zD D_X6_orders_0 34 rfl) (tgt := 74) (by decide) (fun _ => ?_) (fun _ => ?_)
        · refine z_sub [0, 1, 3] (lv' := [(0, .ref (B + this)), (1, .int a1_33), (3, .int a3_42)]) rfl ?_
          exact hK74
        · refine z_aload_n (pc := 53) C (zD D_X6_orders_0 35 rfl) rfl 0 rfl ?_
          refine z_iload_n (pc := 54) C (zD D_X6_orders_0 36 rfl) rfl 3 rfl ?_
          refine z_cvR (pc := 55) (As := [.int a3_42]) C [.int a2_42] (c_X6_isOpen _ _ _ _ n this a3_42 h33) zn_X6_isOpen (by decide) (by decide) hz0 zc6 rfl q_256 q_257 q_258 q_5 q_259 rfl rfl rfl (zD D_X6_orders_0 37 rfl) (fun r55 => ?_)
          refine z_if_eq (pc := 58) C (zD D_X6_orders_0 38 rfl) (tgt := 74) (by decide) (fun _ => ?_) (fun _ => ?_)
          · refine z_sub [0, 1, 3] (lv' := [(0, .ref (B + this)), (1, .int a1_33), (3, .int a3_42)]) rfl ?_
            exact hK74
          · refine z_aload_n (pc := 61) C (zD D_X6_orders_0 39 rfl) rfl 0 rfl ?_
            refine z_iload_n (pc := 62) C (zD D_X6_orders_0 40 rfl) rfl 3 rfl ?_
            refine z_iload_n (pc := 63) C (zD D_X6_orders_0 41 rfl) rfl 1 rfl ?_
            refine z_cvR (pc := 64) (As := [.int a3_42, .int a1_33]) C [.int a2_42] (c_X6_isAhead _ _ _ _ n this a3_42 a1_33 h33) zn_X6_isAhead (by decide) (by decide) hz0 zc6 rfl q_445 q_446 q_447 q_5 q_448 rfl rfl rfl (zD D_X6_orders_0 42 rfl) (fun r64 => ?_)
            refine z_if_eq (pc := 67) C (zD D_X6_orders_0 43 rfl) (tgt := 74) (by decide) (fun _ => ?_) (fun _ => ?_)
            · refine z_sub [0, 1, 3] (lv' := [(0, .ref (B + this)), (1, .int a1_33), (3, .int a3_42)]) rfl ?_
              exact hK74
            · refine z_iconst (pc := 70) (v := 1) C (zD D_X6_orders_0 44 rfl) (by decide) ?_
              refine z_goto (pc := 71) C (zD D_X6_orders_0 45 rfl) (tgt := 75) (by decide) ?_
              refine z_sub [0, 1, 3] (lv' := [(0, .ref (B + this)), (1, .int a1_33), (3, .int a3_42)]) rfl ?_
              exact hK75 (1 : Int32)
  · refine z_aload_n (pc := 15) C (zD D_X6_orders_0 10 rfl) rfl 0 rfl ?_
    refine z_getR (pc := 16) C zc6 0 (by decide) q_102 (zD D_X6_orders_0 11 rfl) (fun v16 => ?_)
    refine z_bipush (pc := 19) (v := 10) C (zD D_X6_orders_0 12 rfl) (by decide) ?_
    refine z_iload_n (pc := 21) C (zD D_X6_orders_0 13 rfl) rfl 1 rfl ?_
    refine z_iadd (pc := 22) C (zD D_X6_orders_0 14 rfl) ?_
    refine z_iconst (pc := 23) (v := 0) C (zD D_X6_orders_0 15 rfl) (by decide) ?_
    refine z_aistore (pc := 24) C (zD D_X6_orders_0 16 rfl) (fun h24 => ?_)
    refine z_iincL (pc := 25) (lv' := fun x25 => [(1, .int x25), (0, .ref (B + this))]) C (zD D_X6_orders_0 17 rfl) 1 rfl (v := a1_10 + 1) rfl (by decide) (fun _ => rfl) (fun x25 => ?_)
    refine z_goto (pc := 28) C (zD D_X6_orders_0 18 rfl) (tgt := 10) (by decide) ?_
    refine z_sub [1, 0] (lv' := [(0, .ref (B + this)), (1, .int x25)]) rfl ?_
    exact hrec10 x25 h24
def f_X6_route (n : Nat) (this : Nat) (p0 : Int32) (p1 : Int32) (h : zH) : Option (Int32 × zH) := (f_X6_isCompany n p0 h).bind fun (r2 : Int32) => zlet (fun (s0_17 : Int32) => zrc h this 6 <| zb2 (f_X6_refused n this s0_17 h) fun (r17 : Int32) (h17 : zH) => if r17 = 0 then (zrc h17 this 6 <| (f_X6_isOpen n this p0 h17).bind fun (r27 : Int32) => if r27 = 0 then (some ((-1 : Int32), h17)) else (zrc h17 this 6 <| (f_X6_findsRoute n this p0 h17).bind fun (h37 : zH) => (zgI h37 this 6 10).bind fun (v42 : Int32) => if v42 ≤ p1 then (some ((-1 : Int32), h37)) else ((zgR h37 this 6 9).bind fun (v49 : Nat) => (zai h37 v49 p1).bind fun (v53 : Int32) => some (v53, h37)))) else (some ((0 : Int32), h17))) fun K17 => zlet (K17 (1 : Int32)) fun K16 => if r2 = 0 then (K16) else (if p1 < 0 then (K16) else (K17 (0 : Int32)))
theorem zn_X6_route : zNm yX6_route 2 := ⟨by decide +kernel, by decide +kernel⟩
set_option maxRecDepth 100000 in
set_option maxHeartbeats 4000000 in
theorem c_X6_route (l : Launch) (B : Nat) (D : va_G) (cA : Nat → ClassId) (n : Nat) (this : Nat) (p0 : Int32) (p1 : Int32) (h : zH) : ∀ u, f_X6_route n this p0 p1 h = some u → zM l B D cA yX6_route cX6_route 3 (some .int) 4 0 0 none [.ref (B + this), .int p0, .int p1] h ((fun u : Int32 × zH => (some (Value.int u.1), u.2)) u).1 ((fun u : Int32 × zH => (some (Value.int u.1), u.2)) u).2 := by
  unfold f_X6_route
  refine z_met (own := RX6) (fun u : Int32 × zH => (some (Value.int u.1), u.2)) rfl (by decide) rfl (fun Z C hr _ _ => ?_)
  have hz0 : (z00 Z).1 ≤ 0 ∧ (z00 Z).2.1 ≤ 0 := ⟨Nat.le_refl 0, Nat.le_refl 0⟩
  refine z_aload_n (pc := 0) C (zD D_X6_route_0 0 rfl) rfl 0 rfl ?_
  refine z_iload_n (pc := 1) C (zD D_X6_route_0 1 rfl) rfl 1 rfl ?_
  refine z_csR (pc := 2) (As := [.int p0]) C [.ref (B + this)] (c_X6_isCompany _ _ _ _ n p0 h) zn_X6_isCompany (by decide) (by decide) hz0 q_249 q_250 q_5 q_251 rfl rfl rfl (zD D_X6_route_0 2 rfl) (fun r2 => ?_)
  refine z_letg (fun K17 => ∀ (s0_17 : Int32), zJ B Z (zEnd B Z (fun u : Int32 × zH => (some (Value.int u.1), u.2)) 0 0) (K17 s0_17) 17 [(0, .ref (B + this)), (1, .int p0), (2, .int p1)] [.int s0_17, .ref (B + this)] h (z00 Z)) (fun s0_17 => ?_) (fun K17 hK17 => ?_)
  · refine z_cvI (pc := 17) (As := [.int s0_17]) C [] (c_X6_refused _ _ _ _ n this s0_17 h) zn_X6_refused (by decide) (by decide) hz0 zc6 rfl q_155 q_156 q_157 q_5 q_158 rfl rfl rfl (zD D_X6_route_0 9 rfl) (fun r17 h17 => ?_)
    refine z_if_eq (pc := 20) C (zD D_X6_route_0 10 rfl) (tgt := 25) (by decide) (fun _ => ?_) (fun _ => ?_)
    · refine z_aload_n (pc := 25) C (zD D_X6_route_0 13 rfl) rfl 0 rfl ?_
      refine z_iload_n (pc := 26) C (zD D_X6_route_0 14 rfl) rfl 1 rfl ?_
      refine z_cvR (pc := 27) (As := [.int p0]) C [] (c_X6_isOpen _ _ _ _ n this p0 h17) zn_X6_isOpen (by decide) (by decide) hz0 zc6 rfl q_256 q_257 q_258 q_5 q_259 rfl rfl rfl (zD D_X6_route_0 15 rfl) (fun r27 => ?_)
      refine z_if_ne (pc := 30) C (zD D_X6_route_0 16 rfl) (tgt := 35) (by decide) (fun _ => ?_) (fun _ => ?_)
      · refine z_aload_n (pc := 35) C (zD D_X6_route_0 19 rfl) rfl 0 rfl ?_
        refine z_iload_n (pc := 36) C (zD D_X6_route_0 20 rfl) rfl 1 rfl ?_
        refine z_cvV (pc := 37) (As := [.int p0]) C [] (c_X6_findsRoute _ _ _ _ n this p0 h17) zn_X6_findsRoute (by decide) (by decide) hz0 zc6 rfl q_617 q_618 q_619 q_5 q_620 rfl rfl rfl (zD D_X6_route_0 21 rfl) (fun h37 => ?_)
        refine z_iload_n (pc := 40) C (zD D_X6_route_0 22 rfl) rfl 2 rfl ?_
        refine z_aload_n (pc := 41) C (zD D_X6_route_0 23 rfl) rfl 0 rfl ?_
        refine z_getI (pc := 42) C zc6 10 (by decide) q_621 (zD D_X6_route_0 24 rfl) (fun v42 => ?_)
        refine z_icmp_ge (pc := 45) C (zD D_X6_route_0 25 rfl) (tgt := 57) (by decide) (fun _ => ?_) (fun _ => ?_)
        · refine z_iconst (pc := 57) (v := -1) C (zD D_X6_route_0 31 rfl) (by decide) ?_
          exact z_iret (pc := 58) C hr rfl (zD D_X6_route_0 32 rfl)
        · refine z_aload_n (pc := 48) C (zD D_X6_route_0 26 rfl) rfl 0 rfl ?_
          refine z_getR (pc := 49) C zc6 9 (by decide) q_108 (zD D_X6_route_0 27 rfl) (fun v49 => ?_)
          refine z_iload_n (pc := 52) C (zD D_X6_route_0 28 rfl) rfl 2 rfl ?_
          refine z_aiload (pc := 53) C (zD D_X6_route_0 29 rfl) (fun v53 => ?_)
          refine z_goto (pc := 54) C (zD D_X6_route_0 30 rfl) (tgt := 58) (by decide) ?_
          exact z_iret (pc := 58) C hr rfl (zD D_X6_route_0 32 rfl)
      · refine z_iconst (pc := 33) (v := -1) C (zD D_X6_route_0 17 rfl) (by decide) ?_
        exact z_iret (pc := 34) C hr rfl (zD D_X6_route_0 18 rfl)
    · refine z_iconst (pc := 23) (v := 0) C (zD D_X6_route_0 11 rfl) (by decide) ?_
      exact z_iret (pc := 24) C hr rfl (zD D_X6_route_0 12 rfl)
  refine z_letg (fun K16 => zJ B Z (zEnd B Z (fun u : Int32 × zH => (some (Value.int u.1), u.2)) 0 0) (K16) 16 [(0, .ref (B + this)), (1, .int p0), (2, .int p1)] [.ref (B + this)] h (z00 Z)) ?_ (fun K16 hK16 => ?_)
  · refine z_iconst (pc := 16) (v := 1) C (zD D_X6_route_0 8 rfl) (by decide) ?_
    exact hK17 (1 : Int32)
  refine z_if_eq (pc := 5) C (zD D_X6_route_0 3 rfl) (tgt := 16) (by decide) (fun _ => ?_) (fun _ => ?_)
  · exact hK16
  · refine z_iload_n (pc := 8) C (zD D_X6_route_0 4 rfl) rfl 2 rfl ?_
    refine z_if_lt (pc := 9) C (zD D_X6_route_0 5 rfl) (tgt := 16) (by decide) (fun _ => ?_) (fun _ => ?_)
    · exact hK16
    · refine z_iconst (pc := 12) (v := 0) C (zD D_X6_route_0 6 rfl) (by decide) ?_
      refine z_goto (pc := 13) C (zD D_X6_route_0 7 rfl) (tgt := 17) (by decide) ?_
      exact hK17 (0 : Int32)
def f_X6_sells (n : Nat) (this : Nat) (p0 : Int32) (p1 : Int32) (h : zH) : Option (Int32 × zH) := (zgR h this 6 0).bind fun (v2 : Nat) => (zai h v2 (1 : Int32)).bind fun (v6 : Int32) => zrc h this 6 <| (f_X6_price n this p0 h).bind fun (r11 : Int32) => zrc h this 6 <| (f_X6_pays n this v6 ((-p1) * r11) h).bind fun (h15 : zH) => (zgR h15 this 6 0).bind fun (v20 : Nat) => (zai h15 v20 (1 : Int32)).bind fun (v24 : Int32) => zrc h15 this 6 <| (f_X6_holds n this v24 p0 (-p1) h15).bind fun (h28 : zH) => zrc h28 this 6 <| (f_X6_shifts n this p0 (-1 : Int32) h28).bind fun (h34 : zH) => zrc h34 this 6 <| (f_X6_purse n this h34).bind fun (r38 : Int32) => some (r38, h34)
theorem zn_X6_sells : zNm yX6_sells 2 := ⟨by decide +kernel, by decide +kernel⟩
set_option maxRecDepth 100000 in
set_option maxHeartbeats 4000000 in
theorem c_X6_sells (l : Launch) (B : Nat) (D : va_G) (cA : Nat → ClassId) (n : Nat) (this : Nat) (p0 : Int32) (p1 : Int32) (h : zH) : ∀ u, f_X6_sells n this p0 p1 h = some u → zM l B D cA yX6_sells cX6_sells 3 (some .int) 4 0 0 none [.ref (B + this), .int p0, .int p1] h ((fun u : Int32 × zH => (some (Value.int u.1), u.2)) u).1 ((fun u : Int32 × zH => (some (Value.int u.1), u.2)) u).2 := by
  unfold f_X6_sells
  refine z_met (own := RX6) (fun u : Int32 × zH => (some (Value.int u.1), u.2)) rfl (by decide) rfl (fun Z C hr _ _ => ?_)
  have hz0 : (z00 Z).1 ≤ 0 ∧ (z00 Z).2.1 ≤ 0 := ⟨Nat.le_refl 0, Nat.le_refl 0⟩
  refine z_aload_n (pc := 0) C (zD D_X6_sells_0 0 rfl) rfl 0 rfl ?_
  refine z_aload_n (pc := 1) C (zD D_X6_sells_0 1 rfl) rfl 0 rfl ?_
  refine z_getR (pc := 2) C zc6 0 (by decide) q_102 (zD D_X6_sells_0 2 rfl) (fun v2 => ?_)
  refine z_iconst (pc := 5) (v := 1) C (zD D_X6_sells_0 3 rfl) (by decide) ?_
  refine z_aiload (pc := 6) C (zD D_X6_sells_0 4 rfl) (fun v6 => ?_)
  refine z_iload_n (pc := 7) C (zD D_X6_sells_0 5 rfl) rfl 2 rfl ?_
  refine z_ineg (pc := 8) C (zD D_X6_sells_0 6 rfl) ?_
  refine z_aload_n (pc := 9) C (zD D_X6_sells_0 7 rfl) rfl 0 rfl ?_
  refine z_iload_n (pc := 10) C (zD D_X6_sells_0 8 rfl) rfl 1 rfl ?_
  refine z_cvR (pc := 11) (As := [.int p0]) C [.int (-p1), .int v6, .ref (B + this)] (c_X6_price _ _ _ _ n this p0 h) zn_X6_price (by decide) (by decide) hz0 zc6 rfl q_268 q_269 q_270 q_5 q_271 rfl rfl rfl (zD D_X6_sells_0 9 rfl) (fun r11 => ?_)
  refine z_imul (pc := 14) C (zD D_X6_sells_0 10 rfl) ?_
  refine z_cvV (pc := 15) (As := [.int v6, .int ((-p1) * r11)]) C [] (c_X6_pays _ _ _ _ n this v6 ((-p1) * r11) h) zn_X6_pays (by decide) (by decide) hz0 zc6 rfl q_272 q_273 q_274 q_5 q_275 rfl rfl rfl (zD D_X6_sells_0 11 rfl) (fun h15 => ?_)
  refine z_aload_n (pc := 18) C (zD D_X6_sells_0 12 rfl) rfl 0 rfl ?_
  refine z_aload_n (pc := 19) C (zD D_X6_sells_0 13 rfl) rfl 0 rfl ?_
  refine z_getR (pc := 20) C zc6 0 (by decide) q_102 (zD D_X6_sells_0 14 rfl) (fun v20 => ?_)
  refine z_iconst (pc := 23) (v := 1) C (zD D_X6_sells_0 15 rfl) (by decide) ?_
  refine z_aiload (pc := 24) C (zD D_X6_sells_0 16 rfl) (fun v24 => ?_)
  refine z_iload_n (pc := 25) C (zD D_X6_sells_0 17 rfl) rfl 1 rfl ?_
  refine z_iload_n (pc := 26) C (zD D_X6_sells_0 18 rfl) rfl 2 rfl ?_
  refine z_ineg (pc := 27) C (zD D_X6_sells_0 19 rfl) ?_
  refine z_cvV (pc := 28) (As := [.int v24, .int p0, .int (-p1)]) C [] (c_X6_holds _ _ _ _ n this v24 p0 (-p1) h15) zn_X6_holds (by decide) (by decide) hz0 zc6 rfl q_276 q_277 q_278 q_5 q_279 rfl rfl rfl (zD D_X6_sells_0 20 rfl) (fun h28 => ?_)
  refine z_aload_n (pc := 31) C (zD D_X6_sells_0 21 rfl) rfl 0 rfl ?_
  refine z_iload_n (pc := 32) C (zD D_X6_sells_0 22 rfl) rfl 1 rfl ?_
  refine z_iconst (pc := 33) (v := -1) C (zD D_X6_sells_0 23 rfl) (by decide) ?_
  refine z_cvV (pc := 34) (As := [.int p0, .int (-1 : Int32)]) C [] (c_X6_shifts _ _ _ _ n this p0 (-1 : Int32) h28) zn_X6_shifts (by decide) (by decide) hz0 zc6 rfl q_369 q_370 q_371 q_5 q_372 rfl rfl rfl (zD D_X6_sells_0 24 rfl) (fun h34 => ?_)
  refine z_aload_n (pc := 37) C (zD D_X6_sells_0 25 rfl) rfl 0 rfl ?_
  refine z_cvR (pc := 38) (As := []) C [] (c_X6_purse _ _ _ _ n this h34) zn_X6_purse (by decide) (by decide) hz0 zc6 rfl q_264 q_265 q_266 q_5 q_267 rfl rfl rfl (zD D_X6_sells_0 26 rfl) (fun r38 => ?_)
  exact z_iret (pc := 41) C hr rfl (zD D_X6_sells_0 27 rfl)
def f_X6_start (n : Nat) (this : Nat) (p0 : Int32) (p1 : Int32) (p2 : Int32) (h : zH) : Option (Int32 × zH) := (f_X6_isCompany n p0 h).bind fun (r1 : Int32) => zlet (fun (s0_33 : Int32) => zlet (fun (s0_82 : Int32) => zrc h this 6 <| zb2 (f_X6_refused n this s0_82 h) fun (r82 : Int32) (h82 : zH) => if r82 = 0 then (zrc h82 this 6 <| (f_X6_saves n this h82).bind fun (h91 : zH) => zlet (((34 : Int32) + ((7 : Int32) * p0))) fun (x101 : Int32) => (zgR h91 this 6 0).bind fun (v104 : Nat) => (zsi h91 v104 (x101 + (0 : Int32)) (1 : Int32)).bind fun (h112 : zH) => (zgR h112 this 6 0).bind fun (v114 : Nat) => (zsi h112 v114 (x101 + (1 : Int32)) p1).bind fun (h122 : zH) => (zgR h122 this 6 0).bind fun (v124 : Nat) => (zsi h122 v124 (x101 + (3 : Int32)) p2).bind fun (h132 : zH) => (zgR h132 this 6 0).bind fun (v134 : Nat) => (zsi h132 v134 (x101 + (4 : Int32)) (2 : Int32)).bind fun (h142 : zH) => (zgR h142 this 6 0).bind fun (v145 : Nat) => (zai h142 v145 (1 : Int32)).bind fun (v149 : Int32) => zrc h142 this 6 <| (f_X6_price n this p0 h142).bind fun (r153 : Int32) => zrc h142 this 6 <| (f_X6_pays n this v149 ((2 : Int32) * r153) h142).bind fun (h157 : zH) => (zgR h157 this 6 0).bind fun (v162 : Nat) => (zai h157 v162 (1 : Int32)).bind fun (v166 : Int32) => zrc h157 this 6 <| (f_X6_holds n this v166 p0 (2 : Int32) h157).bind fun (h169 : zH) => zrc h169 this 6 <| (f_X6_price n this p0 h169).bind fun (r177 : Int32) => zrc h169 this 6 <| (f_X6_earns n this p0 ((5 : Int32) * r177) h169).bind fun (h181 : zH) => zrc h181 this 6 <| (f_X6_ends n this h181).bind fun (h185 : zH) => zrc h185 this 6 <| (f_X6_of n this p0 (2 : Int32) h185).bind fun (r191 : Int32) => some (r191, h185)) else (some ((0 : Int32), h82))) fun K82 => if s0_33 ≤ 0 then (zrc h this 6 <| (f_X6_isStock n this h).bind fun (r47 : Int32) => zlet (K82 (3 : Int32)) fun K77 => if r47 = 0 then (K77) else (zrc h this 6 <| (f_X6_isOpen n this p0 h).bind fun (r55 : Int32) => if r55 = 0 then (zrc h this 6 <| (f_X6_purse n this h).bind fun (r62 : Int32) => if ((2 : Int32) * ((20 : Int32) + ((10 : Int32) * p2))) ≤ r62 then (K82 (0 : Int32)) else (K77)) else (K77))) else (K82 s0_33)) fun K33 => zlet (K33 (1 : Int32)) fun K14 => if r1 = 0 then (K14) else ((f_X6_isTown n p1 h).bind fun (r8 : Int32) => if r8 = 0 then (K14) else ((f_X6_in n p2 (2 : Int32) (8 : Int32) h).bind fun (r22 : Int32) => if r22 = 0 then (K33 (2 : Int32)) else (K33 (0 : Int32))))
theorem zn_X6_start : zNm yX6_start 3 := ⟨by decide +kernel, by decide +kernel⟩
set_option maxRecDepth 100000 in
set_option maxHeartbeats 4000000 in
theorem c_X6_start (l : Launch) (B : Nat) (D : va_G) (cA : Nat → ClassId) (n : Nat) (this : Nat) (p0 : Int32) (p1 : Int32) (p2 : Int32) (h : zH) : ∀ u, f_X6_start n this p0 p1 p2 h = some u → zM l B D cA yX6_start cX6_start 6 (some .int) 4 0 0 none [.ref (B + this), .int p0, .int p1, .int p2] h ((fun u : Int32 × zH => (some (Value.int u.1), u.2)) u).1 ((fun u : Int32 × zH => (some (Value.int u.1), u.2)) u).2 := by
  unfold f_X6_start
  refine z_met (own := RX6) (fun u : Int32 × zH => (some (Value.int u.1), u.2)) rfl (by decide) rfl (fun Z C hr _ _ => ?_)
  have hz0 : (z00 Z).1 ≤ 0 ∧ (z00 Z).2.1 ≤ 0 := ⟨Nat.le_refl 0, Nat.le_refl 0⟩
  refine z_iload_n (pc := 0) C (zD D_X6_start_0 0 rfl) rfl 1 rfl ?_
  refine z_csR (pc := 1) (As := [.int p0]) C [] (c_X6_isCompany _ _ _ _ n p0 h) zn_X6_isCompany (by decide) (by decide) hz0 q_249 q_250 q_5 q_251 rfl rfl rfl (zD D_X6_start_0 1 rfl) (fun r1 => ?_)
  refine z_letg (fun K33 => ∀ (s0_33 : Int32), zJ B Z (zEnd B Z (fun u : Int32 × zH => (some (Value.int u.1), u.2)) 0 0) (K33 s0_33) 33 [(0, .ref (B + this)), (1, .int p0), (2, .int p1), (3, .int p2)] [.int s0_33] h (z00 Z)) (fun s0_33 => ?_) (fun K33 hK33 => ?_)
  · refine z_istore (pc := 33) (lv' := [(4, .int s0_33), (0, .ref (B + this)), (1, .int p0), (2, .int p1), (3, .int p2)]) C (zD D_X6_start_0 16 rfl) (by decide) rfl ?_
    refine z_aload_n (pc := 35) C (zD D_X6_start_0 17 rfl) rfl 1 rfl ?_
    refine z_iload (pc := 36) C (zD D_X6_start_0 18 rfl) 0 rfl ?_
    refine z_letg (fun K82 => ∀ (s0_82 : Int32), zJ B Z (zEnd B Z (fun u : Int32 × zH => (some (Value.int u.1), u.2)) 0 0) (K82 s0_82) 82 [(0, .ref (B + this)), (1, .int p0), (2, .int p1), (3, .int p2)] [.int s0_82, .ref (B + this)] h (z00 Z)) (fun s0_82 => ?_) (fun K82 hK82 => ?_)
    · refine z_cvI (pc := 82) (As := [.int s0_82]) C [] (c_X6_refused _ _ _ _ n this s0_82 h) zn_X6_refused (by decide) (by decide) hz0 zc6 rfl q_155 q_156 q_157 q_5 q_158 rfl rfl rfl (zD D_X6_start_0 42 rfl) (fun r82 h82 => ?_)
      refine z_if_eq (pc := 85) C (zD D_X6_start_0 43 rfl) (tgt := 90) (by decide) (fun _ => ?_) (fun _ => ?_)
      · refine z_aload_n (pc := 90) C (zD D_X6_start_0 46 rfl) rfl 0 rfl ?_
        refine z_cvV (pc := 91) (As := []) C [] (c_X6_saves _ _ _ _ n this h82) zn_X6_saves (by decide) (by decide) hz0 zc6 rfl q_160 q_161 q_162 q_5 q_163 rfl rfl rfl (zD D_X6_start_0 47 rfl) (fun h91 => ?_)
        refine z_bipush (pc := 94) (v := 34) C (zD D_X6_start_0 48 rfl) (by decide) ?_
        refine z_bipush (pc := 96) (v := 7) C (zD D_X6_start_0 49 rfl) (by decide) ?_
        refine z_iload_n (pc := 98) C (zD D_X6_start_0 50 rfl) rfl 1 rfl ?_
        refine z_imul (pc := 99) C (zD D_X6_start_0 51 rfl) ?_
        refine z_iadd (pc := 100) C (zD D_X6_start_0 52 rfl) ?_
        refine z_istoreL (pc := 101) (lv' := fun x101 => [(5, .int x101), (0, .ref (B + this)), (1, .int p0), (2, .int p1), (3, .int p2)]) C (zD D_X6_start_0 53 rfl) (by decide) (fun _ => rfl) (fun x101 => ?_)
        refine z_aload_n (pc := 103) C (zD D_X6_start_0 54 rfl) rfl 1 rfl ?_
        refine z_getR (pc := 104) C zc6 0 (by decide) q_102 (zD D_X6_start_0 55 rfl) (fun v104 => ?_)
        refine z_iload (pc := 107) C (zD D_X6_start_0 56 rfl) 0 rfl ?_
        refine z_iconst (pc := 109) (v := 0) C (zD D_X6_start_0 57 rfl) (by decide) ?_
        refine z_iadd (pc := 110) C (zD D_X6_start_0 58 rfl) ?_
        refine z_iconst (pc := 111) (v := 1) C (zD D_X6_start_0 59 rfl) (by decide) ?_
        refine z_aistore (pc := 112) C (zD D_X6_start_1 0 rfl) (fun h112 => ?_)
        refine z_aload_n (pc := 113) C (zD D_X6_start_1 1 rfl) rfl 1 rfl ?_
        refine z_getR (pc := 114) C zc6 0 (by decide) q_102 (zD D_X6_start_1 2 rfl) (fun v114 => ?_)
        refine z_iload (pc := 117) C (zD D_X6_start_1 3 rfl) 0 rfl ?_
        refine z_iconst (pc := 119) (v := 1) C (zD D_X6_start_1 4 rfl) (by decide) ?_
        refine z_iadd (pc := 120) C (zD D_X6_start_1 5 rfl) ?_
        refine z_iload_n (pc := 121) C (zD D_X6_start_1 6 rfl) rfl 3 rfl ?_
        refine z_aistore (pc := 122) C (zD D_X6_start_1 7 rfl) (fun h122 => ?_)
        refine z_aload_n (pc := 123) C (zD D_X6_start_1 8 rfl) rfl 1 rfl ?_
        refine z_getR (pc := 124) C zc6 0 (by decide) q_102 (zD D_X6_start_1 9 rfl) (fun v124 => ?_)
        refine z_iload (pc := 127) C (zD D_X6_start_1 10 rfl) 0 rfl ?_
        refine z_iconst (pc := 129) (v := 3) C (zD D_X6_start_1 11 rfl) (by decide) ?_
        refine z_iadd (pc := 130) C (zD D_X6_start_1 12 rfl) ?_
        refine z_iload_n (pc := 131) C (zD D_X6_start_1 13 rfl) rfl 4 rfl ?_
        refine z_aistore (pc := 132) C (zD D_X6_start_1 14 rfl) (fun h132 => ?_)
        refine z_aload_n (pc := 133) C (zD D_X6_start_1 15 rfl) rfl 1 rfl ?_
        refine z_getR (pc := 134) C zc6 0 (by decide) q_102 (zD D_X6_start_1 16 rfl) (fun v134 => ?_)
        refine z_iload (pc := 137) C (zD D_X6_start_1 17 rfl) 0 rfl ?_
        refine z_iconst (pc := 139) (v := 4) C (zD D_X6_start_1 18 rfl) (by decide) ?_
        refine z_iadd (pc := 140) C (zD D_X6_start_1 19 rfl) ?_
        refine z_iconst (pc := 141) (v := 2) C (zD D_X6_start_1 20 rfl) (by decide) ?_
        refine z_aistore (pc := 142) C (zD D_X6_start_1 21 rfl) (fun h142 => ?_)
        refine z_aload_n (pc := 143) C (zD D_X6_start_1 22 rfl) rfl 1 rfl ?_
        refine z_aload_n (pc := 144) C (zD D_X6_start_1 23 rfl) rfl 1 rfl ?_
        refine z_getR (pc := 145) C zc6 0 (by decide) q_102 (zD D_X6_start_1 24 rfl) (fun v145 => ?_)
        refine z_iconst (pc := 148) (v := 1) C (zD D_X6_start_1 25 rfl) (by decide) ?_
        refine z_aiload (pc := 149) C (zD D_X6_start_1 26 rfl) (fun v149 => ?_)
        refine z_iconst (pc := 150) (v := 2) C (zD D_X6_start_1 27 rfl) (by decide) ?_
        refine z_aload_n (pc := 151) C (zD D_X6_start_1 28 rfl) rfl 1 rfl ?_
        refine z_iload_n (pc := 152) C (zD D_X6_start_1 29 rfl) rfl 2 rfl ?_
        refine z_cvR (pc := 153) (As := [.int p0]) C [.int (2 : Int32), .int v149, .ref (B + this)] (c_X6_price _ _ _ _ n this p0 h142) zn_X6_price (by decide) (by decide) hz0 zc6 rfl q_268 q_269 q_270 q_5 q_271 rfl rfl rfl (zD D_X6_start_1 30 rfl) (fun r153 => ?_)
        refine z_imul (pc := 156) C (zD D_X6_start_1 31 rfl) ?_
        refine z_cvV (pc := 157) (As := [.int v149, .int ((2 : Int32) * r153)]) C [] (c_X6_pays _ _ _ _ n this v149 ((2 : Int32) * r153) h142) zn_X6_pays (by decide) (by decide) hz0 zc6 rfl q_272 q_273 q_274 q_5 q_275 rfl rfl rfl (zD D_X6_start_1 32 rfl) (fun h157 => ?_)
        refine z_aload_n (pc := 160) C (zD D_X6_start_1 33 rfl) rfl 1 rfl ?_
        refine z_aload_n (pc := 161) C (zD D_X6_start_1 34 rfl) rfl 1 rfl ?_
        refine z_getR (pc := 162) C zc6 0 (by decide) q_102 (zD D_X6_start_1 35 rfl) (fun v162 => ?_)
        refine z_iconst (pc := 165) (v := 1) C (zD D_X6_start_1 36 rfl) (by decide) ?_
        refine z_aiload (pc := 166) C (zD D_X6_start_1 37 rfl) (fun v166 => ?_)
        refine z_iload_n (pc := 167) C (zD D_X6_start_1 38 rfl) rfl 2 rfl ?_
        refine z_iconst (pc := 168) (v := 2) C (zD D_X6_start_1 39 rfl) (by decide) ?_
        refine z_cvV (pc := 169) (As := [.int v166, .int p0, .int (2 : Int32)]) C [] (c_X6_holds _ _ _ _ n this v166 p0 (2 : Int32) h157) zn_X6_holds (by decide) (by decide) hz0 zc6 rfl q_276 q_277 q_278 q_5 q_279 rfl rfl rfl (zD D_X6_start_1 40 rfl) (fun h169 => ?_)
        refine z_aload_n (pc := 172) C (zD D_X6_start_1 41 rfl) rfl 1 rfl ?_
        refine z_iload_n (pc := 173) C (zD D_X6_start_1 42 rfl) rfl 2 rfl ?_
        refine z_iconst (pc := 174) (v := 5) C (zD D_X6_start_1 43 rfl) (by decide) ?_
        refine z_aload_n (pc := 175) C (zD D_X6_start_1 44 rfl) rfl 1 rfl ?_
        refine z_iload_n (pc := 176) C (zD D_X6_start_1 45 rfl) rfl 2 rfl ?_
        refine z_cvR (pc := 177) (As := [.int p0]) C [.int (5 : Int32), .int p0, .ref (B + this)] (c_X6_price _ _ _ _ n this p0 h169) zn_X6_price (by decide) (by decide) hz0 zc6 rfl q_268 q_269 q_270 q_5 q_271 rfl rfl rfl (zD D_X6_start_1 46 rfl) (fun r177 => ?_)
        refine z_imul (pc := 180) C (zD D_X6_start_1 47 rfl) ?_
        refine z_cvV (pc := 181) (As := [.int p0, .int ((5 : Int32) * r177)]) C [] (c_X6_earns _ _ _ _ n this p0 ((5 : Int32) * r177) h169) zn_X6_earns (by decide) (by decide) hz0 zc6 rfl q_288 q_289 q_290 q_5 q_291 rfl rfl rfl (zD D_X6_start_1 48 rfl) (fun h181 => ?_)
        refine z_aload_n (pc := 184) C (zD D_X6_start_1 49 rfl) rfl 1 rfl ?_
        refine z_cvV (pc := 185) (As := []) C [] (c_X6_ends _ _ _ _ n this h181) zn_X6_ends (by decide) (by decide) hz0 zc6 rfl q_292 q_293 q_294 q_5 q_295 rfl rfl rfl (zD D_X6_start_1 50 rfl) (fun h185 => ?_)
        refine z_aload_n (pc := 188) C (zD D_X6_start_1 51 rfl) rfl 1 rfl ?_
        refine z_iload_n (pc := 189) C (zD D_X6_start_1 52 rfl) rfl 2 rfl ?_
        refine z_iconst (pc := 190) (v := 2) C (zD D_X6_start_1 53 rfl) (by decide) ?_
        refine z_cvR (pc := 191) (As := [.int p0, .int (2 : Int32)]) C [] (c_X6_of _ _ _ _ n this p0 (2 : Int32) h185) zn_X6_of (by decide) (by decide) hz0 zc6 rfl q_260 q_261 q_262 q_5 q_263 rfl rfl rfl (zD D_X6_start_1 54 rfl) (fun r191 => ?_)
        exact z_iret (pc := 194) C hr rfl (zD D_X6_start_1 55 rfl)
      · refine z_iconst (pc := 88) (v := 0) C (zD D_X6_start_0 44 rfl) (by decide) ?_
        exact z_iret (pc := 89) C hr rfl (zD D_X6_start_0 45 rfl)
    refine z_if_le (pc := 38) C (zD D_X6_start_0 19 rfl) (tgt := 46) (by decide) (fun _ => ?_) (fun _ => ?_)
    · refine z_aload_n (pc := 46) C (zD D_X6_start_0 22 rfl) rfl 1 rfl ?_
      refine z_cvR (pc := 47) (As := []) C [.ref (B + this)] (c_X6_isStock _ _ _ _ n this h) zn_X6_isStock (by decide) (by decide) hz0 zc6 rfl q_252 q_253 q_254 q_5 q_255 rfl rfl rfl (zD D_X6_start_0 23 rfl) (fun r47 => ?_)
      refine z_letg (fun K77 => zJ B Z (zEnd B Z (fun u : Int32 × zH => (some (Value.int u.1), u.2)) 0 0) (K77) 77 [(0, .ref (B + this)), (1, .int p0), (2, .int p1), (3, .int p2)] [.ref (B + this)] h (z00 Z)) ?_ (fun K77 hK77 => ?_)
      · refine z_iconst (pc := 77) (v := 3) C (zD D_X6_start_0 39 rfl) (by decide) ?_
        refine z_goto (pc := 78) C (zD D_X6_start_0 40 rfl) (tgt := 82) (by decide) ?_
        exact hK82 (3 : Int32)
      refine z_if_eq (pc := 50) C (zD D_X6_start_0 24 rfl) (tgt := 77) (by decide) (fun _ => ?_) (fun _ => ?_)
      · refine z_sub [1, 2, 3, 4] (lv' := [(0, .ref (B + this)), (1, .int p0), (2, .int p1), (3, .int p2)]) rfl ?_
        exact hK77
      · refine z_aload_n (pc := 53) C (zD D_X6_start_0 25 rfl) rfl 1 rfl ?_
        refine z_iload_n (pc := 54) C (zD D_X6_start_0 26 rfl) rfl 2 rfl ?_
        refine z_cvR (pc := 55) (As := [.int p0]) C [.ref (B + this)] (c_X6_isOpen _ _ _ _ n this p0 h) zn_X6_isOpen (by decide) (by decide) hz0 zc6 rfl q_256 q_257 q_258 q_5 q_259 rfl rfl rfl (zD D_X6_start_0 27 rfl) (fun r55 => ?_)
        refine z_if_ne (pc := 58) C (zD D_X6_start_0 28 rfl) (tgt := 77) (by decide) (fun _ => ?_) (fun _ => ?_)
        · refine z_sub [1, 2, 3, 4] (lv' := [(0, .ref (B + this)), (1, .int p0), (2, .int p1), (3, .int p2)]) rfl ?_
          exact hK77
        · refine z_aload_n (pc := 61) C (zD D_X6_start_0 29 rfl) rfl 1 rfl ?_
          refine z_cvR (pc := 62) (As := []) C [.ref (B + this)] (c_X6_purse _ _ _ _ n this h) zn_X6_purse (by decide) (by decide) hz0 zc6 rfl q_264 q_265 q_266 q_5 q_267 rfl rfl rfl (zD D_X6_start_0 30 rfl) (fun r62 => ?_)
          refine z_iconst (pc := 65) (v := 2) C (zD D_X6_start_0 31 rfl) (by decide) ?_
          refine z_bipush (pc := 66) (v := 20) C (zD D_X6_start_0 32 rfl) (by decide) ?_
          refine z_bipush (pc := 68) (v := 10) C (zD D_X6_start_0 33 rfl) (by decide) ?_
          refine z_iload_n (pc := 70) C (zD D_X6_start_0 34 rfl) rfl 4 rfl ?_
          refine z_imul (pc := 71) C (zD D_X6_start_0 35 rfl) ?_
          refine z_iadd (pc := 72) C (zD D_X6_start_0 36 rfl) ?_
          refine z_imul (pc := 73) C (zD D_X6_start_0 37 rfl) ?_
          refine z_icmp_ge (pc := 74) C (zD D_X6_start_0 38 rfl) (tgt := 81) (by decide) (fun _ => ?_) (fun _ => ?_)
          · refine z_iconst (pc := 81) (v := 0) C (zD D_X6_start_0 41 rfl) (by decide) ?_
            refine z_sub [1, 2, 3, 4] (lv' := [(0, .ref (B + this)), (1, .int p0), (2, .int p1), (3, .int p2)]) rfl ?_
            exact hK82 (0 : Int32)
          · refine z_sub [1, 2, 3, 4] (lv' := [(0, .ref (B + this)), (1, .int p0), (2, .int p1), (3, .int p2)]) rfl ?_
            exact hK77
    · refine z_iload (pc := 41) C (zD D_X6_start_0 20 rfl) 0 rfl ?_
      refine z_goto (pc := 43) C (zD D_X6_start_0 21 rfl) (tgt := 82) (by decide) ?_
      refine z_sub [1, 2, 3, 4] (lv' := [(0, .ref (B + this)), (1, .int p0), (2, .int p1), (3, .int p2)]) rfl ?_
      exact hK82 s0_33
  refine z_letg (fun K14 => zJ B Z (zEnd B Z (fun u : Int32 × zH => (some (Value.int u.1), u.2)) 0 0) (K14) 14 [(0, .ref (B + this)), (1, .int p0), (2, .int p1), (3, .int p2)] [] h (z00 Z)) ?_ (fun K14 hK14 => ?_)
  · refine z_iconst (pc := 14) (v := 1) C (zD D_X6_start_0 6 rfl) (by decide) ?_
    refine z_goto (pc := 15) C (zD D_X6_start_0 7 rfl) (tgt := 33) (by decide) ?_
    exact hK33 (1 : Int32)
  refine z_if_eq (pc := 4) C (zD D_X6_start_0 2 rfl) (tgt := 14) (by decide) (fun _ => ?_) (fun _ => ?_)
  · exact hK14
  · refine z_iload_n (pc := 7) C (zD D_X6_start_0 3 rfl) rfl 2 rfl ?_
    refine z_csR (pc := 8) (As := [.int p1]) C [] (c_X6_isTown _ _ _ _ n p1 h) zn_X6_isTown (by decide) (by decide) hz0 q_188 q_189 q_5 q_190 rfl rfl rfl (zD D_X6_start_0 4 rfl) (fun r8 => ?_)
    refine z_if_ne (pc := 11) C (zD D_X6_start_0 5 rfl) (tgt := 18) (by decide) (fun _ => ?_) (fun _ => ?_)
    · refine z_iload_n (pc := 18) C (zD D_X6_start_0 8 rfl) rfl 3 rfl ?_
      refine z_iconst (pc := 19) (v := 2) C (zD D_X6_start_0 9 rfl) (by decide) ?_
      refine z_bipush (pc := 20) (v := 8) C (zD D_X6_start_0 10 rfl) (by decide) ?_
      refine z_csR (pc := 22) (As := [.int p2, .int (2 : Int32), .int (8 : Int32)]) C [] (c_X6_in _ _ _ _ n p2 (2 : Int32) (8 : Int32) h) zn_X6_in (by decide) (by decide) hz0 q_152 q_153 q_5 q_154 rfl rfl rfl (zD D_X6_start_0 11 rfl) (fun r22 => ?_)
      refine z_if_ne (pc := 25) C (zD D_X6_start_0 12 rfl) (tgt := 32) (by decide) (fun _ => ?_) (fun _ => ?_)
      · refine z_iconst (pc := 32) (v := 0) C (zD D_X6_start_0 15 rfl) (by decide) ?_
        exact hK33 (0 : Int32)
      · refine z_iconst (pc := 28) (v := 2) C (zD D_X6_start_0 13 rfl) (by decide) ?_
        refine z_goto (pc := 29) C (zD D_X6_start_0 14 rfl) (tgt := 33) (by decide) ?_
        exact hK33 (2 : Int32)
    · exact hK14
