def f_X1_canSell (n : Nat) (this : Nat) (p0 : Int32) (p1 : Int32) (h : zH) : Option (Int32) := (zgR h this 1 2).bind fun (v1 : Nat) => (zar h v1 3 p0).bind fun (v5 : Nat) => (zgI h this 1 11).bind fun (v8 : Int32) => zlet (some (0 : Int32)) fun K38 => if v8 = 0 then ((zgI h v5 0 1).bind fun (v15 : Int32) => if v15 = 0 then (K38) else ((zgR h v5 0 0).bind fun (v22 : Nat) => (zgI h this 1 9).bind fun (v26 : Int32) => (zai h v22 v26).bind fun (v29 : Int32) => if v29 < p1 then (K38) else (some (1 : Int32)))) else (K38)
theorem zn_X1_canSell : zNm yX1_canSell 2 := ⟨by decide +kernel, by decide +kernel⟩
set_option maxRecDepth 100000 in
set_option maxHeartbeats 4000000 in
theorem c_X1_canSell (l : Launch) (B : Nat) (D : va_G) (cA : Nat → ClassId) (n : Nat) (this : Nat) (p0 : Int32) (p1 : Int32) (h : zH) : ∀ u, f_X1_canSell n this p0 p1 h = some u → zM l B D cA yX1_canSell cX1_canSell 4 (some .boolean) 1 0 0 none [.ref (B + this), .int p0, .int p1] h ((fun r : Int32 => (some (Value.int r), h)) u).1 ((fun r : Int32 => (some (Value.int r), h)) u).2 := by
  unfold f_X1_canSell
  refine z_met (own := RX1) (fun r : Int32 => (some (Value.int r), h)) rfl (by decide) rfl (fun Z C hr _ _ => ?_)
  have hz0 : (z00 Z).1 ≤ 0 ∧ (z00 Z).2.1 ≤ 0 := ⟨Nat.le_refl 0, Nat.le_refl 0⟩
  refine z_aload_n (pc := 0) C (zD D_X1_canSell_0 0 rfl) rfl 0 rfl ?_
  refine z_getR (pc := 1) C zc1 2 (by decide) q_40 (zD D_X1_canSell_0 1 rfl) (fun v1 => ?_)
  refine z_iload_n (pc := 4) C (zD D_X1_canSell_0 2 rfl) rfl 1 rfl ?_
  refine z_arload (pc := 5) C (c := 3) (by decide) rfl (zD D_X1_canSell_0 3 rfl) (fun v5 => ?_)
  refine z_astore_n (pc := 6) (lv' := [(3, .ref (B + v5)), (0, .ref (B + this)), (1, .int p0), (2, .int p1)]) C (zD D_X1_canSell_0 4 rfl) rfl (by decide) rfl ?_
  refine z_aload_n (pc := 7) C (zD D_X1_canSell_0 5 rfl) rfl 1 rfl ?_
  refine z_getI (pc := 8) C zc1 11 (by decide) q_67 (zD D_X1_canSell_0 6 rfl) (fun v8 => ?_)
  refine z_letg (fun K38 => zJ B Z (zEnd B Z (fun r : Int32 => (some (Value.int r), h)) 0 0) (K38) 38 [] [] h (z00 Z)) ?_ (fun K38 hK38 => ?_)
  · refine z_iconst (pc := 38) (v := 0) C (zD D_X1_canSell_0 20 rfl) (by decide) ?_
    exact z_zret (pc := 39) C hr (by decide) rfl (zD D_X1_canSell_0 21 rfl)
  refine z_if_ne (pc := 11) C (zD D_X1_canSell_0 7 rfl) (tgt := 38) (by decide) (fun _ => ?_) (fun _ => ?_)
  · refine z_sub [] (lv' := []) rfl ?_
    exact hK38
  · refine z_aload_n (pc := 14) C (zD D_X1_canSell_0 8 rfl) rfl 0 rfl ?_
    refine z_getI (pc := 15) C zc0 1 (by decide) q_160 (zD D_X1_canSell_0 9 rfl) (fun v15 => ?_)
    refine z_if_eq (pc := 18) C (zD D_X1_canSell_0 10 rfl) (tgt := 38) (by decide) (fun _ => ?_) (fun _ => ?_)
    · refine z_sub [] (lv' := []) rfl ?_
      exact hK38
    · refine z_aload_n (pc := 21) C (zD D_X1_canSell_0 11 rfl) rfl 0 rfl ?_
      refine z_getR (pc := 22) C zc0 0 (by decide) q_174 (zD D_X1_canSell_0 12 rfl) (fun v22 => ?_)
      refine z_aload_n (pc := 25) C (zD D_X1_canSell_0 13 rfl) rfl 1 rfl ?_
      refine z_getI (pc := 26) C zc1 9 (by decide) q_65 (zD D_X1_canSell_0 14 rfl) (fun v26 => ?_)
      refine z_aiload (pc := 29) C (zD D_X1_canSell_0 15 rfl) (fun v29 => ?_)
      refine z_iload_n (pc := 30) C (zD D_X1_canSell_0 16 rfl) rfl 3 rfl ?_
      refine z_icmp_lt (pc := 31) C (zD D_X1_canSell_0 17 rfl) (tgt := 38) (by decide) (fun _ => ?_) (fun _ => ?_)
      · refine z_sub [] (lv' := []) rfl ?_
        exact hK38
      · refine z_iconst (pc := 34) (v := 1) C (zD D_X1_canSell_0 18 rfl) (by decide) ?_
        refine z_goto (pc := 35) C (zD D_X1_canSell_0 19 rfl) (tgt := 39) (by decide) ?_
        exact z_zret (pc := 39) C hr (by decide) rfl (zD D_X1_canSell_0 21 rfl)
def f_X1_cheapestHeld (n : Nat) (this : Nat) (p0 : Int32) (h : zH) : Option (Int32) := zfix2 (fun rec4 (a2_4 : Int32) (a3_4 : Int32) => if (4 : Int32) ≤ a3_4 then (some a2_4) else ((zgR h this 1 2).bind fun (v10 : Nat) => (zar h v10 3 a3_4).bind fun (v14 : Nat) => (zgI h v14 0 1).bind fun (v19 : Int32) => zlet (fun (a2_59 : Int32) => zlet (a3_4 + 1) fun (x59 : Int32) => rec4 a2_59 x59) fun K59 => if v19 = 0 then (K59 a2_4) else ((zgR h v14 0 0).bind fun (v27 : Nat) => (zai h v27 p0).bind fun (v31 : Int32) => if v31 ≤ 0 then (K59 a2_4) else (zlet (K59 a3_4) fun K57 => if a2_4 = (-1 : Int32) then (K57) else ((zgI h v14 0 4).bind fun (v42 : Int32) => (zgR h this 1 2).bind fun (v46 : Nat) => (zar h v46 3 a2_4).bind fun (v50 : Nat) => (zgI h v50 0 4).bind fun (v51 : Int32) => if v51 ≤ v42 then (K59 a2_4) else (K57)))))) n (-1 : Int32) (0 : Int32)
theorem zn_X1_cheapestHeld : zNm yX1_cheapestHeld 1 := ⟨by decide +kernel, by decide +kernel⟩
set_option maxRecDepth 100000 in
set_option maxHeartbeats 4000000 in
theorem c_X1_cheapestHeld (l : Launch) (B : Nat) (D : va_G) (cA : Nat → ClassId) (n : Nat) (this : Nat) (p0 : Int32) (h : zH) : ∀ u, f_X1_cheapestHeld n this p0 h = some u → zM l B D cA yX1_cheapestHeld cX1_cheapestHeld 5 (some .int) 1 0 0 none [.ref (B + this), .int p0] h ((fun r : Int32 => (some (Value.int r), h)) u).1 ((fun r : Int32 => (some (Value.int r), h)) u).2 := by
  unfold f_X1_cheapestHeld
  refine z_met (own := RX1) (fun r : Int32 => (some (Value.int r), h)) rfl (by decide) rfl (fun Z C hr _ _ => ?_)
  have hz0 : (z00 Z).1 ≤ 0 ∧ (z00 Z).2.1 ≤ 0 := ⟨Nat.le_refl 0, Nat.le_refl 0⟩
  refine z_iconst (pc := 0) (v := -1) C (zD D_X1_cheapestHeld_0 0 rfl) (by decide) ?_
  refine z_istore_n (pc := 1) (lv' := [(2, .int (-1 : Int32)), (0, .ref (B + this)), (1, .int p0)]) C (zD D_X1_cheapestHeld_0 1 rfl) rfl (by decide) rfl ?_
  refine z_iconst (pc := 2) (v := 0) C (zD D_X1_cheapestHeld_0 2 rfl) (by decide) ?_
  refine z_istore_n (pc := 3) (lv' := [(3, .int (0 : Int32)), (2, .int (-1 : Int32)), (0, .ref (B + this)), (1, .int p0)]) C (zD D_X1_cheapestHeld_0 3 rfl) rfl (by decide) rfl ?_
  refine z_sub [2, 3, 1, 0] (lv' := [(0, .ref (B + this)), (1, .int p0), (2, .int (-1 : Int32)), (3, .int (0 : Int32))]) rfl ?_
  refine z_fix2 (fun g4 => ∀ (a2_4 : Int32) (a3_4 : Int32), zJ B Z (zEnd B Z (fun r : Int32 => (some (Value.int r), h)) 0 0) (g4 a2_4 a3_4) 4 [(0, .ref (B + this)), (1, .int p0), (2, .int a2_4), (3, .int a3_4)] [] h (z00 Z)) (fun _ _ => z_none) (fun rec4 hrec4 a2_4 a3_4 => ?_) n (-1 : Int32) (0 : Int32)
  refine z_iload_n (pc := 4) C (zD D_X1_cheapestHeld_0 4 rfl) rfl 3 rfl ?_
  refine z_iconst (pc := 5) (v := 4) C (zD D_X1_cheapestHeld_0 5 rfl) (by decide) ?_
  refine z_icmp_ge (pc := 6) C (zD D_X1_cheapestHeld_0 6 rfl) (tgt := 65) (by decide) (fun _ => ?_) (fun _ => ?_)
  · refine z_iload_n (pc := 65) C (zD D_X1_cheapestHeld_0 35 rfl) rfl 2 rfl ?_
    exact z_iret (pc := 66) C hr rfl (zD D_X1_cheapestHeld_0 36 rfl)
  · refine z_aload_n (pc := 9) C (zD D_X1_cheapestHeld_0 7 rfl) rfl 0 rfl ?_
    refine z_getR (pc := 10) C zc1 2 (by decide) q_40 (zD D_X1_cheapestHeld_0 8 rfl) (fun v10 => ?_)
    refine z_iload_n (pc := 13) C (zD D_X1_cheapestHeld_0 9 rfl) rfl 3 rfl ?_
    refine z_arload (pc := 14) C (c := 3) (by decide) rfl (zD D_X1_cheapestHeld_0 10 rfl) (fun v14 => ?_)
    refine z_astore (pc := 15) (lv' := [(4, .ref (B + v14)), (0, .ref (B + this)), (1, .int p0), (2, .int a2_4), (3, .int a3_4)]) C (zD D_X1_cheapestHeld_0 11 rfl) (by decide) rfl ?_
    refine z_aload (pc := 17) C (zD D_X1_cheapestHeld_0 12 rfl) 0 rfl ?_
    refine z_getI (pc := 19) C zc0 1 (by decide) q_160 (zD D_X1_cheapestHeld_0 13 rfl) (fun v19 => ?_)
    refine z_letg (fun K59 => ∀ (a2_59 : Int32), zJ B Z (zEnd B Z (fun r : Int32 => (some (Value.int r), h)) 0 0) (K59 a2_59) 59 [(0, .ref (B + this)), (1, .int p0), (2, .int a2_59), (3, .int a3_4)] [] h (z00 Z)) (fun a2_59 => ?_) (fun K59 hK59 => ?_)
    · refine z_iincL (pc := 59) (lv' := fun x59 => [(3, .int x59), (0, .ref (B + this)), (1, .int p0), (2, .int a2_59)]) C (zD D_X1_cheapestHeld_0 33 rfl) 3 rfl (v := a3_4 + 1) rfl (by decide) (fun _ => rfl) (fun x59 => ?_)
      refine z_goto (pc := 62) C (zD D_X1_cheapestHeld_0 34 rfl) (tgt := 4) (by decide) ?_
      refine z_sub [1, 2, 3, 0] (lv' := [(0, .ref (B + this)), (1, .int p0), (2, .int a2_59), (3, .int x59)]) rfl ?_
      exact hrec4 a2_59 x59
    refine z_if_eq (pc := 22) C (zD D_X1_cheapestHeld_0 14 rfl) (tgt := 59) (by decide) (fun _ => ?_) (fun _ => ?_)
    · refine z_sub [1, 2, 3, 4] (lv' := [(0, .ref (B + this)), (1, .int p0), (2, .int a2_4), (3, .int a3_4)]) rfl ?_
      exact hK59 a2_4
    · refine z_aload (pc := 25) C (zD D_X1_cheapestHeld_0 15 rfl) 0 rfl ?_
      refine z_getR (pc := 27) C zc0 0 (by decide) q_174 (zD D_X1_cheapestHeld_0 16 rfl) (fun v27 => ?_)
      refine z_iload_n (pc := 30) C (zD D_X1_cheapestHeld_0 17 rfl) rfl 2 rfl ?_
      refine z_aiload (pc := 31) C (zD D_X1_cheapestHeld_0 18 rfl) (fun v31 => ?_)
      refine z_if_le (pc := 32) C (zD D_X1_cheapestHeld_0 19 rfl) (tgt := 59) (by decide) (fun _ => ?_) (fun _ => ?_)
      · refine z_sub [1, 2, 3, 4] (lv' := [(0, .ref (B + this)), (1, .int p0), (2, .int a2_4), (3, .int a3_4)]) rfl ?_
        exact hK59 a2_4
      · refine z_iload_n (pc := 35) C (zD D_X1_cheapestHeld_0 20 rfl) rfl 3 rfl ?_
        refine z_iconst (pc := 36) (v := -1) C (zD D_X1_cheapestHeld_0 21 rfl) (by decide) ?_
        refine z_letg (fun K57 => zJ B Z (zEnd B Z (fun r : Int32 => (some (Value.int r), h)) 0 0) (K57) 57 [(0, .ref (B + this)), (1, .int p0), (3, .int a3_4)] [] h (z00 Z)) ?_ (fun K57 hK57 => ?_)
        · refine z_iload_n (pc := 57) C (zD D_X1_cheapestHeld_0 31 rfl) rfl 2 rfl ?_
          refine z_istore_n (pc := 58) (lv' := [(2, .int a3_4), (0, .ref (B + this)), (1, .int p0), (3, .int a3_4)]) C (zD D_X1_cheapestHeld_0 32 rfl) rfl (by decide) rfl ?_
          refine z_sub [1, 2, 0, 3] (lv' := [(0, .ref (B + this)), (1, .int p0), (2, .int a3_4), (3, .int a3_4)]) rfl ?_
          exact hK59 a3_4
        refine z_icmp_eq (pc := 37) C (zD D_X1_cheapestHeld_0 22 rfl) (tgt := 57) (by decide) (fun _ => ?_) (fun _ => ?_)
        · refine z_sub [1, 2, 4] (lv' := [(0, .ref (B + this)), (1, .int p0), (3, .int a3_4)]) rfl ?_
          exact hK57
        · refine z_aload (pc := 40) C (zD D_X1_cheapestHeld_0 23 rfl) 0 rfl ?_
          refine z_getI (pc := 42) C zc0 4 (by decide) q_359 (zD D_X1_cheapestHeld_0 24 rfl) (fun v42 => ?_)
          refine z_aload_n (pc := 45) C (zD D_X1_cheapestHeld_0 25 rfl) rfl 1 rfl ?_
          refine z_getR (pc := 46) C zc1 2 (by decide) q_40 (zD D_X1_cheapestHeld_0 26 rfl) (fun v46 => ?_)
          refine z_iload_n (pc := 49) C (zD D_X1_cheapestHeld_0 27 rfl) rfl 3 rfl ?_
          refine z_arload (pc := 50) C (c := 3) (by decide) rfl (zD D_X1_cheapestHeld_0 28 rfl) (fun v50 => ?_)
          refine z_getI (pc := 51) C zc0 4 (by decide) q_359 (zD D_X1_cheapestHeld_0 29 rfl) (fun v51 => ?_)
          refine z_icmp_ge (pc := 54) C (zD D_X1_cheapestHeld_0 30 rfl) (tgt := 59) (by decide) (fun _ => ?_) (fun _ => ?_)
          · refine z_sub [1, 2, 3, 4] (lv' := [(0, .ref (B + this)), (1, .int p0), (2, .int a2_4), (3, .int a3_4)]) rfl ?_
            exact hK59 a2_4
          · refine z_sub [1, 2, 4] (lv' := [(0, .ref (B + this)), (1, .int p0), (3, .int a3_4)]) rfl ?_
            exact hK57
def f_X1_companyPays (n : Nat) (this : Nat) (p0 : Nat) (p1 : Int32) (h : zH) : Option (zH) := (zgI h p0 0 3).bind fun (v2 : Int32) => (zp h p0 0 3 (.int (v2 - p1))).bind fun (h7 : zH) => (zgI h7 this 1 13).bind fun (v12 : Int32) => (zp h7 this 1 13 (.int (v12 + p1))).bind fun (h17 : zH) => some h17
theorem zn_X1_companyPays : zNm yX1_companyPays 2 := ⟨by decide +kernel, by decide +kernel⟩
set_option maxRecDepth 100000 in
set_option maxHeartbeats 4000000 in
theorem c_X1_companyPays (l : Launch) (B : Nat) (D : va_G) (cA : Nat → ClassId) (n : Nat) (this : Nat) (p0 : Nat) (p1 : Int32) (h : zH) : ∀ u, f_X1_companyPays n this p0 p1 h = some u → zM l B D cA yX1_companyPays cX1_companyPays 3 none 1 0 0 none [.ref (B + this), .ref (B + p0), .int p1] h ((fun h1 : zH => ((none : Option Value), h1)) u).1 ((fun h1 : zH => ((none : Option Value), h1)) u).2 := by
  unfold f_X1_companyPays
  refine z_met (own := RX1) (fun h1 : zH => ((none : Option Value), h1)) rfl (by decide) rfl (fun Z C hr _ _ => ?_)
  have hz0 : (z00 Z).1 ≤ 0 ∧ (z00 Z).2.1 ≤ 0 := ⟨Nat.le_refl 0, Nat.le_refl 0⟩
  refine z_aload_n (pc := 0) C (zD D_X1_companyPays_0 0 rfl) rfl 1 rfl ?_
  refine z_dup (pc := 1) C (zD D_X1_companyPays_0 1 rfl) rfl ?_
  refine z_getI (pc := 2) C zc0 3 (by decide) q_306 (zD D_X1_companyPays_0 2 rfl) (fun v2 => ?_)
  refine z_iload_n (pc := 5) C (zD D_X1_companyPays_0 3 rfl) rfl 2 rfl ?_
  refine z_isub (pc := 6) C (zD D_X1_companyPays_0 4 rfl) ?_
  refine z_putI (pc := 7) C zc0 3 (by decide) q_306 rfl rfl (zD D_X1_companyPays_0 5 rfl) (fun h7 => ?_)
  refine z_aload_n (pc := 10) C (zD D_X1_companyPays_0 6 rfl) rfl 0 rfl ?_
  refine z_dup (pc := 11) C (zD D_X1_companyPays_0 7 rfl) rfl ?_
  refine z_getI (pc := 12) C zc1 13 (by decide) q_69 (zD D_X1_companyPays_0 8 rfl) (fun v12 => ?_)
  refine z_iload_n (pc := 15) C (zD D_X1_companyPays_0 9 rfl) rfl 2 rfl ?_
  refine z_iadd (pc := 16) C (zD D_X1_companyPays_0 10 rfl) ?_
  refine z_putI (pc := 17) C zc1 13 (by decide) q_69 rfl rfl (zD D_X1_companyPays_0 11 rfl) (fun h17 => ?_)
  exact z_vret (pc := 20) C hr rfl (zD D_X1_companyPays_0 12 rfl)
def f_X1_endOperatingIfOver (n : Nat) (this : Nat) (h : zH) : Option (zH) := (zgI h this 1 6).bind fun (v1 : Int32) => (zgI h this 1 5).bind fun (v5 : Int32) => if v1 < v5 then (some h) else ((zp h this 1 11 (.int (0 : Int32))).bind fun (h13 : zH) => (zp h13 this 1 10 (.int (0 : Int32))).bind fun (h18 : zH) => (zgI h18 this 1 12).bind fun (v23 : Int32) => (zp h18 this 1 12 (.int (v23 + (1 : Int32)))).bind fun (h28 : zH) => some h28)
theorem zn_X1_endOperatingIfOver : zNm yX1_endOperatingIfOver 0 := ⟨by decide +kernel, by decide +kernel⟩
set_option maxRecDepth 100000 in
set_option maxHeartbeats 4000000 in
theorem c_X1_endOperatingIfOver (l : Launch) (B : Nat) (D : va_G) (cA : Nat → ClassId) (n : Nat) (this : Nat) (h : zH) : ∀ u, f_X1_endOperatingIfOver n this h = some u → zM l B D cA yX1_endOperatingIfOver cX1_endOperatingIfOver 1 none 1 0 0 none [.ref (B + this)] h ((fun h1 : zH => ((none : Option Value), h1)) u).1 ((fun h1 : zH => ((none : Option Value), h1)) u).2 := by
  unfold f_X1_endOperatingIfOver
  refine z_met (own := RX1) (fun h1 : zH => ((none : Option Value), h1)) rfl (by decide) rfl (fun Z C hr _ _ => ?_)
  have hz0 : (z00 Z).1 ≤ 0 ∧ (z00 Z).2.1 ≤ 0 := ⟨Nat.le_refl 0, Nat.le_refl 0⟩
  refine z_aload_n (pc := 0) C (zD D_X1_endOperatingIfOver_0 0 rfl) rfl 0 rfl ?_
  refine z_getI (pc := 1) C zc1 6 (by decide) q_62 (zD D_X1_endOperatingIfOver_0 1 rfl) (fun v1 => ?_)
  refine z_aload_n (pc := 4) C (zD D_X1_endOperatingIfOver_0 2 rfl) rfl 0 rfl ?_
  refine z_getI (pc := 5) C zc1 5 (by decide) q_61 (zD D_X1_endOperatingIfOver_0 3 rfl) (fun v5 => ?_)
  refine z_icmp_lt (pc := 8) C (zD D_X1_endOperatingIfOver_0 4 rfl) (tgt := 31) (by decide) (fun _ => ?_) (fun _ => ?_)
  · exact z_vret (pc := 31) C hr rfl (zD D_X1_endOperatingIfOver_0 17 rfl)
  · refine z_aload_n (pc := 11) C (zD D_X1_endOperatingIfOver_0 5 rfl) rfl 0 rfl ?_
    refine z_iconst (pc := 12) (v := 0) C (zD D_X1_endOperatingIfOver_0 6 rfl) (by decide) ?_
    refine z_putZ (pc := 13) C zc1 11 (by decide) q_67 rfl rfl (zD D_X1_endOperatingIfOver_0 7 rfl) (by decide) (fun h13 => ?_)
    refine z_aload_n (pc := 16) C (zD D_X1_endOperatingIfOver_0 8 rfl) rfl 0 rfl ?_
    refine z_iconst (pc := 17) (v := 0) C (zD D_X1_endOperatingIfOver_0 9 rfl) (by decide) ?_
    refine z_putI (pc := 18) C zc1 10 (by decide) q_66 rfl rfl (zD D_X1_endOperatingIfOver_0 10 rfl) (fun h18 => ?_)
    refine z_aload_n (pc := 21) C (zD D_X1_endOperatingIfOver_0 11 rfl) rfl 0 rfl ?_
    refine z_dup (pc := 22) C (zD D_X1_endOperatingIfOver_0 12 rfl) rfl ?_
    refine z_getI (pc := 23) C zc1 12 (by decide) q_68 (zD D_X1_endOperatingIfOver_0 13 rfl) (fun v23 => ?_)
    refine z_iconst (pc := 26) (v := 1) C (zD D_X1_endOperatingIfOver_0 14 rfl) (by decide) ?_
    refine z_iadd (pc := 27) C (zD D_X1_endOperatingIfOver_0 15 rfl) ?_
    refine z_putI (pc := 28) C zc1 12 (by decide) q_68 rfl rfl (zD D_X1_endOperatingIfOver_0 16 rfl) (fun h28 => ?_)
    exact z_vret (pc := 31) C hr rfl (zD D_X1_endOperatingIfOver_0 17 rfl)
def f_X1_nextCompany (n : Nat) (this : Nat) (h : zH) : Option (Int32) := (zgI h this 1 11).bind fun (v1 : Int32) => zlet (some (-1 : Int32)) fun K30 => if v1 = 0 then (K30) else ((zgI h this 1 6).bind fun (v8 : Int32) => (zgI h this 1 5).bind fun (v12 : Int32) => if v12 ≤ v8 then (K30) else ((zgR h this 1 4).bind fun (v19 : Nat) => (zgI h this 1 6).bind fun (v23 : Int32) => (zai h v19 v23).bind fun (v26 : Int32) => some v26))
theorem zn_X1_nextCompany : zNm yX1_nextCompany 0 := ⟨by decide +kernel, by decide +kernel⟩
set_option maxRecDepth 100000 in
set_option maxHeartbeats 4000000 in
theorem c_X1_nextCompany (l : Launch) (B : Nat) (D : va_G) (cA : Nat → ClassId) (n : Nat) (this : Nat) (h : zH) : ∀ u, f_X1_nextCompany n this h = some u → zM l B D cA yX1_nextCompany cX1_nextCompany 1 (some .int) 1 0 0 none [.ref (B + this)] h ((fun r : Int32 => (some (Value.int r), h)) u).1 ((fun r : Int32 => (some (Value.int r), h)) u).2 := by
  unfold f_X1_nextCompany
  refine z_met (own := RX1) (fun r : Int32 => (some (Value.int r), h)) rfl (by decide) rfl (fun Z C hr _ _ => ?_)
  have hz0 : (z00 Z).1 ≤ 0 ∧ (z00 Z).2.1 ≤ 0 := ⟨Nat.le_refl 0, Nat.le_refl 0⟩
  refine z_aload_n (pc := 0) C (zD D_X1_nextCompany_0 0 rfl) rfl 0 rfl ?_
  refine z_getI (pc := 1) C zc1 11 (by decide) q_67 (zD D_X1_nextCompany_0 1 rfl) (fun v1 => ?_)
  refine z_letg (fun K30 => zJ B Z (zEnd B Z (fun r : Int32 => (some (Value.int r), h)) 0 0) (K30) 30 [] [] h (z00 Z)) ?_ (fun K30 hK30 => ?_)
  · refine z_iconst (pc := 30) (v := -1) C (zD D_X1_nextCompany_0 14 rfl) (by decide) ?_
    exact z_iret (pc := 31) C hr rfl (zD D_X1_nextCompany_0 15 rfl)
  refine z_if_eq (pc := 4) C (zD D_X1_nextCompany_0 2 rfl) (tgt := 30) (by decide) (fun _ => ?_) (fun _ => ?_)
  · refine z_sub [] (lv' := []) rfl ?_
    exact hK30
  · refine z_aload_n (pc := 7) C (zD D_X1_nextCompany_0 3 rfl) rfl 0 rfl ?_
    refine z_getI (pc := 8) C zc1 6 (by decide) q_62 (zD D_X1_nextCompany_0 4 rfl) (fun v8 => ?_)
    refine z_aload_n (pc := 11) C (zD D_X1_nextCompany_0 5 rfl) rfl 0 rfl ?_
    refine z_getI (pc := 12) C zc1 5 (by decide) q_61 (zD D_X1_nextCompany_0 6 rfl) (fun v12 => ?_)
    refine z_icmp_ge (pc := 15) C (zD D_X1_nextCompany_0 7 rfl) (tgt := 30) (by decide) (fun _ => ?_) (fun _ => ?_)
    · refine z_sub [] (lv' := []) rfl ?_
      exact hK30
    · refine z_aload_n (pc := 18) C (zD D_X1_nextCompany_0 8 rfl) rfl 0 rfl ?_
      refine z_getR (pc := 19) C zc1 4 (by decide) q_42 (zD D_X1_nextCompany_0 9 rfl) (fun v19 => ?_)
      refine z_aload_n (pc := 22) C (zD D_X1_nextCompany_0 10 rfl) rfl 0 rfl ?_
      refine z_getI (pc := 23) C zc1 6 (by decide) q_62 (zD D_X1_nextCompany_0 11 rfl) (fun v23 => ?_)
      refine z_aiload (pc := 26) C (zD D_X1_nextCompany_0 12 rfl) (fun v26 => ?_)
      refine z_goto (pc := 27) C (zD D_X1_nextCompany_0 13 rfl) (tgt := 31) (by decide) ?_
      exact z_iret (pc := 31) C hr rfl (zD D_X1_nextCompany_0 15 rfl)
def f_X1_nextTurn (n : Nat) (this : Nat) (h : zH) : Option (zH) := (zgI h this 1 9).bind fun (v2 : Int32) => (zgI h this 1 8).bind fun (v8 : Int32) => zlet (fun (s0_24 : Int32) => (zp h this 1 9 (.int s0_24)).bind fun (h24 : zH) => some h24) fun K24 => if v8 ≤ (v2 + (1 : Int32)) then (K24 (0 : Int32)) else ((zgI h this 1 9).bind fun (v15 : Int32) => K24 (v15 + (1 : Int32)))
theorem zn_X1_nextTurn : zNm yX1_nextTurn 0 := ⟨by decide +kernel, by decide +kernel⟩
set_option maxRecDepth 100000 in
set_option maxHeartbeats 4000000 in
theorem c_X1_nextTurn (l : Launch) (B : Nat) (D : va_G) (cA : Nat → ClassId) (n : Nat) (this : Nat) (h : zH) : ∀ u, f_X1_nextTurn n this h = some u → zM l B D cA yX1_nextTurn cX1_nextTurn 1 none 1 0 0 none [.ref (B + this)] h ((fun h1 : zH => ((none : Option Value), h1)) u).1 ((fun h1 : zH => ((none : Option Value), h1)) u).2 := by
  unfold f_X1_nextTurn
  refine z_met (own := RX1) (fun h1 : zH => ((none : Option Value), h1)) rfl (by decide) rfl (fun Z C hr _ _ => ?_)
  have hz0 : (z00 Z).1 ≤ 0 ∧ (z00 Z).2.1 ≤ 0 := ⟨Nat.le_refl 0, Nat.le_refl 0⟩
  refine z_aload_n (pc := 0) C (zD D_X1_nextTurn_0 0 rfl) rfl 0 rfl ?_
  refine z_aload_n (pc := 1) C (zD D_X1_nextTurn_0 1 rfl) rfl 0 rfl ?_
  refine z_getI (pc := 2) C zc1 9 (by decide) q_65 (zD D_X1_nextTurn_0 2 rfl) (fun v2 => ?_)
  refine z_iconst (pc := 5) (v := 1) C (zD D_X1_nextTurn_0 3 rfl) (by decide) ?_
  refine z_iadd (pc := 6) C (zD D_X1_nextTurn_0 4 rfl) ?_
  refine z_aload_n (pc := 7) C (zD D_X1_nextTurn_0 5 rfl) rfl 0 rfl ?_
  refine z_getI (pc := 8) C zc1 8 (by decide) q_64 (zD D_X1_nextTurn_0 6 rfl) (fun v8 => ?_)
  refine z_letg (fun K24 => ∀ (s0_24 : Int32), zJ B Z (zEnd B Z (fun h1 : zH => ((none : Option Value), h1)) 0 0) (K24 s0_24) 24 [] [.int s0_24, .ref (B + this)] h (z00 Z)) (fun s0_24 => ?_) (fun K24 hK24 => ?_)
  · refine z_putI (pc := 24) C zc1 9 (by decide) q_65 rfl rfl (zD D_X1_nextTurn_0 14 rfl) (fun h24 => ?_)
    exact z_vret (pc := 27) C hr rfl (zD D_X1_nextTurn_0 15 rfl)
  refine z_icmp_ge (pc := 11) C (zD D_X1_nextTurn_0 7 rfl) (tgt := 23) (by decide) (fun _ => ?_) (fun _ => ?_)
  · refine z_iconst (pc := 23) (v := 0) C (zD D_X1_nextTurn_0 13 rfl) (by decide) ?_
    refine z_sub [] (lv' := []) rfl ?_
    exact hK24 (0 : Int32)
  · refine z_aload_n (pc := 14) C (zD D_X1_nextTurn_0 8 rfl) rfl 0 rfl ?_
    refine z_getI (pc := 15) C zc1 9 (by decide) q_65 (zD D_X1_nextTurn_0 9 rfl) (fun v15 => ?_)
    refine z_iconst (pc := 18) (v := 1) C (zD D_X1_nextTurn_0 10 rfl) (by decide) ?_
    refine z_iadd (pc := 19) C (zD D_X1_nextTurn_0 11 rfl) ?_
    refine z_goto (pc := 20) C (zD D_X1_nextTurn_0 12 rfl) (tgt := 24) (by decide) ?_
    refine z_sub [] (lv' := []) rfl ?_
    exact hK24 (v15 + (1 : Int32))
def f_X1_openCompanies (n : Nat) (this : Nat) (h : zH) : Option (Int32) := zfix2 (fun rec4 (a1_4 : Int32) (a2_4 : Int32) => if (4 : Int32) ≤ a2_4 then (some a1_4) else ((zgR h this 1 2).bind fun (v11 : Nat) => (zar h v11 3 a2_4).bind fun (v15 : Nat) => (zgI h v15 0 1).bind fun (v16 : Int32) => zlet (fun (s0_27 : Int32) => zlet ((a1_4 + s0_27)) fun (x28 : Int32) => zlet (a2_4 + 1) fun (x29 : Int32) => rec4 x28 x29) fun K27 => if v16 = 0 then (K27 (0 : Int32)) else (K27 (1 : Int32)))) n (0 : Int32) (0 : Int32)
theorem zn_X1_openCompanies : zNm yX1_openCompanies 0 := ⟨by decide +kernel, by decide +kernel⟩
set_option maxRecDepth 100000 in
set_option maxHeartbeats 4000000 in
theorem c_X1_openCompanies (l : Launch) (B : Nat) (D : va_G) (cA : Nat → ClassId) (n : Nat) (this : Nat) (h : zH) : ∀ u, f_X1_openCompanies n this h = some u → zM l B D cA yX1_openCompanies cX1_openCompanies 3 (some .int) 1 0 0 none [.ref (B + this)] h ((fun r : Int32 => (some (Value.int r), h)) u).1 ((fun r : Int32 => (some (Value.int r), h)) u).2 := by
  unfold f_X1_openCompanies
  refine z_met (own := RX1) (fun r : Int32 => (some (Value.int r), h)) rfl (by decide) rfl (fun Z C hr _ _ => ?_)
  have hz0 : (z00 Z).1 ≤ 0 ∧ (z00 Z).2.1 ≤ 0 := ⟨Nat.le_refl 0, Nat.le_refl 0⟩
  refine z_iconst (pc := 0) (v := 0) C (zD D_X1_openCompanies_0 0 rfl) (by decide) ?_
  refine z_istore_n (pc := 1) (lv' := [(1, .int (0 : Int32)), (0, .ref (B + this))]) C (zD D_X1_openCompanies_0 1 rfl) rfl (by decide) rfl ?_
  refine z_iconst (pc := 2) (v := 0) C (zD D_X1_openCompanies_0 2 rfl) (by decide) ?_
  refine z_istore_n (pc := 3) (lv' := [(2, .int (0 : Int32)), (1, .int (0 : Int32)), (0, .ref (B + this))]) C (zD D_X1_openCompanies_0 3 rfl) rfl (by decide) rfl ?_
  refine z_sub [2, 1, 0] (lv' := [(0, .ref (B + this)), (1, .int (0 : Int32)), (2, .int (0 : Int32))]) rfl ?_
  refine z_fix2 (fun g4 => ∀ (a1_4 : Int32) (a2_4 : Int32), zJ B Z (zEnd B Z (fun r : Int32 => (some (Value.int r), h)) 0 0) (g4 a1_4 a2_4) 4 [(0, .ref (B + this)), (1, .int a1_4), (2, .int a2_4)] [] h (z00 Z)) (fun _ _ => z_none) (fun rec4 hrec4 a1_4 a2_4 => ?_) n (0 : Int32) (0 : Int32)
  refine z_iload_n (pc := 4) C (zD D_X1_openCompanies_0 4 rfl) rfl 2 rfl ?_
  refine z_iconst (pc := 5) (v := 4) C (zD D_X1_openCompanies_0 5 rfl) (by decide) ?_
  refine z_icmp_ge (pc := 6) C (zD D_X1_openCompanies_0 6 rfl) (tgt := 35) (by decide) (fun _ => ?_) (fun _ => ?_)
  · refine z_iload_n (pc := 35) C (zD D_X1_openCompanies_0 21 rfl) rfl 1 rfl ?_
    exact z_iret (pc := 36) C hr rfl (zD D_X1_openCompanies_0 22 rfl)
  · refine z_iload_n (pc := 9) C (zD D_X1_openCompanies_0 7 rfl) rfl 1 rfl ?_
    refine z_aload_n (pc := 10) C (zD D_X1_openCompanies_0 8 rfl) rfl 0 rfl ?_
    refine z_getR (pc := 11) C zc1 2 (by decide) q_40 (zD D_X1_openCompanies_0 9 rfl) (fun v11 => ?_)
    refine z_iload_n (pc := 14) C (zD D_X1_openCompanies_0 10 rfl) rfl 2 rfl ?_
    refine z_arload (pc := 15) C (c := 3) (by decide) rfl (zD D_X1_openCompanies_0 11 rfl) (fun v15 => ?_)
    refine z_getI (pc := 16) C zc0 1 (by decide) q_160 (zD D_X1_openCompanies_0 12 rfl) (fun v16 => ?_)
    refine z_letg (fun K27 => ∀ (s0_27 : Int32), zJ B Z (zEnd B Z (fun r : Int32 => (some (Value.int r), h)) 0 0) (K27 s0_27) 27 [(0, .ref (B + this)), (2, .int a2_4)] [.int s0_27, .int a1_4] h (z00 Z)) (fun s0_27 => ?_) (fun K27 hK27 => ?_)
    · refine z_iadd (pc := 27) C (zD D_X1_openCompanies_0 17 rfl) ?_
      refine z_istore_nL (pc := 28) (lv' := fun x28 => [(1, .int x28), (0, .ref (B + this)), (2, .int a2_4)]) C (zD D_X1_openCompanies_0 18 rfl) rfl (by decide) (fun _ => rfl) (fun x28 => ?_)
      refine z_iincL (pc := 29) (lv' := fun x29 => [(2, .int x29), (1, .int x28), (0, .ref (B + this))]) C (zD D_X1_openCompanies_0 19 rfl) 2 rfl (v := a2_4 + 1) rfl (by decide) (fun _ => rfl) (fun x29 => ?_)
      refine z_goto (pc := 32) C (zD D_X1_openCompanies_0 20 rfl) (tgt := 4) (by decide) ?_
      refine z_sub [2, 1, 0] (lv' := [(0, .ref (B + this)), (1, .int x28), (2, .int x29)]) rfl ?_
      exact hrec4 x28 x29
    refine z_if_eq (pc := 19) C (zD D_X1_openCompanies_0 13 rfl) (tgt := 26) (by decide) (fun _ => ?_) (fun _ => ?_)
    · refine z_iconst (pc := 26) (v := 0) C (zD D_X1_openCompanies_0 16 rfl) (by decide) ?_
      refine z_sub [0, 2] (lv' := [(0, .ref (B + this)), (2, .int a2_4)]) rfl ?_
      exact hK27 (0 : Int32)
    · refine z_iconst (pc := 22) (v := 1) C (zD D_X1_openCompanies_0 14 rfl) (by decide) ?_
      refine z_goto (pc := 23) C (zD D_X1_openCompanies_0 15 rfl) (tgt := 27) (by decide) ?_
      refine z_sub [0, 2] (lv' := [(0, .ref (B + this)), (2, .int a2_4)]) rfl ?_
      exact hK27 (1 : Int32)
def f_X1_playerPays (n : Nat) (this : Nat) (p0 : Int32) (p1 : Int32) (h : zH) : Option (zH) := (zgR h this 1 3).bind fun (v1 : Nat) => (zai h v1 p0).bind fun (v6 : Int32) => (zsi h v1 p0 (v6 - p1)).bind fun (h9 : zH) => (zgI h9 this 1 13).bind fun (v12 : Int32) => (zp h9 this 1 13 (.int (v12 + p1))).bind fun (h17 : zH) => some h17
theorem zn_X1_playerPays : zNm yX1_playerPays 2 := ⟨by decide +kernel, by decide +kernel⟩
set_option maxRecDepth 100000 in
set_option maxHeartbeats 4000000 in
theorem c_X1_playerPays (l : Launch) (B : Nat) (D : va_G) (cA : Nat → ClassId) (n : Nat) (this : Nat) (p0 : Int32) (p1 : Int32) (h : zH) : ∀ u, f_X1_playerPays n this p0 p1 h = some u → zM l B D cA yX1_playerPays cX1_playerPays 3 none 1 0 0 none [.ref (B + this), .int p0, .int p1] h ((fun h1 : zH => ((none : Option Value), h1)) u).1 ((fun h1 : zH => ((none : Option Value), h1)) u).2 := by
  unfold f_X1_playerPays
  refine z_met (own := RX1) (fun h1 : zH => ((none : Option Value), h1)) rfl (by decide) rfl (fun Z C hr _ _ => ?_)
  have hz0 : (z00 Z).1 ≤ 0 ∧ (z00 Z).2.1 ≤ 0 := ⟨Nat.le_refl 0, Nat.le_refl 0⟩
  refine z_aload_n (pc := 0) C (zD D_X1_playerPays_0 0 rfl) rfl 0 rfl ?_
  refine z_getR (pc := 1) C zc1 3 (by decide) q_41 (zD D_X1_playerPays_0 1 rfl) (fun v1 => ?_)
  refine z_iload_n (pc := 4) C (zD D_X1_playerPays_0 2 rfl) rfl 1 rfl ?_
  refine z_dup2 (pc := 5) C (zD D_X1_playerPays_0 3 rfl) rfl rfl ?_
  refine z_aiload (pc := 6) C (zD D_X1_playerPays_0 4 rfl) (fun v6 => ?_)
  refine z_iload_n (pc := 7) C (zD D_X1_playerPays_0 5 rfl) rfl 2 rfl ?_
  refine z_isub (pc := 8) C (zD D_X1_playerPays_0 6 rfl) ?_
  refine z_aistore (pc := 9) C (zD D_X1_playerPays_0 7 rfl) (fun h9 => ?_)
  refine z_aload_n (pc := 10) C (zD D_X1_playerPays_0 8 rfl) rfl 0 rfl ?_
  refine z_dup (pc := 11) C (zD D_X1_playerPays_0 9 rfl) rfl ?_
  refine z_getI (pc := 12) C zc1 13 (by decide) q_69 (zD D_X1_playerPays_0 10 rfl) (fun v12 => ?_)
  refine z_iload_n (pc := 15) C (zD D_X1_playerPays_0 11 rfl) rfl 2 rfl ?_
  refine z_iadd (pc := 16) C (zD D_X1_playerPays_0 12 rfl) ?_
  refine z_putI (pc := 17) C zc1 13 (by decide) q_69 rfl rfl (zD D_X1_playerPays_0 13 rfl) (fun h17 => ?_)
  exact z_vret (pc := 20) C hr rfl (zD D_X1_playerPays_0 14 rfl)
def f_X1_presidenciesOf (n : Nat) (this : Nat) (p0 : Int32) (h : zH) : Option (Int32) := zfix2 (fun rec4 (a2_4 : Int32) (a3_4 : Int32) => if (4 : Int32) ≤ a3_4 then (some a2_4) else ((zgR h this 1 2).bind fun (v10 : Nat) => (zar h v10 3 a3_4).bind fun (v14 : Nat) => (zgI h v14 0 6).bind fun (v15 : Int32) => zlet (fun (a2_28 : Int32) => zlet (a3_4 + 1) fun (x28 : Int32) => rec4 a2_28 x28) fun K28 => if v15 = p0 then (zlet ((a2_4 ||| ((1 : Int32) <<< (a3_4 &&& 31)))) fun (x27 : Int32) => K28 x27) else (K28 a2_4))) n (0 : Int32) (0 : Int32)
theorem zn_X1_presidenciesOf : zNm yX1_presidenciesOf 1 := ⟨by decide +kernel, by decide +kernel⟩
set_option maxRecDepth 100000 in
set_option maxHeartbeats 4000000 in
theorem c_X1_presidenciesOf (l : Launch) (B : Nat) (D : va_G) (cA : Nat → ClassId) (n : Nat) (this : Nat) (p0 : Int32) (h : zH) : ∀ u, f_X1_presidenciesOf n this p0 h = some u → zM l B D cA yX1_presidenciesOf cX1_presidenciesOf 4 (some .int) 1 0 0 none [.ref (B + this), .int p0] h ((fun r : Int32 => (some (Value.int r), h)) u).1 ((fun r : Int32 => (some (Value.int r), h)) u).2 := by
  unfold f_X1_presidenciesOf
  refine z_met (own := RX1) (fun r : Int32 => (some (Value.int r), h)) rfl (by decide) rfl (fun Z C hr _ _ => ?_)
  have hz0 : (z00 Z).1 ≤ 0 ∧ (z00 Z).2.1 ≤ 0 := ⟨Nat.le_refl 0, Nat.le_refl 0⟩
  refine z_iconst (pc := 0) (v := 0) C (zD D_X1_presidenciesOf_0 0 rfl) (by decide) ?_
  refine z_istore_n (pc := 1) (lv' := [(2, .int (0 : Int32)), (0, .ref (B + this)), (1, .int p0)]) C (zD D_X1_presidenciesOf_0 1 rfl) rfl (by decide) rfl ?_
  refine z_iconst (pc := 2) (v := 0) C (zD D_X1_presidenciesOf_0 2 rfl) (by decide) ?_
  refine z_istore_n (pc := 3) (lv' := [(3, .int (0 : Int32)), (2, .int (0 : Int32)), (0, .ref (B + this)), (1, .int p0)]) C (zD D_X1_presidenciesOf_0 3 rfl) rfl (by decide) rfl ?_
  refine z_sub [2, 3, 1, 0] (lv' := [(0, .ref (B + this)), (1, .int p0), (2, .int (0 : Int32)), (3, .int (0 : Int32))]) rfl ?_
  refine z_fix2 (fun g4 => ∀ (a2_4 : Int32) (a3_4 : Int32), zJ B Z (zEnd B Z (fun r : Int32 => (some (Value.int r), h)) 0 0) (g4 a2_4 a3_4) 4 [(0, .ref (B + this)), (1, .int p0), (2, .int a2_4), (3, .int a3_4)] [] h (z00 Z)) (fun _ _ => z_none) (fun rec4 hrec4 a2_4 a3_4 => ?_) n (0 : Int32) (0 : Int32)
  refine z_iload_n (pc := 4) C (zD D_X1_presidenciesOf_0 4 rfl) rfl 3 rfl ?_
  refine z_iconst (pc := 5) (v := 4) C (zD D_X1_presidenciesOf_0 5 rfl) (by decide) ?_
  refine z_icmp_ge (pc := 6) C (zD D_X1_presidenciesOf_0 6 rfl) (tgt := 34) (by decide) (fun _ => ?_) (fun _ => ?_)
  · refine z_iload_n (pc := 34) C (zD D_X1_presidenciesOf_0 22 rfl) rfl 2 rfl ?_
    exact z_iret (pc := 35) C hr rfl (zD D_X1_presidenciesOf_0 23 rfl)
  · refine z_aload_n (pc := 9) C (zD D_X1_presidenciesOf_0 7 rfl) rfl 0 rfl ?_
    refine z_getR (pc := 10) C zc1 2 (by decide) q_40 (zD D_X1_presidenciesOf_0 8 rfl) (fun v10 => ?_)
    refine z_iload_n (pc := 13) C (zD D_X1_presidenciesOf_0 9 rfl) rfl 3 rfl ?_
    refine z_arload (pc := 14) C (c := 3) (by decide) rfl (zD D_X1_presidenciesOf_0 10 rfl) (fun v14 => ?_)
    refine z_getI (pc := 15) C zc0 6 (by decide) q_186 (zD D_X1_presidenciesOf_0 11 rfl) (fun v15 => ?_)
    refine z_iload_n (pc := 18) C (zD D_X1_presidenciesOf_0 12 rfl) rfl 1 rfl ?_
    refine z_letg (fun K28 => ∀ (a2_28 : Int32), zJ B Z (zEnd B Z (fun r : Int32 => (some (Value.int r), h)) 0 0) (K28 a2_28) 28 [(0, .ref (B + this)), (1, .int p0), (2, .int a2_28), (3, .int a3_4)] [] h (z00 Z)) (fun a2_28 => ?_) (fun K28 hK28 => ?_)
    · refine z_iincL (pc := 28) (lv' := fun x28 => [(3, .int x28), (0, .ref (B + this)), (1, .int p0), (2, .int a2_28)]) C (zD D_X1_presidenciesOf_0 20 rfl) 3 rfl (v := a3_4 + 1) rfl (by decide) (fun _ => rfl) (fun x28 => ?_)
      refine z_goto (pc := 31) C (zD D_X1_presidenciesOf_0 21 rfl) (tgt := 4) (by decide) ?_
      refine z_sub [1, 2, 3, 0] (lv' := [(0, .ref (B + this)), (1, .int p0), (2, .int a2_28), (3, .int x28)]) rfl ?_
      exact hrec4 a2_28 x28
    refine z_icmp_ne (pc := 19) C (zD D_X1_presidenciesOf_0 13 rfl) (tgt := 28) (by decide) (fun _ => ?_) (fun _ => ?_)
    · exact hK28 a2_4
    · refine z_iload_n (pc := 22) C (zD D_X1_presidenciesOf_0 14 rfl) rfl 2 rfl ?_
      refine z_iconst (pc := 23) (v := 1) C (zD D_X1_presidenciesOf_0 15 rfl) (by decide) ?_
      refine z_iload_n (pc := 24) C (zD D_X1_presidenciesOf_0 16 rfl) rfl 3 rfl ?_
      refine z_ishl (pc := 25) C (zD D_X1_presidenciesOf_0 17 rfl) ?_
      refine z_ior (pc := 26) C (zD D_X1_presidenciesOf_0 18 rfl) ?_
      refine z_istore_nL (pc := 27) (lv' := fun x27 => [(2, .int x27), (0, .ref (B + this)), (1, .int p0), (3, .int a3_4)]) C (zD D_X1_presidenciesOf_0 19 rfl) rfl (by decide) (fun _ => rfl) (fun x27 => ?_)
      refine z_sub [1, 2, 0, 3] (lv' := [(0, .ref (B + this)), (1, .int p0), (2, .int x27), (3, .int a3_4)]) rfl ?_
      exact hK28 x27
def f_X1_putInOrder (n : Nat) (this : Nat) (p0 : Int32) (h : zH) : Option (zH) := (zgI h this 1 5).bind fun (v1 : Int32) => zfix2 (fun rec5 (a2_5 : Int32) (h5 : zH) => zlet ((zgR h5 this 1 4).bind fun (v58 : Nat) => (zsi h5 v58 a2_5 p0).bind fun (h63 : zH) => (zgI h63 this 1 5).bind fun (v66 : Int32) => (zp h63 this 1 5 (.int (v66 + (1 : Int32)))).bind fun (h71 : zH) => some h71) fun K57 => if a2_5 ≤ 0 then (K57) else ((zgR h5 this 1 2).bind fun (v10 : Nat) => (zgR h5 this 1 4).bind fun (v14 : Nat) => (zai h5 v14 (a2_5 - (1 : Int32))).bind fun (v20 : Int32) => (zar h5 v10 3 v20).bind fun (v21 : Nat) => (zgI h5 v21 0 4).bind fun (v22 : Int32) => (zgR h5 this 1 2).bind fun (v26 : Nat) => (zar h5 v26 3 p0).bind fun (v30 : Nat) => (zgI h5 v30 0 4).bind fun (v31 : Int32) => if v31 ≤ v22 then (K57) else ((zgR h5 this 1 4).bind fun (v38 : Nat) => (zgR h5 this 1 4).bind fun (v43 : Nat) => (zai h5 v43 (a2_5 - (1 : Int32))).bind fun (v49 : Int32) => (zsi h5 v38 a2_5 v49).bind fun (h50 : zH) => zlet (a2_5 + (-1)) fun (x51 : Int32) => rec5 x51 h50))) n v1 h
theorem zn_X1_putInOrder : zNm yX1_putInOrder 1 := ⟨by decide +kernel, by decide +kernel⟩
set_option maxRecDepth 100000 in
set_option maxHeartbeats 4000000 in
theorem c_X1_putInOrder (l : Launch) (B : Nat) (D : va_G) (cA : Nat → ClassId) (n : Nat) (this : Nat) (p0 : Int32) (h : zH) : ∀ u, f_X1_putInOrder n this p0 h = some u → zM l B D cA yX1_putInOrder cX1_putInOrder 3 none 1 0 0 none [.ref (B + this), .int p0] h ((fun h1 : zH => ((none : Option Value), h1)) u).1 ((fun h1 : zH => ((none : Option Value), h1)) u).2 := by
  unfold f_X1_putInOrder
  refine z_met (own := RX1) (fun h1 : zH => ((none : Option Value), h1)) rfl (by decide) rfl (fun Z C hr _ _ => ?_)
  have hz0 : (z00 Z).1 ≤ 0 ∧ (z00 Z).2.1 ≤ 0 := ⟨Nat.le_refl 0, Nat.le_refl 0⟩
  refine z_aload_n (pc := 0) C (zD D_X1_putInOrder_0 0 rfl) rfl 0 rfl ?_
  refine z_getI (pc := 1) C zc1 5 (by decide) q_61 (zD D_X1_putInOrder_0 1 rfl) (fun v1 => ?_)
  refine z_istore_n (pc := 4) (lv' := [(2, .int v1), (0, .ref (B + this)), (1, .int p0)]) C (zD D_X1_putInOrder_0 2 rfl) rfl (by decide) rfl ?_
  refine z_sub [1, 2, 0] (lv' := [(0, .ref (B + this)), (1, .int p0), (2, .int v1)]) rfl ?_
  refine z_fix2 (fun g5 => ∀ (a2_5 : Int32) (h5 : zH), zJ B Z (zEnd B Z (fun h1 : zH => ((none : Option Value), h1)) 0 0) (g5 a2_5 h5) 5 [(0, .ref (B + this)), (1, .int p0), (2, .int a2_5)] [] h5 (z00 Z)) (fun _ _ => z_none) (fun rec5 hrec5 a2_5 h5 => ?_) n v1 h
  refine z_iload_n (pc := 5) C (zD D_X1_putInOrder_0 3 rfl) rfl 2 rfl ?_
  refine z_letg (fun K57 => zJ B Z (zEnd B Z (fun h1 : zH => ((none : Option Value), h1)) 0 0) (K57) 57 [(0, .ref (B + this)), (1, .int p0), (2, .int a2_5)] [] h5 (z00 Z)) ?_ (fun K57 hK57 => ?_)
  · refine z_aload_n (pc := 57) C (zD D_X1_putInOrder_0 33 rfl) rfl 0 rfl ?_
    refine z_getR (pc := 58) C zc1 4 (by decide) q_42 (zD D_X1_putInOrder_0 34 rfl) (fun v58 => ?_)
    refine z_iload_n (pc := 61) C (zD D_X1_putInOrder_0 35 rfl) rfl 2 rfl ?_
    refine z_iload_n (pc := 62) C (zD D_X1_putInOrder_0 36 rfl) rfl 1 rfl ?_
    refine z_aistore (pc := 63) C (zD D_X1_putInOrder_0 37 rfl) (fun h63 => ?_)
    refine z_aload_n (pc := 64) C (zD D_X1_putInOrder_0 38 rfl) rfl 0 rfl ?_
    refine z_dup (pc := 65) C (zD D_X1_putInOrder_0 39 rfl) rfl ?_
    refine z_getI (pc := 66) C zc1 5 (by decide) q_61 (zD D_X1_putInOrder_0 40 rfl) (fun v66 => ?_)
    refine z_iconst (pc := 69) (v := 1) C (zD D_X1_putInOrder_0 41 rfl) (by decide) ?_
    refine z_iadd (pc := 70) C (zD D_X1_putInOrder_0 42 rfl) ?_
    refine z_putI (pc := 71) C zc1 5 (by decide) q_61 rfl rfl (zD D_X1_putInOrder_0 43 rfl) (fun h71 => ?_)
    exact z_vret (pc := 74) C hr rfl (zD D_X1_putInOrder_0 44 rfl)
  refine z_if_le (pc := 6) C (zD D_X1_putInOrder_0 4 rfl) (tgt := 57) (by decide) (fun _ => ?_) (fun _ => ?_)
  · exact hK57
  · refine z_aload_n (pc := 9) C (zD D_X1_putInOrder_0 5 rfl) rfl 0 rfl ?_
    refine z_getR (pc := 10) C zc1 2 (by decide) q_40 (zD D_X1_putInOrder_0 6 rfl) (fun v10 => ?_)
    refine z_aload_n (pc := 13) C (zD D_X1_putInOrder_0 7 rfl) rfl 0 rfl ?_
    refine z_getR (pc := 14) C zc1 4 (by decide) q_42 (zD D_X1_putInOrder_0 8 rfl) (fun v14 => ?_)
    refine z_iload_n (pc := 17) C (zD D_X1_putInOrder_0 9 rfl) rfl 2 rfl ?_
    refine z_iconst (pc := 18) (v := 1) C (zD D_X1_putInOrder_0 10 rfl) (by decide) ?_
    refine z_isub (pc := 19) C (zD D_X1_putInOrder_0 11 rfl) ?_
    refine z_aiload (pc := 20) C (zD D_X1_putInOrder_0 12 rfl) (fun v20 => ?_)
    refine z_arload (pc := 21) C (c := 3) (by decide) rfl (zD D_X1_putInOrder_0 13 rfl) (fun v21 => ?_)
    refine z_getI (pc := 22) C zc0 4 (by decide) q_359 (zD D_X1_putInOrder_0 14 rfl) (fun v22 => ?_)
    refine z_aload_n (pc := 25) C (zD D_X1_putInOrder_0 15 rfl) rfl 0 rfl ?_
    refine z_getR (pc := 26) C zc1 2 (by decide) q_40 (zD D_X1_putInOrder_0 16 rfl) (fun v26 => ?_)
    refine z_iload_n (pc := 29) C (zD D_X1_putInOrder_0 17 rfl) rfl 1 rfl ?_
    refine z_arload (pc := 30) C (c := 3) (by decide) rfl (zD D_X1_putInOrder_0 18 rfl) (fun v30 => ?_)
    refine z_getI (pc := 31) C zc0 4 (by decide) q_359 (zD D_X1_putInOrder_0 19 rfl) (fun v31 => ?_)
    refine z_icmp_ge (pc := 34) C (zD D_X1_putInOrder_0 20 rfl) (tgt := 57) (by decide) (fun _ => ?_) (fun _ => ?_)
    · exact hK57
    · refine z_aload_n (pc := 37) C (zD D_X1_putInOrder_0 21 rfl) rfl 0 rfl ?_
      refine z_getR (pc := 38) C zc1 4 (by decide) q_42 (zD D_X1_putInOrder_0 22 rfl) (fun v38 => ?_)
      refine z_iload_n (pc := 41) C (zD D_X1_putInOrder_0 23 rfl) rfl 2 rfl ?_
      refine z_aload_n (pc := 42) C (zD D_X1_putInOrder_0 24 rfl) rfl 0 rfl ?_
      refine z_getR (pc := 43) C zc1 4 (by decide) q_42 (zD D_X1_putInOrder_0 25 rfl) (fun v43 => ?_)
      refine z_iload_n (pc := 46) C (zD D_X1_putInOrder_0 26 rfl) rfl 2 rfl ?_
      refine z_iconst (pc := 47) (v := 1) C (zD D_X1_putInOrder_0 27 rfl) (by decide) ?_
      refine z_isub (pc := 48) C (zD D_X1_putInOrder_0 28 rfl) ?_
      refine z_aiload (pc := 49) C (zD D_X1_putInOrder_0 29 rfl) (fun v49 => ?_)
      refine z_aistore (pc := 50) C (zD D_X1_putInOrder_0 30 rfl) (fun h50 => ?_)
      refine z_iincL (pc := 51) (lv' := fun x51 => [(2, .int x51), (0, .ref (B + this)), (1, .int p0)]) C (zD D_X1_putInOrder_0 31 rfl) 2 rfl (v := a2_5 + (-1)) rfl (by decide) (fun _ => rfl) (fun x51 => ?_)
      refine z_goto (pc := 54) C (zD D_X1_putInOrder_0 32 rfl) (tgt := 5) (by decide) ?_
      refine z_sub [1, 2, 0] (lv' := [(0, .ref (B + this)), (1, .int p0), (2, .int x51)]) rfl ?_
      exact hrec5 x51 h50
def f_X1_beginOperating (n : Nat) (this : Nat) (h : zH) : Option (zH) := (zp h this 1 11 (.int (1 : Int32))).bind fun (h2 : zH) => (zp h2 this 1 7 (.int (0 : Int32))).bind fun (h7 : zH) => (zp h7 this 1 6 (.int (0 : Int32))).bind fun (h12 : zH) => (zp h12 this 1 5 (.int (0 : Int32))).bind fun (h17 : zH) => zfix2 (fun rec22 (a1_22 : Int32) (h22 : zH) => if (4 : Int32) ≤ a1_22 then (zrc h22 this 1 <| (f_X1_endOperatingIfOver n this h22).bind fun (h51 : zH) => some h51) else ((zgR h22 this 1 2).bind fun (v28 : Nat) => (zar h22 v28 3 a1_22).bind fun (v32 : Nat) => (zgI h22 v32 0 1).bind fun (v33 : Int32) => zlet (fun (h44 : zH) => zlet (a1_22 + 1) fun (x44 : Int32) => rec22 x44 h44) fun K44 => if v33 = 0 then (K44 h22) else (zrc h22 this 1 <| (f_X1_putInOrder n this a1_22 h22).bind fun (h41 : zH) => K44 h41))) n (0 : Int32) h17
theorem zn_X1_beginOperating : zNm yX1_beginOperating 0 := ⟨by decide +kernel, by decide +kernel⟩
set_option maxRecDepth 100000 in
set_option maxHeartbeats 4000000 in
theorem c_X1_beginOperating (l : Launch) (B : Nat) (D : va_G) (cA : Nat → ClassId) (n : Nat) (this : Nat) (h : zH) : ∀ u, f_X1_beginOperating n this h = some u → zM l B D cA yX1_beginOperating cX1_beginOperating 2 none 2 0 0 none [.ref (B + this)] h ((fun h1 : zH => ((none : Option Value), h1)) u).1 ((fun h1 : zH => ((none : Option Value), h1)) u).2 := by
  unfold f_X1_beginOperating
  refine z_met (own := RX1) (fun h1 : zH => ((none : Option Value), h1)) rfl (by decide) rfl (fun Z C hr _ _ => ?_)
  have hz0 : (z00 Z).1 ≤ 0 ∧ (z00 Z).2.1 ≤ 0 := ⟨Nat.le_refl 0, Nat.le_refl 0⟩
  refine z_aload_n (pc := 0) C (zD D_X1_beginOperating_0 0 rfl) rfl 0 rfl ?_
  refine z_iconst (pc := 1) (v := 1) C (zD D_X1_beginOperating_0 1 rfl) (by decide) ?_
  refine z_putZ (pc := 2) C zc1 11 (by decide) q_67 rfl rfl (zD D_X1_beginOperating_0 2 rfl) (by decide) (fun h2 => ?_)
  refine z_aload_n (pc := 5) C (zD D_X1_beginOperating_0 3 rfl) rfl 0 rfl ?_
  refine z_iconst (pc := 6) (v := 0) C (zD D_X1_beginOperating_0 4 rfl) (by decide) ?_
  refine z_putZ (pc := 7) C zc1 7 (by decide) q_63 rfl rfl (zD D_X1_beginOperating_0 5 rfl) (by decide) (fun h7 => ?_)
  refine z_aload_n (pc := 10) C (zD D_X1_beginOperating_0 6 rfl) rfl 0 rfl ?_
  refine z_iconst (pc := 11) (v := 0) C (zD D_X1_beginOperating_0 7 rfl) (by decide) ?_
  refine z_putI (pc := 12) C zc1 6 (by decide) q_62 rfl rfl (zD D_X1_beginOperating_0 8 rfl) (fun h12 => ?_)
  refine z_aload_n (pc := 15) C (zD D_X1_beginOperating_0 9 rfl) rfl 0 rfl ?_
  refine z_iconst (pc := 16) (v := 0) C (zD D_X1_beginOperating_0 10 rfl) (by decide) ?_
  refine z_putI (pc := 17) C zc1 5 (by decide) q_61 rfl rfl (zD D_X1_beginOperating_0 11 rfl) (fun h17 => ?_)
  refine z_iconst (pc := 20) (v := 0) C (zD D_X1_beginOperating_0 12 rfl) (by decide) ?_
  refine z_istore_n (pc := 21) (lv' := [(1, .int (0 : Int32)), (0, .ref (B + this))]) C (zD D_X1_beginOperating_0 13 rfl) rfl (by decide) rfl ?_
  refine z_sub [1, 0] (lv' := [(0, .ref (B + this)), (1, .int (0 : Int32))]) rfl ?_
  refine z_fix2 (fun g22 => ∀ (a1_22 : Int32) (h22 : zH), zJ B Z (zEnd B Z (fun h1 : zH => ((none : Option Value), h1)) 0 0) (g22 a1_22 h22) 22 [(0, .ref (B + this)), (1, .int a1_22)] [] h22 (z00 Z)) (fun _ _ => z_none) (fun rec22 hrec22 a1_22 h22 => ?_) n (0 : Int32) h17
  refine z_iload_n (pc := 22) C (zD D_X1_beginOperating_0 14 rfl) rfl 1 rfl ?_
  refine z_iconst (pc := 23) (v := 4) C (zD D_X1_beginOperating_0 15 rfl) (by decide) ?_
  refine z_icmp_ge (pc := 24) C (zD D_X1_beginOperating_0 16 rfl) (tgt := 50) (by decide) (fun _ => ?_) (fun _ => ?_)
  · refine z_aload_n (pc := 50) C (zD D_X1_beginOperating_0 28 rfl) rfl 0 rfl ?_
    refine z_cvV (pc := 51) (As := []) C [] (c_X1_endOperatingIfOver _ _ _ _ n this h22) zn_X1_endOperatingIfOver (by decide) (by decide) hz0 zc1 rfl q_440 q_441 q_442 q_16 q_443 rfl rfl rfl (zD D_X1_beginOperating_0 29 rfl) (fun h51 => ?_)
    exact z_vret (pc := 54) C hr rfl (zD D_X1_beginOperating_0 30 rfl)
  · refine z_aload_n (pc := 27) C (zD D_X1_beginOperating_0 17 rfl) rfl 0 rfl ?_
    refine z_getR (pc := 28) C zc1 2 (by decide) q_40 (zD D_X1_beginOperating_0 18 rfl) (fun v28 => ?_)
    refine z_iload_n (pc := 31) C (zD D_X1_beginOperating_0 19 rfl) rfl 1 rfl ?_
    refine z_arload (pc := 32) C (c := 3) (by decide) rfl (zD D_X1_beginOperating_0 20 rfl) (fun v32 => ?_)
    refine z_getI (pc := 33) C zc0 1 (by decide) q_160 (zD D_X1_beginOperating_0 21 rfl) (fun v33 => ?_)
    refine z_letg (fun K44 => ∀ (h44 : zH), zJ B Z (zEnd B Z (fun h1 : zH => ((none : Option Value), h1)) 0 0) (K44 h44) 44 [(0, .ref (B + this)), (1, .int a1_22)] [] h44 (z00 Z)) (fun h44 => ?_) (fun K44 hK44 => ?_)
    · refine z_iincL (pc := 44) (lv' := fun x44 => [(1, .int x44), (0, .ref (B + this))]) C (zD D_X1_beginOperating_0 26 rfl) 1 rfl (v := a1_22 + 1) rfl (by decide) (fun _ => rfl) (fun x44 => ?_)
      refine z_goto (pc := 47) C (zD D_X1_beginOperating_0 27 rfl) (tgt := 22) (by decide) ?_
      refine z_sub [1, 0] (lv' := [(0, .ref (B + this)), (1, .int x44)]) rfl ?_
      exact hrec22 x44 h44
    refine z_if_eq (pc := 36) C (zD D_X1_beginOperating_0 22 rfl) (tgt := 44) (by decide) (fun _ => ?_) (fun _ => ?_)
    · exact hK44 h22
    · refine z_aload_n (pc := 39) C (zD D_X1_beginOperating_0 23 rfl) rfl 0 rfl ?_
      refine z_iload_n (pc := 40) C (zD D_X1_beginOperating_0 24 rfl) rfl 1 rfl ?_
      refine z_cvV (pc := 41) (As := [.int a1_22]) C [] (c_X1_putInOrder _ _ _ _ n this a1_22 h22) zn_X1_putInOrder (by decide) (by decide) hz0 zc1 rfl q_536 q_537 q_538 q_16 q_539 rfl rfl rfl (zD D_X1_beginOperating_0 25 rfl) (fun h41 => ?_)
      exact hK44 h41
def f_X1_canExtend (n : Nat) (this : Nat) (h : zH) : Option (Int32) := zrc h this 1 <| (f_X1_nextCompany n this h).bind fun (r1 : Int32) => if r1 = (-1 : Int32) then (some (0 : Int32)) else ((zgI h this 1 7).bind fun (v11 : Int32) => if v11 = 0 then ((zgR h this 1 2).bind fun (v20 : Nat) => (zar h v20 3 r1).bind fun (v24 : Nat) => (zgI h v24 0 5).bind fun (v27 : Int32) => zlet (some (0 : Int32)) fun K47 => if (5 : Int32) ≤ v27 then (K47) else ((zgI h v24 0 3).bind fun (v35 : Int32) => if v35 < (60 : Int32) then (K47) else (some (1 : Int32)))) else (some (0 : Int32)))
theorem zn_X1_canExtend : zNm yX1_canExtend 0 := ⟨by decide +kernel, by decide +kernel⟩
set_option maxRecDepth 100000 in
set_option maxHeartbeats 4000000 in
theorem c_X1_canExtend (l : Launch) (B : Nat) (D : va_G) (cA : Nat → ClassId) (n : Nat) (this : Nat) (h : zH) : ∀ u, f_X1_canExtend n this h = some u → zM l B D cA yX1_canExtend cX1_canExtend 3 (some .boolean) 2 0 0 none [.ref (B + this)] h ((fun r : Int32 => (some (Value.int r), h)) u).1 ((fun r : Int32 => (some (Value.int r), h)) u).2 := by
  unfold f_X1_canExtend
  refine z_met (own := RX1) (fun r : Int32 => (some (Value.int r), h)) rfl (by decide) rfl (fun Z C hr _ _ => ?_)
  have hz0 : (z00 Z).1 ≤ 0 ∧ (z00 Z).2.1 ≤ 0 := ⟨Nat.le_refl 0, Nat.le_refl 0⟩
  refine z_aload_n (pc := 0) C (zD D_X1_canExtend_0 0 rfl) rfl 0 rfl ?_
  refine z_cvR (pc := 1) (As := []) C [] (c_X1_nextCompany _ _ _ _ n this h) zn_X1_nextCompany (by decide) (by decide) hz0 zc1 rfl q_148 q_149 q_150 q_16 q_151 rfl rfl rfl (zD D_X1_canExtend_0 1 rfl) (fun r1 => ?_)
  refine z_istore_n (pc := 4) (lv' := [(1, .int r1), (0, .ref (B + this))]) C (zD D_X1_canExtend_0 2 rfl) rfl (by decide) rfl ?_
  refine z_iload_n (pc := 5) C (zD D_X1_canExtend_0 3 rfl) rfl 0 rfl ?_
  refine z_iconst (pc := 6) (v := -1) C (zD D_X1_canExtend_0 4 rfl) (by decide) ?_
  refine z_icmp_eq (pc := 7) C (zD D_X1_canExtend_0 5 rfl) (tgt := 17) (by decide) (fun _ => ?_) (fun _ => ?_)
  · refine z_iconst (pc := 17) (v := 0) C (zD D_X1_canExtend_0 9 rfl) (by decide) ?_
    exact z_zret (pc := 18) C hr (by decide) rfl (zD D_X1_canExtend_0 10 rfl)
  · refine z_aload_n (pc := 10) C (zD D_X1_canExtend_0 6 rfl) rfl 1 rfl ?_
    refine z_getI (pc := 11) C zc1 7 (by decide) q_63 (zD D_X1_canExtend_0 7 rfl) (fun v11 => ?_)
    refine z_if_eq (pc := 14) C (zD D_X1_canExtend_0 8 rfl) (tgt := 19) (by decide) (fun _ => ?_) (fun _ => ?_)
    · refine z_aload_n (pc := 19) C (zD D_X1_canExtend_0 11 rfl) rfl 1 rfl ?_
      refine z_getR (pc := 20) C zc1 2 (by decide) q_40 (zD D_X1_canExtend_0 12 rfl) (fun v20 => ?_)
      refine z_iload_n (pc := 23) C (zD D_X1_canExtend_0 13 rfl) rfl 0 rfl ?_
      refine z_arload (pc := 24) C (c := 3) (by decide) rfl (zD D_X1_canExtend_0 14 rfl) (fun v24 => ?_)
      refine z_astore_n (pc := 25) (lv' := [(2, .ref (B + v24)), (1, .int r1), (0, .ref (B + this))]) C (zD D_X1_canExtend_0 15 rfl) rfl (by decide) rfl ?_
      refine z_aload_n (pc := 26) C (zD D_X1_canExtend_0 16 rfl) rfl 0 rfl ?_
      refine z_getI (pc := 27) C zc0 5 (by decide) q_200 (zD D_X1_canExtend_0 17 rfl) (fun v27 => ?_)
      refine z_iconst (pc := 30) (v := 5) C (zD D_X1_canExtend_0 18 rfl) (by decide) ?_
      refine z_letg (fun K47 => zJ B Z (zEnd B Z (fun r : Int32 => (some (Value.int r), h)) 0 0) (K47) 47 [] [] h (z00 Z)) ?_ (fun K47 hK47 => ?_)
      · refine z_iconst (pc := 47) (v := 0) C (zD D_X1_canExtend_0 26 rfl) (by decide) ?_
        exact z_zret (pc := 48) C hr (by decide) rfl (zD D_X1_canExtend_0 27 rfl)
      refine z_icmp_ge (pc := 31) C (zD D_X1_canExtend_0 19 rfl) (tgt := 47) (by decide) (fun _ => ?_) (fun _ => ?_)
      · refine z_sub [] (lv' := []) rfl ?_
        exact hK47
      · refine z_aload_n (pc := 34) C (zD D_X1_canExtend_0 20 rfl) rfl 0 rfl ?_
        refine z_getI (pc := 35) C zc0 3 (by decide) q_306 (zD D_X1_canExtend_0 21 rfl) (fun v35 => ?_)
        refine z_bipush (pc := 38) (v := 60) C (zD D_X1_canExtend_0 22 rfl) (by decide) ?_
        refine z_icmp_lt (pc := 40) C (zD D_X1_canExtend_0 23 rfl) (tgt := 47) (by decide) (fun _ => ?_) (fun _ => ?_)
        · refine z_sub [] (lv' := []) rfl ?_
          exact hK47
        · refine z_iconst (pc := 43) (v := 1) C (zD D_X1_canExtend_0 24 rfl) (by decide) ?_
          refine z_goto (pc := 44) C (zD D_X1_canExtend_0 25 rfl) (tgt := 48) (by decide) ?_
          exact z_zret (pc := 48) C hr (by decide) rfl (zD D_X1_canExtend_0 27 rfl)
    · refine z_iconst (pc := 17) (v := 0) C (zD D_X1_canExtend_0 9 rfl) (by decide) ?_
      exact z_zret (pc := 18) C hr (by decide) rfl (zD D_X1_canExtend_0 10 rfl)
def f_X1_canMerge (n : Nat) (this : Nat) (p0 : Int32) (p1 : Int32) (h : zH) : Option (Int32) := (zgR h this 1 2).bind fun (v1 : Nat) => (zar h v1 3 p0).bind fun (v5 : Nat) => (zgR h this 1 2).bind fun (v8 : Nat) => (zar h v8 3 p1).bind fun (v12 : Nat) => (zgI h this 1 11).bind fun (v16 : Int32) => zlet (some (0 : Int32)) fun K76 => if v16 = 0 then ((zgI h v5 0 1).bind fun (v23 : Int32) => if v23 = 0 then (K76) else ((zgI h v12 0 1).bind fun (v31 : Int32) => if v31 = 0 then (K76) else ((zgI h v5 0 6).bind fun (v38 : Int32) => (zgI h this 1 9).bind fun (v42 : Int32) => if v38 = v42 then ((zgI h v12 0 6).bind fun (v50 : Int32) => (zgI h this 1 9).bind fun (v54 : Int32) => if v50 = v54 then (zrc h v5 0 <| (f_X0_bankShares n v5 h).bind fun (r61 : Int32) => zrc h v12 0 <| (f_X0_exchangedShares n v12 h).bind fun (r66 : Int32) => if r61 < r66 then (K76) else (some (1 : Int32))) else (K76)) else (K76)))) else (K76)
theorem zn_X1_canMerge : zNm yX1_canMerge 2 := ⟨by decide +kernel, by decide +kernel⟩
set_option maxRecDepth 100000 in
set_option maxHeartbeats 4000000 in
theorem c_X1_canMerge (l : Launch) (B : Nat) (D : va_G) (cA : Nat → ClassId) (n : Nat) (this : Nat) (p0 : Int32) (p1 : Int32) (h : zH) : ∀ u, f_X1_canMerge n this p0 p1 h = some u → zM l B D cA yX1_canMerge cX1_canMerge 5 (some .boolean) 2 0 0 none [.ref (B + this), .int p0, .int p1] h ((fun r : Int32 => (some (Value.int r), h)) u).1 ((fun r : Int32 => (some (Value.int r), h)) u).2 := by
  unfold f_X1_canMerge
  refine z_met (own := RX1) (fun r : Int32 => (some (Value.int r), h)) rfl (by decide) rfl (fun Z C hr _ _ => ?_)
  have hz0 : (z00 Z).1 ≤ 0 ∧ (z00 Z).2.1 ≤ 0 := ⟨Nat.le_refl 0, Nat.le_refl 0⟩
  refine z_aload_n (pc := 0) C (zD D_X1_canMerge_0 0 rfl) rfl 0 rfl ?_
  refine z_getR (pc := 1) C zc1 2 (by decide) q_40 (zD D_X1_canMerge_0 1 rfl) (fun v1 => ?_)
  refine z_iload_n (pc := 4) C (zD D_X1_canMerge_0 2 rfl) rfl 1 rfl ?_
  refine z_arload (pc := 5) C (c := 3) (by decide) rfl (zD D_X1_canMerge_0 3 rfl) (fun v5 => ?_)
  refine z_astore_n (pc := 6) (lv' := [(3, .ref (B + v5)), (0, .ref (B + this)), (1, .int p0), (2, .int p1)]) C (zD D_X1_canMerge_0 4 rfl) rfl (by decide) rfl ?_
  refine z_aload_n (pc := 7) C (zD D_X1_canMerge_0 5 rfl) rfl 1 rfl ?_
  refine z_getR (pc := 8) C zc1 2 (by decide) q_40 (zD D_X1_canMerge_0 6 rfl) (fun v8 => ?_)
  refine z_iload_n (pc := 11) C (zD D_X1_canMerge_0 7 rfl) rfl 3 rfl ?_
  refine z_arload (pc := 12) C (c := 3) (by decide) rfl (zD D_X1_canMerge_0 8 rfl) (fun v12 => ?_)
  refine z_astore (pc := 13) (lv' := [(4, .ref (B + v12)), (3, .ref (B + v5)), (0, .ref (B + this)), (1, .int p0), (2, .int p1)]) C (zD D_X1_canMerge_0 9 rfl) (by decide) rfl ?_
  refine z_aload_n (pc := 15) C (zD D_X1_canMerge_0 10 rfl) rfl 2 rfl ?_
  refine z_getI (pc := 16) C zc1 11 (by decide) q_67 (zD D_X1_canMerge_0 11 rfl) (fun v16 => ?_)
  refine z_letg (fun K76 => zJ B Z (zEnd B Z (fun r : Int32 => (some (Value.int r), h)) 0 0) (K76) 76 [] [] h (z00 Z)) ?_ (fun K76 hK76 => ?_)
  · refine z_iconst (pc := 76) (v := 0) C (zD D_X1_canMerge_0 36 rfl) (by decide) ?_
    exact z_zret (pc := 77) C hr (by decide) rfl (zD D_X1_canMerge_0 37 rfl)
  refine z_if_ne (pc := 19) C (zD D_X1_canMerge_0 12 rfl) (tgt := 76) (by decide) (fun _ => ?_) (fun _ => ?_)
  · refine z_sub [] (lv' := []) rfl ?_
    exact hK76
  · refine z_aload_n (pc := 22) C (zD D_X1_canMerge_0 13 rfl) rfl 1 rfl ?_
    refine z_getI (pc := 23) C zc0 1 (by decide) q_160 (zD D_X1_canMerge_0 14 rfl) (fun v23 => ?_)
    refine z_if_eq (pc := 26) C (zD D_X1_canMerge_0 15 rfl) (tgt := 76) (by decide) (fun _ => ?_) (fun _ => ?_)
    · refine z_sub [] (lv' := []) rfl ?_
      exact hK76
    · refine z_aload (pc := 29) C (zD D_X1_canMerge_0 16 rfl) 0 rfl ?_
      refine z_getI (pc := 31) C zc0 1 (by decide) q_160 (zD D_X1_canMerge_0 17 rfl) (fun v31 => ?_)
      refine z_if_eq (pc := 34) C (zD D_X1_canMerge_0 18 rfl) (tgt := 76) (by decide) (fun _ => ?_) (fun _ => ?_)
      · refine z_sub [] (lv' := []) rfl ?_
        exact hK76
      · refine z_aload_n (pc := 37) C (zD D_X1_canMerge_0 19 rfl) rfl 1 rfl ?_
        refine z_getI (pc := 38) C zc0 6 (by decide) q_186 (zD D_X1_canMerge_0 20 rfl) (fun v38 => ?_)
        refine z_aload_n (pc := 41) C (zD D_X1_canMerge_0 21 rfl) rfl 2 rfl ?_
        refine z_getI (pc := 42) C zc1 9 (by decide) q_65 (zD D_X1_canMerge_0 22 rfl) (fun v42 => ?_)
        refine z_icmp_ne (pc := 45) C (zD D_X1_canMerge_0 23 rfl) (tgt := 76) (by decide) (fun _ => ?_) (fun _ => ?_)
        · refine z_sub [] (lv' := []) rfl ?_
          exact hK76
        · refine z_aload (pc := 48) C (zD D_X1_canMerge_0 24 rfl) 0 rfl ?_
          refine z_getI (pc := 50) C zc0 6 (by decide) q_186 (zD D_X1_canMerge_0 25 rfl) (fun v50 => ?_)
          refine z_aload_n (pc := 53) C (zD D_X1_canMerge_0 26 rfl) rfl 2 rfl ?_
          refine z_getI (pc := 54) C zc1 9 (by decide) q_65 (zD D_X1_canMerge_0 27 rfl) (fun v54 => ?_)
          refine z_icmp_ne (pc := 57) C (zD D_X1_canMerge_0 28 rfl) (tgt := 76) (by decide) (fun _ => ?_) (fun _ => ?_)
          · refine z_sub [] (lv' := []) rfl ?_
            exact hK76
          · refine z_aload_n (pc := 60) C (zD D_X1_canMerge_0 29 rfl) rfl 1 rfl ?_
            refine z_cvR (pc := 61) (As := []) C [] (c_X0_bankShares _ _ _ _ n v5 h) zn_X0_bankShares (by decide) (by decide) hz0 zc0 rfl q_338 q_246 q_247 q_45 q_248 rfl rfl rfl (zD D_X1_canMerge_0 30 rfl) (fun r61 => ?_)
            refine z_aload (pc := 64) C (zD D_X1_canMerge_0 31 rfl) 0 rfl ?_
            refine z_cvR (pc := 66) (As := []) C [.int r61] (c_X0_exchangedShares _ _ _ _ n v12 h) zn_X0_exchangedShares (by decide) (by decide) hz0 zc0 rfl q_375 q_376 q_377 q_45 q_378 rfl rfl rfl (zD D_X1_canMerge_0 32 rfl) (fun r66 => ?_)
            refine z_icmp_lt (pc := 69) C (zD D_X1_canMerge_0 33 rfl) (tgt := 76) (by decide) (fun _ => ?_) (fun _ => ?_)
            · refine z_sub [] (lv' := []) rfl ?_
              exact hK76
            · refine z_iconst (pc := 72) (v := 1) C (zD D_X1_canMerge_0 34 rfl) (by decide) ?_
              refine z_goto (pc := 73) C (zD D_X1_canMerge_0 35 rfl) (tgt := 77) (by decide) ?_
              exact z_zret (pc := 77) C hr (by decide) rfl (zD D_X1_canMerge_0 37 rfl)
def f_X1_canStart (n : Nat) (this : Nat) (p0 : Int32) (p1 : Int32) (h : zH) : Option (Int32) := (zgI h this 1 11).bind fun (v1 : Int32) => zlet (some (0 : Int32)) fun K41 => if v1 = 0 then ((zgR h this 1 2).bind fun (v8 : Nat) => (zar h v8 3 p0).bind fun (v12 : Nat) => (zgI h v12 0 1).bind fun (v13 : Int32) => if v13 = 0 then ((zgR h this 1 3).bind fun (v20 : Nat) => (zgI h this 1 9).bind fun (v24 : Int32) => (zai h v20 v24).bind fun (v27 : Int32) => (f_X0_priceAt n p1 h).bind fun (r30 : Int32) => if v27 < ((2 : Int32) * r30) then (K41) else (some (1 : Int32))) else (K41)) else (K41)
theorem zn_X1_canStart : zNm yX1_canStart 2 := ⟨by decide +kernel, by decide +kernel⟩
set_option maxRecDepth 100000 in
set_option maxHeartbeats 4000000 in
theorem c_X1_canStart (l : Launch) (B : Nat) (D : va_G) (cA : Nat → ClassId) (n : Nat) (this : Nat) (p0 : Int32) (p1 : Int32) (h : zH) : ∀ u, f_X1_canStart n this p0 p1 h = some u → zM l B D cA yX1_canStart cX1_canStart 3 (some .boolean) 2 0 0 none [.ref (B + this), .int p0, .int p1] h ((fun r : Int32 => (some (Value.int r), h)) u).1 ((fun r : Int32 => (some (Value.int r), h)) u).2 := by
  unfold f_X1_canStart
  refine z_met (own := RX1) (fun r : Int32 => (some (Value.int r), h)) rfl (by decide) rfl (fun Z C hr _ _ => ?_)
  have hz0 : (z00 Z).1 ≤ 0 ∧ (z00 Z).2.1 ≤ 0 := ⟨Nat.le_refl 0, Nat.le_refl 0⟩
  refine z_aload_n (pc := 0) C (zD D_X1_canStart_0 0 rfl) rfl 0 rfl ?_
  refine z_getI (pc := 1) C zc1 11 (by decide) q_67 (zD D_X1_canStart_0 1 rfl) (fun v1 => ?_)
  refine z_letg (fun K41 => zJ B Z (zEnd B Z (fun r : Int32 => (some (Value.int r), h)) 0 0) (K41) 41 [] [] h (z00 Z)) ?_ (fun K41 hK41 => ?_)
  · refine z_iconst (pc := 41) (v := 0) C (zD D_X1_canStart_0 21 rfl) (by decide) ?_
    exact z_zret (pc := 42) C hr (by decide) rfl (zD D_X1_canStart_0 22 rfl)
  refine z_if_ne (pc := 4) C (zD D_X1_canStart_0 2 rfl) (tgt := 41) (by decide) (fun _ => ?_) (fun _ => ?_)
  · refine z_sub [] (lv' := []) rfl ?_
    exact hK41
  · refine z_aload_n (pc := 7) C (zD D_X1_canStart_0 3 rfl) rfl 0 rfl ?_
    refine z_getR (pc := 8) C zc1 2 (by decide) q_40 (zD D_X1_canStart_0 4 rfl) (fun v8 => ?_)
    refine z_iload_n (pc := 11) C (zD D_X1_canStart_0 5 rfl) rfl 1 rfl ?_
    refine z_arload (pc := 12) C (c := 3) (by decide) rfl (zD D_X1_canStart_0 6 rfl) (fun v12 => ?_)
    refine z_getI (pc := 13) C zc0 1 (by decide) q_160 (zD D_X1_canStart_0 7 rfl) (fun v13 => ?_)
    refine z_if_ne (pc := 16) C (zD D_X1_canStart_0 8 rfl) (tgt := 41) (by decide) (fun _ => ?_) (fun _ => ?_)
    · refine z_sub [] (lv' := []) rfl ?_
      exact hK41
    · refine z_aload_n (pc := 19) C (zD D_X1_canStart_0 9 rfl) rfl 0 rfl ?_
      refine z_getR (pc := 20) C zc1 3 (by decide) q_41 (zD D_X1_canStart_0 10 rfl) (fun v20 => ?_)
      refine z_aload_n (pc := 23) C (zD D_X1_canStart_0 11 rfl) rfl 0 rfl ?_
      refine z_getI (pc := 24) C zc1 9 (by decide) q_65 (zD D_X1_canStart_0 12 rfl) (fun v24 => ?_)
      refine z_aiload (pc := 27) C (zD D_X1_canStart_0 13 rfl) (fun v27 => ?_)
      refine z_iconst (pc := 28) (v := 2) C (zD D_X1_canStart_0 14 rfl) (by decide) ?_
      refine z_iload_n (pc := 29) C (zD D_X1_canStart_0 15 rfl) rfl 2 rfl ?_
      refine z_csR (pc := 30) (As := [.int p1]) C [.int (2 : Int32), .int v27] (c_X0_priceAt _ _ _ _ n p1 h) zn_X0_priceAt (by decide) (by decide) hz0 q_301 q_180 q_45 q_181 rfl rfl rfl (zD D_X1_canStart_0 16 rfl) (fun r30 => ?_)
      refine z_imul (pc := 33) C (zD D_X1_canStart_0 17 rfl) ?_
      refine z_icmp_lt (pc := 34) C (zD D_X1_canStart_0 18 rfl) (tgt := 41) (by decide) (fun _ => ?_) (fun _ => ?_)
      · refine z_sub [] (lv' := []) rfl ?_
        exact hK41
      · refine z_iconst (pc := 37) (v := 1) C (zD D_X1_canStart_0 19 rfl) (by decide) ?_
        refine z_goto (pc := 38) C (zD D_X1_canStart_0 20 rfl) (tgt := 42) (by decide) ?_
        exact z_zret (pc := 42) C hr (by decide) rfl (zD D_X1_canStart_0 22 rfl)
def f_X1_copyFrom (n : Nat) (this : Nat) (p0 : Nat) (h : zH) : Option (zH) := (zgR h this 1 1).bind fun (v1 : Nat) => (zgR h p0 1 1).bind fun (v5 : Nat) => zrc h v1 2 <| (f_X2_copyFrom n v1 v5 h).bind fun (h8 : zH) => zfix2 (fun rec13 (a2_13 : Int32) (h13 : zH) => if (4 : Int32) ≤ a2_13 then ((zgR h13 p0 1 3).bind fun (v40 : Nat) => (zgR h13 this 1 3).bind fun (v45 : Nat) => (zcp h13 v40 (0 : Int32) v45 (0 : Int32) (4 : Int32)).bind fun (h50 : zH) => (zgR h50 p0 1 4).bind fun (v54 : Nat) => (zgR h50 this 1 4).bind fun (v59 : Nat) => (zcp h50 v54 (0 : Int32) v59 (0 : Int32) (4 : Int32)).bind fun (h64 : zH) => (zgI h64 p0 1 5).bind fun (v69 : Int32) => (zp h64 this 1 5 (.int v69)).bind fun (h72 : zH) => (zgI h72 p0 1 6).bind fun (v77 : Int32) => (zp h72 this 1 6 (.int v77)).bind fun (h80 : zH) => (zgI h80 p0 1 7).bind fun (v85 : Int32) => (zB v85).bind fun _ => (zp h80 this 1 7 (.int v85)).bind fun (h88 : zH) => (zgI h88 p0 1 8).bind fun (v93 : Int32) => (zp h88 this 1 8 (.int v93)).bind fun (h96 : zH) => (zgI h96 p0 1 9).bind fun (v101 : Int32) => (zp h96 this 1 9 (.int v101)).bind fun (h104 : zH) => (zgI h104 p0 1 10).bind fun (v109 : Int32) => (zp h104 this 1 10 (.int v109)).bind fun (h112 : zH) => (zgI h112 p0 1 11).bind fun (v117 : Int32) => (zB v117).bind fun _ => (zp h112 this 1 11 (.int v117)).bind fun (h120 : zH) => (zgI h120 p0 1 12).bind fun (v125 : Int32) => (zp h120 this 1 12 (.int v125)).bind fun (h128 : zH) => (zgI h128 p0 1 13).bind fun (v133 : Int32) => (zp h128 this 1 13 (.int v133)).bind fun (h136 : zH) => (zgI h136 p0 1 14).bind fun (v141 : Int32) => (zp h136 this 1 14 (.int v141)).bind fun (h144 : zH) => some h144) else ((zgR h13 this 1 2).bind fun (v19 : Nat) => (zar h13 v19 3 a2_13).bind fun (v23 : Nat) => (zgR h13 p0 1 2).bind fun (v25 : Nat) => (zar h13 v25 3 a2_13).bind fun (v29 : Nat) => zrc h13 v23 0 <| (f_X0_copyFrom n v23 v29 h13).bind fun (h30 : zH) => zlet (a2_13 + 1) fun (x33 : Int32) => rec13 x33 h30)) n (0 : Int32) h8
theorem zn_X1_copyFrom : zNm yX1_copyFrom 1 := ⟨by decide +kernel, by decide +kernel⟩
set_option maxRecDepth 100000 in
set_option maxHeartbeats 4000000 in
theorem c_X1_copyFrom (l : Launch) (B : Nat) (D : va_G) (cA : Nat → ClassId) (n : Nat) (this : Nat) (p0 : Nat) (h : zH) : ∀ u, f_X1_copyFrom n this p0 h = some u → zM l B D cA yX1_copyFrom cX1_copyFrom 3 none 2 0 0 none [.ref (B + this), .ref (B + p0)] h ((fun h1 : zH => ((none : Option Value), h1)) u).1 ((fun h1 : zH => ((none : Option Value), h1)) u).2 := by
  unfold f_X1_copyFrom
  refine z_met (own := RX1) (fun h1 : zH => ((none : Option Value), h1)) rfl (by decide) rfl (fun Z C hr _ _ => ?_)
  have hz0 : (z00 Z).1 ≤ 0 ∧ (z00 Z).2.1 ≤ 0 := ⟨Nat.le_refl 0, Nat.le_refl 0⟩
  refine z_aload_n (pc := 0) C (zD D_X1_copyFrom_0 0 rfl) rfl 0 rfl ?_
  refine z_getR (pc := 1) C zc1 1 (by decide) q_38 (zD D_X1_copyFrom_0 1 rfl) (fun v1 => ?_)
  refine z_aload_n (pc := 4) C (zD D_X1_copyFrom_0 2 rfl) rfl 1 rfl ?_
  refine z_getR (pc := 5) C zc1 1 (by decide) q_38 (zD D_X1_copyFrom_0 3 rfl) (fun v5 => ?_)
  refine z_cvV (pc := 8) (As := [.ref (B + v5)]) C [] (c_X2_copyFrom _ _ _ _ n v1 v5 h) zn_X2_copyFrom (by decide) (by decide) hz0 zc2 rfl q_115 q_116 q_117 q_37 q_118 rfl rfl rfl (zD D_X1_copyFrom_0 4 rfl) (fun h8 => ?_)
  refine z_iconst (pc := 11) (v := 0) C (zD D_X1_copyFrom_0 5 rfl) (by decide) ?_
  refine z_istore_n (pc := 12) (lv' := [(2, .int (0 : Int32)), (0, .ref (B + this)), (1, .ref (B + p0))]) C (zD D_X1_copyFrom_0 6 rfl) rfl (by decide) rfl ?_
  refine z_sub [1, 2, 0] (lv' := [(0, .ref (B + this)), (1, .ref (B + p0)), (2, .int (0 : Int32))]) rfl ?_
  refine z_fix2 (fun g13 => ∀ (a2_13 : Int32) (h13 : zH), zJ B Z (zEnd B Z (fun h1 : zH => ((none : Option Value), h1)) 0 0) (g13 a2_13 h13) 13 [(0, .ref (B + this)), (1, .ref (B + p0)), (2, .int a2_13)] [] h13 (z00 Z)) (fun _ _ => z_none) (fun rec13 hrec13 a2_13 h13 => ?_) n (0 : Int32) h8
  refine z_iload_n (pc := 13) C (zD D_X1_copyFrom_0 7 rfl) rfl 2 rfl ?_
  refine z_iconst (pc := 14) (v := 4) C (zD D_X1_copyFrom_0 8 rfl) (by decide) ?_
  refine z_icmp_ge (pc := 15) C (zD D_X1_copyFrom_0 9 rfl) (tgt := 39) (by decide) (fun _ => ?_) (fun _ => ?_)
  · refine z_aload_n (pc := 39) C (zD D_X1_copyFrom_0 21 rfl) rfl 1 rfl ?_
    refine z_getR (pc := 40) C zc1 3 (by decide) q_41 (zD D_X1_copyFrom_0 22 rfl) (fun v40 => ?_)
    refine z_iconst (pc := 43) (v := 0) C (zD D_X1_copyFrom_0 23 rfl) (by decide) ?_
    refine z_aload_n (pc := 44) C (zD D_X1_copyFrom_0 24 rfl) rfl 0 rfl ?_
    refine z_getR (pc := 45) C zc1 3 (by decide) q_41 (zD D_X1_copyFrom_0 25 rfl) (fun v45 => ?_)
    refine z_iconst (pc := 48) (v := 0) C (zD D_X1_copyFrom_0 26 rfl) (by decide) ?_
    refine z_iconst (pc := 49) (v := 4) C (zD D_X1_copyFrom_0 27 rfl) (by decide) ?_
    refine z_copy (pc := 50) C q_111 q_112 q_113 q_114 (by decide) (zD D_X1_copyFrom_0 28 rfl) (fun h50 => ?_)
    refine z_aload_n (pc := 53) C (zD D_X1_copyFrom_0 29 rfl) rfl 1 rfl ?_
    refine z_getR (pc := 54) C zc1 4 (by decide) q_42 (zD D_X1_copyFrom_0 30 rfl) (fun v54 => ?_)
    refine z_iconst (pc := 57) (v := 0) C (zD D_X1_copyFrom_0 31 rfl) (by decide) ?_
    refine z_aload_n (pc := 58) C (zD D_X1_copyFrom_0 32 rfl) rfl 0 rfl ?_
    refine z_getR (pc := 59) C zc1 4 (by decide) q_42 (zD D_X1_copyFrom_0 33 rfl) (fun v59 => ?_)
    refine z_iconst (pc := 62) (v := 0) C (zD D_X1_copyFrom_0 34 rfl) (by decide) ?_
    refine z_iconst (pc := 63) (v := 4) C (zD D_X1_copyFrom_0 35 rfl) (by decide) ?_
    refine z_copy (pc := 64) C q_111 q_112 q_113 q_114 (by decide) (zD D_X1_copyFrom_0 36 rfl) (fun h64 => ?_)
    refine z_aload_n (pc := 67) C (zD D_X1_copyFrom_0 37 rfl) rfl 0 rfl ?_
    refine z_aload_n (pc := 68) C (zD D_X1_copyFrom_0 38 rfl) rfl 1 rfl ?_
    refine z_getI (pc := 69) C zc1 5 (by decide) q_61 (zD D_X1_copyFrom_0 39 rfl) (fun v69 => ?_)
    refine z_putI (pc := 72) C zc1 5 (by decide) q_61 rfl rfl (zD D_X1_copyFrom_0 40 rfl) (fun h72 => ?_)
    refine z_aload_n (pc := 75) C (zD D_X1_copyFrom_0 41 rfl) rfl 0 rfl ?_
    refine z_aload_n (pc := 76) C (zD D_X1_copyFrom_0 42 rfl) rfl 1 rfl ?_
    refine z_getI (pc := 77) C zc1 6 (by decide) q_62 (zD D_X1_copyFrom_0 43 rfl) (fun v77 => ?_)
    refine z_putI (pc := 80) C zc1 6 (by decide) q_62 rfl rfl (zD D_X1_copyFrom_0 44 rfl) (fun h80 => ?_)
    refine z_aload_n (pc := 83) C (zD D_X1_copyFrom_0 45 rfl) rfl 0 rfl ?_
    refine z_aload_n (pc := 84) C (zD D_X1_copyFrom_0 46 rfl) rfl 1 rfl ?_
    refine z_getI (pc := 85) C zc1 7 (by decide) q_63 (zD D_X1_copyFrom_0 47 rfl) (fun v85 => ?_)
    refine z_bool (fun hb => ?_)
    refine z_putZ (pc := 88) C zc1 7 (by decide) q_63 rfl rfl (zD D_X1_copyFrom_0 48 rfl) hb (fun h88 => ?_)
    refine z_aload_n (pc := 91) C (zD D_X1_copyFrom_0 49 rfl) rfl 0 rfl ?_
    refine z_aload_n (pc := 92) C (zD D_X1_copyFrom_0 50 rfl) rfl 1 rfl ?_
    refine z_getI (pc := 93) C zc1 8 (by decide) q_64 (zD D_X1_copyFrom_0 51 rfl) (fun v93 => ?_)
    refine z_putI (pc := 96) C zc1 8 (by decide) q_64 rfl rfl (zD D_X1_copyFrom_0 52 rfl) (fun h96 => ?_)
    refine z_aload_n (pc := 99) C (zD D_X1_copyFrom_0 53 rfl) rfl 0 rfl ?_
    refine z_aload_n (pc := 100) C (zD D_X1_copyFrom_0 54 rfl) rfl 1 rfl ?_
    refine z_getI (pc := 101) C zc1 9 (by decide) q_65 (zD D_X1_copyFrom_0 55 rfl) (fun v101 => ?_)
    refine z_putI (pc := 104) C zc1 9 (by decide) q_65 rfl rfl (zD D_X1_copyFrom_0 56 rfl) (fun h104 => ?_)
    refine z_aload_n (pc := 107) C (zD D_X1_copyFrom_0 57 rfl) rfl 0 rfl ?_
    refine z_aload_n (pc := 108) C (zD D_X1_copyFrom_0 58 rfl) rfl 1 rfl ?_
    refine z_getI (pc := 109) C zc1 10 (by decide) q_66 (zD D_X1_copyFrom_0 59 rfl) (fun v109 => ?_)
    refine z_putI (pc := 112) C zc1 10 (by decide) q_66 rfl rfl (zD D_X1_copyFrom_1 0 rfl) (fun h112 => ?_)
    refine z_aload_n (pc := 115) C (zD D_X1_copyFrom_1 1 rfl) rfl 0 rfl ?_
    refine z_aload_n (pc := 116) C (zD D_X1_copyFrom_1 2 rfl) rfl 1 rfl ?_
    refine z_getI (pc := 117) C zc1 11 (by decide) q_67 (zD D_X1_copyFrom_1 3 rfl) (fun v117 => ?_)
    refine z_bool (fun hb => ?_)
    refine z_putZ (pc := 120) C zc1 11 (by decide) q_67 rfl rfl (zD D_X1_copyFrom_1 4 rfl) hb (fun h120 => ?_)
    refine z_aload_n (pc := 123) C (zD D_X1_copyFrom_1 5 rfl) rfl 0 rfl ?_
    refine z_aload_n (pc := 124) C (zD D_X1_copyFrom_1 6 rfl) rfl 1 rfl ?_
    refine z_getI (pc := 125) C zc1 12 (by decide) q_68 (zD D_X1_copyFrom_1 7 rfl) (fun v125 => ?_)
    refine z_putI (pc := 128) C zc1 12 (by decide) q_68 rfl rfl (zD D_X1_copyFrom_1 8 rfl) (fun h128 => ?_)
    refine z_aload_n (pc := 131) C (zD D_X1_copyFrom_1 9 rfl) rfl 0 rfl ?_
    refine z_aload_n (pc := 132) C (zD D_X1_copyFrom_1 10 rfl) rfl 1 rfl ?_
    refine z_getI (pc := 133) C zc1 13 (by decide) q_69 (zD D_X1_copyFrom_1 11 rfl) (fun v133 => ?_)
    refine z_putI (pc := 136) C zc1 13 (by decide) q_69 rfl rfl (zD D_X1_copyFrom_1 12 rfl) (fun h136 => ?_)
    refine z_aload_n (pc := 139) C (zD D_X1_copyFrom_1 13 rfl) rfl 0 rfl ?_
    refine z_aload_n (pc := 140) C (zD D_X1_copyFrom_1 14 rfl) rfl 1 rfl ?_
    refine z_getI (pc := 141) C zc1 14 (by decide) q_70 (zD D_X1_copyFrom_1 15 rfl) (fun v141 => ?_)
    refine z_putI (pc := 144) C zc1 14 (by decide) q_70 rfl rfl (zD D_X1_copyFrom_1 16 rfl) (fun h144 => ?_)
    exact z_vret (pc := 147) C hr rfl (zD D_X1_copyFrom_1 17 rfl)
  · refine z_aload_n (pc := 18) C (zD D_X1_copyFrom_0 10 rfl) rfl 0 rfl ?_
    refine z_getR (pc := 19) C zc1 2 (by decide) q_40 (zD D_X1_copyFrom_0 11 rfl) (fun v19 => ?_)
    refine z_iload_n (pc := 22) C (zD D_X1_copyFrom_0 12 rfl) rfl 2 rfl ?_
    refine z_arload (pc := 23) C (c := 3) (by decide) rfl (zD D_X1_copyFrom_0 13 rfl) (fun v23 => ?_)
    refine z_aload_n (pc := 24) C (zD D_X1_copyFrom_0 14 rfl) rfl 1 rfl ?_
    refine z_getR (pc := 25) C zc1 2 (by decide) q_40 (zD D_X1_copyFrom_0 15 rfl) (fun v25 => ?_)
    refine z_iload_n (pc := 28) C (zD D_X1_copyFrom_0 16 rfl) rfl 2 rfl ?_
    refine z_arload (pc := 29) C (c := 3) (by decide) rfl (zD D_X1_copyFrom_0 17 rfl) (fun v29 => ?_)
    refine z_cvV (pc := 30) (As := [.ref (B + v29)]) C [] (c_X0_copyFrom _ _ _ _ n v23 v29 h13) zn_X0_copyFrom (by decide) (by decide) hz0 zc0 rfl q_120 q_121 q_122 q_45 q_123 rfl rfl rfl (zD D_X1_copyFrom_0 18 rfl) (fun h30 => ?_)
    refine z_iincL (pc := 33) (lv' := fun x33 => [(2, .int x33), (0, .ref (B + this)), (1, .ref (B + p0))]) C (zD D_X1_copyFrom_0 19 rfl) 2 rfl (v := a2_13 + 1) rfl (by decide) (fun _ => rfl) (fun x33 => ?_)
    refine z_goto (pc := 36) C (zD D_X1_copyFrom_0 20 rfl) (tgt := 13) (by decide) ?_
    refine z_sub [1, 2, 0] (lv' := [(0, .ref (B + this)), (1, .ref (B + p0)), (2, .int x33)]) rfl ?_
    exact hrec13 x33 h30
def f_X1_endActiveTurn (n : Nat) (this : Nat) (h : zH) : Option (zH) := (zp h this 1 10 (.int (0 : Int32))).bind fun (h2 : zH) => zrc h2 this 1 <| (f_X1_nextTurn n this h2).bind fun (h6 : zH) => some h6
theorem zn_X1_endActiveTurn : zNm yX1_endActiveTurn 0 := ⟨by decide +kernel, by decide +kernel⟩
set_option maxRecDepth 100000 in
set_option maxHeartbeats 4000000 in
theorem c_X1_endActiveTurn (l : Launch) (B : Nat) (D : va_G) (cA : Nat → ClassId) (n : Nat) (this : Nat) (h : zH) : ∀ u, f_X1_endActiveTurn n this h = some u → zM l B D cA yX1_endActiveTurn cX1_endActiveTurn 1 none 2 0 0 none [.ref (B + this)] h ((fun h1 : zH => ((none : Option Value), h1)) u).1 ((fun h1 : zH => ((none : Option Value), h1)) u).2 := by
  unfold f_X1_endActiveTurn
  refine z_met (own := RX1) (fun h1 : zH => ((none : Option Value), h1)) rfl (by decide) rfl (fun Z C hr _ _ => ?_)
  have hz0 : (z00 Z).1 ≤ 0 ∧ (z00 Z).2.1 ≤ 0 := ⟨Nat.le_refl 0, Nat.le_refl 0⟩
  refine z_aload_n (pc := 0) C (zD D_X1_endActiveTurn_0 0 rfl) rfl 0 rfl ?_
  refine z_iconst (pc := 1) (v := 0) C (zD D_X1_endActiveTurn_0 1 rfl) (by decide) ?_
  refine z_putI (pc := 2) C zc1 10 (by decide) q_66 rfl rfl (zD D_X1_endActiveTurn_0 2 rfl) (fun h2 => ?_)
  refine z_aload_n (pc := 5) C (zD D_X1_endActiveTurn_0 3 rfl) rfl 0 rfl ?_
  refine z_cvV (pc := 6) (As := []) C [] (c_X1_nextTurn _ _ _ _ n this h2) zn_X1_nextTurn (by decide) (by decide) hz0 zc1 rfl q_323 q_324 q_325 q_16 q_326 rfl rfl rfl (zD D_X1_endActiveTurn_0 4 rfl) (fun h6 => ?_)
  exact z_vret (pc := 9) C hr rfl (zD D_X1_endActiveTurn_0 5 rfl)
def f_X1_extendNext (n : Nat) (this : Nat) (h : zH) : Option (Int32 × zH) := zrc h this 1 <| (f_X1_nextCompany n this h).bind fun (r1 : Int32) => if r1 = (-1 : Int32) then (some ((-1 : Int32), h)) else ((zgR h this 1 2).bind fun (v13 : Nat) => (zar h v13 3 r1).bind fun (v17 : Nat) => zrc h this 1 <| (f_X1_companyPays n this v17 (60 : Int32) h).bind fun (h23 : zH) => (zgI h23 v17 0 5).bind fun (v28 : Int32) => (zp h23 v17 0 5 (.int (v28 + (1 : Int32)))).bind fun (h33 : zH) => (zp h33 this 1 7 (.int (1 : Int32))).bind fun (h38 : zH) => (zgI h38 v17 0 5).bind fun (v42 : Int32) => some (v42, h38))
theorem zn_X1_extendNext : zNm yX1_extendNext 0 := ⟨by decide +kernel, by decide +kernel⟩
set_option maxRecDepth 100000 in
set_option maxHeartbeats 4000000 in
theorem c_X1_extendNext (l : Launch) (B : Nat) (D : va_G) (cA : Nat → ClassId) (n : Nat) (this : Nat) (h : zH) : ∀ u, f_X1_extendNext n this h = some u → zM l B D cA yX1_extendNext cX1_extendNext 3 (some .int) 2 0 0 none [.ref (B + this)] h ((fun u : Int32 × zH => (some (Value.int u.1), u.2)) u).1 ((fun u : Int32 × zH => (some (Value.int u.1), u.2)) u).2 := by
  unfold f_X1_extendNext
  refine z_met (own := RX1) (fun u : Int32 × zH => (some (Value.int u.1), u.2)) rfl (by decide) rfl (fun Z C hr _ _ => ?_)
  have hz0 : (z00 Z).1 ≤ 0 ∧ (z00 Z).2.1 ≤ 0 := ⟨Nat.le_refl 0, Nat.le_refl 0⟩
  refine z_aload_n (pc := 0) C (zD D_X1_extendNext_0 0 rfl) rfl 0 rfl ?_
  refine z_cvR (pc := 1) (As := []) C [] (c_X1_nextCompany _ _ _ _ n this h) zn_X1_nextCompany (by decide) (by decide) hz0 zc1 rfl q_148 q_149 q_150 q_16 q_151 rfl rfl rfl (zD D_X1_extendNext_0 1 rfl) (fun r1 => ?_)
  refine z_istore_n (pc := 4) (lv' := [(1, .int r1), (0, .ref (B + this))]) C (zD D_X1_extendNext_0 2 rfl) rfl (by decide) rfl ?_
  refine z_iload_n (pc := 5) C (zD D_X1_extendNext_0 3 rfl) rfl 0 rfl ?_
  refine z_iconst (pc := 6) (v := -1) C (zD D_X1_extendNext_0 4 rfl) (by decide) ?_
  refine z_icmp_ne (pc := 7) C (zD D_X1_extendNext_0 5 rfl) (tgt := 12) (by decide) (fun _ => ?_) (fun _ => ?_)
  · refine z_aload_n (pc := 12) C (zD D_X1_extendNext_0 8 rfl) rfl 1 rfl ?_
    refine z_getR (pc := 13) C zc1 2 (by decide) q_40 (zD D_X1_extendNext_0 9 rfl) (fun v13 => ?_)
    refine z_iload_n (pc := 16) C (zD D_X1_extendNext_0 10 rfl) rfl 0 rfl ?_
    refine z_arload (pc := 17) C (c := 3) (by decide) rfl (zD D_X1_extendNext_0 11 rfl) (fun v17 => ?_)
    refine z_astore_n (pc := 18) (lv' := [(2, .ref (B + v17)), (1, .int r1), (0, .ref (B + this))]) C (zD D_X1_extendNext_0 12 rfl) rfl (by decide) rfl ?_
    refine z_aload_n (pc := 19) C (zD D_X1_extendNext_0 13 rfl) rfl 2 rfl ?_
    refine z_aload_n (pc := 20) C (zD D_X1_extendNext_0 14 rfl) rfl 0 rfl ?_
    refine z_bipush (pc := 21) (v := 60) C (zD D_X1_extendNext_0 15 rfl) (by decide) ?_
    refine z_cvV (pc := 23) (As := [.ref (B + v17), .int (60 : Int32)]) C [] (c_X1_companyPays _ _ _ _ n this v17 (60 : Int32) h) zn_X1_companyPays (by decide) (by decide) hz0 zc1 rfl q_413 q_414 q_415 q_16 q_416 rfl rfl rfl (zD D_X1_extendNext_0 16 rfl) (fun h23 => ?_)
    refine z_aload_n (pc := 26) C (zD D_X1_extendNext_0 17 rfl) rfl 0 rfl ?_
    refine z_dup (pc := 27) C (zD D_X1_extendNext_0 18 rfl) rfl ?_
    refine z_getI (pc := 28) C zc0 5 (by decide) q_200 (zD D_X1_extendNext_0 19 rfl) (fun v28 => ?_)
    refine z_iconst (pc := 31) (v := 1) C (zD D_X1_extendNext_0 20 rfl) (by decide) ?_
    refine z_iadd (pc := 32) C (zD D_X1_extendNext_0 21 rfl) ?_
    refine z_putI (pc := 33) C zc0 5 (by decide) q_200 rfl rfl (zD D_X1_extendNext_0 22 rfl) (fun h33 => ?_)
    refine z_aload_n (pc := 36) C (zD D_X1_extendNext_0 23 rfl) rfl 2 rfl ?_
    refine z_iconst (pc := 37) (v := 1) C (zD D_X1_extendNext_0 24 rfl) (by decide) ?_
    refine z_putZ (pc := 38) C zc1 7 (by decide) q_63 rfl rfl (zD D_X1_extendNext_0 25 rfl) (by decide) (fun h38 => ?_)
    refine z_aload_n (pc := 41) C (zD D_X1_extendNext_0 26 rfl) rfl 0 rfl ?_
    refine z_getI (pc := 42) C zc0 5 (by decide) q_200 (zD D_X1_extendNext_0 27 rfl) (fun v42 => ?_)
    exact z_iret (pc := 45) C hr rfl (zD D_X1_extendNext_0 28 rfl)
  · refine z_iconst (pc := 10) (v := -1) C (zD D_X1_extendNext_0 6 rfl) (by decide) ?_
    exact z_iret (pc := 11) C hr rfl (zD D_X1_extendNext_0 7 rfl)
def f_X1_number (n : Nat) (this : Nat) (p0 : Int32) (h : zH) : Option (Int32) := if p0 = 0 then ((zgI h this 1 8).bind fun (v53 : Int32) => some v53) else if p0 = 1 then ((zgI h this 1 9).bind fun (v58 : Int32) => some v58) else if p0 = 2 then ((zgI h this 1 10).bind fun (v63 : Int32) => some v63) else if p0 = 3 then ((zgI h this 1 11).bind fun (v68 : Int32) => if v68 = 0 then (some (0 : Int32)) else (some (1 : Int32))) else if p0 = 4 then (zrc h this 1 <| (f_X1_nextCompany n this h).bind fun (r81 : Int32) => some r81) else if p0 = 5 then ((zgI h this 1 12).bind fun (v86 : Int32) => some v86) else if p0 = 6 then ((zgI h this 1 13).bind fun (v91 : Int32) => some v91) else if p0 = 7 then ((zgR h this 1 1).bind fun (v96 : Nat) => zrc h v96 2 <| (f_X2_tracks n v96 h).bind fun (r99 : Int32) => some r99) else if p0 = 8 then (zrc h this 1 <| (f_X1_openCompanies n this h).bind fun (r104 : Int32) => some r104) else ((zgI h this 1 14).bind fun (v109 : Int32) => some v109)
theorem zn_X1_number : zNm yX1_number 1 := ⟨by decide +kernel, by decide +kernel⟩
set_option maxRecDepth 100000 in
set_option maxHeartbeats 4000000 in
theorem c_X1_number (l : Launch) (B : Nat) (D : va_G) (cA : Nat → ClassId) (n : Nat) (this : Nat) (p0 : Int32) (h : zH) : ∀ u, f_X1_number n this p0 h = some u → zM l B D cA yX1_number cX1_number 2 (some .int) 2 0 0 none [.ref (B + this), .int p0] h ((fun r : Int32 => (some (Value.int r), h)) u).1 ((fun r : Int32 => (some (Value.int r), h)) u).2 := by
  unfold f_X1_number
  refine z_met (own := RX1) (fun r : Int32 => (some (Value.int r), h)) rfl (by decide) rfl (fun Z C hr _ _ => ?_)
  have hz0 : (z00 Z).1 ≤ 0 ∧ (z00 Z).2.1 ≤ 0 := ⟨Nat.le_refl 0, Nat.le_refl 0⟩
  refine z_iload_n (pc := 0) C (zD D_X1_number_0 0 rfl) rfl 1 rfl ?_
  refine z_ite (fun c0 => ?_) (fun c0 => ?_)
  · refine z_tblIn (pc := 1) C (zD D_X1_number_0 1 rfl) (by rw [c0]; decide) (by rw [c0]; decide) (by rw [c0]; rfl) (tgt := 52) (by decide) ?_
    refine z_aload_n (pc := 52) C (zD D_X1_number_0 2 rfl) rfl 0 rfl ?_
    refine z_getI (pc := 53) C zc1 8 (by decide) q_64 (zD D_X1_number_0 3 rfl) (fun v53 => ?_)
    exact z_iret (pc := 56) C hr rfl (zD D_X1_number_0 4 rfl)
  refine z_ite (fun c1 => ?_) (fun c1 => ?_)
  · refine z_tblIn (pc := 1) C (zD D_X1_number_0 1 rfl) (by rw [c1]; decide) (by rw [c1]; decide) (by rw [c1]; rfl) (tgt := 57) (by decide) ?_
    refine z_aload_n (pc := 57) C (zD D_X1_number_0 5 rfl) rfl 0 rfl ?_
    refine z_getI (pc := 58) C zc1 9 (by decide) q_65 (zD D_X1_number_0 6 rfl) (fun v58 => ?_)
    exact z_iret (pc := 61) C hr rfl (zD D_X1_number_0 7 rfl)
  refine z_ite (fun c2 => ?_) (fun c2 => ?_)
  · refine z_tblIn (pc := 1) C (zD D_X1_number_0 1 rfl) (by rw [c2]; decide) (by rw [c2]; decide) (by rw [c2]; rfl) (tgt := 62) (by decide) ?_
    refine z_aload_n (pc := 62) C (zD D_X1_number_0 8 rfl) rfl 0 rfl ?_
    refine z_getI (pc := 63) C zc1 10 (by decide) q_66 (zD D_X1_number_0 9 rfl) (fun v63 => ?_)
    exact z_iret (pc := 66) C hr rfl (zD D_X1_number_0 10 rfl)
  refine z_ite (fun c3 => ?_) (fun c3 => ?_)
  · refine z_tblIn (pc := 1) C (zD D_X1_number_0 1 rfl) (by rw [c3]; decide) (by rw [c3]; decide) (by rw [c3]; rfl) (tgt := 67) (by decide) ?_
    refine z_aload_n (pc := 67) C (zD D_X1_number_0 11 rfl) rfl 0 rfl ?_
    refine z_getI (pc := 68) C zc1 11 (by decide) q_67 (zD D_X1_number_0 12 rfl) (fun v68 => ?_)
    refine z_if_eq (pc := 71) C (zD D_X1_number_0 13 rfl) (tgt := 78) (by decide) (fun _ => ?_) (fun _ => ?_)
    · refine z_iconst (pc := 78) (v := 0) C (zD D_X1_number_0 16 rfl) (by decide) ?_
      exact z_iret (pc := 79) C hr rfl (zD D_X1_number_0 17 rfl)
    · refine z_iconst (pc := 74) (v := 1) C (zD D_X1_number_0 14 rfl) (by decide) ?_
      refine z_goto (pc := 75) C (zD D_X1_number_0 15 rfl) (tgt := 79) (by decide) ?_
      exact z_iret (pc := 79) C hr rfl (zD D_X1_number_0 17 rfl)
  refine z_ite (fun c4 => ?_) (fun c4 => ?_)
  · refine z_tblIn (pc := 1) C (zD D_X1_number_0 1 rfl) (by rw [c4]; decide) (by rw [c4]; decide) (by rw [c4]; rfl) (tgt := 80) (by decide) ?_
    refine z_aload_n (pc := 80) C (zD D_X1_number_0 18 rfl) rfl 0 rfl ?_
    refine z_cvR (pc := 81) (As := []) C [] (c_X1_nextCompany _ _ _ _ n this h) zn_X1_nextCompany (by decide) (by decide) hz0 zc1 rfl q_148 q_149 q_150 q_16 q_151 rfl rfl rfl (zD D_X1_number_0 19 rfl) (fun r81 => ?_)
    exact z_iret (pc := 84) C hr rfl (zD D_X1_number_0 20 rfl)
  refine z_ite (fun c5 => ?_) (fun c5 => ?_)
  · refine z_tblIn (pc := 1) C (zD D_X1_number_0 1 rfl) (by rw [c5]; decide) (by rw [c5]; decide) (by rw [c5]; rfl) (tgt := 85) (by decide) ?_
    refine z_aload_n (pc := 85) C (zD D_X1_number_0 21 rfl) rfl 0 rfl ?_
    refine z_getI (pc := 86) C zc1 12 (by decide) q_68 (zD D_X1_number_0 22 rfl) (fun v86 => ?_)
    exact z_iret (pc := 89) C hr rfl (zD D_X1_number_0 23 rfl)
  refine z_ite (fun c6 => ?_) (fun c6 => ?_)
  · refine z_tblIn (pc := 1) C (zD D_X1_number_0 1 rfl) (by rw [c6]; decide) (by rw [c6]; decide) (by rw [c6]; rfl) (tgt := 90) (by decide) ?_
    refine z_aload_n (pc := 90) C (zD D_X1_number_0 24 rfl) rfl 0 rfl ?_
    refine z_getI (pc := 91) C zc1 13 (by decide) q_69 (zD D_X1_number_0 25 rfl) (fun v91 => ?_)
    exact z_iret (pc := 94) C hr rfl (zD D_X1_number_0 26 rfl)
  refine z_ite (fun c7 => ?_) (fun c7 => ?_)
  · refine z_tblIn (pc := 1) C (zD D_X1_number_0 1 rfl) (by rw [c7]; decide) (by rw [c7]; decide) (by rw [c7]; rfl) (tgt := 95) (by decide) ?_
    refine z_aload_n (pc := 95) C (zD D_X1_number_0 27 rfl) rfl 0 rfl ?_
    refine z_getR (pc := 96) C zc1 1 (by decide) q_38 (zD D_X1_number_0 28 rfl) (fun v96 => ?_)
    refine z_cvR (pc := 99) (As := []) C [] (c_X2_tracks _ _ _ _ n v96 h) zn_X2_tracks (by decide) (by decide) hz0 zc2 rfl q_152 q_153 q_154 q_37 q_155 rfl rfl rfl (zD D_X1_number_0 29 rfl) (fun r99 => ?_)
    exact z_iret (pc := 102) C hr rfl (zD D_X1_number_0 30 rfl)
  refine z_ite (fun c8 => ?_) (fun c8 => ?_)
  · refine z_tblIn (pc := 1) C (zD D_X1_number_0 1 rfl) (by rw [c8]; decide) (by rw [c8]; decide) (by rw [c8]; rfl) (tgt := 103) (by decide) ?_
    refine z_aload_n (pc := 103) C (zD D_X1_number_0 31 rfl) rfl 0 rfl ?_
    refine z_cvR (pc := 104) (As := []) C [] (c_X1_openCompanies _ _ _ _ n this h) zn_X1_openCompanies (by decide) (by decide) hz0 zc1 rfl q_156 q_157 q_158 q_16 q_159 rfl rfl rfl (zD D_X1_number_0 32 rfl) (fun r104 => ?_)
    exact z_iret (pc := 107) C hr rfl (zD D_X1_number_0 33 rfl)
  refine z_tblOut (pc := 1) C (zD D_X1_number_0 1 rfl) (z_out _ (fun k h1 h2 => by rcases (show k = 0 ∨ k = 1 ∨ k = 2 ∨ k = 3 ∨ k = 4 ∨ k = 5 ∨ k = 6 ∨ k = 7 ∨ k = 8 by omega) with rfl | rfl | rfl | rfl | rfl | rfl | rfl | rfl | rfl; exact fun e => c0 (e.trans (by decide)); exact fun e => c1 (e.trans (by decide)); exact fun e => c2 (e.trans (by decide)); exact fun e => c3 (e.trans (by decide)); exact fun e => c4 (e.trans (by decide)); exact fun e => c5 (e.trans (by decide)); exact fun e => c6 (e.trans (by decide)); exact fun e => c7 (e.trans (by decide)); exact fun e => c8 (e.trans (by decide)))) (tgt := 108) (by decide) ?_
  refine z_aload_n (pc := 108) C (zD D_X1_number_0 34 rfl) rfl 0 rfl ?_
  refine z_getI (pc := 109) C zc1 14 (by decide) q_70 (zD D_X1_number_0 35 rfl) (fun v109 => ?_)
  exact z_iret (pc := 112) C hr rfl (zD D_X1_number_0 36 rfl)
def f_X1_payOut (n : Nat) (this : Nat) (p0 : Nat) (p1 : Int32) (h : zH) : Option (zH) := zfix2 (fun rec2 (a3_2 : Int32) (h2 : zH) => (zgI h2 this 1 8).bind fun (v4 : Int32) => if v4 ≤ a3_2 then (if p1 ≤ 0 then (zrc h2 p0 0 <| (f_X0_fall n p0 h2).bind fun (h45 : zH) => some h45) else (zrc h2 p0 0 <| (f_X0_rise n p0 h2).bind fun (h38 : zH) => some h38)) else ((zgR h2 p0 0 0).bind fun (v13 : Nat) => (zai h2 v13 a3_2).bind fun (v17 : Int32) => zrc h2 this 1 <| (f_X1_playerPays n this a3_2 (-(v17 * (p1 / (10 : Int32)))) h2).bind fun (h24 : zH) => zlet (a3_2 + 1) fun (x27 : Int32) => rec2 x27 h24)) n (0 : Int32) h
theorem zn_X1_payOut : zNm yX1_payOut 2 := ⟨by decide +kernel, by decide +kernel⟩
set_option maxRecDepth 100000 in
set_option maxHeartbeats 4000000 in
theorem c_X1_payOut (l : Launch) (B : Nat) (D : va_G) (cA : Nat → ClassId) (n : Nat) (this : Nat) (p0 : Nat) (p1 : Int32) (h : zH) : ∀ u, f_X1_payOut n this p0 p1 h = some u → zM l B D cA yX1_payOut cX1_payOut 4 none 2 0 0 none [.ref (B + this), .ref (B + p0), .int p1] h ((fun h1 : zH => ((none : Option Value), h1)) u).1 ((fun h1 : zH => ((none : Option Value), h1)) u).2 := by
  unfold f_X1_payOut
  refine z_met (own := RX1) (fun h1 : zH => ((none : Option Value), h1)) rfl (by decide) rfl (fun Z C hr _ _ => ?_)
  have hz0 : (z00 Z).1 ≤ 0 ∧ (z00 Z).2.1 ≤ 0 := ⟨Nat.le_refl 0, Nat.le_refl 0⟩
  refine z_iconst (pc := 0) (v := 0) C (zD D_X1_payOut_0 0 rfl) (by decide) ?_
  refine z_istore_n (pc := 1) (lv' := [(3, .int (0 : Int32)), (0, .ref (B + this)), (1, .ref (B + p0)), (2, .int p1)]) C (zD D_X1_payOut_0 1 rfl) rfl (by decide) rfl ?_
  refine z_sub [1, 2, 3, 0] (lv' := [(0, .ref (B + this)), (1, .ref (B + p0)), (2, .int p1), (3, .int (0 : Int32))]) rfl ?_
  refine z_fix2 (fun g2 => ∀ (a3_2 : Int32) (h2 : zH), zJ B Z (zEnd B Z (fun h1 : zH => ((none : Option Value), h1)) 0 0) (g2 a3_2 h2) 2 [(0, .ref (B + this)), (1, .ref (B + p0)), (2, .int p1), (3, .int a3_2)] [] h2 (z00 Z)) (fun _ _ => z_none) (fun rec2 hrec2 a3_2 h2 => ?_) n (0 : Int32) h
  refine z_iload_n (pc := 2) C (zD D_X1_payOut_0 2 rfl) rfl 3 rfl ?_
  refine z_aload_n (pc := 3) C (zD D_X1_payOut_0 3 rfl) rfl 0 rfl ?_
  refine z_getI (pc := 4) C zc1 8 (by decide) q_64 (zD D_X1_payOut_0 4 rfl) (fun v4 => ?_)
  refine z_icmp_ge (pc := 7) C (zD D_X1_payOut_0 5 rfl) (tgt := 33) (by decide) (fun _ => ?_) (fun _ => ?_)
  · refine z_iload_n (pc := 33) C (zD D_X1_payOut_0 20 rfl) rfl 2 rfl ?_
    refine z_if_le (pc := 34) C (zD D_X1_payOut_0 21 rfl) (tgt := 44) (by decide) (fun _ => ?_) (fun _ => ?_)
    · refine z_aload_n (pc := 44) C (zD D_X1_payOut_0 25 rfl) rfl 1 rfl ?_
      refine z_cvV (pc := 45) (As := []) C [] (c_X0_fall _ _ _ _ n p0 h2) zn_X0_fall (by decide) (by decide) hz0 zc0 rfl q_360 q_361 q_362 q_45 q_363 rfl rfl rfl (zD D_X1_payOut_0 26 rfl) (fun h45 => ?_)
      exact z_vret (pc := 48) C hr rfl (zD D_X1_payOut_0 27 rfl)
    · refine z_aload_n (pc := 37) C (zD D_X1_payOut_0 22 rfl) rfl 1 rfl ?_
      refine z_cvV (pc := 38) (As := []) C [] (c_X0_rise _ _ _ _ n p0 h2) zn_X0_rise (by decide) (by decide) hz0 zc0 rfl q_422 q_423 q_424 q_45 q_425 rfl rfl rfl (zD D_X1_payOut_0 23 rfl) (fun h38 => ?_)
      refine z_goto (pc := 41) C (zD D_X1_payOut_0 24 rfl) (tgt := 48) (by decide) ?_
      exact z_vret (pc := 48) C hr rfl (zD D_X1_payOut_0 27 rfl)
  · refine z_aload_n (pc := 10) C (zD D_X1_payOut_0 6 rfl) rfl 0 rfl ?_
    refine z_iload_n (pc := 11) C (zD D_X1_payOut_0 7 rfl) rfl 3 rfl ?_
    refine z_aload_n (pc := 12) C (zD D_X1_payOut_0 8 rfl) rfl 1 rfl ?_
    refine z_getR (pc := 13) C zc0 0 (by decide) q_174 (zD D_X1_payOut_0 9 rfl) (fun v13 => ?_)
    refine z_iload_n (pc := 16) C (zD D_X1_payOut_0 10 rfl) rfl 3 rfl ?_
    refine z_aiload (pc := 17) C (zD D_X1_payOut_0 11 rfl) (fun v17 => ?_)
    refine z_iload_n (pc := 18) C (zD D_X1_payOut_0 12 rfl) rfl 2 rfl ?_
    refine z_bipush (pc := 19) (v := 10) C (zD D_X1_payOut_0 13 rfl) (by decide) ?_
    refine z_idivc (pc := 21) C (zD D_X1_payOut_0 14 rfl) (by decide) ?_
    refine z_imul (pc := 22) C (zD D_X1_payOut_0 15 rfl) ?_
    refine z_ineg (pc := 23) C (zD D_X1_payOut_0 16 rfl) ?_
    refine z_cvV (pc := 24) (As := [.int a3_2, .int (-(v17 * (p1 / (10 : Int32))))]) C [] (c_X1_playerPays _ _ _ _ n this a3_2 (-(v17 * (p1 / (10 : Int32)))) h2) zn_X1_playerPays (by decide) (by decide) hz0 zc1 rfl q_311 q_312 q_313 q_16 q_314 rfl rfl rfl (zD D_X1_payOut_0 17 rfl) (fun h24 => ?_)
    refine z_iincL (pc := 27) (lv' := fun x27 => [(3, .int x27), (0, .ref (B + this)), (1, .ref (B + p0)), (2, .int p1)]) C (zD D_X1_payOut_0 18 rfl) 3 rfl (v := a3_2 + 1) rfl (by decide) (fun _ => rfl) (fun x27 => ?_)
    refine z_goto (pc := 30) C (zD D_X1_payOut_0 19 rfl) (tgt := 2) (by decide) ?_
    refine z_sub [1, 2, 3, 0] (lv' := [(0, .ref (B + this)), (1, .ref (B + p0)), (2, .int p1), (3, .int x27)]) rfl ?_
    exact hrec2 x27 h24
