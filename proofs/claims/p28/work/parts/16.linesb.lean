def f_X5_company' (n : Nat) (this : Nat) (p0 : Int32) (p1 : Int32) (h : zH) : Option (Int32 × zH) := (f_X5_isCompany n p0 h).bind fun (r1 : Int32) => if r1 = 0 then (none) else (zlet (none) fun K25 => if p1 < 0 then (K25) else (if p1 < (9 : Int32) then ((zgR h this 5 0).bind fun (v34 : Nat) => (zgR h v34 1 2).bind fun (v37 : Nat) => (zar h v37 3 p0).bind fun (v41 : Nat) => if p1 = 0 then ((zgI h v41 0 1).bind fun (v48 : Int32) => if v48 = 0 then (some ((0 : Int32), h)) else (some ((1 : Int32), h))) else ((zgI h v41 0 1).bind fun (v61 : Int32) => if v61 = 0 then (some ((-1 : Int32), h)) else (if p1 = (7 : Int32) then ((zgR h this 5 0).bind fun (v76 : Nat) => zrc h v76 1 <| zb2 (f_X1_incomeOf n v76 v41 h) fun (r80 : Int32) (h80 : zH) => some (r80, h80)) else (zrc h v41 0 <| (f_X0_number n v41 p1 h).bind fun (r88 : Int32) => some (r88, h))))) else (K25)))
set_option maxRecDepth 100000 in
set_option maxHeartbeats 4000000 in
theorem c_X5_company' (l : Launch) (B : Nat) (D : va_G) (cA : Nat → ClassId) (n : Nat) (this : Nat) (p0 : Int32) (p1 : Int32) (h : zH) : ∀ u, f_X5_company' n this p0 p1 h = some u → zM l B D cA yX5_company cX5_company 4 (some .int) 12 0 0 none [.ref (B + this), .int p0, .int p1] h ((fun u : Int32 × zH => (some (Value.int u.1), u.2)) u).1 ((fun u : Int32 × zH => (some (Value.int u.1), u.2)) u).2 := by
  unfold f_X5_company'
  refine z_met (own := RX5) (fun u : Int32 × zH => (some (Value.int u.1), u.2)) rfl (by decide) rfl (fun Z C hr _ _ => ?_)
  have hz0 : (z00 Z).1 ≤ 0 ∧ (z00 Z).2.1 ≤ 0 := ⟨Nat.le_refl 0, Nat.le_refl 0⟩
  refine z_iload_n (pc := 0) C (zD D_X5_company_0 0 rfl) rfl 1 rfl ?_
  refine z_csR (pc := 1) (As := [.int p0]) C [] (c_X5_isCompany _ _ _ _ n p0 h) zn_X5_isCompany (by decide) (by decide) hz0 q_192 q_193 q_2 q_194 rfl rfl rfl (zD D_X5_company_0 1 rfl) (fun r1 => ?_)
  refine z_if_ne (pc := 4) C (zD D_X5_company_0 2 rfl) (tgt := 15) (by decide) (fun _ => ?_) (fun _ => ?_)
  · refine z_iload_n (pc := 15) C (zD D_X5_company_0 7 rfl) rfl 2 rfl ?_
    refine z_letg (fun K25 => zJ B Z (zEnd B Z (fun u : Int32 × zH => (some (Value.int u.1), u.2)) 0 0) (K25) 25 [] [] h (z00 Z)) ?_ (fun K25 hK25 => ?_)
    · exact z_none
    refine z_if_lt (pc := 16) C (zD D_X5_company_0 8 rfl) (tgt := 25) (by decide) (fun _ => ?_) (fun _ => ?_)
    · refine z_sub [] (lv' := []) rfl ?_
      exact hK25
    · refine z_iload_n (pc := 19) C (zD D_X5_company_0 9 rfl) rfl 2 rfl ?_
      refine z_bipush (pc := 20) (v := 9) C (zD D_X5_company_0 10 rfl) (by decide) ?_
      refine z_icmp_lt (pc := 22) C (zD D_X5_company_0 11 rfl) (tgt := 33) (by decide) (fun _ => ?_) (fun _ => ?_)
      · refine z_aload_n (pc := 33) C (zD D_X5_company_0 16 rfl) rfl 0 rfl ?_
        refine z_getR (pc := 34) C zc5 0 (by decide) q_17 (zD D_X5_company_0 17 rfl) (fun v34 => ?_)
        refine z_getR (pc := 37) C zc1 2 (by decide) q_168 (zD D_X5_company_0 18 rfl) (fun v37 => ?_)
        refine z_iload_n (pc := 40) C (zD D_X5_company_0 19 rfl) rfl 1 rfl ?_
        refine z_arload (pc := 41) C (c := 3) (by decide) rfl (zD D_X5_company_0 20 rfl) (fun v41 => ?_)
        refine z_astore_n (pc := 42) (lv' := [(3, .ref (B + v41)), (0, .ref (B + this)), (1, .int p0), (2, .int p1)]) C (zD D_X5_company_0 21 rfl) rfl (by decide) rfl ?_
        refine z_iload_n (pc := 43) C (zD D_X5_company_0 22 rfl) rfl 3 rfl ?_
        refine z_if_ne (pc := 44) C (zD D_X5_company_0 23 rfl) (tgt := 60) (by decide) (fun _ => ?_) (fun _ => ?_)
        · refine z_aload_n (pc := 60) C (zD D_X5_company_0 31 rfl) rfl 0 rfl ?_
          refine z_getI (pc := 61) C zc0 1 (by decide) q_191 (zD D_X5_company_0 32 rfl) (fun v61 => ?_)
          refine z_if_ne (pc := 64) C (zD D_X5_company_0 33 rfl) (tgt := 69) (by decide) (fun _ => ?_) (fun _ => ?_)
          · refine z_iload_n (pc := 69) C (zD D_X5_company_0 36 rfl) rfl 3 rfl ?_
            refine z_bipush (pc := 70) (v := 7) C (zD D_X5_company_0 37 rfl) (by decide) ?_
            refine z_icmp_ne (pc := 72) C (zD D_X5_company_0 38 rfl) (tgt := 86) (by decide) (fun _ => ?_) (fun _ => ?_)
            · refine z_aload_n (pc := 86) C (zD D_X5_company_0 44 rfl) rfl 0 rfl ?_
              refine z_iload_n (pc := 87) C (zD D_X5_company_0 45 rfl) rfl 3 rfl ?_
              refine z_cvR (pc := 88) (As := [.int p1]) C [] (c_X0_number _ _ _ _ n v41 p1 h) zn_X0_number (by decide) (by decide) hz0 zc0 rfl q_240 q_241 q_242 q_45 q_243 rfl rfl rfl (zD D_X5_company_0 46 rfl) (fun r88 => ?_)
              exact z_iret (pc := 91) C hr rfl (zD D_X5_company_0 47 rfl)
            · refine z_aload_n (pc := 75) C (zD D_X5_company_0 39 rfl) rfl 1 rfl ?_
              refine z_getR (pc := 76) C zc5 0 (by decide) q_17 (zD D_X5_company_0 40 rfl) (fun v76 => ?_)
              refine z_aload_n (pc := 79) C (zD D_X5_company_0 41 rfl) rfl 0 rfl ?_
              refine z_cvI (pc := 80) (As := [.ref (B + v41)]) C [] (c_X1_incomeOf _ _ _ _ n v76 v41 h) zn_X1_incomeOf (by decide) (by decide) hz0 zc1 rfl q_195 q_196 q_197 q_16 q_198 rfl rfl rfl (zD D_X5_company_0 42 rfl) (fun r80 h80 => ?_)
              refine z_goto (pc := 83) C (zD D_X5_company_0 43 rfl) (tgt := 91) (by decide) ?_
              exact z_iret (pc := 91) C hr rfl (zD D_X5_company_0 47 rfl)
          · refine z_iconst (pc := 67) (v := -1) C (zD D_X5_company_0 34 rfl) (by decide) ?_
            exact z_iret (pc := 68) C hr rfl (zD D_X5_company_0 35 rfl)
        · refine z_aload_n (pc := 47) C (zD D_X5_company_0 24 rfl) rfl 0 rfl ?_
          refine z_getI (pc := 48) C zc0 1 (by decide) q_191 (zD D_X5_company_0 25 rfl) (fun v48 => ?_)
          refine z_if_eq (pc := 51) C (zD D_X5_company_0 26 rfl) (tgt := 58) (by decide) (fun _ => ?_) (fun _ => ?_)
          · refine z_iconst (pc := 58) (v := 0) C (zD D_X5_company_0 29 rfl) (by decide) ?_
            exact z_iret (pc := 59) C hr rfl (zD D_X5_company_0 30 rfl)
          · refine z_iconst (pc := 54) (v := 1) C (zD D_X5_company_0 27 rfl) (by decide) ?_
            refine z_goto (pc := 55) C (zD D_X5_company_0 28 rfl) (tgt := 59) (by decide) ?_
            exact z_iret (pc := 59) C hr rfl (zD D_X5_company_0 30 rfl)
      · refine z_sub [] (lv' := []) rfl ?_
        exact hK25
  · exact z_none
def f_X5_company (n : Nat) (this : Nat) (p0 : Int32) (p1 : Int32) (h : zH) : Option (zO2) := (f_X5_isCompany n p0 h).bind fun (r1 : Int32) => if r1 = 0 then (some (.inl 1, h)) else (zlet (some (.inl 0, h)) fun K25 => if p1 < 0 then (K25) else (if p1 < (9 : Int32) then ((zgR h this 5 0).bind fun (v34 : Nat) => (zgR h v34 1 2).bind fun (v37 : Nat) => (zar h v37 3 p0).bind fun (v41 : Nat) => if p1 = 0 then ((zgI h v41 0 1).bind fun (v48 : Int32) => if v48 = 0 then (some (.inr (0 : Int32), h)) else (some (.inr (1 : Int32), h))) else ((zgI h v41 0 1).bind fun (v61 : Int32) => if v61 = 0 then (some (.inr (-1 : Int32), h)) else (if p1 = (7 : Int32) then ((zgR h this 5 0).bind fun (v76 : Nat) => zrc h v76 1 <| zb2 (f_X1_incomeOf n v76 v41 h) fun (r80 : Int32) (h80 : zH) => some (.inr r80, h80)) else (zrc h v41 0 <| (f_X0_number n v41 p1 h).bind fun (r88 : Int32) => some (.inr r88, h))))) else (K25)))
theorem zn_X5_company : zNm yX5_company 2 := ⟨by decide +kernel, by decide +kernel⟩
set_option maxRecDepth 100000 in
set_option maxHeartbeats 4000000 in
theorem c_X5_company (l : Launch) (hl : l.stackTraces = false) (B : Nat) (D : va_G) (cA : Nat → ClassId) (n : Nat) (this : Nat) (p0 : Int32) (p1 : Int32) (h : zH) : ∀ u, f_X5_company n this p0 p1 h = some u → zMx l B D cA yX5_company cX5_company 4 (some .int) 12 [.ref (B + this), .int p0, .int p1] h u := by
  unfold f_X5_company
  refine z_metx (own := RX5) hl rfl (by decide) rfl (fun Z C hr hlz hnt => ?_)
  have hz0 : (z00 Z).1 ≤ 1 ∧ (z00 Z).2.1 ≤ 6 := ⟨Nat.zero_le 1, Nat.zero_le 6⟩
  refine z_iload_n (pc := 0) C (zD D_X5_company_0 0 rfl) rfl 1 rfl ?_
  refine z_csR (pc := 1) (As := [.int p0]) C [] (c_X5_isCompany _ _ _ _ n p0 h) zn_X5_isCompany (by decide) (by decide) hz0 q_192 q_193 q_2 q_194 rfl rfl rfl (zD D_X5_company_0 1 rfl) (fun r1 => ?_)
  refine z_if_ne (pc := 4) C (zD D_X5_company_0 2 rfl) (tgt := 15) (by decide) (fun _ => ?_) (fun _ => ?_)
  · refine z_iload_n (pc := 15) C (zD D_X5_company_0 7 rfl) rfl 2 rfl ?_
    refine z_letg (fun K25 => zJ B Z (zEndx B Z) (K25) 25 [] [] h (z00 Z)) ?_ (fun K25 hK25 => ?_)
    · exact z_throw (pc := 25) zt_0 C hlz hnt (by decide) rfl (zD D_X5_company_0 12 rfl) (zD D_X5_company_0 13 rfl) (zD D_X5_company_0 14 rfl) (zD D_X5_company_0 15 rfl)
    refine z_if_lt (pc := 16) C (zD D_X5_company_0 8 rfl) (tgt := 25) (by decide) (fun _ => ?_) (fun _ => ?_)
    · refine z_sub [] (lv' := []) rfl ?_
      exact hK25
    · refine z_iload_n (pc := 19) C (zD D_X5_company_0 9 rfl) rfl 2 rfl ?_
      refine z_bipush (pc := 20) (v := 9) C (zD D_X5_company_0 10 rfl) (by decide) ?_
      refine z_icmp_lt (pc := 22) C (zD D_X5_company_0 11 rfl) (tgt := 33) (by decide) (fun _ => ?_) (fun _ => ?_)
      · refine z_aload_n (pc := 33) C (zD D_X5_company_0 16 rfl) rfl 0 rfl ?_
        refine z_getR (pc := 34) C zc5 0 (by decide) q_17 (zD D_X5_company_0 17 rfl) (fun v34 => ?_)
        refine z_getR (pc := 37) C zc1 2 (by decide) q_168 (zD D_X5_company_0 18 rfl) (fun v37 => ?_)
        refine z_iload_n (pc := 40) C (zD D_X5_company_0 19 rfl) rfl 1 rfl ?_
        refine z_arload (pc := 41) C (c := 3) (by decide) rfl (zD D_X5_company_0 20 rfl) (fun v41 => ?_)
        refine z_astore_n (pc := 42) (lv' := [(3, .ref (B + v41)), (0, .ref (B + this)), (1, .int p0), (2, .int p1)]) C (zD D_X5_company_0 21 rfl) rfl (by decide) rfl ?_
        refine z_iload_n (pc := 43) C (zD D_X5_company_0 22 rfl) rfl 3 rfl ?_
        refine z_if_ne (pc := 44) C (zD D_X5_company_0 23 rfl) (tgt := 60) (by decide) (fun _ => ?_) (fun _ => ?_)
        · refine z_aload_n (pc := 60) C (zD D_X5_company_0 31 rfl) rfl 0 rfl ?_
          refine z_getI (pc := 61) C zc0 1 (by decide) q_191 (zD D_X5_company_0 32 rfl) (fun v61 => ?_)
          refine z_if_ne (pc := 64) C (zD D_X5_company_0 33 rfl) (tgt := 69) (by decide) (fun _ => ?_) (fun _ => ?_)
          · refine z_iload_n (pc := 69) C (zD D_X5_company_0 36 rfl) rfl 3 rfl ?_
            refine z_bipush (pc := 70) (v := 7) C (zD D_X5_company_0 37 rfl) (by decide) ?_
            refine z_icmp_ne (pc := 72) C (zD D_X5_company_0 38 rfl) (tgt := 86) (by decide) (fun _ => ?_) (fun _ => ?_)
            · refine z_aload_n (pc := 86) C (zD D_X5_company_0 44 rfl) rfl 0 rfl ?_
              refine z_iload_n (pc := 87) C (zD D_X5_company_0 45 rfl) rfl 3 rfl ?_
              refine z_cvR (pc := 88) (As := [.int p1]) C [] (c_X0_number _ _ _ _ n v41 p1 h) zn_X0_number (by decide) (by decide) hz0 zc0 rfl q_240 q_241 q_242 q_45 q_243 rfl rfl rfl (zD D_X5_company_0 46 rfl) (fun r88 => ?_)
              exact z_xret (pc := 91) C hr (zD D_X5_company_0 47 rfl)
            · refine z_aload_n (pc := 75) C (zD D_X5_company_0 39 rfl) rfl 1 rfl ?_
              refine z_getR (pc := 76) C zc5 0 (by decide) q_17 (zD D_X5_company_0 40 rfl) (fun v76 => ?_)
              refine z_aload_n (pc := 79) C (zD D_X5_company_0 41 rfl) rfl 0 rfl ?_
              refine z_cvI (pc := 80) (As := [.ref (B + v41)]) C [] (c_X1_incomeOf _ _ _ _ n v76 v41 h) zn_X1_incomeOf (by decide) (by decide) hz0 zc1 rfl q_195 q_196 q_197 q_16 q_198 rfl rfl rfl (zD D_X5_company_0 42 rfl) (fun r80 h80 => ?_)
              refine z_goto (pc := 83) C (zD D_X5_company_0 43 rfl) (tgt := 91) (by decide) ?_
              exact z_xret (pc := 91) C hr (zD D_X5_company_0 47 rfl)
          · refine z_iconst (pc := 67) (v := -1) C (zD D_X5_company_0 34 rfl) (by decide) ?_
            exact z_xret (pc := 68) C hr (zD D_X5_company_0 35 rfl)
        · refine z_aload_n (pc := 47) C (zD D_X5_company_0 24 rfl) rfl 0 rfl ?_
          refine z_getI (pc := 48) C zc0 1 (by decide) q_191 (zD D_X5_company_0 25 rfl) (fun v48 => ?_)
          refine z_if_eq (pc := 51) C (zD D_X5_company_0 26 rfl) (tgt := 58) (by decide) (fun _ => ?_) (fun _ => ?_)
          · refine z_iconst (pc := 58) (v := 0) C (zD D_X5_company_0 29 rfl) (by decide) ?_
            exact z_xret (pc := 59) C hr (zD D_X5_company_0 30 rfl)
          · refine z_iconst (pc := 54) (v := 1) C (zD D_X5_company_0 27 rfl) (by decide) ?_
            refine z_goto (pc := 55) C (zD D_X5_company_0 28 rfl) (tgt := 59) (by decide) ?_
            exact z_xret (pc := 59) C hr (zD D_X5_company_0 30 rfl)
      · refine z_sub [] (lv' := []) rfl ?_
        exact hK25
  · exact z_throw (pc := 7) zt_1 C hlz hnt (by decide) rfl (zD D_X5_company_0 3 rfl) (zD D_X5_company_0 4 rfl) (zD D_X5_company_0 5 rfl) (zD D_X5_company_0 6 rfl)
def f_X5_dividend' (n : Nat) (this : Nat) (p0 : Int32) (h : zH) : Option (Int32 × zH) := (f_X5_isCompany n p0 h).bind fun (r1 : Int32) => if r1 = 0 then (none) else ((zgR h this 5 0).bind fun (v16 : Nat) => (zgR h v16 1 2).bind fun (v19 : Nat) => (zar h v19 3 p0).bind fun (v23 : Nat) => (zgI h v23 0 1).bind fun (v26 : Int32) => if v26 = 0 then (some ((0 : Int32), h)) else ((zgR h this 5 0).bind fun (v33 : Nat) => zrc h v33 1 <| zb2 (f_X1_incomeOf n v33 v23 h) fun (r37 : Int32) (h37 : zH) => some ((r37 / (10 : Int32)), h37)))
set_option maxRecDepth 100000 in
set_option maxHeartbeats 4000000 in
theorem c_X5_dividend' (l : Launch) (B : Nat) (D : va_G) (cA : Nat → ClassId) (n : Nat) (this : Nat) (p0 : Int32) (h : zH) : ∀ u, f_X5_dividend' n this p0 h = some u → zM l B D cA yX5_dividend cX5_dividend 3 (some .int) 12 0 0 none [.ref (B + this), .int p0] h ((fun u : Int32 × zH => (some (Value.int u.1), u.2)) u).1 ((fun u : Int32 × zH => (some (Value.int u.1), u.2)) u).2 := by
  unfold f_X5_dividend'
  refine z_met (own := RX5) (fun u : Int32 × zH => (some (Value.int u.1), u.2)) rfl (by decide) rfl (fun Z C hr _ _ => ?_)
  have hz0 : (z00 Z).1 ≤ 0 ∧ (z00 Z).2.1 ≤ 0 := ⟨Nat.le_refl 0, Nat.le_refl 0⟩
  refine z_iload_n (pc := 0) C (zD D_X5_dividend_0 0 rfl) rfl 1 rfl ?_
  refine z_csR (pc := 1) (As := [.int p0]) C [] (c_X5_isCompany _ _ _ _ n p0 h) zn_X5_isCompany (by decide) (by decide) hz0 q_192 q_193 q_2 q_194 rfl rfl rfl (zD D_X5_dividend_0 1 rfl) (fun r1 => ?_)
  refine z_if_ne (pc := 4) C (zD D_X5_dividend_0 2 rfl) (tgt := 15) (by decide) (fun _ => ?_) (fun _ => ?_)
  · refine z_aload_n (pc := 15) C (zD D_X5_dividend_0 7 rfl) rfl 0 rfl ?_
    refine z_getR (pc := 16) C zc5 0 (by decide) q_17 (zD D_X5_dividend_0 8 rfl) (fun v16 => ?_)
    refine z_getR (pc := 19) C zc1 2 (by decide) q_168 (zD D_X5_dividend_0 9 rfl) (fun v19 => ?_)
    refine z_iload_n (pc := 22) C (zD D_X5_dividend_0 10 rfl) rfl 1 rfl ?_
    refine z_arload (pc := 23) C (c := 3) (by decide) rfl (zD D_X5_dividend_0 11 rfl) (fun v23 => ?_)
    refine z_astore_n (pc := 24) (lv' := [(2, .ref (B + v23)), (0, .ref (B + this)), (1, .int p0)]) C (zD D_X5_dividend_0 12 rfl) rfl (by decide) rfl ?_
    refine z_aload_n (pc := 25) C (zD D_X5_dividend_0 13 rfl) rfl 0 rfl ?_
    refine z_getI (pc := 26) C zc0 1 (by decide) q_191 (zD D_X5_dividend_0 14 rfl) (fun v26 => ?_)
    refine z_if_eq (pc := 29) C (zD D_X5_dividend_0 15 rfl) (tgt := 46) (by decide) (fun _ => ?_) (fun _ => ?_)
    · refine z_iconst (pc := 46) (v := 0) C (zD D_X5_dividend_0 23 rfl) (by decide) ?_
      exact z_iret (pc := 47) C hr rfl (zD D_X5_dividend_0 24 rfl)
    · refine z_aload_n (pc := 32) C (zD D_X5_dividend_0 16 rfl) rfl 1 rfl ?_
      refine z_getR (pc := 33) C zc5 0 (by decide) q_17 (zD D_X5_dividend_0 17 rfl) (fun v33 => ?_)
      refine z_aload_n (pc := 36) C (zD D_X5_dividend_0 18 rfl) rfl 0 rfl ?_
      refine z_cvI (pc := 37) (As := [.ref (B + v23)]) C [] (c_X1_incomeOf _ _ _ _ n v33 v23 h) zn_X1_incomeOf (by decide) (by decide) hz0 zc1 rfl q_195 q_196 q_197 q_16 q_198 rfl rfl rfl (zD D_X5_dividend_0 19 rfl) (fun r37 h37 => ?_)
      refine z_bipush (pc := 40) (v := 10) C (zD D_X5_dividend_0 20 rfl) (by decide) ?_
      refine z_idivc (pc := 42) C (zD D_X5_dividend_0 21 rfl) (by decide) ?_
      refine z_goto (pc := 43) C (zD D_X5_dividend_0 22 rfl) (tgt := 47) (by decide) ?_
      exact z_iret (pc := 47) C hr rfl (zD D_X5_dividend_0 24 rfl)
  · exact z_none
def f_X5_dividend (n : Nat) (this : Nat) (p0 : Int32) (h : zH) : Option (zO2) := (f_X5_isCompany n p0 h).bind fun (r1 : Int32) => if r1 = 0 then (some (.inl 1, h)) else ((zgR h this 5 0).bind fun (v16 : Nat) => (zgR h v16 1 2).bind fun (v19 : Nat) => (zar h v19 3 p0).bind fun (v23 : Nat) => (zgI h v23 0 1).bind fun (v26 : Int32) => if v26 = 0 then (some (.inr (0 : Int32), h)) else ((zgR h this 5 0).bind fun (v33 : Nat) => zrc h v33 1 <| zb2 (f_X1_incomeOf n v33 v23 h) fun (r37 : Int32) (h37 : zH) => some (.inr (r37 / (10 : Int32)), h37)))
theorem zn_X5_dividend : zNm yX5_dividend 1 := ⟨by decide +kernel, by decide +kernel⟩
set_option maxRecDepth 100000 in
set_option maxHeartbeats 4000000 in
theorem c_X5_dividend (l : Launch) (hl : l.stackTraces = false) (B : Nat) (D : va_G) (cA : Nat → ClassId) (n : Nat) (this : Nat) (p0 : Int32) (h : zH) : ∀ u, f_X5_dividend n this p0 h = some u → zMx l B D cA yX5_dividend cX5_dividend 3 (some .int) 12 [.ref (B + this), .int p0] h u := by
  unfold f_X5_dividend
  refine z_metx (own := RX5) hl rfl (by decide) rfl (fun Z C hr hlz hnt => ?_)
  have hz0 : (z00 Z).1 ≤ 1 ∧ (z00 Z).2.1 ≤ 6 := ⟨Nat.zero_le 1, Nat.zero_le 6⟩
  refine z_iload_n (pc := 0) C (zD D_X5_dividend_0 0 rfl) rfl 1 rfl ?_
  refine z_csR (pc := 1) (As := [.int p0]) C [] (c_X5_isCompany _ _ _ _ n p0 h) zn_X5_isCompany (by decide) (by decide) hz0 q_192 q_193 q_2 q_194 rfl rfl rfl (zD D_X5_dividend_0 1 rfl) (fun r1 => ?_)
  refine z_if_ne (pc := 4) C (zD D_X5_dividend_0 2 rfl) (tgt := 15) (by decide) (fun _ => ?_) (fun _ => ?_)
  · refine z_aload_n (pc := 15) C (zD D_X5_dividend_0 7 rfl) rfl 0 rfl ?_
    refine z_getR (pc := 16) C zc5 0 (by decide) q_17 (zD D_X5_dividend_0 8 rfl) (fun v16 => ?_)
    refine z_getR (pc := 19) C zc1 2 (by decide) q_168 (zD D_X5_dividend_0 9 rfl) (fun v19 => ?_)
    refine z_iload_n (pc := 22) C (zD D_X5_dividend_0 10 rfl) rfl 1 rfl ?_
    refine z_arload (pc := 23) C (c := 3) (by decide) rfl (zD D_X5_dividend_0 11 rfl) (fun v23 => ?_)
    refine z_astore_n (pc := 24) (lv' := [(2, .ref (B + v23)), (0, .ref (B + this)), (1, .int p0)]) C (zD D_X5_dividend_0 12 rfl) rfl (by decide) rfl ?_
    refine z_aload_n (pc := 25) C (zD D_X5_dividend_0 13 rfl) rfl 0 rfl ?_
    refine z_getI (pc := 26) C zc0 1 (by decide) q_191 (zD D_X5_dividend_0 14 rfl) (fun v26 => ?_)
    refine z_if_eq (pc := 29) C (zD D_X5_dividend_0 15 rfl) (tgt := 46) (by decide) (fun _ => ?_) (fun _ => ?_)
    · refine z_iconst (pc := 46) (v := 0) C (zD D_X5_dividend_0 23 rfl) (by decide) ?_
      exact z_xret (pc := 47) C hr (zD D_X5_dividend_0 24 rfl)
    · refine z_aload_n (pc := 32) C (zD D_X5_dividend_0 16 rfl) rfl 1 rfl ?_
      refine z_getR (pc := 33) C zc5 0 (by decide) q_17 (zD D_X5_dividend_0 17 rfl) (fun v33 => ?_)
      refine z_aload_n (pc := 36) C (zD D_X5_dividend_0 18 rfl) rfl 0 rfl ?_
      refine z_cvI (pc := 37) (As := [.ref (B + v23)]) C [] (c_X1_incomeOf _ _ _ _ n v33 v23 h) zn_X1_incomeOf (by decide) (by decide) hz0 zc1 rfl q_195 q_196 q_197 q_16 q_198 rfl rfl rfl (zD D_X5_dividend_0 19 rfl) (fun r37 h37 => ?_)
      refine z_bipush (pc := 40) (v := 10) C (zD D_X5_dividend_0 20 rfl) (by decide) ?_
      refine z_idivc (pc := 42) C (zD D_X5_dividend_0 21 rfl) (by decide) ?_
      refine z_goto (pc := 43) C (zD D_X5_dividend_0 22 rfl) (tgt := 47) (by decide) ?_
      exact z_xret (pc := 47) C hr (zD D_X5_dividend_0 24 rfl)
  · exact z_throw (pc := 7) zt_1 C hlz hnt (by decide) rfl (zD D_X5_dividend_0 3 rfl) (zD D_X5_dividend_0 4 rfl) (zD D_X5_dividend_0 5 rfl) (zD D_X5_dividend_0 6 rfl)
def f_X5_route' (n : Nat) (this : Nat) (p0 : Int32) (p1 : Int32) (h : zH) : Option (Int32 × zH) := (f_X5_isCompany n p0 h).bind fun (r1 : Int32) => zlet (none) fun K11 => if r1 = 0 then (K11) else (if 0 ≤ p1 then ((zgR h this 5 0).bind fun (v20 : Nat) => (zgR h this 5 0).bind fun (v24 : Nat) => (zgR h v24 1 2).bind fun (v27 : Nat) => (zar h v27 3 p0).bind fun (v31 : Nat) => zrc h v20 1 <| zb2 (f_X1_routeTown n v20 v31 p1 h) fun (r33 : Int32) (h33 : zH) => some (r33, h33)) else (K11))
set_option maxRecDepth 100000 in
set_option maxHeartbeats 4000000 in
theorem c_X5_route' (l : Launch) (B : Nat) (D : va_G) (cA : Nat → ClassId) (n : Nat) (this : Nat) (p0 : Int32) (p1 : Int32) (h : zH) : ∀ u, f_X5_route' n this p0 p1 h = some u → zM l B D cA yX5_route cX5_route 3 (some .int) 12 0 0 none [.ref (B + this), .int p0, .int p1] h ((fun u : Int32 × zH => (some (Value.int u.1), u.2)) u).1 ((fun u : Int32 × zH => (some (Value.int u.1), u.2)) u).2 := by
  unfold f_X5_route'
  refine z_met (own := RX5) (fun u : Int32 × zH => (some (Value.int u.1), u.2)) rfl (by decide) rfl (fun Z C hr _ _ => ?_)
  have hz0 : (z00 Z).1 ≤ 0 ∧ (z00 Z).2.1 ≤ 0 := ⟨Nat.le_refl 0, Nat.le_refl 0⟩
  refine z_iload_n (pc := 0) C (zD D_X5_route_0 0 rfl) rfl 1 rfl ?_
  refine z_csR (pc := 1) (As := [.int p0]) C [] (c_X5_isCompany _ _ _ _ n p0 h) zn_X5_isCompany (by decide) (by decide) hz0 q_192 q_193 q_2 q_194 rfl rfl rfl (zD D_X5_route_0 1 rfl) (fun r1 => ?_)
  refine z_letg (fun K11 => zJ B Z (zEnd B Z (fun u : Int32 × zH => (some (Value.int u.1), u.2)) 0 0) (K11) 11 [] [] h (z00 Z)) ?_ (fun K11 hK11 => ?_)
  · exact z_none
  refine z_if_eq (pc := 4) C (zD D_X5_route_0 2 rfl) (tgt := 11) (by decide) (fun _ => ?_) (fun _ => ?_)
  · refine z_sub [] (lv' := []) rfl ?_
    exact hK11
  · refine z_iload_n (pc := 7) C (zD D_X5_route_0 3 rfl) rfl 2 rfl ?_
    refine z_if_ge (pc := 8) C (zD D_X5_route_0 4 rfl) (tgt := 19) (by decide) (fun _ => ?_) (fun _ => ?_)
    · refine z_aload_n (pc := 19) C (zD D_X5_route_0 9 rfl) rfl 0 rfl ?_
      refine z_getR (pc := 20) C zc5 0 (by decide) q_17 (zD D_X5_route_0 10 rfl) (fun v20 => ?_)
      refine z_aload_n (pc := 23) C (zD D_X5_route_0 11 rfl) rfl 0 rfl ?_
      refine z_getR (pc := 24) C zc5 0 (by decide) q_17 (zD D_X5_route_0 12 rfl) (fun v24 => ?_)
      refine z_getR (pc := 27) C zc1 2 (by decide) q_168 (zD D_X5_route_0 13 rfl) (fun v27 => ?_)
      refine z_iload_n (pc := 30) C (zD D_X5_route_0 14 rfl) rfl 1 rfl ?_
      refine z_arload (pc := 31) C (c := 3) (by decide) rfl (zD D_X5_route_0 15 rfl) (fun v31 => ?_)
      refine z_iload_n (pc := 32) C (zD D_X5_route_0 16 rfl) rfl 2 rfl ?_
      refine z_cvI (pc := 33) (As := [.ref (B + v31), .int p1]) C [] (c_X1_routeTown _ _ _ _ n v20 v31 p1 h) zn_X1_routeTown (by decide) (by decide) hz0 zc1 rfl q_467 q_468 q_469 q_16 q_470 rfl rfl rfl (zD D_X5_route_0 17 rfl) (fun r33 h33 => ?_)
      exact z_iret (pc := 36) C hr rfl (zD D_X5_route_0 18 rfl)
    · refine z_sub [] (lv' := []) rfl ?_
      exact hK11
def f_X5_route (n : Nat) (this : Nat) (p0 : Int32) (p1 : Int32) (h : zH) : Option (zO2) := (f_X5_isCompany n p0 h).bind fun (r1 : Int32) => zlet (some (.inl 1, h)) fun K11 => if r1 = 0 then (K11) else (if 0 ≤ p1 then ((zgR h this 5 0).bind fun (v20 : Nat) => (zgR h this 5 0).bind fun (v24 : Nat) => (zgR h v24 1 2).bind fun (v27 : Nat) => (zar h v27 3 p0).bind fun (v31 : Nat) => zrc h v20 1 <| zb2 (f_X1_routeTown n v20 v31 p1 h) fun (r33 : Int32) (h33 : zH) => some (.inr r33, h33)) else (K11))
theorem zn_X5_route : zNm yX5_route 2 := ⟨by decide +kernel, by decide +kernel⟩
set_option maxRecDepth 100000 in
set_option maxHeartbeats 4000000 in
theorem c_X5_route (l : Launch) (hl : l.stackTraces = false) (B : Nat) (D : va_G) (cA : Nat → ClassId) (n : Nat) (this : Nat) (p0 : Int32) (p1 : Int32) (h : zH) : ∀ u, f_X5_route n this p0 p1 h = some u → zMx l B D cA yX5_route cX5_route 3 (some .int) 12 [.ref (B + this), .int p0, .int p1] h u := by
  unfold f_X5_route
  refine z_metx (own := RX5) hl rfl (by decide) rfl (fun Z C hr hlz hnt => ?_)
  have hz0 : (z00 Z).1 ≤ 1 ∧ (z00 Z).2.1 ≤ 6 := ⟨Nat.zero_le 1, Nat.zero_le 6⟩
  refine z_iload_n (pc := 0) C (zD D_X5_route_0 0 rfl) rfl 1 rfl ?_
  refine z_csR (pc := 1) (As := [.int p0]) C [] (c_X5_isCompany _ _ _ _ n p0 h) zn_X5_isCompany (by decide) (by decide) hz0 q_192 q_193 q_2 q_194 rfl rfl rfl (zD D_X5_route_0 1 rfl) (fun r1 => ?_)
  refine z_letg (fun K11 => zJ B Z (zEndx B Z) (K11) 11 [] [] h (z00 Z)) ?_ (fun K11 hK11 => ?_)
  · exact z_throw (pc := 11) zt_1 C hlz hnt (by decide) rfl (zD D_X5_route_0 5 rfl) (zD D_X5_route_0 6 rfl) (zD D_X5_route_0 7 rfl) (zD D_X5_route_0 8 rfl)
  refine z_if_eq (pc := 4) C (zD D_X5_route_0 2 rfl) (tgt := 11) (by decide) (fun _ => ?_) (fun _ => ?_)
  · refine z_sub [] (lv' := []) rfl ?_
    exact hK11
  · refine z_iload_n (pc := 7) C (zD D_X5_route_0 3 rfl) rfl 2 rfl ?_
    refine z_if_ge (pc := 8) C (zD D_X5_route_0 4 rfl) (tgt := 19) (by decide) (fun _ => ?_) (fun _ => ?_)
    · refine z_aload_n (pc := 19) C (zD D_X5_route_0 9 rfl) rfl 0 rfl ?_
      refine z_getR (pc := 20) C zc5 0 (by decide) q_17 (zD D_X5_route_0 10 rfl) (fun v20 => ?_)
      refine z_aload_n (pc := 23) C (zD D_X5_route_0 11 rfl) rfl 0 rfl ?_
      refine z_getR (pc := 24) C zc5 0 (by decide) q_17 (zD D_X5_route_0 12 rfl) (fun v24 => ?_)
      refine z_getR (pc := 27) C zc1 2 (by decide) q_168 (zD D_X5_route_0 13 rfl) (fun v27 => ?_)
      refine z_iload_n (pc := 30) C (zD D_X5_route_0 14 rfl) rfl 1 rfl ?_
      refine z_arload (pc := 31) C (c := 3) (by decide) rfl (zD D_X5_route_0 15 rfl) (fun v31 => ?_)
      refine z_iload_n (pc := 32) C (zD D_X5_route_0 16 rfl) rfl 2 rfl ?_
      refine z_cvI (pc := 33) (As := [.ref (B + v31), .int p1]) C [] (c_X1_routeTown _ _ _ _ n v20 v31 p1 h) zn_X1_routeTown (by decide) (by decide) hz0 zc1 rfl q_467 q_468 q_469 q_16 q_470 rfl rfl rfl (zD D_X5_route_0 17 rfl) (fun r33 h33 => ?_)
      exact z_xret (pc := 36) C hr (zD D_X5_route_0 18 rfl)
    · refine z_sub [] (lv' := []) rfl ?_
      exact hK11
def f_X5_digest (n : Nat) (this : Nat) (h : zH) : Option (Int64 × zH) := (zgR h this 5 3).bind fun (v4 : Nat) => (zgI h v4 4 1).bind fun (v7 : Int32) => zlet (((111073 : Int64) + (Int32.toInt64 v7))) fun (x12 : Int64) => zfix2 (fun rec15 (a1_15 : Int64) (a3_15 : Int32) => if (10 : Int32) ≤ a3_15 then (zfix2 (fun rec42 (a1_42 : Int64) (a3_42 : Int32) => (zgR h this 5 0).bind fun (v44 : Nat) => (zgI h v44 1 8).bind fun (v47 : Int32) => if v47 ≤ a3_42 then (zfix3 (fun rec92 (a1_92 : Int64) (a3_92 : Int32) (h92 : zH) => if (4 : Int32) ≤ a3_92 then (zfix2 (fun rec136 (a1_136 : Int64) (a3_136 : Int32) => if (8 : Int32) ≤ a3_136 then (zfix2 (fun rec183 (a1_183 : Int64) (a3_183 : Int32) => if (8 : Int32) ≤ a3_183 then ((zgI h92 this 5 2).bind fun (v214 : Int32) => some ((((31 : Int64) * a1_183) + (Int32.toInt64 v214)), h92)) else (zrc h92 this 5 <| (f_X5_town' n this a3_183 h92).bind fun (r196 : Int32) => zlet ((((31 : Int64) * a1_183) + (Int32.toInt64 r196))) fun (x201 : Int64) => zlet (a3_183 + 1) fun (x202 : Int32) => rec183 x201 x202)) n a1_136 (0 : Int32)) else (zlet ((a3_136 + (1 : Int32))) fun (x145 : Int32) => zfix2 (fun rec147 (a1_147 : Int64) (a4_147 : Int32) => if (8 : Int32) ≤ a4_147 then (zlet (a3_136 + 1) fun (x175 : Int32) => rec136 a1_147 x175) else (zrc h92 this 5 <| (f_X5_track' n this a3_136 a4_147 h92).bind fun (r163 : Int32) => zlet ((((31 : Int64) * a1_147) + (Int32.toInt64 r163))) fun (x168 : Int64) => zlet (a4_147 + 1) fun (x169 : Int32) => rec147 x168 x169)) n a1_136 x145)) n a1_92 (0 : Int32)) else (zfix3 (fun rec100 (a1_100 : Int64) (a4_100 : Int32) (h100 : zH) => if (9 : Int32) ≤ a4_100 then (zlet (a3_92 + 1) fun (x128 : Int32) => rec92 a1_100 x128 h100) else (zrc h100 this 5 <| zb2 (f_X5_company' n this a3_92 a4_100 h100) fun (r116 : Int32) (h116 : zH) => zlet ((((31 : Int64) * a1_100) + (Int32.toInt64 r116))) fun (x121 : Int64) => zlet (a4_100 + 1) fun (x122 : Int32) => rec100 x121 x122 h116)) n a1_92 (0 : Int32) h92)) n a1_42 (0 : Int32) h) else (zfix2 (fun rec56 (a1_56 : Int64) (a4_56 : Int32) => if (7 : Int32) ≤ a4_56 then (zlet (a3_42 + 1) fun (x84 : Int32) => rec42 a1_56 x84) else (zrc h this 5 <| (f_X5_player' n this a3_42 a4_56 h).bind fun (r72 : Int32) => zlet ((((31 : Int64) * a1_56) + (Int32.toInt64 r72))) fun (x77 : Int64) => zlet (a4_56 + 1) fun (x78 : Int32) => rec56 x77 x78)) n a1_42 (0 : Int32))) n a1_15 (0 : Int32)) else (zrc h this 5 <| (f_X5_value' n this a3_15 h).bind fun (r28 : Int32) => zlet ((((31 : Int64) * a1_15) + (Int32.toInt64 r28))) fun (x33 : Int64) => zlet (a3_15 + 1) fun (x34 : Int32) => rec15 x33 x34)) n x12 (0 : Int32)
theorem zn_X5_digest : zNm yX5_digest 0 := ⟨by decide +kernel, by decide +kernel⟩
set_option maxRecDepth 100000 in
set_option maxHeartbeats 4000000 in
theorem c_X5_digest (l : Launch) (B : Nat) (D : va_G) (cA : Nat → ClassId) (n : Nat) (this : Nat) (h : zH) : ∀ u, f_X5_digest n this h = some u → zM l B D cA yX5_digest cX5_digest 5 (some .long) 13 0 0 none [.ref (B + this)] h ((fun u : Int64 × zH => (some (Value.long u.1), u.2)) u).1 ((fun u : Int64 × zH => (some (Value.long u.1), u.2)) u).2 := by
  unfold f_X5_digest
  refine z_met (own := RX5) (fun u : Int64 × zH => (some (Value.long u.1), u.2)) rfl (by decide) rfl (fun Z C hr _ _ => ?_)
  have hz0 : (z00 Z).1 ≤ 0 ∧ (z00 Z).2.1 ≤ 0 := ⟨Nat.le_refl 0, Nat.le_refl 0⟩
  refine z_ldc2 (pc := 0) (v := 111073) C q_134 (zD D_X5_digest_0 0 rfl) ?_
  refine z_aload_n (pc := 3) C (zD D_X5_digest_0 1 rfl) rfl 0 rfl ?_
  refine z_getR (pc := 4) C zc5 3 (by decide) q_23 (zD D_X5_digest_0 2 rfl) (fun v4 => ?_)
  refine z_getI (pc := 7) C zc4 1 (by decide) q_135 (zD D_X5_digest_0 3 rfl) (fun v7 => ?_)
  refine z_i2l (pc := 10) C (zD D_X5_digest_0 4 rfl) ?_
  refine z_ladd (pc := 11) C (zD D_X5_digest_0 5 rfl) ?_
  refine z_lstore_nL (pc := 12) (lv' := fun x12 => [(1, .long x12), (0, .ref (B + this))]) C (zD D_X5_digest_0 6 rfl) rfl (by decide) (fun _ => rfl) (fun x12 => ?_)
  refine z_iconst (pc := 13) (v := 0) C (zD D_X5_digest_0 7 rfl) (by decide) ?_
  refine z_istore_n (pc := 14) (lv' := [(3, .int (0 : Int32)), (1, .long x12), (0, .ref (B + this))]) C (zD D_X5_digest_0 8 rfl) rfl (by decide) rfl ?_
  refine z_sub [2, 1, 0] (lv' := [(0, .ref (B + this)), (1, .long x12), (3, .int (0 : Int32))]) rfl ?_
  refine z_fix2 (fun g15 => ∀ (a1_15 : Int64) (a3_15 : Int32), zJ B Z (zEnd B Z (fun u : Int64 × zH => (some (Value.long u.1), u.2)) 0 0) (g15 a1_15 a3_15) 15 [(0, .ref (B + this)), (1, .long a1_15), (3, .int a3_15)] [] h (z00 Z)) (fun _ _ => z_none) (fun rec15 hrec15 a1_15 a3_15 => ?_) n x12 (0 : Int32)
  refine z_iload_n (pc := 15) C (zD D_X5_digest_0 9 rfl) rfl 2 rfl ?_
  refine z_bipush (pc := 16) (v := 10) C (zD D_X5_digest_0 10 rfl) (by decide) ?_
  refine z_icmp_ge (pc := 18) C (zD D_X5_digest_0 11 rfl) (tgt := 40) (by decide) (fun _ => ?_) (fun _ => ?_)
  · refine z_iconst (pc := 40) (v := 0) C (zD D_X5_digest_0 23 rfl) (by decide) ?_
    refine z_istore_n (pc := 41) (lv' := [(3, .int (0 : Int32)), (0, .ref (B + this)), (1, .long a1_15)]) C (zD D_X5_digest_0 24 rfl) rfl (by decide) rfl ?_
    refine z_sub [1, 2, 0] (lv' := [(0, .ref (B + this)), (1, .long a1_15), (3, .int (0 : Int32))]) rfl ?_
    refine z_fix2 (fun g42 => ∀ (a1_42 : Int64) (a3_42 : Int32), zJ B Z (zEnd B Z (fun u : Int64 × zH => (some (Value.long u.1), u.2)) 0 0) (g42 a1_42 a3_42) 42 [(0, .ref (B + this)), (1, .long a1_42), (3, .int a3_42)] [] h (z00 Z)) (fun _ _ => z_none) (fun rec42 hrec42 a1_42 a3_42 => ?_) n a1_15 (0 : Int32)
    refine z_iload_n (pc := 42) C (zD D_X5_digest_0 25 rfl) rfl 2 rfl ?_
    refine z_aload_n (pc := 43) C (zD D_X5_digest_0 26 rfl) rfl 0 rfl ?_
    refine z_getR (pc := 44) C zc5 0 (by decide) q_17 (zD D_X5_digest_0 27 rfl) (fun v44 => ?_)
    refine z_getI (pc := 47) C zc1 8 (by decide) q_137 (zD D_X5_digest_0 28 rfl) (fun v47 => ?_)
    refine z_icmp_ge (pc := 50) C (zD D_X5_digest_0 29 rfl) (tgt := 90) (by decide) (fun _ => ?_) (fun _ => ?_)
    · refine z_iconst (pc := 90) (v := 0) C (zD D_X5_digest_0 49 rfl) (by decide) ?_
      refine z_istore_n (pc := 91) (lv' := [(3, .int (0 : Int32)), (0, .ref (B + this)), (1, .long a1_42)]) C (zD D_X5_digest_0 50 rfl) rfl (by decide) rfl ?_
      refine z_sub [1, 2, 0] (lv' := [(0, .ref (B + this)), (1, .long a1_42), (3, .int (0 : Int32))]) rfl ?_
      refine z_fix3 (fun g92 => ∀ (a1_92 : Int64) (a3_92 : Int32) (h92 : zH), zJ B Z (zEnd B Z (fun u : Int64 × zH => (some (Value.long u.1), u.2)) 0 0) (g92 a1_92 a3_92 h92) 92 [(0, .ref (B + this)), (1, .long a1_92), (3, .int a3_92)] [] h92 (z00 Z)) (fun _ _ _ => z_none) (fun rec92 hrec92 a1_92 a3_92 h92 => ?_) n a1_42 (0 : Int32) h
      refine z_iload_n (pc := 92) C (zD D_X5_digest_0 51 rfl) rfl 2 rfl ?_
      refine z_iconst (pc := 93) (v := 4) C (zD D_X5_digest_0 52 rfl) (by decide) ?_
      refine z_icmp_ge (pc := 94) C (zD D_X5_digest_0 53 rfl) (tgt := 134) (by decide) (fun _ => ?_) (fun _ => ?_)
      · refine z_iconst (pc := 134) (v := 0) C (zD D_X5_digest_1 13 rfl) (by decide) ?_
        refine z_istore_n (pc := 135) (lv' := [(3, .int (0 : Int32)), (0, .ref (B + this)), (1, .long a1_92)]) C (zD D_X5_digest_1 14 rfl) rfl (by decide) rfl ?_
        refine z_sub [1, 2, 0] (lv' := [(0, .ref (B + this)), (1, .long a1_92), (3, .int (0 : Int32))]) rfl ?_
        refine z_fix2 (fun g136 => ∀ (a1_136 : Int64) (a3_136 : Int32), zJ B Z (zEnd B Z (fun u : Int64 × zH => (some (Value.long u.1), u.2)) 0 0) (g136 a1_136 a3_136) 136 [(0, .ref (B + this)), (1, .long a1_136), (3, .int a3_136)] [] h92 (z00 Z)) (fun _ _ => z_none) (fun rec136 hrec136 a1_136 a3_136 => ?_) n a1_92 (0 : Int32)
        refine z_iload_n (pc := 136) C (zD D_X5_digest_1 15 rfl) rfl 2 rfl ?_
        refine z_bipush (pc := 137) (v := 8) C (zD D_X5_digest_1 16 rfl) (by decide) ?_
        refine z_icmp_ge (pc := 139) C (zD D_X5_digest_1 17 rfl) (tgt := 181) (by decide) (fun _ => ?_) (fun _ => ?_)
        · refine z_iconst (pc := 181) (v := 0) C (zD D_X5_digest_1 39 rfl) (by decide) ?_
          refine z_istore_n (pc := 182) (lv' := [(3, .int (0 : Int32)), (0, .ref (B + this)), (1, .long a1_136)]) C (zD D_X5_digest_1 40 rfl) rfl (by decide) rfl ?_
          refine z_sub [1, 2, 0] (lv' := [(0, .ref (B + this)), (1, .long a1_136), (3, .int (0 : Int32))]) rfl ?_
          refine z_fix2 (fun g183 => ∀ (a1_183 : Int64) (a3_183 : Int32), zJ B Z (zEnd B Z (fun u : Int64 × zH => (some (Value.long u.1), u.2)) 0 0) (g183 a1_183 a3_183) 183 [(0, .ref (B + this)), (1, .long a1_183), (3, .int a3_183)] [] h92 (z00 Z)) (fun _ _ => z_none) (fun rec183 hrec183 a1_183 a3_183 => ?_) n a1_136 (0 : Int32)
          refine z_iload_n (pc := 183) C (zD D_X5_digest_1 41 rfl) rfl 2 rfl ?_
          refine z_bipush (pc := 184) (v := 8) C (zD D_X5_digest_1 42 rfl) (by decide) ?_
          refine z_icmp_ge (pc := 186) C (zD D_X5_digest_1 43 rfl) (tgt := 208) (by decide) (fun _ => ?_) (fun _ => ?_)
          · refine z_ldc2 (pc := 208) (v := 31) C q_136 (zD D_X5_digest_1 55 rfl) ?_
            refine z_lload_n (pc := 211) C (zD D_X5_digest_1 56 rfl) rfl 1 rfl ?_
            refine z_lmul (pc := 212) C (zD D_X5_digest_1 57 rfl) ?_
            refine z_aload_n (pc := 213) C (zD D_X5_digest_1 58 rfl) rfl 0 rfl ?_
            refine z_getI (pc := 214) C zc5 2 (by decide) q_19 (zD D_X5_digest_1 59 rfl) (fun v214 => ?_)
            refine z_i2l (pc := 217) C (zD D_X5_digest_2 0 rfl) ?_
            refine z_ladd (pc := 218) C (zD D_X5_digest_2 1 rfl) ?_
            exact z_lret (pc := 219) C hr rfl (zD D_X5_digest_2 2 rfl)
          · refine z_ldc2 (pc := 189) (v := 31) C q_136 (zD D_X5_digest_1 44 rfl) ?_
            refine z_lload_n (pc := 192) C (zD D_X5_digest_1 45 rfl) rfl 1 rfl ?_
            refine z_lmul (pc := 193) C (zD D_X5_digest_1 46 rfl) ?_
            refine z_aload_n (pc := 194) C (zD D_X5_digest_1 47 rfl) rfl 0 rfl ?_
            refine z_iload_n (pc := 195) C (zD D_X5_digest_1 48 rfl) rfl 2 rfl ?_
            refine z_cvR (pc := 196) (As := [.int a3_183]) C [.long ((31 : Int64) * a1_183)] (c_X5_town' _ _ _ _ n this a3_183 h92) zn_X5_town (by decide) (by decide) hz0 zc5 rfl q_258 q_259 q_260 q_2 q_261 rfl rfl rfl (zD D_X5_digest_1 49 rfl) (fun r196 => ?_)
            refine z_i2l (pc := 199) C (zD D_X5_digest_1 50 rfl) ?_
            refine z_ladd (pc := 200) C (zD D_X5_digest_1 51 rfl) ?_
            refine z_lstore_nL (pc := 201) (lv' := fun x201 => [(1, .long x201), (0, .ref (B + this)), (3, .int a3_183)]) C (zD D_X5_digest_1 52 rfl) rfl (by decide) (fun _ => rfl) (fun x201 => ?_)
            refine z_iincL (pc := 202) (lv' := fun x202 => [(3, .int x202), (1, .long x201), (0, .ref (B + this))]) C (zD D_X5_digest_1 53 rfl) 2 rfl (v := a3_183 + 1) rfl (by decide) (fun _ => rfl) (fun x202 => ?_)
            refine z_goto (pc := 205) C (zD D_X5_digest_1 54 rfl) (tgt := 183) (by decide) ?_
            refine z_sub [2, 1, 0] (lv' := [(0, .ref (B + this)), (1, .long x201), (3, .int x202)]) rfl ?_
            exact hrec183 x201 x202
        · refine z_iload_n (pc := 142) C (zD D_X5_digest_1 18 rfl) rfl 2 rfl ?_
          refine z_iconst (pc := 143) (v := 1) C (zD D_X5_digest_1 19 rfl) (by decide) ?_
          refine z_iadd (pc := 144) C (zD D_X5_digest_1 20 rfl) ?_
          refine z_istoreL (pc := 145) (lv' := fun x145 => [(4, .int x145), (0, .ref (B + this)), (1, .long a1_136), (3, .int a3_136)]) C (zD D_X5_digest_1 21 rfl) (by decide) (fun _ => rfl) (fun x145 => ?_)
          refine z_sub [1, 2, 3, 0] (lv' := [(0, .ref (B + this)), (1, .long a1_136), (3, .int a3_136), (4, .int x145)]) rfl ?_
          refine z_fix2 (fun g147 => ∀ (a1_147 : Int64) (a4_147 : Int32), zJ B Z (zEnd B Z (fun u : Int64 × zH => (some (Value.long u.1), u.2)) 0 0) (g147 a1_147 a4_147) 147 [(0, .ref (B + this)), (1, .long a1_147), (3, .int a3_136), (4, .int a4_147)] [] h92 (z00 Z)) (fun _ _ => z_none) (fun rec147 hrec147 a1_147 a4_147 => ?_) n a1_136 x145
          refine z_iload (pc := 147) C (zD D_X5_digest_1 22 rfl) 3 rfl ?_
          refine z_bipush (pc := 149) (v := 8) C (zD D_X5_digest_1 23 rfl) (by decide) ?_
          refine z_icmp_ge (pc := 151) C (zD D_X5_digest_1 24 rfl) (tgt := 175) (by decide) (fun _ => ?_) (fun _ => ?_)
          · refine z_iincL (pc := 175) (lv' := fun x175 => [(3, .int x175), (0, .ref (B + this)), (1, .long a1_147), (4, .int a4_147)]) C (zD D_X5_digest_1 37 rfl) 2 rfl (v := a3_136 + 1) rfl (by decide) (fun _ => rfl) (fun x175 => ?_)
            refine z_goto (pc := 178) C (zD D_X5_digest_1 38 rfl) (tgt := 136) (by decide) ?_
            refine z_sub [1, 2, 0] (lv' := [(0, .ref (B + this)), (1, .long a1_147), (3, .int x175)]) rfl ?_
            exact hrec136 a1_147 x175
          · refine z_ldc2 (pc := 154) (v := 31) C q_136 (zD D_X5_digest_1 25 rfl) ?_
            refine z_lload_n (pc := 157) C (zD D_X5_digest_1 26 rfl) rfl 1 rfl ?_
            refine z_lmul (pc := 158) C (zD D_X5_digest_1 27 rfl) ?_
            refine z_aload_n (pc := 159) C (zD D_X5_digest_1 28 rfl) rfl 0 rfl ?_
            refine z_iload_n (pc := 160) C (zD D_X5_digest_1 29 rfl) rfl 2 rfl ?_
            refine z_iload (pc := 161) C (zD D_X5_digest_1 30 rfl) 3 rfl ?_
            refine z_cvR (pc := 163) (As := [.int a3_136, .int a4_147]) C [.long ((31 : Int64) * a1_147)] (c_X5_track' _ _ _ _ n this a3_136 a4_147 h92) zn_X5_track (by decide) (by decide) hz0 zc5 rfl q_249 q_250 q_251 q_2 q_252 rfl rfl rfl (zD D_X5_digest_1 31 rfl) (fun r163 => ?_)
            refine z_i2l (pc := 166) C (zD D_X5_digest_1 32 rfl) ?_
            refine z_ladd (pc := 167) C (zD D_X5_digest_1 33 rfl) ?_
            refine z_lstore_nL (pc := 168) (lv' := fun x168 => [(1, .long x168), (0, .ref (B + this)), (3, .int a3_136), (4, .int a4_147)]) C (zD D_X5_digest_1 34 rfl) rfl (by decide) (fun _ => rfl) (fun x168 => ?_)
            refine z_iincL (pc := 169) (lv' := fun x169 => [(4, .int x169), (1, .long x168), (0, .ref (B + this)), (3, .int a3_136)]) C (zD D_X5_digest_1 35 rfl) 3 rfl (v := a4_147 + 1) rfl (by decide) (fun _ => rfl) (fun x169 => ?_)
            refine z_goto (pc := 172) C (zD D_X5_digest_1 36 rfl) (tgt := 147) (by decide) ?_
            refine z_sub [2, 1, 3, 0] (lv' := [(0, .ref (B + this)), (1, .long x168), (3, .int a3_136), (4, .int x169)]) rfl ?_
            exact hrec147 x168 x169
      · refine z_iconst (pc := 97) (v := 0) C (zD D_X5_digest_0 54 rfl) (by decide) ?_
        refine z_istore (pc := 98) (lv' := [(4, .int (0 : Int32)), (0, .ref (B + this)), (1, .long a1_92), (3, .int a3_92)]) C (zD D_X5_digest_0 55 rfl) (by decide) rfl ?_
        refine z_sub [1, 2, 3, 0] (lv' := [(0, .ref (B + this)), (1, .long a1_92), (3, .int a3_92), (4, .int (0 : Int32))]) rfl ?_
        refine z_fix3 (fun g100 => ∀ (a1_100 : Int64) (a4_100 : Int32) (h100 : zH), zJ B Z (zEnd B Z (fun u : Int64 × zH => (some (Value.long u.1), u.2)) 0 0) (g100 a1_100 a4_100 h100) 100 [(0, .ref (B + this)), (1, .long a1_100), (3, .int a3_92), (4, .int a4_100)] [] h100 (z00 Z)) (fun _ _ _ => z_none) (fun rec100 hrec100 a1_100 a4_100 h100 => ?_) n a1_92 (0 : Int32) h92
        refine z_iload (pc := 100) C (zD D_X5_digest_0 56 rfl) 3 rfl ?_
        refine z_bipush (pc := 102) (v := 9) C (zD D_X5_digest_0 57 rfl) (by decide) ?_
        refine z_icmp_ge (pc := 104) C (zD D_X5_digest_0 58 rfl) (tgt := 128) (by decide) (fun _ => ?_) (fun _ => ?_)
        · refine z_iincL (pc := 128) (lv' := fun x128 => [(3, .int x128), (0, .ref (B + this)), (1, .long a1_100), (4, .int a4_100)]) C (zD D_X5_digest_1 11 rfl) 2 rfl (v := a3_92 + 1) rfl (by decide) (fun _ => rfl) (fun x128 => ?_)
          refine z_goto (pc := 131) C (zD D_X5_digest_1 12 rfl) (tgt := 92) (by decide) ?_
          refine z_sub [1, 2, 0] (lv' := [(0, .ref (B + this)), (1, .long a1_100), (3, .int x128)]) rfl ?_
          exact hrec92 a1_100 x128 h100
        · refine z_ldc2 (pc := 107) (v := 31) C q_136 (zD D_X5_digest_0 59 rfl) ?_
          refine z_lload_n (pc := 110) C (zD D_X5_digest_1 0 rfl) rfl 1 rfl ?_
          refine z_lmul (pc := 111) C (zD D_X5_digest_1 1 rfl) ?_
          refine z_aload_n (pc := 112) C (zD D_X5_digest_1 2 rfl) rfl 0 rfl ?_
          refine z_iload_n (pc := 113) C (zD D_X5_digest_1 3 rfl) rfl 2 rfl ?_
          refine z_iload (pc := 114) C (zD D_X5_digest_1 4 rfl) 3 rfl ?_
          refine z_cvI (pc := 116) (As := [.int a3_92, .int a4_100]) C [.long ((31 : Int64) * a1_100)] (c_X5_company' _ _ _ _ n this a3_92 a4_100 h100) zn_X5_company (by decide) (by decide) hz0 zc5 rfl q_187 q_188 q_189 q_2 q_190 rfl rfl rfl (zD D_X5_digest_1 5 rfl) (fun r116 h116 => ?_)
          refine z_i2l (pc := 119) C (zD D_X5_digest_1 6 rfl) ?_
          refine z_ladd (pc := 120) C (zD D_X5_digest_1 7 rfl) ?_
          refine z_lstore_nL (pc := 121) (lv' := fun x121 => [(1, .long x121), (0, .ref (B + this)), (3, .int a3_92), (4, .int a4_100)]) C (zD D_X5_digest_1 8 rfl) rfl (by decide) (fun _ => rfl) (fun x121 => ?_)
          refine z_iincL (pc := 122) (lv' := fun x122 => [(4, .int x122), (1, .long x121), (0, .ref (B + this)), (3, .int a3_92)]) C (zD D_X5_digest_1 9 rfl) 3 rfl (v := a4_100 + 1) rfl (by decide) (fun _ => rfl) (fun x122 => ?_)
          refine z_goto (pc := 125) C (zD D_X5_digest_1 10 rfl) (tgt := 100) (by decide) ?_
          refine z_sub [2, 1, 3, 0] (lv' := [(0, .ref (B + this)), (1, .long x121), (3, .int a3_92), (4, .int x122)]) rfl ?_
          exact hrec100 x121 x122 h116
    · refine z_iconst (pc := 53) (v := 0) C (zD D_X5_digest_0 30 rfl) (by decide) ?_
      refine z_istore (pc := 54) (lv' := [(4, .int (0 : Int32)), (0, .ref (B + this)), (1, .long a1_42), (3, .int a3_42)]) C (zD D_X5_digest_0 31 rfl) (by decide) rfl ?_
      refine z_sub [1, 2, 3, 0] (lv' := [(0, .ref (B + this)), (1, .long a1_42), (3, .int a3_42), (4, .int (0 : Int32))]) rfl ?_
      refine z_fix2 (fun g56 => ∀ (a1_56 : Int64) (a4_56 : Int32), zJ B Z (zEnd B Z (fun u : Int64 × zH => (some (Value.long u.1), u.2)) 0 0) (g56 a1_56 a4_56) 56 [(0, .ref (B + this)), (1, .long a1_56), (3, .int a3_42), (4, .int a4_56)] [] h (z00 Z)) (fun _ _ => z_none) (fun rec56 hrec56 a1_56 a4_56 => ?_) n a1_42 (0 : Int32)
      refine z_iload (pc := 56) C (zD D_X5_digest_0 32 rfl) 3 rfl ?_
      refine z_bipush (pc := 58) (v := 7) C (zD D_X5_digest_0 33 rfl) (by decide) ?_
      refine z_icmp_ge (pc := 60) C (zD D_X5_digest_0 34 rfl) (tgt := 84) (by decide) (fun _ => ?_) (fun _ => ?_)
      · refine z_iincL (pc := 84) (lv' := fun x84 => [(3, .int x84), (0, .ref (B + this)), (1, .long a1_56), (4, .int a4_56)]) C (zD D_X5_digest_0 47 rfl) 2 rfl (v := a3_42 + 1) rfl (by decide) (fun _ => rfl) (fun x84 => ?_)
        refine z_goto (pc := 87) C (zD D_X5_digest_0 48 rfl) (tgt := 42) (by decide) ?_
        refine z_sub [1, 2, 0] (lv' := [(0, .ref (B + this)), (1, .long a1_56), (3, .int x84)]) rfl ?_
        exact hrec42 a1_56 x84
      · refine z_ldc2 (pc := 63) (v := 31) C q_136 (zD D_X5_digest_0 35 rfl) ?_
        refine z_lload_n (pc := 66) C (zD D_X5_digest_0 36 rfl) rfl 1 rfl ?_
        refine z_lmul (pc := 67) C (zD D_X5_digest_0 37 rfl) ?_
        refine z_aload_n (pc := 68) C (zD D_X5_digest_0 38 rfl) rfl 0 rfl ?_
        refine z_iload_n (pc := 69) C (zD D_X5_digest_0 39 rfl) rfl 2 rfl ?_
        refine z_iload (pc := 70) C (zD D_X5_digest_0 40 rfl) 3 rfl ?_
        refine z_cvR (pc := 72) (As := [.int a3_42, .int a4_56]) C [.long ((31 : Int64) * a1_56)] (c_X5_player' _ _ _ _ n this a3_42 a4_56 h) zn_X5_player (by decide) (by decide) hz0 zc5 rfl q_161 q_162 q_163 q_2 q_164 rfl rfl rfl (zD D_X5_digest_0 41 rfl) (fun r72 => ?_)
        refine z_i2l (pc := 75) C (zD D_X5_digest_0 42 rfl) ?_
        refine z_ladd (pc := 76) C (zD D_X5_digest_0 43 rfl) ?_
        refine z_lstore_nL (pc := 77) (lv' := fun x77 => [(1, .long x77), (0, .ref (B + this)), (3, .int a3_42), (4, .int a4_56)]) C (zD D_X5_digest_0 44 rfl) rfl (by decide) (fun _ => rfl) (fun x77 => ?_)
        refine z_iincL (pc := 78) (lv' := fun x78 => [(4, .int x78), (1, .long x77), (0, .ref (B + this)), (3, .int a3_42)]) C (zD D_X5_digest_0 45 rfl) 3 rfl (v := a4_56 + 1) rfl (by decide) (fun _ => rfl) (fun x78 => ?_)
        refine z_goto (pc := 81) C (zD D_X5_digest_0 46 rfl) (tgt := 56) (by decide) ?_
        refine z_sub [2, 1, 3, 0] (lv' := [(0, .ref (B + this)), (1, .long x77), (3, .int a3_42), (4, .int x78)]) rfl ?_
        exact hrec56 x77 x78
  · refine z_ldc2 (pc := 21) (v := 31) C q_136 (zD D_X5_digest_0 12 rfl) ?_
    refine z_lload_n (pc := 24) C (zD D_X5_digest_0 13 rfl) rfl 1 rfl ?_
    refine z_lmul (pc := 25) C (zD D_X5_digest_0 14 rfl) ?_
    refine z_aload_n (pc := 26) C (zD D_X5_digest_0 15 rfl) rfl 0 rfl ?_
    refine z_iload_n (pc := 27) C (zD D_X5_digest_0 16 rfl) rfl 2 rfl ?_
    refine z_cvR (pc := 28) (As := [.int a3_15]) C [.long ((31 : Int64) * a1_15)] (c_X5_value' _ _ _ _ n this a3_15 h) zn_X5_value (by decide) (by decide) hz0 zc5 rfl q_138 q_139 q_140 q_2 q_141 rfl rfl rfl (zD D_X5_digest_0 17 rfl) (fun r28 => ?_)
    refine z_i2l (pc := 31) C (zD D_X5_digest_0 18 rfl) ?_
    refine z_ladd (pc := 32) C (zD D_X5_digest_0 19 rfl) ?_
    refine z_lstore_nL (pc := 33) (lv' := fun x33 => [(1, .long x33), (0, .ref (B + this)), (3, .int a3_15)]) C (zD D_X5_digest_0 20 rfl) rfl (by decide) (fun _ => rfl) (fun x33 => ?_)
    refine z_iincL (pc := 34) (lv' := fun x34 => [(3, .int x34), (1, .long x33), (0, .ref (B + this))]) C (zD D_X5_digest_0 21 rfl) 2 rfl (v := a3_15 + 1) rfl (by decide) (fun _ => rfl) (fun x34 => ?_)
    refine z_goto (pc := 37) C (zD D_X5_digest_0 22 rfl) (tgt := 15) (by decide) ?_
    refine z_sub [2, 1, 0] (lv' := [(0, .ref (B + this)), (1, .long x33), (3, .int x34)]) rfl ?_
    exact hrec15 x33 x34
def f_X5_incomeWith' (n : Nat) (this : Nat) (p0 : Int32) (p1 : Int32) (p2 : Int32) (h : zH) : Option (Int32 × zH) := (f_X5_isCompany n p0 h).bind fun (r1 : Int32) => zlet (none) fun K21 => if r1 = 0 then (K21) else ((f_X5_isTown n p1 h).bind fun (r8 : Int32) => if r8 = 0 then (K21) else ((f_X5_isTown n p2 h).bind fun (r15 : Int32) => if r15 = 0 then (K21) else (if p1 = p2 then (none) else ((zgR h this 5 0).bind fun (v43 : Nat) => (zgR h v43 1 2).bind fun (v46 : Nat) => (zar h v46 3 p0).bind fun (v50 : Nat) => (zgI h v50 0 1).bind fun (v55 : Int32) => if v55 = 0 then (some ((-1 : Int32), h)) else ((zgR h this 5 0).bind fun (v62 : Nat) => (zgR h v62 1 1).bind fun (v65 : Nat) => (zgR h v65 2 1).bind fun (v68 : Nat) => (zar h v68 2 p1).bind fun (v72 : Nat) => (zai h v72 p2).bind fun (v74 : Int32) => if v74 < (2 : Int32) then ((zgR h this 5 0).bind fun (v82 : Nat) => zrc h v82 1 <| zb2 (f_X1_incomeIfRaised n v82 v50 p1 p2 h) fun (r89 : Int32) (h89 : zH) => some (r89, h89)) else (some ((-1 : Int32), h)))))))
set_option maxRecDepth 100000 in
set_option maxHeartbeats 4000000 in
theorem c_X5_incomeWith' (l : Launch) (B : Nat) (D : va_G) (cA : Nat → ClassId) (n : Nat) (this : Nat) (p0 : Int32) (p1 : Int32) (p2 : Int32) (h : zH) : ∀ u, f_X5_incomeWith' n this p0 p1 p2 h = some u → zM l B D cA yX5_incomeWith cX5_incomeWith 5 (some .int) 13 0 0 none [.ref (B + this), .int p0, .int p1, .int p2] h ((fun u : Int32 × zH => (some (Value.int u.1), u.2)) u).1 ((fun u : Int32 × zH => (some (Value.int u.1), u.2)) u).2 := by
  unfold f_X5_incomeWith'
  refine z_met (own := RX5) (fun u : Int32 × zH => (some (Value.int u.1), u.2)) rfl (by decide) rfl (fun Z C hr _ _ => ?_)
  have hz0 : (z00 Z).1 ≤ 0 ∧ (z00 Z).2.1 ≤ 0 := ⟨Nat.le_refl 0, Nat.le_refl 0⟩
  refine z_iload_n (pc := 0) C (zD D_X5_incomeWith_0 0 rfl) rfl 1 rfl ?_
  refine z_csR (pc := 1) (As := [.int p0]) C [] (c_X5_isCompany _ _ _ _ n p0 h) zn_X5_isCompany (by decide) (by decide) hz0 q_192 q_193 q_2 q_194 rfl rfl rfl (zD D_X5_incomeWith_0 1 rfl) (fun r1 => ?_)
  refine z_letg (fun K21 => zJ B Z (zEnd B Z (fun u : Int32 × zH => (some (Value.int u.1), u.2)) 0 0) (K21) 21 [] [] h (z00 Z)) ?_ (fun K21 hK21 => ?_)
  · exact z_none
  refine z_if_eq (pc := 4) C (zD D_X5_incomeWith_0 2 rfl) (tgt := 21) (by decide) (fun _ => ?_) (fun _ => ?_)
  · refine z_sub [] (lv' := []) rfl ?_
    exact hK21
  · refine z_iload_n (pc := 7) C (zD D_X5_incomeWith_0 3 rfl) rfl 2 rfl ?_
    refine z_csR (pc := 8) (As := [.int p1]) C [] (c_X5_isTown _ _ _ _ n p1 h) zn_X5_isTown (by decide) (by decide) hz0 q_255 q_256 q_2 q_257 rfl rfl rfl (zD D_X5_incomeWith_0 4 rfl) (fun r8 => ?_)
    refine z_if_eq (pc := 11) C (zD D_X5_incomeWith_0 5 rfl) (tgt := 21) (by decide) (fun _ => ?_) (fun _ => ?_)
    · refine z_sub [] (lv' := []) rfl ?_
      exact hK21
    · refine z_iload_n (pc := 14) C (zD D_X5_incomeWith_0 6 rfl) rfl 3 rfl ?_
      refine z_csR (pc := 15) (As := [.int p2]) C [] (c_X5_isTown _ _ _ _ n p2 h) zn_X5_isTown (by decide) (by decide) hz0 q_255 q_256 q_2 q_257 rfl rfl rfl (zD D_X5_incomeWith_0 7 rfl) (fun r15 => ?_)
      refine z_if_ne (pc := 18) C (zD D_X5_incomeWith_0 8 rfl) (tgt := 29) (by decide) (fun _ => ?_) (fun _ => ?_)
      · refine z_iload_n (pc := 29) C (zD D_X5_incomeWith_0 13 rfl) rfl 2 rfl ?_
        refine z_iload_n (pc := 30) C (zD D_X5_incomeWith_0 14 rfl) rfl 3 rfl ?_
        refine z_icmp_ne (pc := 31) C (zD D_X5_incomeWith_0 15 rfl) (tgt := 42) (by decide) (fun _ => ?_) (fun _ => ?_)
        · refine z_aload_n (pc := 42) C (zD D_X5_incomeWith_0 20 rfl) rfl 0 rfl ?_
          refine z_getR (pc := 43) C zc5 0 (by decide) q_17 (zD D_X5_incomeWith_0 21 rfl) (fun v43 => ?_)
          refine z_getR (pc := 46) C zc1 2 (by decide) q_168 (zD D_X5_incomeWith_0 22 rfl) (fun v46 => ?_)
          refine z_iload_n (pc := 49) C (zD D_X5_incomeWith_0 23 rfl) rfl 1 rfl ?_
          refine z_arload (pc := 50) C (c := 3) (by decide) rfl (zD D_X5_incomeWith_0 24 rfl) (fun v50 => ?_)
          refine z_astore (pc := 51) (lv' := [(4, .ref (B + v50)), (0, .ref (B + this)), (1, .int p0), (2, .int p1), (3, .int p2)]) C (zD D_X5_incomeWith_0 25 rfl) (by decide) rfl ?_
          refine z_aload (pc := 53) C (zD D_X5_incomeWith_0 26 rfl) 0 rfl ?_
          refine z_getI (pc := 55) C zc0 1 (by decide) q_191 (zD D_X5_incomeWith_0 27 rfl) (fun v55 => ?_)
          refine z_if_eq (pc := 58) C (zD D_X5_incomeWith_0 28 rfl) (tgt := 79) (by decide) (fun _ => ?_) (fun _ => ?_)
          · refine z_iconst (pc := 79) (v := -1) C (zD D_X5_incomeWith_0 39 rfl) (by decide) ?_
            exact z_iret (pc := 80) C hr rfl (zD D_X5_incomeWith_0 40 rfl)
          · refine z_aload_n (pc := 61) C (zD D_X5_incomeWith_0 29 rfl) rfl 1 rfl ?_
            refine z_getR (pc := 62) C zc5 0 (by decide) q_17 (zD D_X5_incomeWith_0 30 rfl) (fun v62 => ?_)
            refine z_getR (pc := 65) C zc1 1 (by decide) q_253 (zD D_X5_incomeWith_0 31 rfl) (fun v65 => ?_)
            refine z_getR (pc := 68) C zc2 1 (by decide) q_254 (zD D_X5_incomeWith_0 32 rfl) (fun v68 => ?_)
            refine z_iload_n (pc := 71) C (zD D_X5_incomeWith_0 33 rfl) rfl 3 rfl ?_
            refine z_arload (pc := 72) C (c := 2) (by decide) rfl (zD D_X5_incomeWith_0 34 rfl) (fun v72 => ?_)
            refine z_iload_n (pc := 73) C (zD D_X5_incomeWith_0 35 rfl) rfl 4 rfl ?_
            refine z_aiload (pc := 74) C (zD D_X5_incomeWith_0 36 rfl) (fun v74 => ?_)
            refine z_iconst (pc := 75) (v := 2) C (zD D_X5_incomeWith_0 37 rfl) (by decide) ?_
            refine z_icmp_lt (pc := 76) C (zD D_X5_incomeWith_0 38 rfl) (tgt := 81) (by decide) (fun _ => ?_) (fun _ => ?_)
            · refine z_aload_n (pc := 81) C (zD D_X5_incomeWith_0 41 rfl) rfl 1 rfl ?_
              refine z_getR (pc := 82) C zc5 0 (by decide) q_17 (zD D_X5_incomeWith_0 42 rfl) (fun v82 => ?_)
              refine z_aload (pc := 85) C (zD D_X5_incomeWith_0 43 rfl) 0 rfl ?_
              refine z_iload_n (pc := 87) C (zD D_X5_incomeWith_0 44 rfl) rfl 3 rfl ?_
              refine z_iload_n (pc := 88) C (zD D_X5_incomeWith_0 45 rfl) rfl 4 rfl ?_
              refine z_cvI (pc := 89) (As := [.ref (B + v50), .int p1, .int p2]) C [] (c_X1_incomeIfRaised _ _ _ _ n v82 v50 p1 p2 h) zn_X1_incomeIfRaised (by decide) (by decide) hz0 zc1 rfl q_482 q_483 q_484 q_16 q_485 rfl rfl rfl (zD D_X5_incomeWith_0 46 rfl) (fun r89 h89 => ?_)
              exact z_iret (pc := 92) C hr rfl (zD D_X5_incomeWith_0 47 rfl)
            · refine z_iconst (pc := 79) (v := -1) C (zD D_X5_incomeWith_0 39 rfl) (by decide) ?_
              exact z_iret (pc := 80) C hr rfl (zD D_X5_incomeWith_0 40 rfl)
        · exact z_none
      · refine z_sub [] (lv' := []) rfl ?_
        exact hK21
def f_X5_incomeWith (n : Nat) (this : Nat) (p0 : Int32) (p1 : Int32) (p2 : Int32) (h : zH) : Option (zO2) := (f_X5_isCompany n p0 h).bind fun (r1 : Int32) => zlet (some (.inl 1, h)) fun K21 => if r1 = 0 then (K21) else ((f_X5_isTown n p1 h).bind fun (r8 : Int32) => if r8 = 0 then (K21) else ((f_X5_isTown n p2 h).bind fun (r15 : Int32) => if r15 = 0 then (K21) else (if p1 = p2 then (some (.inl 0, h)) else ((zgR h this 5 0).bind fun (v43 : Nat) => (zgR h v43 1 2).bind fun (v46 : Nat) => (zar h v46 3 p0).bind fun (v50 : Nat) => (zgI h v50 0 1).bind fun (v55 : Int32) => if v55 = 0 then (some (.inr (-1 : Int32), h)) else ((zgR h this 5 0).bind fun (v62 : Nat) => (zgR h v62 1 1).bind fun (v65 : Nat) => (zgR h v65 2 1).bind fun (v68 : Nat) => (zar h v68 2 p1).bind fun (v72 : Nat) => (zai h v72 p2).bind fun (v74 : Int32) => if v74 < (2 : Int32) then ((zgR h this 5 0).bind fun (v82 : Nat) => zrc h v82 1 <| zb2 (f_X1_incomeIfRaised n v82 v50 p1 p2 h) fun (r89 : Int32) (h89 : zH) => some (.inr r89, h89)) else (some (.inr (-1 : Int32), h)))))))
theorem zn_X5_incomeWith : zNm yX5_incomeWith 3 := ⟨by decide +kernel, by decide +kernel⟩
set_option maxRecDepth 100000 in
set_option maxHeartbeats 4000000 in
theorem c_X5_incomeWith (l : Launch) (hl : l.stackTraces = false) (B : Nat) (D : va_G) (cA : Nat → ClassId) (n : Nat) (this : Nat) (p0 : Int32) (p1 : Int32) (p2 : Int32) (h : zH) : ∀ u, f_X5_incomeWith n this p0 p1 p2 h = some u → zMx l B D cA yX5_incomeWith cX5_incomeWith 5 (some .int) 13 [.ref (B + this), .int p0, .int p1, .int p2] h u := by
  unfold f_X5_incomeWith
  refine z_metx (own := RX5) hl rfl (by decide) rfl (fun Z C hr hlz hnt => ?_)
  have hz0 : (z00 Z).1 ≤ 1 ∧ (z00 Z).2.1 ≤ 6 := ⟨Nat.zero_le 1, Nat.zero_le 6⟩
  refine z_iload_n (pc := 0) C (zD D_X5_incomeWith_0 0 rfl) rfl 1 rfl ?_
  refine z_csR (pc := 1) (As := [.int p0]) C [] (c_X5_isCompany _ _ _ _ n p0 h) zn_X5_isCompany (by decide) (by decide) hz0 q_192 q_193 q_2 q_194 rfl rfl rfl (zD D_X5_incomeWith_0 1 rfl) (fun r1 => ?_)
  refine z_letg (fun K21 => zJ B Z (zEndx B Z) (K21) 21 [] [] h (z00 Z)) ?_ (fun K21 hK21 => ?_)
  · exact z_throw (pc := 21) zt_1 C hlz hnt (by decide) rfl (zD D_X5_incomeWith_0 9 rfl) (zD D_X5_incomeWith_0 10 rfl) (zD D_X5_incomeWith_0 11 rfl) (zD D_X5_incomeWith_0 12 rfl)
  refine z_if_eq (pc := 4) C (zD D_X5_incomeWith_0 2 rfl) (tgt := 21) (by decide) (fun _ => ?_) (fun _ => ?_)
  · refine z_sub [] (lv' := []) rfl ?_
    exact hK21
  · refine z_iload_n (pc := 7) C (zD D_X5_incomeWith_0 3 rfl) rfl 2 rfl ?_
    refine z_csR (pc := 8) (As := [.int p1]) C [] (c_X5_isTown _ _ _ _ n p1 h) zn_X5_isTown (by decide) (by decide) hz0 q_255 q_256 q_2 q_257 rfl rfl rfl (zD D_X5_incomeWith_0 4 rfl) (fun r8 => ?_)
    refine z_if_eq (pc := 11) C (zD D_X5_incomeWith_0 5 rfl) (tgt := 21) (by decide) (fun _ => ?_) (fun _ => ?_)
    · refine z_sub [] (lv' := []) rfl ?_
      exact hK21
    · refine z_iload_n (pc := 14) C (zD D_X5_incomeWith_0 6 rfl) rfl 3 rfl ?_
      refine z_csR (pc := 15) (As := [.int p2]) C [] (c_X5_isTown _ _ _ _ n p2 h) zn_X5_isTown (by decide) (by decide) hz0 q_255 q_256 q_2 q_257 rfl rfl rfl (zD D_X5_incomeWith_0 7 rfl) (fun r15 => ?_)
      refine z_if_ne (pc := 18) C (zD D_X5_incomeWith_0 8 rfl) (tgt := 29) (by decide) (fun _ => ?_) (fun _ => ?_)
      · refine z_iload_n (pc := 29) C (zD D_X5_incomeWith_0 13 rfl) rfl 2 rfl ?_
        refine z_iload_n (pc := 30) C (zD D_X5_incomeWith_0 14 rfl) rfl 3 rfl ?_
        refine z_icmp_ne (pc := 31) C (zD D_X5_incomeWith_0 15 rfl) (tgt := 42) (by decide) (fun _ => ?_) (fun _ => ?_)
        · refine z_aload_n (pc := 42) C (zD D_X5_incomeWith_0 20 rfl) rfl 0 rfl ?_
          refine z_getR (pc := 43) C zc5 0 (by decide) q_17 (zD D_X5_incomeWith_0 21 rfl) (fun v43 => ?_)
          refine z_getR (pc := 46) C zc1 2 (by decide) q_168 (zD D_X5_incomeWith_0 22 rfl) (fun v46 => ?_)
          refine z_iload_n (pc := 49) C (zD D_X5_incomeWith_0 23 rfl) rfl 1 rfl ?_
          refine z_arload (pc := 50) C (c := 3) (by decide) rfl (zD D_X5_incomeWith_0 24 rfl) (fun v50 => ?_)
          refine z_astore (pc := 51) (lv' := [(4, .ref (B + v50)), (0, .ref (B + this)), (1, .int p0), (2, .int p1), (3, .int p2)]) C (zD D_X5_incomeWith_0 25 rfl) (by decide) rfl ?_
          refine z_aload (pc := 53) C (zD D_X5_incomeWith_0 26 rfl) 0 rfl ?_
          refine z_getI (pc := 55) C zc0 1 (by decide) q_191 (zD D_X5_incomeWith_0 27 rfl) (fun v55 => ?_)
          refine z_if_eq (pc := 58) C (zD D_X5_incomeWith_0 28 rfl) (tgt := 79) (by decide) (fun _ => ?_) (fun _ => ?_)
          · refine z_iconst (pc := 79) (v := -1) C (zD D_X5_incomeWith_0 39 rfl) (by decide) ?_
            exact z_xret (pc := 80) C hr (zD D_X5_incomeWith_0 40 rfl)
          · refine z_aload_n (pc := 61) C (zD D_X5_incomeWith_0 29 rfl) rfl 1 rfl ?_
            refine z_getR (pc := 62) C zc5 0 (by decide) q_17 (zD D_X5_incomeWith_0 30 rfl) (fun v62 => ?_)
            refine z_getR (pc := 65) C zc1 1 (by decide) q_253 (zD D_X5_incomeWith_0 31 rfl) (fun v65 => ?_)
            refine z_getR (pc := 68) C zc2 1 (by decide) q_254 (zD D_X5_incomeWith_0 32 rfl) (fun v68 => ?_)
            refine z_iload_n (pc := 71) C (zD D_X5_incomeWith_0 33 rfl) rfl 3 rfl ?_
            refine z_arload (pc := 72) C (c := 2) (by decide) rfl (zD D_X5_incomeWith_0 34 rfl) (fun v72 => ?_)
            refine z_iload_n (pc := 73) C (zD D_X5_incomeWith_0 35 rfl) rfl 4 rfl ?_
            refine z_aiload (pc := 74) C (zD D_X5_incomeWith_0 36 rfl) (fun v74 => ?_)
            refine z_iconst (pc := 75) (v := 2) C (zD D_X5_incomeWith_0 37 rfl) (by decide) ?_
            refine z_icmp_lt (pc := 76) C (zD D_X5_incomeWith_0 38 rfl) (tgt := 81) (by decide) (fun _ => ?_) (fun _ => ?_)
            · refine z_aload_n (pc := 81) C (zD D_X5_incomeWith_0 41 rfl) rfl 1 rfl ?_
              refine z_getR (pc := 82) C zc5 0 (by decide) q_17 (zD D_X5_incomeWith_0 42 rfl) (fun v82 => ?_)
              refine z_aload (pc := 85) C (zD D_X5_incomeWith_0 43 rfl) 0 rfl ?_
              refine z_iload_n (pc := 87) C (zD D_X5_incomeWith_0 44 rfl) rfl 3 rfl ?_
              refine z_iload_n (pc := 88) C (zD D_X5_incomeWith_0 45 rfl) rfl 4 rfl ?_
              refine z_cvI (pc := 89) (As := [.ref (B + v50), .int p1, .int p2]) C [] (c_X1_incomeIfRaised _ _ _ _ n v82 v50 p1 p2 h) zn_X1_incomeIfRaised (by decide) (by decide) hz0 zc1 rfl q_482 q_483 q_484 q_16 q_485 rfl rfl rfl (zD D_X5_incomeWith_0 46 rfl) (fun r89 h89 => ?_)
              exact z_xret (pc := 92) C hr (zD D_X5_incomeWith_0 47 rfl)
            · refine z_iconst (pc := 79) (v := -1) C (zD D_X5_incomeWith_0 39 rfl) (by decide) ?_
              exact z_xret (pc := 80) C hr (zD D_X5_incomeWith_0 40 rfl)
        · exact z_throw (pc := 34) zt_0 C hlz hnt (by decide) rfl (zD D_X5_incomeWith_0 16 rfl) (zD D_X5_incomeWith_0 17 rfl) (zD D_X5_incomeWith_0 18 rfl) (zD D_X5_incomeWith_0 19 rfl)
      · refine z_sub [] (lv' := []) rfl ?_
        exact hK21
def f_X5_operate (n : Nat) (this : Nat) (p0 : Int32) (p1 : Int32) (p2 : Int32) (h : zH) : Option (zO2) := zlet (fun (s0_15 : Int32) => zlet (zlet ((zgR h this 5 0).bind fun (v63 : Nat) => zrc h v63 1 <| zb2 (f_X1_canOperate n v63 p0 p1 h) fun (r68 : Int32) (h68 : zH) => if r68 = 0 then (some (.inl 2, h68)) else (zrc h68 this 5 <| (f_X5_saveState n this h68).bind fun (h83 : zH) => (zgR h83 this 5 0).bind fun (v87 : Nat) => zrc h83 v87 1 <| zb2 (f_X1_operateNext n v87 p0 p1 p2 h83) fun (r93 : Int32) (h93 : zH) => some (.inr r93, h93))) fun K62 => if s0_15 = 0 then (K62) else (if p0 = p1 then (some (.inl 0, h)) else (K62))) fun K44 => if s0_15 = 0 then (K44) else ((f_X5_isTown n p0 h).bind fun (r23 : Int32) => zlet (some (.inl 1, h)) fun K36 => if r23 = 0 then (K36) else ((f_X5_isTown n p1 h).bind fun (r30 : Int32) => if r30 = 0 then (K36) else (K44)))) fun K15 => zlet (K15 (1 : Int32)) fun K10 => if p0 = (-1 : Int32) then (if p1 = (-1 : Int32) then (K15 (0 : Int32)) else (K10)) else (K10)
theorem zn_X5_operate : zNm yX5_operate 3 := ⟨by decide +kernel, by decide +kernel⟩
set_option maxRecDepth 100000 in
set_option maxHeartbeats 4000000 in
theorem c_X5_operate (l : Launch) (hl : l.stackTraces = false) (B : Nat) (D : va_G) (cA : Nat → ClassId) (n : Nat) (this : Nat) (p0 : Int32) (p1 : Int32) (p2 : Int32) (h : zH) : ∀ u, f_X5_operate n this p0 p1 p2 h = some u → zMx l B D cA yX5_operate cX5_operate 5 (some .int) 13 [.ref (B + this), .int p0, .int p1, .int p2] h u := by
  unfold f_X5_operate
  refine z_metx (own := RX5) hl rfl (by decide) rfl (fun Z C hr hlz hnt => ?_)
  have hz0 : (z00 Z).1 ≤ 1 ∧ (z00 Z).2.1 ≤ 6 := ⟨Nat.zero_le 1, Nat.zero_le 6⟩
  refine z_iload_n (pc := 0) C (zD D_X5_operate_0 0 rfl) rfl 1 rfl ?_
  refine z_iconst (pc := 1) (v := -1) C (zD D_X5_operate_0 1 rfl) (by decide) ?_
  refine z_letg (fun K15 => ∀ (s0_15 : Int32), zJ B Z (zEndx B Z) (K15 s0_15) 15 [(0, .ref (B + this)), (1, .int p0), (2, .int p1), (3, .int p2)] [.int s0_15] h (z00 Z)) (fun s0_15 => ?_) (fun K15 hK15 => ?_)
  · refine z_istore (pc := 15) (lv' := [(4, .int s0_15), (0, .ref (B + this)), (1, .int p0), (2, .int p1), (3, .int p2)]) C (zD D_X5_operate_0 9 rfl) (by decide) rfl ?_
    refine z_iload (pc := 17) C (zD D_X5_operate_0 10 rfl) 0 rfl ?_
    refine z_letg (fun K44 => zJ B Z (zEndx B Z) (K44) 44 [(0, .ref (B + this)), (1, .int p0), (2, .int p1), (3, .int p2), (4, .int s0_15)] [] h (z00 Z)) ?_ (fun K44 hK44 => ?_)
    · refine z_iload (pc := 44) C (zD D_X5_operate_0 22 rfl) 4 rfl ?_
      refine z_letg (fun K62 => zJ B Z (zEndx B Z) (K62) 62 [(0, .ref (B + this)), (1, .int p0), (2, .int p1), (3, .int p2)] [] h (z00 Z)) ?_ (fun K62 hK62 => ?_)
      · refine z_aload_n (pc := 62) C (zD D_X5_operate_0 31 rfl) rfl 0 rfl ?_
        refine z_getR (pc := 63) C zc5 0 (by decide) q_17 (zD D_X5_operate_0 32 rfl) (fun v63 => ?_)
        refine z_iload_n (pc := 66) C (zD D_X5_operate_0 33 rfl) rfl 1 rfl ?_
        refine z_iload_n (pc := 67) C (zD D_X5_operate_0 34 rfl) rfl 2 rfl ?_
        refine z_cvI (pc := 68) (As := [.int p0, .int p1]) C [] (c_X1_canOperate _ _ _ _ n v63 p0 p1 h) zn_X1_canOperate (by decide) (by decide) hz0 zc1 rfl q_390 q_391 q_392 q_16 q_393 rfl rfl rfl (zD D_X5_operate_0 35 rfl) (fun r68 h68 => ?_)
        refine z_if_ne (pc := 71) C (zD D_X5_operate_0 36 rfl) (tgt := 82) (by decide) (fun _ => ?_) (fun _ => ?_)
        · refine z_aload_n (pc := 82) C (zD D_X5_operate_0 41 rfl) rfl 0 rfl ?_
          refine z_cvV (pc := 83) (As := []) C [] (c_X5_saveState _ _ _ _ n this h68) zn_X5_saveState (by decide) (by decide) hz0 zc5 rfl q_276 q_277 q_278 q_2 q_279 rfl rfl rfl (zD D_X5_operate_0 42 rfl) (fun h83 => ?_)
          refine z_aload_n (pc := 86) C (zD D_X5_operate_0 43 rfl) rfl 0 rfl ?_
          refine z_getR (pc := 87) C zc5 0 (by decide) q_17 (zD D_X5_operate_0 44 rfl) (fun v87 => ?_)
          refine z_iload_n (pc := 90) C (zD D_X5_operate_0 45 rfl) rfl 1 rfl ?_
          refine z_iload_n (pc := 91) C (zD D_X5_operate_0 46 rfl) rfl 2 rfl ?_
          refine z_iload_n (pc := 92) C (zD D_X5_operate_0 47 rfl) rfl 3 rfl ?_
          refine z_cvI (pc := 93) (As := [.int p0, .int p1, .int p2]) C [] (c_X1_operateNext _ _ _ _ n v87 p0 p1 p2 h83) zn_X1_operateNext (by decide) (by decide) hz0 zc1 rfl q_404 q_405 q_406 q_16 q_407 rfl rfl rfl (zD D_X5_operate_0 48 rfl) (fun r93 h93 => ?_)
          exact z_xret (pc := 96) C hr (zD D_X5_operate_0 49 rfl)
        · exact z_throw (pc := 74) zt_2 C hlz hnt (by decide) rfl (zD D_X5_operate_0 37 rfl) (zD D_X5_operate_0 38 rfl) (zD D_X5_operate_0 39 rfl) (zD D_X5_operate_0 40 rfl)
      refine z_if_eq (pc := 46) C (zD D_X5_operate_0 23 rfl) (tgt := 62) (by decide) (fun _ => ?_) (fun _ => ?_)
      · refine z_sub [0, 1, 2, 3] (lv' := [(0, .ref (B + this)), (1, .int p0), (2, .int p1), (3, .int p2)]) rfl ?_
        exact hK62
      · refine z_iload_n (pc := 49) C (zD D_X5_operate_0 24 rfl) rfl 1 rfl ?_
        refine z_iload_n (pc := 50) C (zD D_X5_operate_0 25 rfl) rfl 2 rfl ?_
        refine z_icmp_ne (pc := 51) C (zD D_X5_operate_0 26 rfl) (tgt := 62) (by decide) (fun _ => ?_) (fun _ => ?_)
        · refine z_sub [0, 1, 2, 3] (lv' := [(0, .ref (B + this)), (1, .int p0), (2, .int p1), (3, .int p2)]) rfl ?_
          exact hK62
        · exact z_throw (pc := 54) zt_0 C hlz hnt (by decide) rfl (zD D_X5_operate_0 27 rfl) (zD D_X5_operate_0 28 rfl) (zD D_X5_operate_0 29 rfl) (zD D_X5_operate_0 30 rfl)
    refine z_if_eq (pc := 19) C (zD D_X5_operate_0 11 rfl) (tgt := 44) (by decide) (fun _ => ?_) (fun _ => ?_)
    · refine z_sub [1, 2, 3, 4, 0] (lv' := [(0, .ref (B + this)), (1, .int p0), (2, .int p1), (3, .int p2), (4, .int s0_15)]) rfl ?_
      exact hK44
    · refine z_iload_n (pc := 22) C (zD D_X5_operate_0 12 rfl) rfl 2 rfl ?_
      refine z_csR (pc := 23) (As := [.int p0]) C [] (c_X5_isTown _ _ _ _ n p0 h) zn_X5_isTown (by decide) (by decide) hz0 q_255 q_256 q_2 q_257 rfl rfl rfl (zD D_X5_operate_0 13 rfl) (fun r23 => ?_)
      refine z_letg (fun K36 => zJ B Z (zEndx B Z) (K36) 36 [] [] h (z00 Z)) ?_ (fun K36 hK36 => ?_)
      · exact z_throw (pc := 36) zt_1 C hlz hnt (by decide) rfl (zD D_X5_operate_0 18 rfl) (zD D_X5_operate_0 19 rfl) (zD D_X5_operate_0 20 rfl) (zD D_X5_operate_0 21 rfl)
      refine z_if_eq (pc := 26) C (zD D_X5_operate_0 14 rfl) (tgt := 36) (by decide) (fun _ => ?_) (fun _ => ?_)
      · refine z_sub [] (lv' := []) rfl ?_
        exact hK36
      · refine z_iload_n (pc := 29) C (zD D_X5_operate_0 15 rfl) rfl 3 rfl ?_
        refine z_csR (pc := 30) (As := [.int p1]) C [] (c_X5_isTown _ _ _ _ n p1 h) zn_X5_isTown (by decide) (by decide) hz0 q_255 q_256 q_2 q_257 rfl rfl rfl (zD D_X5_operate_0 16 rfl) (fun r30 => ?_)
        refine z_if_ne (pc := 33) C (zD D_X5_operate_0 17 rfl) (tgt := 44) (by decide) (fun _ => ?_) (fun _ => ?_)
        · refine z_sub [1, 2, 3, 4, 0] (lv' := [(0, .ref (B + this)), (1, .int p0), (2, .int p1), (3, .int p2), (4, .int s0_15)]) rfl ?_
          exact hK44
        · refine z_sub [] (lv' := []) rfl ?_
          exact hK36
  refine z_letg (fun K10 => zJ B Z (zEndx B Z) (K10) 10 [(0, .ref (B + this)), (1, .int p0), (2, .int p1), (3, .int p2)] [] h (z00 Z)) ?_ (fun K10 hK10 => ?_)
  · refine z_iconst (pc := 10) (v := 1) C (zD D_X5_operate_0 6 rfl) (by decide) ?_
    refine z_goto (pc := 11) C (zD D_X5_operate_0 7 rfl) (tgt := 15) (by decide) ?_
    exact hK15 (1 : Int32)
  refine z_icmp_ne (pc := 2) C (zD D_X5_operate_0 2 rfl) (tgt := 10) (by decide) (fun _ => ?_) (fun _ => ?_)
  · exact hK10
  · refine z_iload_n (pc := 5) C (zD D_X5_operate_0 3 rfl) rfl 2 rfl ?_
    refine z_iconst (pc := 6) (v := -1) C (zD D_X5_operate_0 4 rfl) (by decide) ?_
    refine z_icmp_eq (pc := 7) C (zD D_X5_operate_0 5 rfl) (tgt := 14) (by decide) (fun _ => ?_) (fun _ => ?_)
    · refine z_iconst (pc := 14) (v := 0) C (zD D_X5_operate_0 8 rfl) (by decide) ?_
      exact hK15 (0 : Int32)
    · exact hK10
def f_X5_bestTrack' (n : Nat) (this : Nat) (p0 : Int32) (h : zH) : Option (Int32 × zH) := (f_X5_isCompany n p0 h).bind fun (r1 : Int32) => if r1 = 0 then (none) else ((zgR h this 5 0).bind fun (v16 : Nat) => (zgR h this 5 0).bind fun (v20 : Nat) => (zgR h v20 1 2).bind fun (v23 : Nat) => (zar h v23 3 p0).bind fun (v27 : Nat) => zrc h v16 1 <| zb2 (f_X1_bestTrackOf n v16 v27 h) fun (r28 : Int32) (h28 : zH) => some (r28, h28))
set_option maxRecDepth 100000 in
set_option maxHeartbeats 4000000 in
theorem c_X5_bestTrack' (l : Launch) (B : Nat) (D : va_G) (cA : Nat → ClassId) (n : Nat) (this : Nat) (p0 : Int32) (h : zH) : ∀ u, f_X5_bestTrack' n this p0 h = some u → zM l B D cA yX5_bestTrack cX5_bestTrack 2 (some .int) 14 0 0 none [.ref (B + this), .int p0] h ((fun u : Int32 × zH => (some (Value.int u.1), u.2)) u).1 ((fun u : Int32 × zH => (some (Value.int u.1), u.2)) u).2 := by
  unfold f_X5_bestTrack'
  refine z_met (own := RX5) (fun u : Int32 × zH => (some (Value.int u.1), u.2)) rfl (by decide) rfl (fun Z C hr _ _ => ?_)
  have hz0 : (z00 Z).1 ≤ 0 ∧ (z00 Z).2.1 ≤ 0 := ⟨Nat.le_refl 0, Nat.le_refl 0⟩
  refine z_iload_n (pc := 0) C (zD D_X5_bestTrack_0 0 rfl) rfl 1 rfl ?_
  refine z_csR (pc := 1) (As := [.int p0]) C [] (c_X5_isCompany _ _ _ _ n p0 h) zn_X5_isCompany (by decide) (by decide) hz0 q_192 q_193 q_2 q_194 rfl rfl rfl (zD D_X5_bestTrack_0 1 rfl) (fun r1 => ?_)
  refine z_if_ne (pc := 4) C (zD D_X5_bestTrack_0 2 rfl) (tgt := 15) (by decide) (fun _ => ?_) (fun _ => ?_)
  · refine z_aload_n (pc := 15) C (zD D_X5_bestTrack_0 7 rfl) rfl 0 rfl ?_
    refine z_getR (pc := 16) C zc5 0 (by decide) q_17 (zD D_X5_bestTrack_0 8 rfl) (fun v16 => ?_)
    refine z_aload_n (pc := 19) C (zD D_X5_bestTrack_0 9 rfl) rfl 0 rfl ?_
    refine z_getR (pc := 20) C zc5 0 (by decide) q_17 (zD D_X5_bestTrack_0 10 rfl) (fun v20 => ?_)
    refine z_getR (pc := 23) C zc1 2 (by decide) q_168 (zD D_X5_bestTrack_0 11 rfl) (fun v23 => ?_)
    refine z_iload_n (pc := 26) C (zD D_X5_bestTrack_0 12 rfl) rfl 1 rfl ?_
    refine z_arload (pc := 27) C (c := 3) (by decide) rfl (zD D_X5_bestTrack_0 13 rfl) (fun v27 => ?_)
    refine z_cvI (pc := 28) (As := [.ref (B + v27)]) C [] (c_X1_bestTrackOf _ _ _ _ n v16 v27 h) zn_X1_bestTrackOf (by decide) (by decide) hz0 zc1 rfl q_493 q_494 q_495 q_16 q_496 rfl rfl rfl (zD D_X5_bestTrack_0 14 rfl) (fun r28 h28 => ?_)
    exact z_iret (pc := 31) C hr rfl (zD D_X5_bestTrack_0 15 rfl)
  · exact z_none
def f_X5_bestTrack (n : Nat) (this : Nat) (p0 : Int32) (h : zH) : Option (zO2) := (f_X5_isCompany n p0 h).bind fun (r1 : Int32) => if r1 = 0 then (some (.inl 1, h)) else ((zgR h this 5 0).bind fun (v16 : Nat) => (zgR h this 5 0).bind fun (v20 : Nat) => (zgR h v20 1 2).bind fun (v23 : Nat) => (zar h v23 3 p0).bind fun (v27 : Nat) => zrc h v16 1 <| zb2 (f_X1_bestTrackOf n v16 v27 h) fun (r28 : Int32) (h28 : zH) => some (.inr r28, h28))
theorem zn_X5_bestTrack : zNm yX5_bestTrack 1 := ⟨by decide +kernel, by decide +kernel⟩
set_option maxRecDepth 100000 in
set_option maxHeartbeats 4000000 in
theorem c_X5_bestTrack (l : Launch) (hl : l.stackTraces = false) (B : Nat) (D : va_G) (cA : Nat → ClassId) (n : Nat) (this : Nat) (p0 : Int32) (h : zH) : ∀ u, f_X5_bestTrack n this p0 h = some u → zMx l B D cA yX5_bestTrack cX5_bestTrack 2 (some .int) 14 [.ref (B + this), .int p0] h u := by
  unfold f_X5_bestTrack
  refine z_metx (own := RX5) hl rfl (by decide) rfl (fun Z C hr hlz hnt => ?_)
  have hz0 : (z00 Z).1 ≤ 1 ∧ (z00 Z).2.1 ≤ 6 := ⟨Nat.zero_le 1, Nat.zero_le 6⟩
  refine z_iload_n (pc := 0) C (zD D_X5_bestTrack_0 0 rfl) rfl 1 rfl ?_
  refine z_csR (pc := 1) (As := [.int p0]) C [] (c_X5_isCompany _ _ _ _ n p0 h) zn_X5_isCompany (by decide) (by decide) hz0 q_192 q_193 q_2 q_194 rfl rfl rfl (zD D_X5_bestTrack_0 1 rfl) (fun r1 => ?_)
  refine z_if_ne (pc := 4) C (zD D_X5_bestTrack_0 2 rfl) (tgt := 15) (by decide) (fun _ => ?_) (fun _ => ?_)
  · refine z_aload_n (pc := 15) C (zD D_X5_bestTrack_0 7 rfl) rfl 0 rfl ?_
    refine z_getR (pc := 16) C zc5 0 (by decide) q_17 (zD D_X5_bestTrack_0 8 rfl) (fun v16 => ?_)
    refine z_aload_n (pc := 19) C (zD D_X5_bestTrack_0 9 rfl) rfl 0 rfl ?_
    refine z_getR (pc := 20) C zc5 0 (by decide) q_17 (zD D_X5_bestTrack_0 10 rfl) (fun v20 => ?_)
    refine z_getR (pc := 23) C zc1 2 (by decide) q_168 (zD D_X5_bestTrack_0 11 rfl) (fun v23 => ?_)
    refine z_iload_n (pc := 26) C (zD D_X5_bestTrack_0 12 rfl) rfl 1 rfl ?_
    refine z_arload (pc := 27) C (c := 3) (by decide) rfl (zD D_X5_bestTrack_0 13 rfl) (fun v27 => ?_)
    refine z_cvI (pc := 28) (As := [.ref (B + v27)]) C [] (c_X1_bestTrackOf _ _ _ _ n v16 v27 h) zn_X1_bestTrackOf (by decide) (by decide) hz0 zc1 rfl q_493 q_494 q_495 q_16 q_496 rfl rfl rfl (zD D_X5_bestTrack_0 14 rfl) (fun r28 h28 => ?_)
    exact z_xret (pc := 31) C hr (zD D_X5_bestTrack_0 15 rfl)
  · exact z_throw (pc := 7) zt_1 C hlz hnt (by decide) rfl (zD D_X5_bestTrack_0 3 rfl) (zD D_X5_bestTrack_0 4 rfl) (zD D_X5_bestTrack_0 5 rfl) (zD D_X5_bestTrack_0 6 rfl)
