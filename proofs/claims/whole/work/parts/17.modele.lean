def f_X6_takesMove (n : Nat) (this : Nat) (h : zH) : Option (Int32 × zH) := (zgR h this 6 3).bind fun (v2 : Nat) => (zgI h this 6 12).bind fun (v6 : Int32) => (zai h v2 v6).bind fun (v9 : Int32) => (zp h this 6 13 (.int v9)).bind fun (h10 : zH) => (zp h10 this 6 14 (.int (-1 : Int32))).bind fun (h15 : zH) => (zp h15 this 6 15 (.int (-1 : Int32))).bind fun (h20 : zH) => (zgI h20 this 6 13).bind fun (v24 : Int32) => zlet ((zgI h20 this 6 12).bind fun (v72 : Int32) => (zp h20 this 6 12 (.int (v72 + (1 : Int32)))).bind fun (h77 : zH) => zrc h77 this 6 <| zb2 (f_X6_takesDigits n this h77) fun (r81 : Int32) (h81 : zH) => if r81 = 0 then (some ((0 : Int32), h81)) else ((zgI h81 this 6 12).bind fun (v88 : Int32) => (zgI h81 this 6 4).bind fun (v92 : Int32) => if v88 = v92 then (some ((0 : Int32), h81)) else ((zgR h81 this 6 3).bind fun (v99 : Nat) => (zgI h81 this 6 12).bind fun (v103 : Int32) => (zai h81 v99 v103).bind fun (v106 : Int32) => if v106 = (59 : Int32) then ((zgI h81 this 6 12).bind fun (v116 : Int32) => (zp h81 this 6 12 (.int (v116 + (1 : Int32)))).bind fun (h121 : zH) => some ((1 : Int32), h121)) else (some ((0 : Int32), h81))))) fun K70 => if v24 = (98 : Int32) then (K70) else ((zgI h20 this 6 13).bind fun (v33 : Int32) => if v33 = (120 : Int32) then (K70) else ((zgI h20 this 6 13).bind fun (v42 : Int32) => if v42 = (112 : Int32) then (K70) else ((zgI h20 this 6 13).bind fun (v51 : Int32) => if v51 = (111 : Int32) then (K70) else ((zgI h20 this 6 13).bind fun (v60 : Int32) => if v60 = (107 : Int32) then (K70) else (some ((0 : Int32), h20))))))
theorem zn_X6_takesMove : zNm yX6_takesMove 0 := ⟨by decide +kernel, by decide +kernel⟩
set_option maxRecDepth 100000 in
set_option maxHeartbeats 4000000 in
theorem c_X6_takesMove (l : Launch) (B : Nat) (D : va_G) (cA : Nat → ClassId) (n : Nat) (this : Nat) (h : zH) : ∀ u, f_X6_takesMove n this h = some u → zM l B D cA yX6_takesMove cX6_takesMove 1 (some .boolean) 4 0 0 none [.ref (B + this)] h ((fun u : Int32 × zH => (some (Value.int u.1), u.2)) u).1 ((fun u : Int32 × zH => (some (Value.int u.1), u.2)) u).2 := by
  unfold f_X6_takesMove
  refine z_met (own := RX6) (fun u : Int32 × zH => (some (Value.int u.1), u.2)) rfl (by decide) rfl (fun Z C hr _ _ => ?_)
  have hz0 : (z00 Z).1 ≤ 0 ∧ (z00 Z).2.1 ≤ 0 := ⟨Nat.le_refl 0, Nat.le_refl 0⟩
  refine z_aload_n (pc := 0) C (zD D_X6_takesMove_0 0 rfl) rfl 0 rfl ?_
  refine z_aload_n (pc := 1) C (zD D_X6_takesMove_0 1 rfl) rfl 0 rfl ?_
  refine z_getR (pc := 2) C zc6 3 (by decide) q_104 (zD D_X6_takesMove_0 2 rfl) (fun v2 => ?_)
  refine z_aload_n (pc := 5) C (zD D_X6_takesMove_0 3 rfl) rfl 0 rfl ?_
  refine z_getI (pc := 6) C zc6 12 (by decide) q_910 (zD D_X6_takesMove_0 4 rfl) (fun v6 => ?_)
  refine z_aiload (pc := 9) C (zD D_X6_takesMove_0 5 rfl) (fun v9 => ?_)
  refine z_putI (pc := 10) C zc6 13 (by decide) q_915 rfl rfl (zD D_X6_takesMove_0 6 rfl) (fun h10 => ?_)
  refine z_aload_n (pc := 13) C (zD D_X6_takesMove_0 7 rfl) rfl 0 rfl ?_
  refine z_iconst (pc := 14) (v := -1) C (zD D_X6_takesMove_0 8 rfl) (by decide) ?_
  refine z_putI (pc := 15) C zc6 14 (by decide) q_916 rfl rfl (zD D_X6_takesMove_0 9 rfl) (fun h15 => ?_)
  refine z_aload_n (pc := 18) C (zD D_X6_takesMove_0 10 rfl) rfl 0 rfl ?_
  refine z_iconst (pc := 19) (v := -1) C (zD D_X6_takesMove_0 11 rfl) (by decide) ?_
  refine z_putI (pc := 20) C zc6 15 (by decide) q_917 rfl rfl (zD D_X6_takesMove_0 12 rfl) (fun h20 => ?_)
  refine z_aload_n (pc := 23) C (zD D_X6_takesMove_0 13 rfl) rfl 0 rfl ?_
  refine z_getI (pc := 24) C zc6 13 (by decide) q_915 (zD D_X6_takesMove_0 14 rfl) (fun v24 => ?_)
  refine z_bipush (pc := 27) (v := 98) C (zD D_X6_takesMove_0 15 rfl) (by decide) ?_
  refine z_letg (fun K70 => zJ B Z (zEnd B Z (fun u : Int32 × zH => (some (Value.int u.1), u.2)) 0 0) (K70) 70 [(0, .ref (B + this))] [] h20 (z00 Z)) ?_ (fun K70 hK70 => ?_)
  · refine z_aload_n (pc := 70) C (zD D_X6_takesMove_0 35 rfl) rfl 0 rfl ?_
    refine z_dup (pc := 71) C (zD D_X6_takesMove_0 36 rfl) rfl ?_
    refine z_getI (pc := 72) C zc6 12 (by decide) q_910 (zD D_X6_takesMove_0 37 rfl) (fun v72 => ?_)
    refine z_iconst (pc := 75) (v := 1) C (zD D_X6_takesMove_0 38 rfl) (by decide) ?_
    refine z_iadd (pc := 76) C (zD D_X6_takesMove_0 39 rfl) ?_
    refine z_putI (pc := 77) C zc6 12 (by decide) q_910 rfl rfl (zD D_X6_takesMove_0 40 rfl) (fun h77 => ?_)
    refine z_aload_n (pc := 80) C (zD D_X6_takesMove_0 41 rfl) rfl 0 rfl ?_
    refine z_cvI (pc := 81) (As := []) C [] (c_X6_takesDigits _ _ _ _ n this h77) zn_X6_takesDigits (by decide) (by decide) hz0 zc6 rfl q_918 q_919 q_920 q_5 q_921 rfl rfl rfl (zD D_X6_takesMove_0 42 rfl) (fun r81 h81 => ?_)
    refine z_if_eq (pc := 84) C (zD D_X6_takesMove_0 43 rfl) (tgt := 112) (by decide) (fun _ => ?_) (fun _ => ?_)
    · refine z_iconst (pc := 112) (v := 0) C (zD D_X6_takesMove_0 56 rfl) (by decide) ?_
      exact z_zret (pc := 113) C hr (by decide) rfl (zD D_X6_takesMove_0 57 rfl)
    · refine z_aload_n (pc := 87) C (zD D_X6_takesMove_0 44 rfl) rfl 0 rfl ?_
      refine z_getI (pc := 88) C zc6 12 (by decide) q_910 (zD D_X6_takesMove_0 45 rfl) (fun v88 => ?_)
      refine z_aload_n (pc := 91) C (zD D_X6_takesMove_0 46 rfl) rfl 0 rfl ?_
      refine z_getI (pc := 92) C zc6 4 (by decide) q_863 (zD D_X6_takesMove_0 47 rfl) (fun v92 => ?_)
      refine z_icmp_eq (pc := 95) C (zD D_X6_takesMove_0 48 rfl) (tgt := 112) (by decide) (fun _ => ?_) (fun _ => ?_)
      · refine z_iconst (pc := 112) (v := 0) C (zD D_X6_takesMove_0 56 rfl) (by decide) ?_
        exact z_zret (pc := 113) C hr (by decide) rfl (zD D_X6_takesMove_0 57 rfl)
      · refine z_aload_n (pc := 98) C (zD D_X6_takesMove_0 49 rfl) rfl 0 rfl ?_
        refine z_getR (pc := 99) C zc6 3 (by decide) q_104 (zD D_X6_takesMove_0 50 rfl) (fun v99 => ?_)
        refine z_aload_n (pc := 102) C (zD D_X6_takesMove_0 51 rfl) rfl 0 rfl ?_
        refine z_getI (pc := 103) C zc6 12 (by decide) q_910 (zD D_X6_takesMove_0 52 rfl) (fun v103 => ?_)
        refine z_aiload (pc := 106) C (zD D_X6_takesMove_0 53 rfl) (fun v106 => ?_)
        refine z_bipush (pc := 107) (v := 59) C (zD D_X6_takesMove_0 54 rfl) (by decide) ?_
        refine z_icmp_eq (pc := 109) C (zD D_X6_takesMove_0 55 rfl) (tgt := 114) (by decide) (fun _ => ?_) (fun _ => ?_)
        · refine z_aload_n (pc := 114) C (zD D_X6_takesMove_0 58 rfl) rfl 0 rfl ?_
          refine z_dup (pc := 115) C (zD D_X6_takesMove_0 59 rfl) rfl ?_
          refine z_getI (pc := 116) C zc6 12 (by decide) q_910 (zD D_X6_takesMove_1 0 rfl) (fun v116 => ?_)
          refine z_iconst (pc := 119) (v := 1) C (zD D_X6_takesMove_1 1 rfl) (by decide) ?_
          refine z_iadd (pc := 120) C (zD D_X6_takesMove_1 2 rfl) ?_
          refine z_putI (pc := 121) C zc6 12 (by decide) q_910 rfl rfl (zD D_X6_takesMove_1 3 rfl) (fun h121 => ?_)
          refine z_iconst (pc := 124) (v := 1) C (zD D_X6_takesMove_1 4 rfl) (by decide) ?_
          exact z_zret (pc := 125) C hr (by decide) rfl (zD D_X6_takesMove_1 5 rfl)
        · refine z_iconst (pc := 112) (v := 0) C (zD D_X6_takesMove_0 56 rfl) (by decide) ?_
          exact z_zret (pc := 113) C hr (by decide) rfl (zD D_X6_takesMove_0 57 rfl)
  refine z_icmp_eq (pc := 29) C (zD D_X6_takesMove_0 16 rfl) (tgt := 70) (by decide) (fun _ => ?_) (fun _ => ?_)
  · exact hK70
  · refine z_aload_n (pc := 32) C (zD D_X6_takesMove_0 17 rfl) rfl 0 rfl ?_
    refine z_getI (pc := 33) C zc6 13 (by decide) q_915 (zD D_X6_takesMove_0 18 rfl) (fun v33 => ?_)
    refine z_bipush (pc := 36) (v := 120) C (zD D_X6_takesMove_0 19 rfl) (by decide) ?_
    refine z_icmp_eq (pc := 38) C (zD D_X6_takesMove_0 20 rfl) (tgt := 70) (by decide) (fun _ => ?_) (fun _ => ?_)
    · exact hK70
    · refine z_aload_n (pc := 41) C (zD D_X6_takesMove_0 21 rfl) rfl 0 rfl ?_
      refine z_getI (pc := 42) C zc6 13 (by decide) q_915 (zD D_X6_takesMove_0 22 rfl) (fun v42 => ?_)
      refine z_bipush (pc := 45) (v := 112) C (zD D_X6_takesMove_0 23 rfl) (by decide) ?_
      refine z_icmp_eq (pc := 47) C (zD D_X6_takesMove_0 24 rfl) (tgt := 70) (by decide) (fun _ => ?_) (fun _ => ?_)
      · exact hK70
      · refine z_aload_n (pc := 50) C (zD D_X6_takesMove_0 25 rfl) rfl 0 rfl ?_
        refine z_getI (pc := 51) C zc6 13 (by decide) q_915 (zD D_X6_takesMove_0 26 rfl) (fun v51 => ?_)
        refine z_bipush (pc := 54) (v := 111) C (zD D_X6_takesMove_0 27 rfl) (by decide) ?_
        refine z_icmp_eq (pc := 56) C (zD D_X6_takesMove_0 28 rfl) (tgt := 70) (by decide) (fun _ => ?_) (fun _ => ?_)
        · exact hK70
        · refine z_aload_n (pc := 59) C (zD D_X6_takesMove_0 29 rfl) rfl 0 rfl ?_
          refine z_getI (pc := 60) C zc6 13 (by decide) q_915 (zD D_X6_takesMove_0 30 rfl) (fun v60 => ?_)
          refine z_bipush (pc := 63) (v := 107) C (zD D_X6_takesMove_0 31 rfl) (by decide) ?_
          refine z_icmp_eq (pc := 65) C (zD D_X6_takesMove_0 32 rfl) (tgt := 70) (by decide) (fun _ => ?_) (fun _ => ?_)
          · exact hK70
          · refine z_iconst (pc := 68) (v := 0) C (zD D_X6_takesMove_0 33 rfl) (by decide) ?_
            exact z_zret (pc := 69) C hr (by decide) rfl (zD D_X6_takesMove_0 34 rfl)
def f_X6_tellPlayer (n : Nat) (this : Nat) (p0 : Int32) (p1 : Int32) (h : zH) : Option (Int32) := if p1 = 0 then ((zgR h this 6 0).bind fun (v5 : Nat) => (zai h v5 ((14 : Int32) + p0)).bind fun (v12 : Int32) => some v12) else (if (5 : Int32) ≤ p1 then (if p1 = (5 : Int32) then (zrc h this 6 <| (f_X6_worth n this p0 h).bind fun (r39 : Int32) => some r39) else (zrc h this 6 <| (f_X6_presidencies n this p0 h).bind fun (r47 : Int32) => some r47)) else (zrc h this 6 <| (f_X6_shares n this p0 (p1 - (1 : Int32)) h).bind fun (r26 : Int32) => some r26))
theorem zn_X6_tellPlayer : zNm yX6_tellPlayer 2 := ⟨by decide +kernel, by decide +kernel⟩
set_option maxRecDepth 100000 in
set_option maxHeartbeats 4000000 in
theorem c_X6_tellPlayer (l : Launch) (B : Nat) (D : va_G) (cA : Nat → ClassId) (n : Nat) (this : Nat) (p0 : Int32) (p1 : Int32) (h : zH) : ∀ u, f_X6_tellPlayer n this p0 p1 h = some u → zM l B D cA yX6_tellPlayer cX6_tellPlayer 3 (some .int) 4 0 0 none [.ref (B + this), .int p0, .int p1] h ((fun r : Int32 => (some (Value.int r), h)) u).1 ((fun r : Int32 => (some (Value.int r), h)) u).2 := by
  unfold f_X6_tellPlayer
  refine z_met (own := RX6) (fun r : Int32 => (some (Value.int r), h)) rfl (by decide) rfl (fun Z C hr _ _ => ?_)
  have hz0 : (z00 Z).1 ≤ 0 ∧ (z00 Z).2.1 ≤ 0 := ⟨Nat.le_refl 0, Nat.le_refl 0⟩
  refine z_iload_n (pc := 0) C (zD D_X6_tellPlayer_0 0 rfl) rfl 2 rfl ?_
  refine z_if_ne (pc := 1) C (zD D_X6_tellPlayer_0 1 rfl) (tgt := 16) (by decide) (fun _ => ?_) (fun _ => ?_)
  · refine z_iload_n (pc := 16) C (zD D_X6_tellPlayer_0 9 rfl) rfl 2 rfl ?_
    refine z_iconst (pc := 17) (v := 5) C (zD D_X6_tellPlayer_0 10 rfl) (by decide) ?_
    refine z_icmp_ge (pc := 18) C (zD D_X6_tellPlayer_0 11 rfl) (tgt := 32) (by decide) (fun _ => ?_) (fun _ => ?_)
    · refine z_iload_n (pc := 32) C (zD D_X6_tellPlayer_0 19 rfl) rfl 2 rfl ?_
      refine z_iconst (pc := 33) (v := 5) C (zD D_X6_tellPlayer_0 20 rfl) (by decide) ?_
      refine z_icmp_ne (pc := 34) C (zD D_X6_tellPlayer_0 21 rfl) (tgt := 45) (by decide) (fun _ => ?_) (fun _ => ?_)
      · refine z_aload_n (pc := 45) C (zD D_X6_tellPlayer_0 26 rfl) rfl 0 rfl ?_
        refine z_iload_n (pc := 46) C (zD D_X6_tellPlayer_0 27 rfl) rfl 1 rfl ?_
        refine z_cvR (pc := 47) (As := [.int p0]) C [] (c_X6_presidencies _ _ _ _ n this p0 h) zn_X6_presidencies (by decide) (by decide) hz0 zc6 rfl q_675 q_676 q_677 q_5 q_678 rfl rfl rfl (zD D_X6_tellPlayer_0 28 rfl) (fun r47 => ?_)
        exact z_iret (pc := 50) C hr rfl (zD D_X6_tellPlayer_0 29 rfl)
      · refine z_aload_n (pc := 37) C (zD D_X6_tellPlayer_0 22 rfl) rfl 0 rfl ?_
        refine z_iload_n (pc := 38) C (zD D_X6_tellPlayer_0 23 rfl) rfl 1 rfl ?_
        refine z_cvR (pc := 39) (As := [.int p0]) C [] (c_X6_worth _ _ _ _ n this p0 h) zn_X6_worth (by decide) (by decide) hz0 zc6 rfl q_671 q_672 q_673 q_5 q_674 rfl rfl rfl (zD D_X6_tellPlayer_0 24 rfl) (fun r39 => ?_)
        refine z_goto (pc := 42) C (zD D_X6_tellPlayer_0 25 rfl) (tgt := 50) (by decide) ?_
        exact z_iret (pc := 50) C hr rfl (zD D_X6_tellPlayer_0 29 rfl)
    · refine z_aload_n (pc := 21) C (zD D_X6_tellPlayer_0 12 rfl) rfl 0 rfl ?_
      refine z_iload_n (pc := 22) C (zD D_X6_tellPlayer_0 13 rfl) rfl 1 rfl ?_
      refine z_iload_n (pc := 23) C (zD D_X6_tellPlayer_0 14 rfl) rfl 2 rfl ?_
      refine z_iconst (pc := 24) (v := 1) C (zD D_X6_tellPlayer_0 15 rfl) (by decide) ?_
      refine z_isub (pc := 25) C (zD D_X6_tellPlayer_0 16 rfl) ?_
      refine z_cvR (pc := 26) (As := [.int p0, .int (p1 - (1 : Int32))]) C [] (c_X6_shares _ _ _ _ n this p0 (p1 - (1 : Int32)) h) zn_X6_shares (by decide) (by decide) hz0 zc6 rfl q_284 q_285 q_286 q_5 q_287 rfl rfl rfl (zD D_X6_tellPlayer_0 17 rfl) (fun r26 => ?_)
      refine z_goto (pc := 29) C (zD D_X6_tellPlayer_0 18 rfl) (tgt := 50) (by decide) ?_
      exact z_iret (pc := 50) C hr rfl (zD D_X6_tellPlayer_0 29 rfl)
  · refine z_aload_n (pc := 4) C (zD D_X6_tellPlayer_0 2 rfl) rfl 0 rfl ?_
    refine z_getR (pc := 5) C zc6 0 (by decide) q_102 (zD D_X6_tellPlayer_0 3 rfl) (fun v5 => ?_)
    refine z_bipush (pc := 8) (v := 14) C (zD D_X6_tellPlayer_0 4 rfl) (by decide) ?_
    refine z_iload_n (pc := 10) C (zD D_X6_tellPlayer_0 5 rfl) rfl 1 rfl ?_
    refine z_iadd (pc := 11) C (zD D_X6_tellPlayer_0 6 rfl) ?_
    refine z_aiload (pc := 12) C (zD D_X6_tellPlayer_0 7 rfl) (fun v12 => ?_)
    refine z_goto (pc := 13) C (zD D_X6_tellPlayer_0 8 rfl) (tgt := 50) (by decide) ?_
    exact z_iret (pc := 50) C hr rfl (zD D_X6_tellPlayer_0 29 rfl)
def f_X6_value (n : Nat) (this : Nat) (p0 : Int32) (h : zH) : Option (Int32 × zH) := (f_X6_in n p0 (0 : Int32) (9 : Int32) h).bind fun (r5 : Int32) => zlet (fun (s0_16 : Int32) => zrc h this 6 <| zb2 (f_X6_refused n this s0_16 h) fun (r16 : Int32) (h16 : zH) => if r16 = 0 then (zrc h16 this 6 <| (f_X6_tellValue n this p0 h16).bind fun (r28 : Int32) => some (r28, h16)) else (some ((0 : Int32), h16))) fun K16 => if r5 = 0 then (K16 (1 : Int32)) else (K16 (0 : Int32))
theorem zn_X6_value : zNm yX6_value 1 := ⟨by decide +kernel, by decide +kernel⟩
set_option maxRecDepth 100000 in
set_option maxHeartbeats 4000000 in
theorem c_X6_value (l : Launch) (B : Nat) (D : va_G) (cA : Nat → ClassId) (n : Nat) (this : Nat) (p0 : Int32) (h : zH) : ∀ u, f_X6_value n this p0 h = some u → zM l B D cA yX6_value cX6_value 2 (some .int) 4 0 0 none [.ref (B + this), .int p0] h ((fun u : Int32 × zH => (some (Value.int u.1), u.2)) u).1 ((fun u : Int32 × zH => (some (Value.int u.1), u.2)) u).2 := by
  unfold f_X6_value
  refine z_met (own := RX6) (fun u : Int32 × zH => (some (Value.int u.1), u.2)) rfl (by decide) rfl (fun Z C hr _ _ => ?_)
  have hz0 : (z00 Z).1 ≤ 0 ∧ (z00 Z).2.1 ≤ 0 := ⟨Nat.le_refl 0, Nat.le_refl 0⟩
  refine z_aload_n (pc := 0) C (zD D_X6_value_0 0 rfl) rfl 0 rfl ?_
  refine z_iload_n (pc := 1) C (zD D_X6_value_0 1 rfl) rfl 1 rfl ?_
  refine z_iconst (pc := 2) (v := 0) C (zD D_X6_value_0 2 rfl) (by decide) ?_
  refine z_bipush (pc := 3) (v := 9) C (zD D_X6_value_0 3 rfl) (by decide) ?_
  refine z_csR (pc := 5) (As := [.int p0, .int (0 : Int32), .int (9 : Int32)]) C [.ref (B + this)] (c_X6_in _ _ _ _ n p0 (0 : Int32) (9 : Int32) h) zn_X6_in (by decide) (by decide) hz0 q_152 q_153 q_5 q_154 rfl rfl rfl (zD D_X6_value_0 4 rfl) (fun r5 => ?_)
  refine z_letg (fun K16 => ∀ (s0_16 : Int32), zJ B Z (zEnd B Z (fun u : Int32 × zH => (some (Value.int u.1), u.2)) 0 0) (K16 s0_16) 16 [(0, .ref (B + this)), (1, .int p0)] [.int s0_16, .ref (B + this)] h (z00 Z)) (fun s0_16 => ?_) (fun K16 hK16 => ?_)
  · refine z_cvI (pc := 16) (As := [.int s0_16]) C [] (c_X6_refused _ _ _ _ n this s0_16 h) zn_X6_refused (by decide) (by decide) hz0 zc6 rfl q_155 q_156 q_157 q_5 q_158 rfl rfl rfl (zD D_X6_value_0 9 rfl) (fun r16 h16 => ?_)
    refine z_if_eq (pc := 19) C (zD D_X6_value_0 10 rfl) (tgt := 26) (by decide) (fun _ => ?_) (fun _ => ?_)
    · refine z_aload_n (pc := 26) C (zD D_X6_value_0 13 rfl) rfl 0 rfl ?_
      refine z_iload_n (pc := 27) C (zD D_X6_value_0 14 rfl) rfl 1 rfl ?_
      refine z_cvR (pc := 28) (As := [.int p0]) C [] (c_X6_tellValue _ _ _ _ n this p0 h16) zn_X6_tellValue (by decide) (by decide) hz0 zc6 rfl q_737 q_738 q_739 q_5 q_740 rfl rfl rfl (zD D_X6_value_0 15 rfl) (fun r28 => ?_)
      exact z_iret (pc := 31) C hr rfl (zD D_X6_value_0 16 rfl)
    · refine z_iconst (pc := 22) (v := 0) C (zD D_X6_value_0 11 rfl) (by decide) ?_
      refine z_goto (pc := 23) C (zD D_X6_value_0 12 rfl) (tgt := 31) (by decide) ?_
      exact z_iret (pc := 31) C hr rfl (zD D_X6_value_0 16 rfl)
  refine z_if_eq (pc := 8) C (zD D_X6_value_0 5 rfl) (tgt := 15) (by decide) (fun _ => ?_) (fun _ => ?_)
  · refine z_iconst (pc := 15) (v := 1) C (zD D_X6_value_0 8 rfl) (by decide) ?_
    exact hK16 (1 : Int32)
  · refine z_iconst (pc := 11) (v := 0) C (zD D_X6_value_0 6 rfl) (by decide) ?_
    refine z_goto (pc := 12) C (zD D_X6_value_0 7 rfl) (tgt := 16) (by decide) ?_
    exact hK16 (0 : Int32)
def f_X6_buy (n : Nat) (this : Nat) (p0 : Int32) (h : zH) : Option (Int32 × zH) := (f_X6_isCompany n p0 h).bind fun (r2 : Int32) => zlet (fun (s0_25 : Int32) => zrc h this 6 <| zb2 (f_X6_refused n this s0_25 h) fun (r25 : Int32) (h25 : zH) => if r25 = 0 then (zrc h25 this 6 <| (f_X6_saves n this h25).bind fun (h34 : zH) => zrc h34 this 6 <| zb2 (f_X6_buys n this p0 h34) fun (r39 : Int32) (h39 : zH) => some (r39, h39)) else (some ((0 : Int32), h25))) fun K25 => if r2 = 0 then (K25 (1 : Int32)) else (zrc h this 6 <| (f_X6_canBuy n this p0 h).bind fun (r14 : Int32) => if r14 = 0 then (K25 (2 : Int32)) else (K25 (0 : Int32)))
theorem zn_X6_buy : zNm yX6_buy 1 := ⟨by decide +kernel, by decide +kernel⟩
set_option maxRecDepth 100000 in
set_option maxHeartbeats 4000000 in
theorem c_X6_buy (l : Launch) (B : Nat) (D : va_G) (cA : Nat → ClassId) (n : Nat) (this : Nat) (p0 : Int32) (h : zH) : ∀ u, f_X6_buy n this p0 h = some u → zM l B D cA yX6_buy cX6_buy 2 (some .int) 5 0 0 none [.ref (B + this), .int p0] h ((fun u : Int32 × zH => (some (Value.int u.1), u.2)) u).1 ((fun u : Int32 × zH => (some (Value.int u.1), u.2)) u).2 := by
  unfold f_X6_buy
  refine z_met (own := RX6) (fun u : Int32 × zH => (some (Value.int u.1), u.2)) rfl (by decide) rfl (fun Z C hr _ _ => ?_)
  have hz0 : (z00 Z).1 ≤ 0 ∧ (z00 Z).2.1 ≤ 0 := ⟨Nat.le_refl 0, Nat.le_refl 0⟩
  refine z_aload_n (pc := 0) C (zD D_X6_buy_0 0 rfl) rfl 0 rfl ?_
  refine z_iload_n (pc := 1) C (zD D_X6_buy_0 1 rfl) rfl 1 rfl ?_
  refine z_csR (pc := 2) (As := [.int p0]) C [.ref (B + this)] (c_X6_isCompany _ _ _ _ n p0 h) zn_X6_isCompany (by decide) (by decide) hz0 q_249 q_250 q_5 q_251 rfl rfl rfl (zD D_X6_buy_0 2 rfl) (fun r2 => ?_)
  refine z_letg (fun K25 => ∀ (s0_25 : Int32), zJ B Z (zEnd B Z (fun u : Int32 × zH => (some (Value.int u.1), u.2)) 0 0) (K25 s0_25) 25 [(0, .ref (B + this)), (1, .int p0)] [.int s0_25, .ref (B + this)] h (z00 Z)) (fun s0_25 => ?_) (fun K25 hK25 => ?_)
  · refine z_cvI (pc := 25) (As := [.int s0_25]) C [] (c_X6_refused _ _ _ _ n this s0_25 h) zn_X6_refused (by decide) (by decide) hz0 zc6 rfl q_155 q_156 q_157 q_5 q_158 rfl rfl rfl (zD D_X6_buy_0 13 rfl) (fun r25 h25 => ?_)
    refine z_if_eq (pc := 28) C (zD D_X6_buy_0 14 rfl) (tgt := 33) (by decide) (fun _ => ?_) (fun _ => ?_)
    · refine z_aload_n (pc := 33) C (zD D_X6_buy_0 17 rfl) rfl 0 rfl ?_
      refine z_cvV (pc := 34) (As := []) C [] (c_X6_saves _ _ _ _ n this h25) zn_X6_saves (by decide) (by decide) hz0 zc6 rfl q_160 q_161 q_162 q_5 q_163 rfl rfl rfl (zD D_X6_buy_0 18 rfl) (fun h34 => ?_)
      refine z_aload_n (pc := 37) C (zD D_X6_buy_0 19 rfl) rfl 0 rfl ?_
      refine z_iload_n (pc := 38) C (zD D_X6_buy_0 20 rfl) rfl 1 rfl ?_
      refine z_cvI (pc := 39) (As := [.int p0]) C [] (c_X6_buys _ _ _ _ n this p0 h34) zn_X6_buys (by decide) (by decide) hz0 zc6 rfl q_331 q_332 q_333 q_5 q_334 rfl rfl rfl (zD D_X6_buy_0 21 rfl) (fun r39 h39 => ?_)
      exact z_iret (pc := 42) C hr rfl (zD D_X6_buy_0 22 rfl)
    · refine z_iconst (pc := 31) (v := 0) C (zD D_X6_buy_0 15 rfl) (by decide) ?_
      exact z_iret (pc := 32) C hr rfl (zD D_X6_buy_0 16 rfl)
  refine z_if_ne (pc := 5) C (zD D_X6_buy_0 3 rfl) (tgt := 12) (by decide) (fun _ => ?_) (fun _ => ?_)
  · refine z_aload_n (pc := 12) C (zD D_X6_buy_0 6 rfl) rfl 0 rfl ?_
    refine z_iload_n (pc := 13) C (zD D_X6_buy_0 7 rfl) rfl 1 rfl ?_
    refine z_cvR (pc := 14) (As := [.int p0]) C [.ref (B + this)] (c_X6_canBuy _ _ _ _ n this p0 h) zn_X6_canBuy (by decide) (by decide) hz0 zc6 rfl q_323 q_324 q_325 q_5 q_326 rfl rfl rfl (zD D_X6_buy_0 8 rfl) (fun r14 => ?_)
    refine z_if_eq (pc := 17) C (zD D_X6_buy_0 9 rfl) (tgt := 24) (by decide) (fun _ => ?_) (fun _ => ?_)
    · refine z_iconst (pc := 24) (v := 2) C (zD D_X6_buy_0 12 rfl) (by decide) ?_
      exact hK25 (2 : Int32)
    · refine z_iconst (pc := 20) (v := 0) C (zD D_X6_buy_0 10 rfl) (by decide) ?_
      refine z_goto (pc := 21) C (zD D_X6_buy_0 11 rfl) (tgt := 25) (by decide) ?_
      exact hK25 (0 : Int32)
  · refine z_iconst (pc := 8) (v := 1) C (zD D_X6_buy_0 4 rfl) (by decide) ?_
    refine z_goto (pc := 9) C (zD D_X6_buy_0 5 rfl) (tgt := 25) (by decide) ?_
    exact hK25 (1 : Int32)
def f_X6_dividend (n : Nat) (this : Nat) (p0 : Int32) (h : zH) : Option (Int32 × zH) := (f_X6_isCompany n p0 h).bind fun (r2 : Int32) => zlet (fun (s0_13 : Int32) => zrc h this 6 <| zb2 (f_X6_refused n this s0_13 h) fun (r13 : Int32) (h13 : zH) => zlet (some ((0 : Int32), h13)) fun K27 => if r13 = 0 then (zrc h13 this 6 <| (f_X6_isOpen n this p0 h13).bind fun (r21 : Int32) => if r21 = 0 then (K27) else (zrc h13 this 6 <| zb2 (f_X6_income n this p0 h13) fun (r33 : Int32) (h33 : zH) => some ((r33 / (10 : Int32)), h33))) else (K27)) fun K13 => if r2 = 0 then (K13 (1 : Int32)) else (K13 (0 : Int32))
theorem zn_X6_dividend : zNm yX6_dividend 1 := ⟨by decide +kernel, by decide +kernel⟩
set_option maxRecDepth 100000 in
set_option maxHeartbeats 4000000 in
theorem c_X6_dividend (l : Launch) (B : Nat) (D : va_G) (cA : Nat → ClassId) (n : Nat) (this : Nat) (p0 : Int32) (h : zH) : ∀ u, f_X6_dividend n this p0 h = some u → zM l B D cA yX6_dividend cX6_dividend 2 (some .int) 5 0 0 none [.ref (B + this), .int p0] h ((fun u : Int32 × zH => (some (Value.int u.1), u.2)) u).1 ((fun u : Int32 × zH => (some (Value.int u.1), u.2)) u).2 := by
  unfold f_X6_dividend
  refine z_met (own := RX6) (fun u : Int32 × zH => (some (Value.int u.1), u.2)) rfl (by decide) rfl (fun Z C hr _ _ => ?_)
  have hz0 : (z00 Z).1 ≤ 0 ∧ (z00 Z).2.1 ≤ 0 := ⟨Nat.le_refl 0, Nat.le_refl 0⟩
  refine z_aload_n (pc := 0) C (zD D_X6_dividend_0 0 rfl) rfl 0 rfl ?_
  refine z_iload_n (pc := 1) C (zD D_X6_dividend_0 1 rfl) rfl 1 rfl ?_
  refine z_csR (pc := 2) (As := [.int p0]) C [.ref (B + this)] (c_X6_isCompany _ _ _ _ n p0 h) zn_X6_isCompany (by decide) (by decide) hz0 q_249 q_250 q_5 q_251 rfl rfl rfl (zD D_X6_dividend_0 2 rfl) (fun r2 => ?_)
  refine z_letg (fun K13 => ∀ (s0_13 : Int32), zJ B Z (zEnd B Z (fun u : Int32 × zH => (some (Value.int u.1), u.2)) 0 0) (K13 s0_13) 13 [(0, .ref (B + this)), (1, .int p0)] [.int s0_13, .ref (B + this)] h (z00 Z)) (fun s0_13 => ?_) (fun K13 hK13 => ?_)
  · refine z_cvI (pc := 13) (As := [.int s0_13]) C [] (c_X6_refused _ _ _ _ n this s0_13 h) zn_X6_refused (by decide) (by decide) hz0 zc6 rfl q_155 q_156 q_157 q_5 q_158 rfl rfl rfl (zD D_X6_dividend_0 7 rfl) (fun r13 h13 => ?_)
    refine z_letg (fun K27 => zJ B Z (zEnd B Z (fun u : Int32 × zH => (some (Value.int u.1), u.2)) 0 0) (K27) 27 [] [] h13 (z00 Z)) ?_ (fun K27 hK27 => ?_)
    · refine z_iconst (pc := 27) (v := 0) C (zD D_X6_dividend_0 13 rfl) (by decide) ?_
      refine z_goto (pc := 28) C (zD D_X6_dividend_0 14 rfl) (tgt := 39) (by decide) ?_
      exact z_iret (pc := 39) C hr rfl (zD D_X6_dividend_0 20 rfl)
    refine z_if_ne (pc := 16) C (zD D_X6_dividend_0 8 rfl) (tgt := 27) (by decide) (fun _ => ?_) (fun _ => ?_)
    · refine z_sub [] (lv' := []) rfl ?_
      exact hK27
    · refine z_aload_n (pc := 19) C (zD D_X6_dividend_0 9 rfl) rfl 0 rfl ?_
      refine z_iload_n (pc := 20) C (zD D_X6_dividend_0 10 rfl) rfl 1 rfl ?_
      refine z_cvR (pc := 21) (As := [.int p0]) C [] (c_X6_isOpen _ _ _ _ n this p0 h13) zn_X6_isOpen (by decide) (by decide) hz0 zc6 rfl q_256 q_257 q_258 q_5 q_259 rfl rfl rfl (zD D_X6_dividend_0 11 rfl) (fun r21 => ?_)
      refine z_if_ne (pc := 24) C (zD D_X6_dividend_0 12 rfl) (tgt := 31) (by decide) (fun _ => ?_) (fun _ => ?_)
      · refine z_aload_n (pc := 31) C (zD D_X6_dividend_0 15 rfl) rfl 0 rfl ?_
        refine z_iload_n (pc := 32) C (zD D_X6_dividend_0 16 rfl) rfl 1 rfl ?_
        refine z_cvI (pc := 33) (As := [.int p0]) C [] (c_X6_income _ _ _ _ n this p0 h13) zn_X6_income (by decide) (by decide) hz0 zc6 rfl q_612 q_613 q_614 q_5 q_615 rfl rfl rfl (zD D_X6_dividend_0 17 rfl) (fun r33 h33 => ?_)
        refine z_bipush (pc := 36) (v := 10) C (zD D_X6_dividend_0 18 rfl) (by decide) ?_
        refine z_idivc (pc := 38) C (zD D_X6_dividend_0 19 rfl) (by decide) ?_
        exact z_iret (pc := 39) C hr rfl (zD D_X6_dividend_0 20 rfl)
      · refine z_sub [] (lv' := []) rfl ?_
        exact hK27
  refine z_if_eq (pc := 5) C (zD D_X6_dividend_0 3 rfl) (tgt := 12) (by decide) (fun _ => ?_) (fun _ => ?_)
  · refine z_iconst (pc := 12) (v := 1) C (zD D_X6_dividend_0 6 rfl) (by decide) ?_
    exact hK13 (1 : Int32)
  · refine z_iconst (pc := 8) (v := 0) C (zD D_X6_dividend_0 4 rfl) (by decide) ?_
    refine z_goto (pc := 9) C (zD D_X6_dividend_0 5 rfl) (tgt := 13) (by decide) ?_
    exact hK13 (0 : Int32)
def f_X6_incomeBy (n : Nat) (this : Nat) (p0 : Int32) (p1 : Int32) (p2 : Int32) (h : zH) : Option (Int32 × zH) := zrc h this 6 <| (f_X6_level n this p1 p2 h).bind fun (r3 : Int32) => zrc h this 6 <| (f_X6_levels n this p1 p2 (r3 + (1 : Int32)) h).bind fun (h15 : zH) => zrc h15 this 6 <| zb2 (f_X6_income n this p0 h15) fun (r20 : Int32) (h20 : zH) => zrc h20 this 6 <| (f_X6_levels n this p1 p2 r3 h20).bind fun (h30 : zH) => some (r20, h30)
theorem zn_X6_incomeBy : zNm yX6_incomeBy 3 := ⟨by decide +kernel, by decide +kernel⟩
set_option maxRecDepth 100000 in
set_option maxHeartbeats 4000000 in
theorem c_X6_incomeBy (l : Launch) (B : Nat) (D : va_G) (cA : Nat → ClassId) (n : Nat) (this : Nat) (p0 : Int32) (p1 : Int32) (p2 : Int32) (h : zH) : ∀ u, f_X6_incomeBy n this p0 p1 p2 h = some u → zM l B D cA yX6_incomeBy cX6_incomeBy 6 (some .int) 5 0 0 none [.ref (B + this), .int p0, .int p1, .int p2] h ((fun u : Int32 × zH => (some (Value.int u.1), u.2)) u).1 ((fun u : Int32 × zH => (some (Value.int u.1), u.2)) u).2 := by
  unfold f_X6_incomeBy
  refine z_met (own := RX6) (fun u : Int32 × zH => (some (Value.int u.1), u.2)) rfl (by decide) rfl (fun Z C hr _ _ => ?_)
  have hz0 : (z00 Z).1 ≤ 0 ∧ (z00 Z).2.1 ≤ 0 := ⟨Nat.le_refl 0, Nat.le_refl 0⟩
  refine z_aload_n (pc := 0) C (zD D_X6_incomeBy_0 0 rfl) rfl 0 rfl ?_
  refine z_iload_n (pc := 1) C (zD D_X6_incomeBy_0 1 rfl) rfl 2 rfl ?_
  refine z_iload_n (pc := 2) C (zD D_X6_incomeBy_0 2 rfl) rfl 3 rfl ?_
  refine z_cvR (pc := 3) (As := [.int p1, .int p2]) C [] (c_X6_level _ _ _ _ n this p1 p2 h) zn_X6_level (by decide) (by decide) hz0 zc6 rfl q_600 q_601 q_602 q_5 q_603 rfl rfl rfl (zD D_X6_incomeBy_0 3 rfl) (fun r3 => ?_)
  refine z_istore (pc := 6) (lv' := [(4, .int r3), (0, .ref (B + this)), (1, .int p0), (2, .int p1), (3, .int p2)]) C (zD D_X6_incomeBy_0 4 rfl) (by decide) rfl ?_
  refine z_aload_n (pc := 8) C (zD D_X6_incomeBy_0 5 rfl) rfl 1 rfl ?_
  refine z_iload_n (pc := 9) C (zD D_X6_incomeBy_0 6 rfl) rfl 3 rfl ?_
  refine z_iload_n (pc := 10) C (zD D_X6_incomeBy_0 7 rfl) rfl 4 rfl ?_
  refine z_iload (pc := 11) C (zD D_X6_incomeBy_0 8 rfl) 0 rfl ?_
  refine z_iconst (pc := 13) (v := 1) C (zD D_X6_incomeBy_0 9 rfl) (by decide) ?_
  refine z_iadd (pc := 14) C (zD D_X6_incomeBy_0 10 rfl) ?_
  refine z_cvV (pc := 15) (As := [.int p1, .int p2, .int (r3 + (1 : Int32))]) C [] (c_X6_levels _ _ _ _ n this p1 p2 (r3 + (1 : Int32)) h) zn_X6_levels (by decide) (by decide) hz0 zc6 rfl q_608 q_609 q_610 q_5 q_611 rfl rfl rfl (zD D_X6_incomeBy_0 11 rfl) (fun h15 => ?_)
  refine z_aload_n (pc := 18) C (zD D_X6_incomeBy_0 12 rfl) rfl 1 rfl ?_
  refine z_iload_n (pc := 19) C (zD D_X6_incomeBy_0 13 rfl) rfl 2 rfl ?_
  refine z_cvI (pc := 20) (As := [.int p0]) C [] (c_X6_income _ _ _ _ n this p0 h15) zn_X6_income (by decide) (by decide) hz0 zc6 rfl q_612 q_613 q_614 q_5 q_615 rfl rfl rfl (zD D_X6_incomeBy_0 14 rfl) (fun r20 h20 => ?_)
  refine z_istore (pc := 23) (lv' := [(5, .int r20), (4, .int r3), (0, .ref (B + this)), (1, .int p0), (2, .int p1), (3, .int p2)]) C (zD D_X6_incomeBy_0 15 rfl) (by decide) rfl ?_
  refine z_aload_n (pc := 25) C (zD D_X6_incomeBy_0 16 rfl) rfl 2 rfl ?_
  refine z_iload_n (pc := 26) C (zD D_X6_incomeBy_0 17 rfl) rfl 4 rfl ?_
  refine z_iload_n (pc := 27) C (zD D_X6_incomeBy_0 18 rfl) rfl 5 rfl ?_
  refine z_iload (pc := 28) C (zD D_X6_incomeBy_0 19 rfl) 1 rfl ?_
  refine z_cvV (pc := 30) (As := [.int p1, .int p2, .int r3]) C [] (c_X6_levels _ _ _ _ n this p1 p2 r3 h20) zn_X6_levels (by decide) (by decide) hz0 zc6 rfl q_608 q_609 q_610 q_5 q_611 rfl rfl rfl (zD D_X6_incomeBy_0 20 rfl) (fun h30 => ?_)
  refine z_iload (pc := 33) C (zD D_X6_incomeBy_0 21 rfl) 0 rfl ?_
  exact z_iret (pc := 35) C hr rfl (zD D_X6_incomeBy_0 22 rfl)
def f_X6_passes (n : Nat) (this : Nat) (h : zH) : Option (Int32 × zH) := zrc h this 6 <| (f_X6_turns n this h).bind fun (h1 : zH) => (zgR h1 this 6 0).bind fun (v5 : Nat) => (zai h1 v5 (2 : Int32)).bind fun (v10 : Int32) => (zsi h1 v5 (2 : Int32) (v10 + (1 : Int32))).bind fun (h13 : zH) => (zgR h13 this 6 0).bind fun (v15 : Nat) => (zai h13 v15 (2 : Int32)).bind fun (v19 : Int32) => (zgR h13 this 6 0).bind fun (v21 : Nat) => (zai h13 v21 (0 : Int32)).bind fun (v25 : Int32) => zlet (fun (h51 : zH) => (zgR h51 this 6 0).bind fun (v52 : Nat) => (zai h51 v52 (3 : Int32)).bind fun (v56 : Int32) => some (v56, h51)) fun K51 => if v19 = v25 then ((zgR h13 this 6 0).bind fun (v30 : Nat) => (zsi h13 v30 (3 : Int32) (1 : Int32)).bind fun (h35 : zH) => (zgR h35 this 6 0).bind fun (v37 : Nat) => (zsi h35 v37 (4 : Int32) (0 : Int32)).bind fun (h42 : zH) => zrc h42 this 6 <| (f_X6_orders n this h42).bind fun (h44 : zH) => zrc h44 this 6 <| (f_X6_goesOn n this h44).bind fun (h48 : zH) => K51 h48) else (K51 h13)
theorem zn_X6_passes : zNm yX6_passes 0 := ⟨by decide +kernel, by decide +kernel⟩
set_option maxRecDepth 100000 in
set_option maxHeartbeats 4000000 in
theorem c_X6_passes (l : Launch) (B : Nat) (D : va_G) (cA : Nat → ClassId) (n : Nat) (this : Nat) (h : zH) : ∀ u, f_X6_passes n this h = some u → zM l B D cA yX6_passes cX6_passes 1 (some .int) 5 0 0 none [.ref (B + this)] h ((fun u : Int32 × zH => (some (Value.int u.1), u.2)) u).1 ((fun u : Int32 × zH => (some (Value.int u.1), u.2)) u).2 := by
  unfold f_X6_passes
  refine z_met (own := RX6) (fun u : Int32 × zH => (some (Value.int u.1), u.2)) rfl (by decide) rfl (fun Z C hr _ _ => ?_)
  have hz0 : (z00 Z).1 ≤ 0 ∧ (z00 Z).2.1 ≤ 0 := ⟨Nat.le_refl 0, Nat.le_refl 0⟩
  refine z_aload_n (pc := 0) C (zD D_X6_passes_0 0 rfl) rfl 0 rfl ?_
  refine z_cvV (pc := 1) (As := []) C [] (c_X6_turns _ _ _ _ n this h) zn_X6_turns (by decide) (by decide) hz0 zc6 rfl q_296 q_297 q_298 q_5 q_299 rfl rfl rfl (zD D_X6_passes_0 1 rfl) (fun h1 => ?_)
  refine z_aload_n (pc := 4) C (zD D_X6_passes_0 2 rfl) rfl 0 rfl ?_
  refine z_getR (pc := 5) C zc6 0 (by decide) q_102 (zD D_X6_passes_0 3 rfl) (fun v5 => ?_)
  refine z_iconst (pc := 8) (v := 2) C (zD D_X6_passes_0 4 rfl) (by decide) ?_
  refine z_dup2 (pc := 9) C (zD D_X6_passes_0 5 rfl) rfl rfl ?_
  refine z_aiload (pc := 10) C (zD D_X6_passes_0 6 rfl) (fun v10 => ?_)
  refine z_iconst (pc := 11) (v := 1) C (zD D_X6_passes_0 7 rfl) (by decide) ?_
  refine z_iadd (pc := 12) C (zD D_X6_passes_0 8 rfl) ?_
  refine z_aistore (pc := 13) C (zD D_X6_passes_0 9 rfl) (fun h13 => ?_)
  refine z_aload_n (pc := 14) C (zD D_X6_passes_0 10 rfl) rfl 0 rfl ?_
  refine z_getR (pc := 15) C zc6 0 (by decide) q_102 (zD D_X6_passes_0 11 rfl) (fun v15 => ?_)
  refine z_iconst (pc := 18) (v := 2) C (zD D_X6_passes_0 12 rfl) (by decide) ?_
  refine z_aiload (pc := 19) C (zD D_X6_passes_0 13 rfl) (fun v19 => ?_)
  refine z_aload_n (pc := 20) C (zD D_X6_passes_0 14 rfl) rfl 0 rfl ?_
  refine z_getR (pc := 21) C zc6 0 (by decide) q_102 (zD D_X6_passes_0 15 rfl) (fun v21 => ?_)
  refine z_iconst (pc := 24) (v := 0) C (zD D_X6_passes_0 16 rfl) (by decide) ?_
  refine z_aiload (pc := 25) C (zD D_X6_passes_0 17 rfl) (fun v25 => ?_)
  refine z_letg (fun K51 => ∀ (h51 : zH), zJ B Z (zEnd B Z (fun u : Int32 × zH => (some (Value.int u.1), u.2)) 0 0) (K51 h51) 51 [(0, .ref (B + this))] [] h51 (z00 Z)) (fun h51 => ?_) (fun K51 hK51 => ?_)
  · refine z_aload_n (pc := 51) C (zD D_X6_passes_0 33 rfl) rfl 0 rfl ?_
    refine z_getR (pc := 52) C zc6 0 (by decide) q_102 (zD D_X6_passes_0 34 rfl) (fun v52 => ?_)
    refine z_iconst (pc := 55) (v := 3) C (zD D_X6_passes_0 35 rfl) (by decide) ?_
    refine z_aiload (pc := 56) C (zD D_X6_passes_0 36 rfl) (fun v56 => ?_)
    exact z_iret (pc := 57) C hr rfl (zD D_X6_passes_0 37 rfl)
  refine z_icmp_ne (pc := 26) C (zD D_X6_passes_0 18 rfl) (tgt := 51) (by decide) (fun _ => ?_) (fun _ => ?_)
  · exact hK51 h13
  · refine z_aload_n (pc := 29) C (zD D_X6_passes_0 19 rfl) rfl 0 rfl ?_
    refine z_getR (pc := 30) C zc6 0 (by decide) q_102 (zD D_X6_passes_0 20 rfl) (fun v30 => ?_)
    refine z_iconst (pc := 33) (v := 3) C (zD D_X6_passes_0 21 rfl) (by decide) ?_
    refine z_iconst (pc := 34) (v := 1) C (zD D_X6_passes_0 22 rfl) (by decide) ?_
    refine z_aistore (pc := 35) C (zD D_X6_passes_0 23 rfl) (fun h35 => ?_)
    refine z_aload_n (pc := 36) C (zD D_X6_passes_0 24 rfl) rfl 0 rfl ?_
    refine z_getR (pc := 37) C zc6 0 (by decide) q_102 (zD D_X6_passes_0 25 rfl) (fun v37 => ?_)
    refine z_iconst (pc := 40) (v := 4) C (zD D_X6_passes_0 26 rfl) (by decide) ?_
    refine z_iconst (pc := 41) (v := 0) C (zD D_X6_passes_0 27 rfl) (by decide) ?_
    refine z_aistore (pc := 42) C (zD D_X6_passes_0 28 rfl) (fun h42 => ?_)
    refine z_aload_n (pc := 43) C (zD D_X6_passes_0 29 rfl) rfl 0 rfl ?_
    refine z_cvV (pc := 44) (As := []) C [] (c_X6_orders _ _ _ _ n this h42) zn_X6_orders (by decide) (by decide) hz0 zc6 rfl q_441 q_442 q_443 q_5 q_444 rfl rfl rfl (zD D_X6_passes_0 30 rfl) (fun h44 => ?_)
    refine z_aload_n (pc := 47) C (zD D_X6_passes_0 31 rfl) rfl 0 rfl ?_
    refine z_cvV (pc := 48) (As := []) C [] (c_X6_goesOn _ _ _ _ n this h44) zn_X6_goesOn (by decide) (by decide) hz0 zc6 rfl q_449 q_450 q_451 q_5 q_452 rfl rfl rfl (zD D_X6_passes_0 32 rfl) (fun h48 => ?_)
    exact hK51 h48
def f_X6_player (n : Nat) (this : Nat) (p0 : Int32) (p1 : Int32) (h : zH) : Option (Int32 × zH) := zrc h this 6 <| (f_X6_isPlayer n this p0 h).bind fun (r3 : Int32) => zlet (fun (s0_28 : Int32) => zrc h this 6 <| zb2 (f_X6_refused n this s0_28 h) fun (r28 : Int32) (h28 : zH) => if r28 = 0 then (zrc h28 this 6 <| (f_X6_tellPlayer n this p0 p1 h28).bind fun (r41 : Int32) => some (r41, h28)) else (some ((0 : Int32), h28))) fun K28 => if r3 = 0 then (K28 (1 : Int32)) else ((f_X6_in n p1 (0 : Int32) (6 : Int32) h).bind fun (r17 : Int32) => if r17 = 0 then (K28 (2 : Int32)) else (K28 (0 : Int32)))
theorem zn_X6_player : zNm yX6_player 2 := ⟨by decide +kernel, by decide +kernel⟩
set_option maxRecDepth 100000 in
set_option maxHeartbeats 4000000 in
theorem c_X6_player (l : Launch) (B : Nat) (D : va_G) (cA : Nat → ClassId) (n : Nat) (this : Nat) (p0 : Int32) (p1 : Int32) (h : zH) : ∀ u, f_X6_player n this p0 p1 h = some u → zM l B D cA yX6_player cX6_player 3 (some .int) 5 0 0 none [.ref (B + this), .int p0, .int p1] h ((fun u : Int32 × zH => (some (Value.int u.1), u.2)) u).1 ((fun u : Int32 × zH => (some (Value.int u.1), u.2)) u).2 := by
  unfold f_X6_player
  refine z_met (own := RX6) (fun u : Int32 × zH => (some (Value.int u.1), u.2)) rfl (by decide) rfl (fun Z C hr _ _ => ?_)
  have hz0 : (z00 Z).1 ≤ 0 ∧ (z00 Z).2.1 ≤ 0 := ⟨Nat.le_refl 0, Nat.le_refl 0⟩
  refine z_aload_n (pc := 0) C (zD D_X6_player_0 0 rfl) rfl 0 rfl ?_
  refine z_aload_n (pc := 1) C (zD D_X6_player_0 1 rfl) rfl 0 rfl ?_
  refine z_iload_n (pc := 2) C (zD D_X6_player_0 2 rfl) rfl 1 rfl ?_
  refine z_cvR (pc := 3) (As := [.int p0]) C [.ref (B + this)] (c_X6_isPlayer _ _ _ _ n this p0 h) zn_X6_isPlayer (by decide) (by decide) hz0 zc6 rfl q_663 q_664 q_665 q_5 q_666 rfl rfl rfl (zD D_X6_player_0 3 rfl) (fun r3 => ?_)
  refine z_letg (fun K28 => ∀ (s0_28 : Int32), zJ B Z (zEnd B Z (fun u : Int32 × zH => (some (Value.int u.1), u.2)) 0 0) (K28 s0_28) 28 [(0, .ref (B + this)), (1, .int p0), (2, .int p1)] [.int s0_28, .ref (B + this)] h (z00 Z)) (fun s0_28 => ?_) (fun K28 hK28 => ?_)
  · refine z_cvI (pc := 28) (As := [.int s0_28]) C [] (c_X6_refused _ _ _ _ n this s0_28 h) zn_X6_refused (by decide) (by decide) hz0 zc6 rfl q_155 q_156 q_157 q_5 q_158 rfl rfl rfl (zD D_X6_player_0 15 rfl) (fun r28 h28 => ?_)
    refine z_if_eq (pc := 31) C (zD D_X6_player_0 16 rfl) (tgt := 38) (by decide) (fun _ => ?_) (fun _ => ?_)
    · refine z_aload_n (pc := 38) C (zD D_X6_player_0 19 rfl) rfl 0 rfl ?_
      refine z_iload_n (pc := 39) C (zD D_X6_player_0 20 rfl) rfl 1 rfl ?_
      refine z_iload_n (pc := 40) C (zD D_X6_player_0 21 rfl) rfl 2 rfl ?_
      refine z_cvR (pc := 41) (As := [.int p0, .int p1]) C [] (c_X6_tellPlayer _ _ _ _ n this p0 p1 h28) zn_X6_tellPlayer (by decide) (by decide) hz0 zc6 rfl q_667 q_668 q_669 q_5 q_670 rfl rfl rfl (zD D_X6_player_0 22 rfl) (fun r41 => ?_)
      exact z_iret (pc := 44) C hr rfl (zD D_X6_player_0 23 rfl)
    · refine z_iconst (pc := 34) (v := 0) C (zD D_X6_player_0 17 rfl) (by decide) ?_
      refine z_goto (pc := 35) C (zD D_X6_player_0 18 rfl) (tgt := 44) (by decide) ?_
      exact z_iret (pc := 44) C hr rfl (zD D_X6_player_0 23 rfl)
  refine z_if_ne (pc := 6) C (zD D_X6_player_0 4 rfl) (tgt := 13) (by decide) (fun _ => ?_) (fun _ => ?_)
  · refine z_iload_n (pc := 13) C (zD D_X6_player_0 7 rfl) rfl 2 rfl ?_
    refine z_iconst (pc := 14) (v := 0) C (zD D_X6_player_0 8 rfl) (by decide) ?_
    refine z_bipush (pc := 15) (v := 6) C (zD D_X6_player_0 9 rfl) (by decide) ?_
    refine z_csR (pc := 17) (As := [.int p1, .int (0 : Int32), .int (6 : Int32)]) C [.ref (B + this)] (c_X6_in _ _ _ _ n p1 (0 : Int32) (6 : Int32) h) zn_X6_in (by decide) (by decide) hz0 q_152 q_153 q_5 q_154 rfl rfl rfl (zD D_X6_player_0 10 rfl) (fun r17 => ?_)
    refine z_if_eq (pc := 20) C (zD D_X6_player_0 11 rfl) (tgt := 27) (by decide) (fun _ => ?_) (fun _ => ?_)
    · refine z_iconst (pc := 27) (v := 2) C (zD D_X6_player_0 14 rfl) (by decide) ?_
      exact hK28 (2 : Int32)
    · refine z_iconst (pc := 23) (v := 0) C (zD D_X6_player_0 12 rfl) (by decide) ?_
      refine z_goto (pc := 24) C (zD D_X6_player_0 13 rfl) (tgt := 28) (by decide) ?_
      exact hK28 (0 : Int32)
  · refine z_iconst (pc := 9) (v := 1) C (zD D_X6_player_0 5 rfl) (by decide) ?_
    refine z_goto (pc := 10) C (zD D_X6_player_0 6 rfl) (tgt := 28) (by decide) ?_
    exact hK28 (1 : Int32)
def f_X6_sell (n : Nat) (this : Nat) (p0 : Int32) (p1 : Int32) (h : zH) : Option (Int32 × zH) := (f_X6_isCompany n p0 h).bind fun (r2 : Int32) => zlet (fun (s0_40 : Int32) => zrc h this 6 <| zb2 (f_X6_refused n this s0_40 h) fun (r40 : Int32) (h40 : zH) => if r40 = 0 then (zrc h40 this 6 <| (f_X6_saves n this h40).bind fun (h49 : zH) => zrc h49 this 6 <| zb2 (f_X6_sells n this p0 p1 h49) fun (r55 : Int32) (h55 : zH) => some (r55, h55)) else (some ((0 : Int32), h40))) fun K40 => if r2 = 0 then (K40 (1 : Int32)) else ((f_X6_in n p1 (1 : Int32) (10 : Int32) h).bind fun (r16 : Int32) => if r16 = 0 then (K40 (2 : Int32)) else (zrc h this 6 <| (f_X6_canSell n this p0 p1 h).bind fun (r29 : Int32) => if r29 = 0 then (K40 (3 : Int32)) else (K40 (0 : Int32))))
theorem zn_X6_sell : zNm yX6_sell 2 := ⟨by decide +kernel, by decide +kernel⟩
set_option maxRecDepth 100000 in
set_option maxHeartbeats 4000000 in
theorem c_X6_sell (l : Launch) (B : Nat) (D : va_G) (cA : Nat → ClassId) (n : Nat) (this : Nat) (p0 : Int32) (p1 : Int32) (h : zH) : ∀ u, f_X6_sell n this p0 p1 h = some u → zM l B D cA yX6_sell cX6_sell 3 (some .int) 5 0 0 none [.ref (B + this), .int p0, .int p1] h ((fun u : Int32 × zH => (some (Value.int u.1), u.2)) u).1 ((fun u : Int32 × zH => (some (Value.int u.1), u.2)) u).2 := by
  unfold f_X6_sell
  refine z_met (own := RX6) (fun u : Int32 × zH => (some (Value.int u.1), u.2)) rfl (by decide) rfl (fun Z C hr _ _ => ?_)
  have hz0 : (z00 Z).1 ≤ 0 ∧ (z00 Z).2.1 ≤ 0 := ⟨Nat.le_refl 0, Nat.le_refl 0⟩
  refine z_aload_n (pc := 0) C (zD D_X6_sell_0 0 rfl) rfl 0 rfl ?_
  refine z_iload_n (pc := 1) C (zD D_X6_sell_0 1 rfl) rfl 1 rfl ?_
  refine z_csR (pc := 2) (As := [.int p0]) C [.ref (B + this)] (c_X6_isCompany _ _ _ _ n p0 h) zn_X6_isCompany (by decide) (by decide) hz0 q_249 q_250 q_5 q_251 rfl rfl rfl (zD D_X6_sell_0 2 rfl) (fun r2 => ?_)
  refine z_letg (fun K40 => ∀ (s0_40 : Int32), zJ B Z (zEnd B Z (fun u : Int32 × zH => (some (Value.int u.1), u.2)) 0 0) (K40 s0_40) 40 [(0, .ref (B + this)), (1, .int p0), (2, .int p1)] [.int s0_40, .ref (B + this)] h (z00 Z)) (fun s0_40 => ?_) (fun K40 hK40 => ?_)
  · refine z_cvI (pc := 40) (As := [.int s0_40]) C [] (c_X6_refused _ _ _ _ n this s0_40 h) zn_X6_refused (by decide) (by decide) hz0 zc6 rfl q_155 q_156 q_157 q_5 q_158 rfl rfl rfl (zD D_X6_sell_0 21 rfl) (fun r40 h40 => ?_)
    refine z_if_eq (pc := 43) C (zD D_X6_sell_0 22 rfl) (tgt := 48) (by decide) (fun _ => ?_) (fun _ => ?_)
    · refine z_aload_n (pc := 48) C (zD D_X6_sell_0 25 rfl) rfl 0 rfl ?_
      refine z_cvV (pc := 49) (As := []) C [] (c_X6_saves _ _ _ _ n this h40) zn_X6_saves (by decide) (by decide) hz0 zc6 rfl q_160 q_161 q_162 q_5 q_163 rfl rfl rfl (zD D_X6_sell_0 26 rfl) (fun h49 => ?_)
      refine z_aload_n (pc := 52) C (zD D_X6_sell_0 27 rfl) rfl 0 rfl ?_
      refine z_iload_n (pc := 53) C (zD D_X6_sell_0 28 rfl) rfl 1 rfl ?_
      refine z_iload_n (pc := 54) C (zD D_X6_sell_0 29 rfl) rfl 2 rfl ?_
      refine z_cvI (pc := 55) (As := [.int p0, .int p1]) C [] (c_X6_sells _ _ _ _ n this p0 p1 h49) zn_X6_sells (by decide) (by decide) hz0 zc6 rfl q_365 q_366 q_367 q_5 q_368 rfl rfl rfl (zD D_X6_sell_0 30 rfl) (fun r55 h55 => ?_)
      exact z_iret (pc := 58) C hr rfl (zD D_X6_sell_0 31 rfl)
    · refine z_iconst (pc := 46) (v := 0) C (zD D_X6_sell_0 23 rfl) (by decide) ?_
      exact z_iret (pc := 47) C hr rfl (zD D_X6_sell_0 24 rfl)
  refine z_if_ne (pc := 5) C (zD D_X6_sell_0 3 rfl) (tgt := 12) (by decide) (fun _ => ?_) (fun _ => ?_)
  · refine z_iload_n (pc := 12) C (zD D_X6_sell_0 6 rfl) rfl 2 rfl ?_
    refine z_iconst (pc := 13) (v := 1) C (zD D_X6_sell_0 7 rfl) (by decide) ?_
    refine z_bipush (pc := 14) (v := 10) C (zD D_X6_sell_0 8 rfl) (by decide) ?_
    refine z_csR (pc := 16) (As := [.int p1, .int (1 : Int32), .int (10 : Int32)]) C [.ref (B + this)] (c_X6_in _ _ _ _ n p1 (1 : Int32) (10 : Int32) h) zn_X6_in (by decide) (by decide) hz0 q_152 q_153 q_5 q_154 rfl rfl rfl (zD D_X6_sell_0 9 rfl) (fun r16 => ?_)
    refine z_if_ne (pc := 19) C (zD D_X6_sell_0 10 rfl) (tgt := 26) (by decide) (fun _ => ?_) (fun _ => ?_)
    · refine z_aload_n (pc := 26) C (zD D_X6_sell_0 13 rfl) rfl 0 rfl ?_
      refine z_iload_n (pc := 27) C (zD D_X6_sell_0 14 rfl) rfl 1 rfl ?_
      refine z_iload_n (pc := 28) C (zD D_X6_sell_0 15 rfl) rfl 2 rfl ?_
      refine z_cvR (pc := 29) (As := [.int p0, .int p1]) C [.ref (B + this)] (c_X6_canSell _ _ _ _ n this p0 p1 h) zn_X6_canSell (by decide) (by decide) hz0 zc6 rfl q_361 q_362 q_363 q_5 q_364 rfl rfl rfl (zD D_X6_sell_0 16 rfl) (fun r29 => ?_)
      refine z_if_eq (pc := 32) C (zD D_X6_sell_0 17 rfl) (tgt := 39) (by decide) (fun _ => ?_) (fun _ => ?_)
      · refine z_iconst (pc := 39) (v := 3) C (zD D_X6_sell_0 20 rfl) (by decide) ?_
        exact hK40 (3 : Int32)
      · refine z_iconst (pc := 35) (v := 0) C (zD D_X6_sell_0 18 rfl) (by decide) ?_
        refine z_goto (pc := 36) C (zD D_X6_sell_0 19 rfl) (tgt := 40) (by decide) ?_
        exact hK40 (0 : Int32)
    · refine z_iconst (pc := 22) (v := 2) C (zD D_X6_sell_0 11 rfl) (by decide) ?_
      refine z_goto (pc := 23) C (zD D_X6_sell_0 12 rfl) (tgt := 40) (by decide) ?_
      exact hK40 (2 : Int32)
  · refine z_iconst (pc := 8) (v := 1) C (zD D_X6_sell_0 4 rfl) (by decide) ?_
    refine z_goto (pc := 9) C (zD D_X6_sell_0 5 rfl) (tgt := 40) (by decide) ?_
    exact hK40 (1 : Int32)
def f_X6_tellCompany (n : Nat) (this : Nat) (p0 : Int32) (p1 : Int32) (h : zH) : Option (Int32 × zH) := zrc h this 6 <| (f_X6_isOpen n this p0 h).bind fun (r2 : Int32) => if r2 = 0 then (if p1 = 0 then (some ((0 : Int32), h)) else (some ((-1 : Int32), h))) else (if p1 = 0 then (some ((1 : Int32), h)) else if p1 = 1 then (zrc h this 6 <| (f_X6_of n this p0 (1 : Int32) h).bind fun (r69 : Int32) => some (r69, h)) else if p1 = 2 then (zrc h this 6 <| (f_X6_of n this p0 (2 : Int32) h).bind fun (r76 : Int32) => some (r76, h)) else if p1 = 3 then (zrc h this 6 <| (f_X6_price n this p0 h).bind fun (r82 : Int32) => some (r82, h)) else if p1 = 4 then (zrc h this 6 <| (f_X6_of n this p0 (4 : Int32) h).bind fun (r89 : Int32) => some (r89, h)) else if p1 = 5 then (zrc h this 6 <| (f_X6_of n this p0 (5 : Int32) h).bind fun (r96 : Int32) => some (r96, h)) else if p1 = 6 then (zrc h this 6 <| (f_X6_rest n this p0 h).bind fun (r102 : Int32) => some (r102, h)) else if p1 = 7 then (zrc h this 6 <| zb2 (f_X6_income n this p0 h) fun (r108 : Int32) (h108 : zH) => some (r108, h108)) else (zrc h this 6 <| (f_X6_of n this p0 (6 : Int32) h).bind fun (r116 : Int32) => some (r116, h)))
theorem zn_X6_tellCompany : zNm yX6_tellCompany 2 := ⟨by decide +kernel, by decide +kernel⟩
set_option maxRecDepth 100000 in
set_option maxHeartbeats 4000000 in
theorem c_X6_tellCompany (l : Launch) (B : Nat) (D : va_G) (cA : Nat → ClassId) (n : Nat) (this : Nat) (p0 : Int32) (p1 : Int32) (h : zH) : ∀ u, f_X6_tellCompany n this p0 p1 h = some u → zM l B D cA yX6_tellCompany cX6_tellCompany 3 (some .int) 5 0 0 none [.ref (B + this), .int p0, .int p1] h ((fun u : Int32 × zH => (some (Value.int u.1), u.2)) u).1 ((fun u : Int32 × zH => (some (Value.int u.1), u.2)) u).2 := by
  unfold f_X6_tellCompany
  refine z_met (own := RX6) (fun u : Int32 × zH => (some (Value.int u.1), u.2)) rfl (by decide) rfl (fun Z C hr _ _ => ?_)
  have hz0 : (z00 Z).1 ≤ 0 ∧ (z00 Z).2.1 ≤ 0 := ⟨Nat.le_refl 0, Nat.le_refl 0⟩
  refine z_aload_n (pc := 0) C (zD D_X6_tellCompany_0 0 rfl) rfl 0 rfl ?_
  refine z_iload_n (pc := 1) C (zD D_X6_tellCompany_0 1 rfl) rfl 1 rfl ?_
  refine z_cvR (pc := 2) (As := [.int p0]) C [] (c_X6_isOpen _ _ _ _ n this p0 h) zn_X6_isOpen (by decide) (by decide) hz0 zc6 rfl q_256 q_257 q_258 q_5 q_259 rfl rfl rfl (zD D_X6_tellCompany_0 2 rfl) (fun r2 => ?_)
  refine z_if_ne (pc := 5) C (zD D_X6_tellCompany_0 3 rfl) (tgt := 18) (by decide) (fun _ => ?_) (fun _ => ?_)
  · refine z_iload_n (pc := 18) C (zD D_X6_tellCompany_0 10 rfl) rfl 2 rfl ?_
    refine z_ite (fun c0 => ?_) (fun c0 => ?_)
    · refine z_tblIn (pc := 19) C (zD D_X6_tellCompany_0 11 rfl) (by rw [c0]; decide) (by rw [c0]; decide) (by rw [c0]; rfl) (tgt := 64) (by decide) ?_
      refine z_iconst (pc := 64) (v := 1) C (zD D_X6_tellCompany_0 12 rfl) (by decide) ?_
      exact z_iret (pc := 65) C hr rfl (zD D_X6_tellCompany_0 13 rfl)
    refine z_ite (fun c1 => ?_) (fun c1 => ?_)
    · refine z_tblIn (pc := 19) C (zD D_X6_tellCompany_0 11 rfl) (by rw [c1]; decide) (by rw [c1]; decide) (by rw [c1]; rfl) (tgt := 66) (by decide) ?_
      refine z_aload_n (pc := 66) C (zD D_X6_tellCompany_0 14 rfl) rfl 0 rfl ?_
      refine z_iload_n (pc := 67) C (zD D_X6_tellCompany_0 15 rfl) rfl 1 rfl ?_
      refine z_iconst (pc := 68) (v := 1) C (zD D_X6_tellCompany_0 16 rfl) (by decide) ?_
      refine z_cvR (pc := 69) (As := [.int p0, .int (1 : Int32)]) C [] (c_X6_of _ _ _ _ n this p0 (1 : Int32) h) zn_X6_of (by decide) (by decide) hz0 zc6 rfl q_260 q_261 q_262 q_5 q_263 rfl rfl rfl (zD D_X6_tellCompany_0 17 rfl) (fun r69 => ?_)
      exact z_iret (pc := 72) C hr rfl (zD D_X6_tellCompany_0 18 rfl)
    refine z_ite (fun c2 => ?_) (fun c2 => ?_)
    · refine z_tblIn (pc := 19) C (zD D_X6_tellCompany_0 11 rfl) (by rw [c2]; decide) (by rw [c2]; decide) (by rw [c2]; rfl) (tgt := 73) (by decide) ?_
      refine z_aload_n (pc := 73) C (zD D_X6_tellCompany_0 19 rfl) rfl 0 rfl ?_
      refine z_iload_n (pc := 74) C (zD D_X6_tellCompany_0 20 rfl) rfl 1 rfl ?_
      refine z_iconst (pc := 75) (v := 2) C (zD D_X6_tellCompany_0 21 rfl) (by decide) ?_
      refine z_cvR (pc := 76) (As := [.int p0, .int (2 : Int32)]) C [] (c_X6_of _ _ _ _ n this p0 (2 : Int32) h) zn_X6_of (by decide) (by decide) hz0 zc6 rfl q_260 q_261 q_262 q_5 q_263 rfl rfl rfl (zD D_X6_tellCompany_0 22 rfl) (fun r76 => ?_)
      exact z_iret (pc := 79) C hr rfl (zD D_X6_tellCompany_0 23 rfl)
    refine z_ite (fun c3 => ?_) (fun c3 => ?_)
    · refine z_tblIn (pc := 19) C (zD D_X6_tellCompany_0 11 rfl) (by rw [c3]; decide) (by rw [c3]; decide) (by rw [c3]; rfl) (tgt := 80) (by decide) ?_
      refine z_aload_n (pc := 80) C (zD D_X6_tellCompany_0 24 rfl) rfl 0 rfl ?_
      refine z_iload_n (pc := 81) C (zD D_X6_tellCompany_0 25 rfl) rfl 1 rfl ?_
      refine z_cvR (pc := 82) (As := [.int p0]) C [] (c_X6_price _ _ _ _ n this p0 h) zn_X6_price (by decide) (by decide) hz0 zc6 rfl q_268 q_269 q_270 q_5 q_271 rfl rfl rfl (zD D_X6_tellCompany_0 26 rfl) (fun r82 => ?_)
      exact z_iret (pc := 85) C hr rfl (zD D_X6_tellCompany_0 27 rfl)
    refine z_ite (fun c4 => ?_) (fun c4 => ?_)
    · refine z_tblIn (pc := 19) C (zD D_X6_tellCompany_0 11 rfl) (by rw [c4]; decide) (by rw [c4]; decide) (by rw [c4]; rfl) (tgt := 86) (by decide) ?_
      refine z_aload_n (pc := 86) C (zD D_X6_tellCompany_0 28 rfl) rfl 0 rfl ?_
      refine z_iload_n (pc := 87) C (zD D_X6_tellCompany_0 29 rfl) rfl 1 rfl ?_
      refine z_iconst (pc := 88) (v := 4) C (zD D_X6_tellCompany_0 30 rfl) (by decide) ?_
      refine z_cvR (pc := 89) (As := [.int p0, .int (4 : Int32)]) C [] (c_X6_of _ _ _ _ n this p0 (4 : Int32) h) zn_X6_of (by decide) (by decide) hz0 zc6 rfl q_260 q_261 q_262 q_5 q_263 rfl rfl rfl (zD D_X6_tellCompany_0 31 rfl) (fun r89 => ?_)
      exact z_iret (pc := 92) C hr rfl (zD D_X6_tellCompany_0 32 rfl)
    refine z_ite (fun c5 => ?_) (fun c5 => ?_)
    · refine z_tblIn (pc := 19) C (zD D_X6_tellCompany_0 11 rfl) (by rw [c5]; decide) (by rw [c5]; decide) (by rw [c5]; rfl) (tgt := 93) (by decide) ?_
      refine z_aload_n (pc := 93) C (zD D_X6_tellCompany_0 33 rfl) rfl 0 rfl ?_
      refine z_iload_n (pc := 94) C (zD D_X6_tellCompany_0 34 rfl) rfl 1 rfl ?_
      refine z_iconst (pc := 95) (v := 5) C (zD D_X6_tellCompany_0 35 rfl) (by decide) ?_
      refine z_cvR (pc := 96) (As := [.int p0, .int (5 : Int32)]) C [] (c_X6_of _ _ _ _ n this p0 (5 : Int32) h) zn_X6_of (by decide) (by decide) hz0 zc6 rfl q_260 q_261 q_262 q_5 q_263 rfl rfl rfl (zD D_X6_tellCompany_0 36 rfl) (fun r96 => ?_)
      exact z_iret (pc := 99) C hr rfl (zD D_X6_tellCompany_0 37 rfl)
    refine z_ite (fun c6 => ?_) (fun c6 => ?_)
    · refine z_tblIn (pc := 19) C (zD D_X6_tellCompany_0 11 rfl) (by rw [c6]; decide) (by rw [c6]; decide) (by rw [c6]; rfl) (tgt := 100) (by decide) ?_
      refine z_aload_n (pc := 100) C (zD D_X6_tellCompany_0 38 rfl) rfl 0 rfl ?_
      refine z_iload_n (pc := 101) C (zD D_X6_tellCompany_0 39 rfl) rfl 1 rfl ?_
      refine z_cvR (pc := 102) (As := [.int p0]) C [] (c_X6_rest _ _ _ _ n this p0 h) zn_X6_rest (by decide) (by decide) hz0 zc6 rfl q_327 q_328 q_329 q_5 q_330 rfl rfl rfl (zD D_X6_tellCompany_0 40 rfl) (fun r102 => ?_)
      exact z_iret (pc := 105) C hr rfl (zD D_X6_tellCompany_0 41 rfl)
    refine z_ite (fun c7 => ?_) (fun c7 => ?_)
    · refine z_tblIn (pc := 19) C (zD D_X6_tellCompany_0 11 rfl) (by rw [c7]; decide) (by rw [c7]; decide) (by rw [c7]; rfl) (tgt := 106) (by decide) ?_
      refine z_aload_n (pc := 106) C (zD D_X6_tellCompany_0 42 rfl) rfl 0 rfl ?_
      refine z_iload_n (pc := 107) C (zD D_X6_tellCompany_0 43 rfl) rfl 1 rfl ?_
      refine z_cvI (pc := 108) (As := [.int p0]) C [] (c_X6_income _ _ _ _ n this p0 h) zn_X6_income (by decide) (by decide) hz0 zc6 rfl q_612 q_613 q_614 q_5 q_615 rfl rfl rfl (zD D_X6_tellCompany_0 44 rfl) (fun r108 h108 => ?_)
      exact z_iret (pc := 111) C hr rfl (zD D_X6_tellCompany_0 45 rfl)
    refine z_tblOut (pc := 19) C (zD D_X6_tellCompany_0 11 rfl) (z_out _ (fun k h1 h2 => by rcases (show k = 0 ∨ k = 1 ∨ k = 2 ∨ k = 3 ∨ k = 4 ∨ k = 5 ∨ k = 6 ∨ k = 7 by omega) with rfl | rfl | rfl | rfl | rfl | rfl | rfl | rfl; exact fun e => c0 (e.trans (by decide)); exact fun e => c1 (e.trans (by decide)); exact fun e => c2 (e.trans (by decide)); exact fun e => c3 (e.trans (by decide)); exact fun e => c4 (e.trans (by decide)); exact fun e => c5 (e.trans (by decide)); exact fun e => c6 (e.trans (by decide)); exact fun e => c7 (e.trans (by decide)))) (tgt := 112) (by decide) ?_
    refine z_aload_n (pc := 112) C (zD D_X6_tellCompany_0 46 rfl) rfl 0 rfl ?_
    refine z_iload_n (pc := 113) C (zD D_X6_tellCompany_0 47 rfl) rfl 1 rfl ?_
    refine z_bipush (pc := 114) (v := 6) C (zD D_X6_tellCompany_0 48 rfl) (by decide) ?_
    refine z_cvR (pc := 116) (As := [.int p0, .int (6 : Int32)]) C [] (c_X6_of _ _ _ _ n this p0 (6 : Int32) h) zn_X6_of (by decide) (by decide) hz0 zc6 rfl q_260 q_261 q_262 q_5 q_263 rfl rfl rfl (zD D_X6_tellCompany_0 49 rfl) (fun r116 => ?_)
    exact z_iret (pc := 119) C hr rfl (zD D_X6_tellCompany_0 50 rfl)
  · refine z_iload_n (pc := 8) C (zD D_X6_tellCompany_0 4 rfl) rfl 2 rfl ?_
    refine z_if_ne (pc := 9) C (zD D_X6_tellCompany_0 5 rfl) (tgt := 16) (by decide) (fun _ => ?_) (fun _ => ?_)
    · refine z_iconst (pc := 16) (v := -1) C (zD D_X6_tellCompany_0 8 rfl) (by decide) ?_
      exact z_iret (pc := 17) C hr rfl (zD D_X6_tellCompany_0 9 rfl)
    · refine z_iconst (pc := 12) (v := 0) C (zD D_X6_tellCompany_0 6 rfl) (by decide) ?_
      refine z_goto (pc := 13) C (zD D_X6_tellCompany_0 7 rfl) (tgt := 17) (by decide) ?_
      exact z_iret (pc := 17) C hr rfl (zD D_X6_tellCompany_0 9 rfl)
def f_X6_upkeep (n : Nat) (this : Nat) (p0 : Int32) (h : zH) : Option (zH) := zrc h this 6 <| (f_X6_of n this p0 (4 : Int32) h).bind fun (r4 : Int32) => zlet (((5 : Int32) * r4)) fun (x8 : Int32) => zrc h this 6 <| (f_X6_of n this p0 (2 : Int32) h).bind fun (r12 : Int32) => zlet (fun (s0_29 : Int32) => zrc h this 6 <| (f_X6_earns n this p0 (-s0_29) h).bind fun (h34 : zH) => zrc h34 this 6 <| zb2 (f_X6_isPaid n this p0 (x8 - s0_29) h34) fun (r42 : Int32) (h42 : zH) => if r42 = 0 then (zrc h42 this 6 <| (f_X6_of n this p0 (2 : Int32) h42).bind fun (r53 : Int32) => zrc h42 this 6 <| (f_X6_earns n this p0 (-r53) h42).bind fun (h57 : zH) => zrc h57 this 6 <| (f_X6_closes n this p0 h57).bind fun (h62 : zH) => (zgR h62 this 6 0).bind fun (v66 : Nat) => (zai h62 v66 (7 : Int32)).bind fun (v72 : Int32) => (zsi h62 v66 (7 : Int32) (v72 + (1 : Int32))).bind fun (h75 : zH) => some h75) else (some h42)) fun K29 => if x8 ≤ r12 then (K29 x8) else (zrc h this 6 <| (f_X6_of n this p0 (2 : Int32) h).bind fun (r22 : Int32) => K29 r22)
theorem zn_X6_upkeep : zNm yX6_upkeep 1 := ⟨by decide +kernel, by decide +kernel⟩
set_option maxRecDepth 100000 in
set_option maxHeartbeats 4000000 in
theorem c_X6_upkeep (l : Launch) (B : Nat) (D : va_G) (cA : Nat → ClassId) (n : Nat) (this : Nat) (p0 : Int32) (h : zH) : ∀ u, f_X6_upkeep n this p0 h = some u → zM l B D cA yX6_upkeep cX6_upkeep 4 none 5 0 0 none [.ref (B + this), .int p0] h ((fun h1 : zH => ((none : Option Value), h1)) u).1 ((fun h1 : zH => ((none : Option Value), h1)) u).2 := by
  unfold f_X6_upkeep
  refine z_met (own := RX6) (fun h1 : zH => ((none : Option Value), h1)) rfl (by decide) rfl (fun Z C hr _ _ => ?_)
  have hz0 : (z00 Z).1 ≤ 0 ∧ (z00 Z).2.1 ≤ 0 := ⟨Nat.le_refl 0, Nat.le_refl 0⟩
  refine z_iconst (pc := 0) (v := 5) C (zD D_X6_upkeep_0 0 rfl) (by decide) ?_
  refine z_aload_n (pc := 1) C (zD D_X6_upkeep_0 1 rfl) rfl 0 rfl ?_
  refine z_iload_n (pc := 2) C (zD D_X6_upkeep_0 2 rfl) rfl 1 rfl ?_
  refine z_iconst (pc := 3) (v := 4) C (zD D_X6_upkeep_0 3 rfl) (by decide) ?_
  refine z_cvR (pc := 4) (As := [.int p0, .int (4 : Int32)]) C [.int (5 : Int32)] (c_X6_of _ _ _ _ n this p0 (4 : Int32) h) zn_X6_of (by decide) (by decide) hz0 zc6 rfl q_260 q_261 q_262 q_5 q_263 rfl rfl rfl (zD D_X6_upkeep_0 4 rfl) (fun r4 => ?_)
  refine z_imul (pc := 7) C (zD D_X6_upkeep_0 5 rfl) ?_
  refine z_istore_nL (pc := 8) (lv' := fun x8 => [(2, .int x8), (0, .ref (B + this)), (1, .int p0)]) C (zD D_X6_upkeep_0 6 rfl) rfl (by decide) (fun _ => rfl) (fun x8 => ?_)
  refine z_aload_n (pc := 9) C (zD D_X6_upkeep_0 7 rfl) rfl 1 rfl ?_
  refine z_iload_n (pc := 10) C (zD D_X6_upkeep_0 8 rfl) rfl 2 rfl ?_
  refine z_iconst (pc := 11) (v := 2) C (zD D_X6_upkeep_0 9 rfl) (by decide) ?_
  refine z_cvR (pc := 12) (As := [.int p0, .int (2 : Int32)]) C [] (c_X6_of _ _ _ _ n this p0 (2 : Int32) h) zn_X6_of (by decide) (by decide) hz0 zc6 rfl q_260 q_261 q_262 q_5 q_263 rfl rfl rfl (zD D_X6_upkeep_0 10 rfl) (fun r12 => ?_)
  refine z_iload_n (pc := 15) C (zD D_X6_upkeep_0 11 rfl) rfl 0 rfl ?_
  refine z_letg (fun K29 => ∀ (s0_29 : Int32), zJ B Z (zEnd B Z (fun h1 : zH => ((none : Option Value), h1)) 0 0) (K29 s0_29) 29 [(0, .ref (B + this)), (1, .int p0), (2, .int x8)] [.int s0_29] h (z00 Z)) (fun s0_29 => ?_) (fun K29 hK29 => ?_)
  · refine z_istore_n (pc := 29) (lv' := [(3, .int s0_29), (0, .ref (B + this)), (1, .int p0), (2, .int x8)]) C (zD D_X6_upkeep_0 19 rfl) rfl (by decide) rfl ?_
    refine z_aload_n (pc := 30) C (zD D_X6_upkeep_0 20 rfl) rfl 1 rfl ?_
    refine z_iload_n (pc := 31) C (zD D_X6_upkeep_0 21 rfl) rfl 2 rfl ?_
    refine z_iload_n (pc := 32) C (zD D_X6_upkeep_0 22 rfl) rfl 0 rfl ?_
    refine z_ineg (pc := 33) C (zD D_X6_upkeep_0 23 rfl) ?_
    refine z_cvV (pc := 34) (As := [.int p0, .int (-s0_29)]) C [] (c_X6_earns _ _ _ _ n this p0 (-s0_29) h) zn_X6_earns (by decide) (by decide) hz0 zc6 rfl q_288 q_289 q_290 q_5 q_291 rfl rfl rfl (zD D_X6_upkeep_0 24 rfl) (fun h34 => ?_)
    refine z_aload_n (pc := 37) C (zD D_X6_upkeep_0 25 rfl) rfl 1 rfl ?_
    refine z_iload_n (pc := 38) C (zD D_X6_upkeep_0 26 rfl) rfl 2 rfl ?_
    refine z_iload_n (pc := 39) C (zD D_X6_upkeep_0 27 rfl) rfl 3 rfl ?_
    refine z_iload_n (pc := 40) C (zD D_X6_upkeep_0 28 rfl) rfl 0 rfl ?_
    refine z_isub (pc := 41) C (zD D_X6_upkeep_0 29 rfl) ?_
    refine z_cvI (pc := 42) (As := [.int p0, .int (x8 - s0_29)]) C [] (c_X6_isPaid _ _ _ _ n this p0 (x8 - s0_29) h34) zn_X6_isPaid (by decide) (by decide) hz0 zc6 rfl q_634 q_635 q_636 q_5 q_637 rfl rfl rfl (zD D_X6_upkeep_0 30 rfl) (fun r42 h42 => ?_)
    refine z_if_ne (pc := 45) C (zD D_X6_upkeep_0 31 rfl) (tgt := 76) (by decide) (fun _ => ?_) (fun _ => ?_)
    · exact z_vret (pc := 76) C hr rfl (zD D_X6_upkeep_0 51 rfl)
    · refine z_aload_n (pc := 48) C (zD D_X6_upkeep_0 32 rfl) rfl 1 rfl ?_
      refine z_iload_n (pc := 49) C (zD D_X6_upkeep_0 33 rfl) rfl 2 rfl ?_
      refine z_aload_n (pc := 50) C (zD D_X6_upkeep_0 34 rfl) rfl 1 rfl ?_
      refine z_iload_n (pc := 51) C (zD D_X6_upkeep_0 35 rfl) rfl 2 rfl ?_
      refine z_iconst (pc := 52) (v := 2) C (zD D_X6_upkeep_0 36 rfl) (by decide) ?_
      refine z_cvR (pc := 53) (As := [.int p0, .int (2 : Int32)]) C [.int p0, .ref (B + this)] (c_X6_of _ _ _ _ n this p0 (2 : Int32) h42) zn_X6_of (by decide) (by decide) hz0 zc6 rfl q_260 q_261 q_262 q_5 q_263 rfl rfl rfl (zD D_X6_upkeep_0 37 rfl) (fun r53 => ?_)
      refine z_ineg (pc := 56) C (zD D_X6_upkeep_0 38 rfl) ?_
      refine z_cvV (pc := 57) (As := [.int p0, .int (-r53)]) C [] (c_X6_earns _ _ _ _ n this p0 (-r53) h42) zn_X6_earns (by decide) (by decide) hz0 zc6 rfl q_288 q_289 q_290 q_5 q_291 rfl rfl rfl (zD D_X6_upkeep_0 39 rfl) (fun h57 => ?_)
      refine z_aload_n (pc := 60) C (zD D_X6_upkeep_0 40 rfl) rfl 1 rfl ?_
      refine z_iload_n (pc := 61) C (zD D_X6_upkeep_0 41 rfl) rfl 2 rfl ?_
      refine z_cvV (pc := 62) (As := [.int p0]) C [] (c_X6_closes _ _ _ _ n this p0 h57) zn_X6_closes (by decide) (by decide) hz0 zc6 rfl q_405 q_406 q_407 q_5 q_408 rfl rfl rfl (zD D_X6_upkeep_0 42 rfl) (fun h62 => ?_)
      refine z_aload_n (pc := 65) C (zD D_X6_upkeep_0 43 rfl) rfl 1 rfl ?_
      refine z_getR (pc := 66) C zc6 0 (by decide) q_102 (zD D_X6_upkeep_0 44 rfl) (fun v66 => ?_)
      refine z_bipush (pc := 69) (v := 7) C (zD D_X6_upkeep_0 45 rfl) (by decide) ?_
      refine z_dup2 (pc := 71) C (zD D_X6_upkeep_0 46 rfl) rfl rfl ?_
      refine z_aiload (pc := 72) C (zD D_X6_upkeep_0 47 rfl) (fun v72 => ?_)
      refine z_iconst (pc := 73) (v := 1) C (zD D_X6_upkeep_0 48 rfl) (by decide) ?_
      refine z_iadd (pc := 74) C (zD D_X6_upkeep_0 49 rfl) ?_
      refine z_aistore (pc := 75) C (zD D_X6_upkeep_0 50 rfl) (fun h75 => ?_)
      exact z_vret (pc := 76) C hr rfl (zD D_X6_upkeep_0 51 rfl)
  refine z_icmp_ge (pc := 16) C (zD D_X6_upkeep_0 12 rfl) (tgt := 28) (by decide) (fun _ => ?_) (fun _ => ?_)
  · refine z_iload_n (pc := 28) C (zD D_X6_upkeep_0 18 rfl) rfl 0 rfl ?_
    refine z_sub [1, 2, 0] (lv' := [(0, .ref (B + this)), (1, .int p0), (2, .int x8)]) rfl ?_
    exact hK29 x8
  · refine z_aload_n (pc := 19) C (zD D_X6_upkeep_0 13 rfl) rfl 1 rfl ?_
    refine z_iload_n (pc := 20) C (zD D_X6_upkeep_0 14 rfl) rfl 2 rfl ?_
    refine z_iconst (pc := 21) (v := 2) C (zD D_X6_upkeep_0 15 rfl) (by decide) ?_
    refine z_cvR (pc := 22) (As := [.int p0, .int (2 : Int32)]) C [] (c_X6_of _ _ _ _ n this p0 (2 : Int32) h) zn_X6_of (by decide) (by decide) hz0 zc6 rfl q_260 q_261 q_262 q_5 q_263 rfl rfl rfl (zD D_X6_upkeep_0 16 rfl) (fun r22 => ?_)
    refine z_goto (pc := 25) C (zD D_X6_upkeep_0 17 rfl) (tgt := 29) (by decide) ?_
    refine z_sub [1, 2, 0] (lv' := [(0, .ref (B + this)), (1, .int p0), (2, .int x8)]) rfl ?_
    exact hK29 r22
def f_X6_bestTrack (n : Nat) (this : Nat) (p0 : Int32) (h : zH) : Option (Int32 × zH) := (f_X6_isCompany n p0 h).bind fun (r2 : Int32) => zlet (fun (s0_13 : Int32) => zrc h this 6 <| zb2 (f_X6_refused n this s0_13 h) fun (r13 : Int32) (h13 : zH) => if r13 = 0 then (zfix4 (fun rec28 (a2_28 : Int32) (a3_28 : Int32) (a4_28 : Int32) (h28 : zH) => if (64 : Int32) ≤ a4_28 then (some (a2_28, h28)) else (zrc h28 this 6 <| (f_X6_isOpen n this p0 h28).bind fun (r37 : Int32) => if r37 = 0 then (some (a2_28, h28)) else (zlet ((a4_28 / (8 : Int32))) fun (x48 : Int32) => zlet ((zrem a4_28 (8 : Int32))) fun (x55 : Int32) => zlet (fun (s0_89 : Int32) (h89 : zH) => zlet (fun (s0_113 : Int32) => zlet (fun (s0_132 : Int32) => zlet (fun (s0_144 : Int32) => zlet (a4_28 + 1) fun (x145 : Int32) => rec28 s0_132 s0_144 x145 h89) fun K144 => if s0_113 = 0 then (K144 a3_28) else (K144 s0_89)) fun K132 => if s0_113 = 0 then (K132 a2_28) else (K132 (((10 : Int32) * x48) + x55))) fun K113 => zlet (K113 (0 : Int32)) fun K112 => if s0_89 = (-1 : Int32) then (K112) else (zlet (K113 (1 : Int32)) fun K108 => if a2_28 = (-1 : Int32) then (K108) else (if s0_89 ≤ a3_28 then (K112) else (K108)))) fun K89 => zlet (K89 (-1 : Int32) h28) fun K88 => if x55 ≤ x48 then (K88) else (zrc h28 this 6 <| (f_X6_canLay n this p0 x48 x55 h28).bind fun (r70 : Int32) => if r70 = 0 then (K88) else (zrc h28 this 6 <| zb2 (f_X6_incomeBy n this p0 x48 x55 h28) fun (r82 : Int32) (h82 : zH) => K89 r82 h82))))) n (-1 : Int32) (0 : Int32) (0 : Int32) h13) else (some ((0 : Int32), h13))) fun K13 => if r2 = 0 then (K13 (1 : Int32)) else (K13 (0 : Int32))
theorem zn_X6_bestTrack : zNm yX6_bestTrack 1 := ⟨by decide +kernel, by decide +kernel⟩
set_option maxRecDepth 100000 in
set_option maxHeartbeats 4000000 in
theorem c_X6_bestTrack (l : Launch) (B : Nat) (D : va_G) (cA : Nat → ClassId) (n : Nat) (this : Nat) (p0 : Int32) (h : zH) : ∀ u, f_X6_bestTrack n this p0 h = some u → zM l B D cA yX6_bestTrack cX6_bestTrack 9 (some .int) 6 0 0 none [.ref (B + this), .int p0] h ((fun u : Int32 × zH => (some (Value.int u.1), u.2)) u).1 ((fun u : Int32 × zH => (some (Value.int u.1), u.2)) u).2 := by
  unfold f_X6_bestTrack
  refine z_met (own := RX6) (fun u : Int32 × zH => (some (Value.int u.1), u.2)) rfl (by decide) rfl (fun Z C hr _ _ => ?_)
  have hz0 : (z00 Z).1 ≤ 0 ∧ (z00 Z).2.1 ≤ 0 := ⟨Nat.le_refl 0, Nat.le_refl 0⟩
  refine z_aload_n (pc := 0) C (zD D_X6_bestTrack_0 0 rfl) rfl 0 rfl ?_
  refine z_iload_n (pc := 1) C (zD D_X6_bestTrack_0 1 rfl) rfl 1 rfl ?_
  refine z_csR (pc := 2) (As := [.int p0]) C [.ref (B + this)] (c_X6_isCompany _ _ _ _ n p0 h) zn_X6_isCompany (by decide) (by decide) hz0 q_249 q_250 q_5 q_251 rfl rfl rfl (zD D_X6_bestTrack_0 2 rfl) (fun r2 => ?_)
  refine z_letg (fun K13 => ∀ (s0_13 : Int32), zJ B Z (zEnd B Z (fun u : Int32 × zH => (some (Value.int u.1), u.2)) 0 0) (K13 s0_13) 13 [(0, .ref (B + this)), (1, .int p0)] [.int s0_13, .ref (B + this)] h (z00 Z)) (fun s0_13 => ?_) (fun K13 hK13 => ?_)
  · refine z_cvI (pc := 13) (As := [.int s0_13]) C [] (c_X6_refused _ _ _ _ n this s0_13 h) zn_X6_refused (by decide) (by decide) hz0 zc6 rfl q_155 q_156 q_157 q_5 q_158 rfl rfl rfl (zD D_X6_bestTrack_0 7 rfl) (fun r13 h13 => ?_)
    refine z_if_eq (pc := 16) C (zD D_X6_bestTrack_0 8 rfl) (tgt := 21) (by decide) (fun _ => ?_) (fun _ => ?_)
    · refine z_iconst (pc := 21) (v := -1) C (zD D_X6_bestTrack_0 11 rfl) (by decide) ?_
      refine z_istore_n (pc := 22) (lv' := [(2, .int (-1 : Int32)), (0, .ref (B + this)), (1, .int p0)]) C (zD D_X6_bestTrack_0 12 rfl) rfl (by decide) rfl ?_
      refine z_iconst (pc := 23) (v := 0) C (zD D_X6_bestTrack_0 13 rfl) (by decide) ?_
      refine z_istore_n (pc := 24) (lv' := [(3, .int (0 : Int32)), (2, .int (-1 : Int32)), (0, .ref (B + this)), (1, .int p0)]) C (zD D_X6_bestTrack_0 14 rfl) rfl (by decide) rfl ?_
      refine z_iconst (pc := 25) (v := 0) C (zD D_X6_bestTrack_0 15 rfl) (by decide) ?_
      refine z_istore (pc := 26) (lv' := [(4, .int (0 : Int32)), (3, .int (0 : Int32)), (2, .int (-1 : Int32)), (0, .ref (B + this)), (1, .int p0)]) C (zD D_X6_bestTrack_0 16 rfl) (by decide) rfl ?_
      refine z_sub [3, 4, 2, 1, 0] (lv' := [(0, .ref (B + this)), (1, .int p0), (2, .int (-1 : Int32)), (3, .int (0 : Int32)), (4, .int (0 : Int32))]) rfl ?_
      refine z_fix4 (fun g28 => ∀ (a2_28 : Int32) (a3_28 : Int32) (a4_28 : Int32) (h28 : zH), zJ B Z (zEnd B Z (fun u : Int32 × zH => (some (Value.int u.1), u.2)) 0 0) (g28 a2_28 a3_28 a4_28 h28) 28 [(0, .ref (B + this)), (1, .int p0), (2, .int a2_28), (3, .int a3_28), (4, .int a4_28)] [] h28 (z00 Z)) (fun _ _ _ _ => z_none) (fun rec28 hrec28 a2_28 a3_28 a4_28 h28 => ?_) n (-1 : Int32) (0 : Int32) (0 : Int32) h13
      refine z_iload (pc := 28) C (zD D_X6_bestTrack_0 17 rfl) 4 rfl ?_
      refine z_bipush (pc := 30) (v := 64) C (zD D_X6_bestTrack_0 18 rfl) (by decide) ?_
      refine z_icmp_ge (pc := 32) C (zD D_X6_bestTrack_0 19 rfl) (tgt := 151) (by decide) (fun _ => ?_) (fun _ => ?_)
      · refine z_iload_n (pc := 151) C (zD D_X6_bestTrack_1 20 rfl) rfl 2 rfl ?_
        exact z_iret (pc := 152) C hr rfl (zD D_X6_bestTrack_1 21 rfl)
      · refine z_aload_n (pc := 35) C (zD D_X6_bestTrack_0 20 rfl) rfl 0 rfl ?_
        refine z_iload_n (pc := 36) C (zD D_X6_bestTrack_0 21 rfl) rfl 1 rfl ?_
        refine z_cvR (pc := 37) (As := [.int p0]) C [] (c_X6_isOpen _ _ _ _ n this p0 h28) zn_X6_isOpen (by decide) (by decide) hz0 zc6 rfl q_256 q_257 q_258 q_5 q_259 rfl rfl rfl (zD D_X6_bestTrack_0 22 rfl) (fun r37 => ?_)
        refine z_if_eq (pc := 40) C (zD D_X6_bestTrack_0 23 rfl) (tgt := 151) (by decide) (fun _ => ?_) (fun _ => ?_)
        · refine z_iload_n (pc := 151) C (zD D_X6_bestTrack_1 20 rfl) rfl 2 rfl ?_
          exact z_iret (pc := 152) C hr rfl (zD D_X6_bestTrack_1 21 rfl)
        · refine z_iload (pc := 43) C (zD D_X6_bestTrack_0 24 rfl) 4 rfl ?_
          refine z_bipush (pc := 45) (v := 8) C (zD D_X6_bestTrack_0 25 rfl) (by decide) ?_
          refine z_idivc (pc := 47) C (zD D_X6_bestTrack_0 26 rfl) (by decide) ?_
          refine z_istoreL (pc := 48) (lv' := fun x48 => [(5, .int x48), (0, .ref (B + this)), (1, .int p0), (2, .int a2_28), (3, .int a3_28), (4, .int a4_28)]) C (zD D_X6_bestTrack_0 27 rfl) (by decide) (fun _ => rfl) (fun x48 => ?_)
          refine z_iload (pc := 50) C (zD D_X6_bestTrack_0 28 rfl) 5 rfl ?_
          refine z_bipush (pc := 52) (v := 8) C (zD D_X6_bestTrack_0 29 rfl) (by decide) ?_
          refine z_iremc (pc := 54) C (zD D_X6_bestTrack_0 30 rfl) (by decide) ?_
          refine z_istoreL (pc := 55) (lv' := fun x55 => [(6, .int x55), (5, .int x48), (0, .ref (B + this)), (1, .int p0), (2, .int a2_28), (3, .int a3_28), (4, .int a4_28)]) C (zD D_X6_bestTrack_0 31 rfl) (by decide) (fun _ => rfl) (fun x55 => ?_)
          refine z_iload (pc := 57) C (zD D_X6_bestTrack_0 32 rfl) 1 rfl ?_
          refine z_iload (pc := 59) C (zD D_X6_bestTrack_0 33 rfl) 0 rfl ?_
          refine z_letg (fun K89 => ∀ (s0_89 : Int32) (h89 : zH), zJ B Z (zEnd B Z (fun u : Int32 × zH => (some (Value.int u.1), u.2)) 0 0) (K89 s0_89 h89) 89 [(0, .ref (B + this)), (1, .int p0), (2, .int a2_28), (3, .int a3_28), (4, .int a4_28), (5, .int x48), (6, .int x55)] [.int s0_89] h89 (z00 Z)) (fun s0_89 h89 => ?_) (fun K89 hK89 => ?_)
          · refine z_istore (pc := 89) (lv' := [(7, .int s0_89), (0, .ref (B + this)), (1, .int p0), (2, .int a2_28), (3, .int a3_28), (4, .int a4_28), (5, .int x48), (6, .int x55)]) C (zD D_X6_bestTrack_0 48 rfl) (by decide) rfl ?_
            refine z_iload (pc := 91) C (zD D_X6_bestTrack_0 49 rfl) 0 rfl ?_
            refine z_iconst (pc := 93) (v := -1) C (zD D_X6_bestTrack_0 50 rfl) (by decide) ?_
            refine z_letg (fun K113 => ∀ (s0_113 : Int32), zJ B Z (zEnd B Z (fun u : Int32 × zH => (some (Value.int u.1), u.2)) 0 0) (K113 s0_113) 113 [(0, .ref (B + this)), (1, .int p0), (2, .int a2_28), (3, .int a3_28), (4, .int a4_28), (5, .int x48), (6, .int x55), (7, .int s0_89)] [.int s0_113] h89 (z00 Z)) (fun s0_113 => ?_) (fun K113 hK113 => ?_)
            · refine z_istore (pc := 113) (lv' := [(8, .int s0_113), (0, .ref (B + this)), (1, .int p0), (2, .int a2_28), (3, .int a3_28), (4, .int a4_28), (5, .int x48), (6, .int x55), (7, .int s0_89)]) C (zD D_X6_bestTrack_1 1 rfl) (by decide) rfl ?_
              refine z_iload (pc := 115) C (zD D_X6_bestTrack_1 2 rfl) 0 rfl ?_
              refine z_letg (fun K132 => ∀ (s0_132 : Int32), zJ B Z (zEnd B Z (fun u : Int32 × zH => (some (Value.int u.1), u.2)) 0 0) (K132 s0_132) 132 [(0, .ref (B + this)), (1, .int p0), (3, .int a3_28), (4, .int a4_28), (7, .int s0_89), (8, .int s0_113)] [.int s0_132] h89 (z00 Z)) (fun s0_132 => ?_) (fun K132 hK132 => ?_)
              · refine z_istore_n (pc := 132) (lv' := [(2, .int s0_132), (0, .ref (B + this)), (1, .int p0), (3, .int a3_28), (4, .int a4_28), (7, .int s0_89), (8, .int s0_113)]) C (zD D_X6_bestTrack_1 11 rfl) rfl (by decide) rfl ?_
                refine z_iload (pc := 133) C (zD D_X6_bestTrack_1 12 rfl) 6 rfl ?_
                refine z_letg (fun K144 => ∀ (s0_144 : Int32), zJ B Z (zEnd B Z (fun u : Int32 × zH => (some (Value.int u.1), u.2)) 0 0) (K144 s0_144) 144 [(0, .ref (B + this)), (1, .int p0), (2, .int s0_132), (4, .int a4_28)] [.int s0_144] h89 (z00 Z)) (fun s0_144 => ?_) (fun K144 hK144 => ?_)
                · refine z_istore_n (pc := 144) (lv' := [(3, .int s0_144), (0, .ref (B + this)), (1, .int p0), (2, .int s0_132), (4, .int a4_28)]) C (zD D_X6_bestTrack_1 17 rfl) rfl (by decide) rfl ?_
                  refine z_iincL (pc := 145) (lv' := fun x145 => [(4, .int x145), (3, .int s0_144), (0, .ref (B + this)), (1, .int p0), (2, .int s0_132)]) C (zD D_X6_bestTrack_1 18 rfl) 4 rfl (v := a4_28 + 1) rfl (by decide) (fun _ => rfl) (fun x145 => ?_)
                  refine z_goto (pc := 148) C (zD D_X6_bestTrack_1 19 rfl) (tgt := 28) (by decide) ?_
                  refine z_sub [2, 3, 4, 1, 0] (lv' := [(0, .ref (B + this)), (1, .int p0), (2, .int s0_132), (3, .int s0_144), (4, .int x145)]) rfl ?_
                  exact hrec28 s0_132 s0_144 x145 h89
                refine z_if_eq (pc := 135) C (zD D_X6_bestTrack_1 13 rfl) (tgt := 143) (by decide) (fun _ => ?_) (fun _ => ?_)
                · refine z_iload_n (pc := 143) C (zD D_X6_bestTrack_1 16 rfl) rfl 3 rfl ?_
                  refine z_sub [1, 2, 0, 4] (lv' := [(0, .ref (B + this)), (1, .int p0), (2, .int s0_132), (4, .int a4_28)]) rfl ?_
                  exact hK144 a3_28
                · refine z_iload (pc := 138) C (zD D_X6_bestTrack_1 14 rfl) 5 rfl ?_
                  refine z_goto (pc := 140) C (zD D_X6_bestTrack_1 15 rfl) (tgt := 144) (by decide) ?_
                  refine z_sub [1, 2, 0, 4] (lv' := [(0, .ref (B + this)), (1, .int p0), (2, .int s0_132), (4, .int a4_28)]) rfl ?_
                  exact hK144 s0_89
              refine z_if_eq (pc := 117) C (zD D_X6_bestTrack_1 3 rfl) (tgt := 131) (by decide) (fun _ => ?_) (fun _ => ?_)
              · refine z_iload_n (pc := 131) C (zD D_X6_bestTrack_1 10 rfl) rfl 3 rfl ?_
                refine z_sub [1, 2, 4, 5, 8, 0] (lv' := [(0, .ref (B + this)), (1, .int p0), (3, .int a3_28), (4, .int a4_28), (7, .int s0_89), (8, .int s0_113)]) rfl ?_
                exact hK132 a2_28
              · refine z_bipush (pc := 120) (v := 10) C (zD D_X6_bestTrack_1 4 rfl) (by decide) ?_
                refine z_iload (pc := 122) C (zD D_X6_bestTrack_1 5 rfl) 6 rfl ?_
                refine z_imul (pc := 124) C (zD D_X6_bestTrack_1 6 rfl) ?_
                refine z_iload (pc := 125) C (zD D_X6_bestTrack_1 7 rfl) 7 rfl ?_
                refine z_iadd (pc := 127) C (zD D_X6_bestTrack_1 8 rfl) ?_
                refine z_goto (pc := 128) C (zD D_X6_bestTrack_1 9 rfl) (tgt := 132) (by decide) ?_
                refine z_sub [1, 2, 4, 5, 8, 0] (lv' := [(0, .ref (B + this)), (1, .int p0), (3, .int a3_28), (4, .int a4_28), (7, .int s0_89), (8, .int s0_113)]) rfl ?_
                exact hK132 (((10 : Int32) * x48) + x55)
            refine z_letg (fun K112 => zJ B Z (zEnd B Z (fun u : Int32 × zH => (some (Value.int u.1), u.2)) 0 0) (K112) 112 [(0, .ref (B + this)), (1, .int p0), (2, .int a2_28), (3, .int a3_28), (4, .int a4_28), (5, .int x48), (6, .int x55), (7, .int s0_89)] [] h89 (z00 Z)) ?_ (fun K112 hK112 => ?_)
            · refine z_iconst (pc := 112) (v := 0) C (zD D_X6_bestTrack_1 0 rfl) (by decide) ?_
              exact hK113 (0 : Int32)
            refine z_icmp_eq (pc := 94) C (zD D_X6_bestTrack_0 51 rfl) (tgt := 112) (by decide) (fun _ => ?_) (fun _ => ?_)
            · refine z_sub [1, 2, 3, 4, 5, 6, 7, 0] (lv' := [(0, .ref (B + this)), (1, .int p0), (2, .int a2_28), (3, .int a3_28), (4, .int a4_28), (5, .int x48), (6, .int x55), (7, .int s0_89)]) rfl ?_
              exact hK112
            · refine z_iload_n (pc := 97) C (zD D_X6_bestTrack_0 52 rfl) rfl 3 rfl ?_
              refine z_iconst (pc := 98) (v := -1) C (zD D_X6_bestTrack_0 53 rfl) (by decide) ?_
              refine z_letg (fun K108 => zJ B Z (zEnd B Z (fun u : Int32 × zH => (some (Value.int u.1), u.2)) 0 0) (K108) 108 [(0, .ref (B + this)), (1, .int p0), (2, .int a2_28), (3, .int a3_28), (4, .int a4_28), (5, .int x48), (6, .int x55), (7, .int s0_89)] [] h89 (z00 Z)) ?_ (fun K108 hK108 => ?_)
              · refine z_iconst (pc := 108) (v := 1) C (zD D_X6_bestTrack_0 58 rfl) (by decide) ?_
                refine z_goto (pc := 109) C (zD D_X6_bestTrack_0 59 rfl) (tgt := 113) (by decide) ?_
                exact hK113 (1 : Int32)
              refine z_icmp_eq (pc := 99) C (zD D_X6_bestTrack_0 54 rfl) (tgt := 108) (by decide) (fun _ => ?_) (fun _ => ?_)
              · refine z_sub [1, 2, 3, 4, 5, 6, 7, 0] (lv' := [(0, .ref (B + this)), (1, .int p0), (2, .int a2_28), (3, .int a3_28), (4, .int a4_28), (5, .int x48), (6, .int x55), (7, .int s0_89)]) rfl ?_
                exact hK108
              · refine z_iload (pc := 102) C (zD D_X6_bestTrack_0 55 rfl) 0 rfl ?_
                refine z_iload_n (pc := 104) C (zD D_X6_bestTrack_0 56 rfl) rfl 4 rfl ?_
                refine z_icmp_le (pc := 105) C (zD D_X6_bestTrack_0 57 rfl) (tgt := 112) (by decide) (fun _ => ?_) (fun _ => ?_)
                · refine z_sub [1, 2, 3, 4, 5, 6, 7, 0] (lv' := [(0, .ref (B + this)), (1, .int p0), (2, .int a2_28), (3, .int a3_28), (4, .int a4_28), (5, .int x48), (6, .int x55), (7, .int s0_89)]) rfl ?_
                  exact hK112
                · refine z_sub [1, 2, 3, 4, 5, 6, 7, 0] (lv' := [(0, .ref (B + this)), (1, .int p0), (2, .int a2_28), (3, .int a3_28), (4, .int a4_28), (5, .int x48), (6, .int x55), (7, .int s0_89)]) rfl ?_
                  exact hK108
          refine z_letg (fun K88 => zJ B Z (zEnd B Z (fun u : Int32 × zH => (some (Value.int u.1), u.2)) 0 0) (K88) 88 [(0, .ref (B + this)), (1, .int p0), (2, .int a2_28), (3, .int a3_28), (4, .int a4_28), (5, .int x48), (6, .int x55)] [] h28 (z00 Z)) ?_ (fun K88 hK88 => ?_)
          · refine z_iconst (pc := 88) (v := -1) C (zD D_X6_bestTrack_0 47 rfl) (by decide) ?_
            exact hK89 (-1 : Int32) h28
          refine z_icmp_ge (pc := 61) C (zD D_X6_bestTrack_0 34 rfl) (tgt := 88) (by decide) (fun _ => ?_) (fun _ => ?_)
          · refine z_sub [2, 3, 4, 5, 6, 1, 0] (lv' := [(0, .ref (B + this)), (1, .int p0), (2, .int a2_28), (3, .int a3_28), (4, .int a4_28), (5, .int x48), (6, .int x55)]) rfl ?_
            exact hK88
          · refine z_aload_n (pc := 64) C (zD D_X6_bestTrack_0 35 rfl) rfl 2 rfl ?_
            refine z_iload_n (pc := 65) C (zD D_X6_bestTrack_0 36 rfl) rfl 3 rfl ?_
            refine z_iload (pc := 66) C (zD D_X6_bestTrack_0 37 rfl) 1 rfl ?_
            refine z_iload (pc := 68) C (zD D_X6_bestTrack_0 38 rfl) 0 rfl ?_
            refine z_cvR (pc := 70) (As := [.int p0, .int x48, .int x55]) C [] (c_X6_canLay _ _ _ _ n this p0 x48 x55 h28) zn_X6_canLay (by decide) (by decide) hz0 zc6 rfl q_589 q_590 q_591 q_5 q_592 rfl rfl rfl (zD D_X6_bestTrack_0 39 rfl) (fun r70 => ?_)
            refine z_if_eq (pc := 73) C (zD D_X6_bestTrack_0 40 rfl) (tgt := 88) (by decide) (fun _ => ?_) (fun _ => ?_)
            · refine z_sub [2, 3, 4, 5, 6, 1, 0] (lv' := [(0, .ref (B + this)), (1, .int p0), (2, .int a2_28), (3, .int a3_28), (4, .int a4_28), (5, .int x48), (6, .int x55)]) rfl ?_
              exact hK88
            · refine z_aload_n (pc := 76) C (zD D_X6_bestTrack_0 41 rfl) rfl 2 rfl ?_
              refine z_iload_n (pc := 77) C (zD D_X6_bestTrack_0 42 rfl) rfl 3 rfl ?_
              refine z_iload (pc := 78) C (zD D_X6_bestTrack_0 43 rfl) 1 rfl ?_
              refine z_iload (pc := 80) C (zD D_X6_bestTrack_0 44 rfl) 0 rfl ?_
              refine z_cvI (pc := 82) (As := [.int p0, .int x48, .int x55]) C [] (c_X6_incomeBy _ _ _ _ n this p0 x48 x55 h28) zn_X6_incomeBy (by decide) (by decide) hz0 zc6 rfl q_794 q_795 q_796 q_5 q_797 rfl rfl rfl (zD D_X6_bestTrack_0 45 rfl) (fun r82 h82 => ?_)
              refine z_goto (pc := 85) C (zD D_X6_bestTrack_0 46 rfl) (tgt := 89) (by decide) ?_
              refine z_sub [2, 3, 4, 5, 6, 1, 0] (lv' := [(0, .ref (B + this)), (1, .int p0), (2, .int a2_28), (3, .int a3_28), (4, .int a4_28), (5, .int x48), (6, .int x55)]) rfl ?_
              exact hK89 r82 h82
    · refine z_iconst (pc := 19) (v := 0) C (zD D_X6_bestTrack_0 9 rfl) (by decide) ?_
      exact z_iret (pc := 20) C hr rfl (zD D_X6_bestTrack_0 10 rfl)
  refine z_if_eq (pc := 5) C (zD D_X6_bestTrack_0 3 rfl) (tgt := 12) (by decide) (fun _ => ?_) (fun _ => ?_)
  · refine z_iconst (pc := 12) (v := 1) C (zD D_X6_bestTrack_0 6 rfl) (by decide) ?_
    exact hK13 (1 : Int32)
  · refine z_iconst (pc := 8) (v := 0) C (zD D_X6_bestTrack_0 4 rfl) (by decide) ?_
    refine z_goto (pc := 9) C (zD D_X6_bestTrack_0 5 rfl) (tgt := 13) (by decide) ?_
    exact hK13 (0 : Int32)
def f_X6_company (n : Nat) (this : Nat) (p0 : Int32) (p1 : Int32) (h : zH) : Option (Int32 × zH) := (f_X6_isCompany n p0 h).bind fun (r2 : Int32) => zlet (fun (s0_27 : Int32) => zrc h this 6 <| zb2 (f_X6_refused n this s0_27 h) fun (r27 : Int32) (h27 : zH) => if r27 = 0 then (zrc h27 this 6 <| zb2 (f_X6_tellCompany n this p0 p1 h27) fun (r40 : Int32) (h40 : zH) => some (r40, h40)) else (some ((0 : Int32), h27))) fun K27 => if r2 = 0 then (K27 (1 : Int32)) else ((f_X6_in n p1 (0 : Int32) (8 : Int32) h).bind fun (r16 : Int32) => if r16 = 0 then (K27 (2 : Int32)) else (K27 (0 : Int32)))
theorem zn_X6_company : zNm yX6_company 2 := ⟨by decide +kernel, by decide +kernel⟩
set_option maxRecDepth 100000 in
set_option maxHeartbeats 4000000 in
theorem c_X6_company (l : Launch) (B : Nat) (D : va_G) (cA : Nat → ClassId) (n : Nat) (this : Nat) (p0 : Int32) (p1 : Int32) (h : zH) : ∀ u, f_X6_company n this p0 p1 h = some u → zM l B D cA yX6_company cX6_company 3 (some .int) 6 0 0 none [.ref (B + this), .int p0, .int p1] h ((fun u : Int32 × zH => (some (Value.int u.1), u.2)) u).1 ((fun u : Int32 × zH => (some (Value.int u.1), u.2)) u).2 := by
  unfold f_X6_company
  refine z_met (own := RX6) (fun u : Int32 × zH => (some (Value.int u.1), u.2)) rfl (by decide) rfl (fun Z C hr _ _ => ?_)
  have hz0 : (z00 Z).1 ≤ 0 ∧ (z00 Z).2.1 ≤ 0 := ⟨Nat.le_refl 0, Nat.le_refl 0⟩
  refine z_aload_n (pc := 0) C (zD D_X6_company_0 0 rfl) rfl 0 rfl ?_
  refine z_iload_n (pc := 1) C (zD D_X6_company_0 1 rfl) rfl 1 rfl ?_
  refine z_csR (pc := 2) (As := [.int p0]) C [.ref (B + this)] (c_X6_isCompany _ _ _ _ n p0 h) zn_X6_isCompany (by decide) (by decide) hz0 q_249 q_250 q_5 q_251 rfl rfl rfl (zD D_X6_company_0 2 rfl) (fun r2 => ?_)
  refine z_letg (fun K27 => ∀ (s0_27 : Int32), zJ B Z (zEnd B Z (fun u : Int32 × zH => (some (Value.int u.1), u.2)) 0 0) (K27 s0_27) 27 [(0, .ref (B + this)), (1, .int p0), (2, .int p1)] [.int s0_27, .ref (B + this)] h (z00 Z)) (fun s0_27 => ?_) (fun K27 hK27 => ?_)
  · refine z_cvI (pc := 27) (As := [.int s0_27]) C [] (c_X6_refused _ _ _ _ n this s0_27 h) zn_X6_refused (by decide) (by decide) hz0 zc6 rfl q_155 q_156 q_157 q_5 q_158 rfl rfl rfl (zD D_X6_company_0 14 rfl) (fun r27 h27 => ?_)
    refine z_if_eq (pc := 30) C (zD D_X6_company_0 15 rfl) (tgt := 37) (by decide) (fun _ => ?_) (fun _ => ?_)
    · refine z_aload_n (pc := 37) C (zD D_X6_company_0 18 rfl) rfl 0 rfl ?_
      refine z_iload_n (pc := 38) C (zD D_X6_company_0 19 rfl) rfl 1 rfl ?_
      refine z_iload_n (pc := 39) C (zD D_X6_company_0 20 rfl) rfl 2 rfl ?_
      refine z_cvI (pc := 40) (As := [.int p0, .int p1]) C [] (c_X6_tellCompany _ _ _ _ n this p0 p1 h27) zn_X6_tellCompany (by decide) (by decide) hz0 zc6 rfl q_698 q_699 q_700 q_5 q_701 rfl rfl rfl (zD D_X6_company_0 21 rfl) (fun r40 h40 => ?_)
      exact z_iret (pc := 43) C hr rfl (zD D_X6_company_0 22 rfl)
    · refine z_iconst (pc := 33) (v := 0) C (zD D_X6_company_0 16 rfl) (by decide) ?_
      refine z_goto (pc := 34) C (zD D_X6_company_0 17 rfl) (tgt := 43) (by decide) ?_
      exact z_iret (pc := 43) C hr rfl (zD D_X6_company_0 22 rfl)
  refine z_if_ne (pc := 5) C (zD D_X6_company_0 3 rfl) (tgt := 12) (by decide) (fun _ => ?_) (fun _ => ?_)
  · refine z_iload_n (pc := 12) C (zD D_X6_company_0 6 rfl) rfl 2 rfl ?_
    refine z_iconst (pc := 13) (v := 0) C (zD D_X6_company_0 7 rfl) (by decide) ?_
    refine z_bipush (pc := 14) (v := 8) C (zD D_X6_company_0 8 rfl) (by decide) ?_
    refine z_csR (pc := 16) (As := [.int p1, .int (0 : Int32), .int (8 : Int32)]) C [.ref (B + this)] (c_X6_in _ _ _ _ n p1 (0 : Int32) (8 : Int32) h) zn_X6_in (by decide) (by decide) hz0 q_152 q_153 q_5 q_154 rfl rfl rfl (zD D_X6_company_0 9 rfl) (fun r16 => ?_)
    refine z_if_eq (pc := 19) C (zD D_X6_company_0 10 rfl) (tgt := 26) (by decide) (fun _ => ?_) (fun _ => ?_)
    · refine z_iconst (pc := 26) (v := 2) C (zD D_X6_company_0 13 rfl) (by decide) ?_
      exact hK27 (2 : Int32)
    · refine z_iconst (pc := 22) (v := 0) C (zD D_X6_company_0 11 rfl) (by decide) ?_
      refine z_goto (pc := 23) C (zD D_X6_company_0 12 rfl) (tgt := 27) (by decide) ?_
      exact hK27 (0 : Int32)
  · refine z_iconst (pc := 8) (v := 1) C (zD D_X6_company_0 4 rfl) (by decide) ?_
    refine z_goto (pc := 9) C (zD D_X6_company_0 5 rfl) (tgt := 27) (by decide) ?_
    exact hK27 (1 : Int32)
