def f_X6_isDigit (n : Nat) (this : Nat) (p0 : Int32) (p1 : Int32) (h : zH) : Option (Int32) := (zgI h this 6 12).bind fun (v1 : Int32) => (zgI h this 6 4).bind fun (v5 : Int32) => zlet (some (0 : Int32)) fun K38 => if v5 ≤ v1 then (K38) else ((zgR h this 6 3).bind fun (v12 : Nat) => (zgI h this 6 12).bind fun (v16 : Int32) => (zai h v12 v16).bind fun (v19 : Int32) => (f_X6_in n v19 ((48 : Int32) + p0) ((48 : Int32) + p1) h).bind fun (r28 : Int32) => if r28 = 0 then (K38) else (some (1 : Int32)))
theorem zn_X6_isDigit : zNm yX6_isDigit 2 := ⟨by decide +kernel, by decide +kernel⟩
set_option maxRecDepth 100000 in
set_option maxHeartbeats 4000000 in
theorem c_X6_isDigit (l : Launch) (B : Nat) (D : va_G) (cA : Nat → ClassId) (n : Nat) (this : Nat) (p0 : Int32) (p1 : Int32) (h : zH) : ∀ u, f_X6_isDigit n this p0 p1 h = some u → zM l B D cA yX6_isDigit cX6_isDigit 3 (some .boolean) 2 0 0 none [.ref (B + this), .int p0, .int p1] h ((fun r : Int32 => (some (Value.int r), h)) u).1 ((fun r : Int32 => (some (Value.int r), h)) u).2 := by
  unfold f_X6_isDigit
  refine z_met (own := RX6) (fun r : Int32 => (some (Value.int r), h)) rfl (by decide) rfl (fun Z C hr _ _ => ?_)
  have hz0 : (z00 Z).1 ≤ 0 ∧ (z00 Z).2.1 ≤ 0 := ⟨Nat.le_refl 0, Nat.le_refl 0⟩
  refine z_aload_n (pc := 0) C (zD D_X6_isDigit_0 0 rfl) rfl 0 rfl ?_
  refine z_getI (pc := 1) C zc6 12 (by decide) q_910 (zD D_X6_isDigit_0 1 rfl) (fun v1 => ?_)
  refine z_aload_n (pc := 4) C (zD D_X6_isDigit_0 2 rfl) rfl 0 rfl ?_
  refine z_getI (pc := 5) C zc6 4 (by decide) q_863 (zD D_X6_isDigit_0 3 rfl) (fun v5 => ?_)
  refine z_letg (fun K38 => zJ B Z (zEnd B Z (fun r : Int32 => (some (Value.int r), h)) 0 0) (K38) 38 [] [] h (z00 Z)) ?_ (fun K38 hK38 => ?_)
  · refine z_iconst (pc := 38) (v := 0) C (zD D_X6_isDigit_0 20 rfl) (by decide) ?_
    exact z_zret (pc := 39) C hr (by decide) rfl (zD D_X6_isDigit_0 21 rfl)
  refine z_icmp_ge (pc := 8) C (zD D_X6_isDigit_0 4 rfl) (tgt := 38) (by decide) (fun _ => ?_) (fun _ => ?_)
  · refine z_sub [] (lv' := []) rfl ?_
    exact hK38
  · refine z_aload_n (pc := 11) C (zD D_X6_isDigit_0 5 rfl) rfl 0 rfl ?_
    refine z_getR (pc := 12) C zc6 3 (by decide) q_104 (zD D_X6_isDigit_0 6 rfl) (fun v12 => ?_)
    refine z_aload_n (pc := 15) C (zD D_X6_isDigit_0 7 rfl) rfl 0 rfl ?_
    refine z_getI (pc := 16) C zc6 12 (by decide) q_910 (zD D_X6_isDigit_0 8 rfl) (fun v16 => ?_)
    refine z_aiload (pc := 19) C (zD D_X6_isDigit_0 9 rfl) (fun v19 => ?_)
    refine z_bipush (pc := 20) (v := 48) C (zD D_X6_isDigit_0 10 rfl) (by decide) ?_
    refine z_iload_n (pc := 22) C (zD D_X6_isDigit_0 11 rfl) rfl 1 rfl ?_
    refine z_iadd (pc := 23) C (zD D_X6_isDigit_0 12 rfl) ?_
    refine z_bipush (pc := 24) (v := 48) C (zD D_X6_isDigit_0 13 rfl) (by decide) ?_
    refine z_iload_n (pc := 26) C (zD D_X6_isDigit_0 14 rfl) rfl 2 rfl ?_
    refine z_iadd (pc := 27) C (zD D_X6_isDigit_0 15 rfl) ?_
    refine z_csR (pc := 28) (As := [.int v19, .int ((48 : Int32) + p0), .int ((48 : Int32) + p1)]) C [] (c_X6_in _ _ _ _ n v19 ((48 : Int32) + p0) ((48 : Int32) + p1) h) zn_X6_in (by decide) (by decide) hz0 q_152 q_153 q_5 q_154 rfl rfl rfl (zD D_X6_isDigit_0 16 rfl) (fun r28 => ?_)
    refine z_if_eq (pc := 31) C (zD D_X6_isDigit_0 17 rfl) (tgt := 38) (by decide) (fun _ => ?_) (fun _ => ?_)
    · refine z_sub [] (lv' := []) rfl ?_
      exact hK38
    · refine z_iconst (pc := 34) (v := 1) C (zD D_X6_isDigit_0 18 rfl) (by decide) ?_
      refine z_goto (pc := 35) C (zD D_X6_isDigit_0 19 rfl) (tgt := 39) (by decide) ?_
      exact z_zret (pc := 39) C hr (by decide) rfl (zD D_X6_isDigit_0 21 rfl)
def f_X6_isOpen (n : Nat) (this : Nat) (p0 : Int32) (h : zH) : Option (Int32) := zrc h this 6 <| (f_X6_of n this p0 (0 : Int32) h).bind fun (r3 : Int32) => if r3 = (1 : Int32) then (some (1 : Int32)) else (some (0 : Int32))
theorem zn_X6_isOpen : zNm yX6_isOpen 1 := ⟨by decide +kernel, by decide +kernel⟩
set_option maxRecDepth 100000 in
set_option maxHeartbeats 4000000 in
theorem c_X6_isOpen (l : Launch) (B : Nat) (D : va_G) (cA : Nat → ClassId) (n : Nat) (this : Nat) (p0 : Int32) (h : zH) : ∀ u, f_X6_isOpen n this p0 h = some u → zM l B D cA yX6_isOpen cX6_isOpen 2 (some .boolean) 2 0 0 none [.ref (B + this), .int p0] h ((fun r : Int32 => (some (Value.int r), h)) u).1 ((fun r : Int32 => (some (Value.int r), h)) u).2 := by
  unfold f_X6_isOpen
  refine z_met (own := RX6) (fun r : Int32 => (some (Value.int r), h)) rfl (by decide) rfl (fun Z C hr _ _ => ?_)
  have hz0 : (z00 Z).1 ≤ 0 ∧ (z00 Z).2.1 ≤ 0 := ⟨Nat.le_refl 0, Nat.le_refl 0⟩
  refine z_aload_n (pc := 0) C (zD D_X6_isOpen_0 0 rfl) rfl 0 rfl ?_
  refine z_iload_n (pc := 1) C (zD D_X6_isOpen_0 1 rfl) rfl 1 rfl ?_
  refine z_iconst (pc := 2) (v := 0) C (zD D_X6_isOpen_0 2 rfl) (by decide) ?_
  refine z_cvR (pc := 3) (As := [.int p0, .int (0 : Int32)]) C [] (c_X6_of _ _ _ _ n this p0 (0 : Int32) h) zn_X6_of (by decide) (by decide) hz0 zc6 rfl q_260 q_261 q_262 q_5 q_263 rfl rfl rfl (zD D_X6_isOpen_0 3 rfl) (fun r3 => ?_)
  refine z_iconst (pc := 6) (v := 1) C (zD D_X6_isOpen_0 4 rfl) (by decide) ?_
  refine z_icmp_ne (pc := 7) C (zD D_X6_isOpen_0 5 rfl) (tgt := 14) (by decide) (fun _ => ?_) (fun _ => ?_)
  · refine z_iconst (pc := 14) (v := 0) C (zD D_X6_isOpen_0 8 rfl) (by decide) ?_
    exact z_zret (pc := 15) C hr (by decide) rfl (zD D_X6_isOpen_0 9 rfl)
  · refine z_iconst (pc := 10) (v := 1) C (zD D_X6_isOpen_0 6 rfl) (by decide) ?_
    refine z_goto (pc := 11) C (zD D_X6_isOpen_0 7 rfl) (tgt := 15) (by decide) ?_
    exact z_zret (pc := 15) C hr (by decide) rfl (zD D_X6_isOpen_0 9 rfl)
def f_X6_isPlayer (n : Nat) (this : Nat) (p0 : Int32) (h : zH) : Option (Int32) := (zgR h this 6 0).bind fun (v3 : Nat) => (zai h v3 (0 : Int32)).bind fun (v7 : Int32) => (f_X6_in n p0 (0 : Int32) (v7 - (1 : Int32)) h).bind fun (r10 : Int32) => (zB r10).bind fun _ => some r10
theorem zn_X6_isPlayer : zNm yX6_isPlayer 1 := ⟨by decide +kernel, by decide +kernel⟩
set_option maxRecDepth 100000 in
set_option maxHeartbeats 4000000 in
theorem c_X6_isPlayer (l : Launch) (B : Nat) (D : va_G) (cA : Nat → ClassId) (n : Nat) (this : Nat) (p0 : Int32) (h : zH) : ∀ u, f_X6_isPlayer n this p0 h = some u → zM l B D cA yX6_isPlayer cX6_isPlayer 2 (some .boolean) 2 0 0 none [.ref (B + this), .int p0] h ((fun r : Int32 => (some (Value.int r), h)) u).1 ((fun r : Int32 => (some (Value.int r), h)) u).2 := by
  unfold f_X6_isPlayer
  refine z_met (own := RX6) (fun r : Int32 => (some (Value.int r), h)) rfl (by decide) rfl (fun Z C hr _ _ => ?_)
  have hz0 : (z00 Z).1 ≤ 0 ∧ (z00 Z).2.1 ≤ 0 := ⟨Nat.le_refl 0, Nat.le_refl 0⟩
  refine z_iload_n (pc := 0) C (zD D_X6_isPlayer_0 0 rfl) rfl 1 rfl ?_
  refine z_iconst (pc := 1) (v := 0) C (zD D_X6_isPlayer_0 1 rfl) (by decide) ?_
  refine z_aload_n (pc := 2) C (zD D_X6_isPlayer_0 2 rfl) rfl 0 rfl ?_
  refine z_getR (pc := 3) C zc6 0 (by decide) q_102 (zD D_X6_isPlayer_0 3 rfl) (fun v3 => ?_)
  refine z_iconst (pc := 6) (v := 0) C (zD D_X6_isPlayer_0 4 rfl) (by decide) ?_
  refine z_aiload (pc := 7) C (zD D_X6_isPlayer_0 5 rfl) (fun v7 => ?_)
  refine z_iconst (pc := 8) (v := 1) C (zD D_X6_isPlayer_0 6 rfl) (by decide) ?_
  refine z_isub (pc := 9) C (zD D_X6_isPlayer_0 7 rfl) ?_
  refine z_csR (pc := 10) (As := [.int p0, .int (0 : Int32), .int (v7 - (1 : Int32))]) C [] (c_X6_in _ _ _ _ n p0 (0 : Int32) (v7 - (1 : Int32)) h) zn_X6_in (by decide) (by decide) hz0 q_152 q_153 q_5 q_154 rfl rfl rfl (zD D_X6_isPlayer_0 8 rfl) (fun r10 => ?_)
  refine z_bool (fun hb => ?_)
  exact z_zret (pc := 13) C hr hb rfl (zD D_X6_isPlayer_0 9 rfl)
def f_X6_isTown (n : Nat) (p0 : Int32) (h : zH) : Option (Int32) := (f_X6_in n p0 (0 : Int32) (7 : Int32) h).bind fun (r4 : Int32) => (zB r4).bind fun _ => some r4
theorem zn_X6_isTown : zNm yX6_isTown 1 := ⟨by decide +kernel, by decide +kernel⟩
set_option maxRecDepth 100000 in
set_option maxHeartbeats 4000000 in
theorem c_X6_isTown (l : Launch) (B : Nat) (D : va_G) (cA : Nat → ClassId) (n : Nat) (p0 : Int32) (h : zH) : ∀ u, f_X6_isTown n p0 h = some u → zM l B D cA yX6_isTown cX6_isTown 1 (some .boolean) 2 0 0 none [.int p0] h ((fun r : Int32 => (some (Value.int r), h)) u).1 ((fun r : Int32 => (some (Value.int r), h)) u).2 := by
  unfold f_X6_isTown
  refine z_met (own := RX6) (fun r : Int32 => (some (Value.int r), h)) rfl (by decide) rfl (fun Z C hr _ _ => ?_)
  have hz0 : (z00 Z).1 ≤ 0 ∧ (z00 Z).2.1 ≤ 0 := ⟨Nat.le_refl 0, Nat.le_refl 0⟩
  refine z_iload_n (pc := 0) C (zD D_X6_isTown_0 0 rfl) rfl 0 rfl ?_
  refine z_iconst (pc := 1) (v := 0) C (zD D_X6_isTown_0 1 rfl) (by decide) ?_
  refine z_bipush (pc := 2) (v := 7) C (zD D_X6_isTown_0 2 rfl) (by decide) ?_
  refine z_csR (pc := 4) (As := [.int p0, .int (0 : Int32), .int (7 : Int32)]) C [] (c_X6_in _ _ _ _ n p0 (0 : Int32) (7 : Int32) h) zn_X6_in (by decide) (by decide) hz0 q_152 q_153 q_5 q_154 rfl rfl rfl (zD D_X6_isTown_0 3 rfl) (fun r4 => ?_)
  refine z_bool (fun hb => ?_)
  exact z_zret (pc := 7) C hr hb rfl (zD D_X6_isTown_0 4 rfl)
def f_X6_joined (n : Nat) (this : Nat) (p0 : Int32) (h : zH) : Option (Int32) := zrc h this 6 <| (f_X6_of n this p0 (1 : Int32) h).bind fun (r4 : Int32) => zlet (((1 : Int32) <<< (r4 &&& 31))) fun (x8 : Int32) => zfix2 (fun rec11 (a2_11 : Int32) (a3_11 : Int32) => if a2_11 = a3_11 then (some a2_11) else (zfix2 (fun rec21 (a2_21 : Int32) (a4_21 : Int32) => if (64 : Int32) ≤ a4_21 then (rec11 a2_21 a2_11) else ((f_X6_has n a2_11 (a4_21 / (8 : Int32)) h).bind fun (r35 : Int32) => zlet (fun (s0_65 : Int32) => zlet ((a2_21 ||| s0_65)) fun (x66 : Int32) => zlet (a4_21 + 1) fun (x67 : Int32) => rec21 x66 x67) fun K65 => zlet (K65 (0 : Int32)) fun K64 => if r35 = 0 then (K64) else ((zgR h this 6 0).bind fun (v42 : Nat) => (zai h v42 ((62 : Int32) + a4_21)).bind fun (v50 : Int32) => if v50 ≤ 0 then (K64) else (K65 ((1 : Int32) <<< ((zrem a4_21 (8 : Int32)) &&& 31)))))) n a2_11 (0 : Int32))) n x8 (0 : Int32)
theorem zn_X6_joined : zNm yX6_joined 1 := ⟨by decide +kernel, by decide +kernel⟩
set_option maxRecDepth 100000 in
set_option maxHeartbeats 4000000 in
theorem c_X6_joined (l : Launch) (B : Nat) (D : va_G) (cA : Nat → ClassId) (n : Nat) (this : Nat) (p0 : Int32) (h : zH) : ∀ u, f_X6_joined n this p0 h = some u → zM l B D cA yX6_joined cX6_joined 5 (some .int) 2 0 0 none [.ref (B + this), .int p0] h ((fun r : Int32 => (some (Value.int r), h)) u).1 ((fun r : Int32 => (some (Value.int r), h)) u).2 := by
  unfold f_X6_joined
  refine z_met (own := RX6) (fun r : Int32 => (some (Value.int r), h)) rfl (by decide) rfl (fun Z C hr _ _ => ?_)
  have hz0 : (z00 Z).1 ≤ 0 ∧ (z00 Z).2.1 ≤ 0 := ⟨Nat.le_refl 0, Nat.le_refl 0⟩
  refine z_iconst (pc := 0) (v := 1) C (zD D_X6_joined_0 0 rfl) (by decide) ?_
  refine z_aload_n (pc := 1) C (zD D_X6_joined_0 1 rfl) rfl 0 rfl ?_
  refine z_iload_n (pc := 2) C (zD D_X6_joined_0 2 rfl) rfl 1 rfl ?_
  refine z_iconst (pc := 3) (v := 1) C (zD D_X6_joined_0 3 rfl) (by decide) ?_
  refine z_cvR (pc := 4) (As := [.int p0, .int (1 : Int32)]) C [.int (1 : Int32)] (c_X6_of _ _ _ _ n this p0 (1 : Int32) h) zn_X6_of (by decide) (by decide) hz0 zc6 rfl q_260 q_261 q_262 q_5 q_263 rfl rfl rfl (zD D_X6_joined_0 4 rfl) (fun r4 => ?_)
  refine z_ishl (pc := 7) C (zD D_X6_joined_0 5 rfl) ?_
  refine z_istore_nL (pc := 8) (lv' := fun x8 => [(2, .int x8), (0, .ref (B + this)), (1, .int p0)]) C (zD D_X6_joined_0 6 rfl) rfl (by decide) (fun _ => rfl) (fun x8 => ?_)
  refine z_iconst (pc := 9) (v := 0) C (zD D_X6_joined_0 7 rfl) (by decide) ?_
  refine z_istore_n (pc := 10) (lv' := [(3, .int (0 : Int32)), (2, .int x8), (0, .ref (B + this)), (1, .int p0)]) C (zD D_X6_joined_0 8 rfl) rfl (by decide) rfl ?_
  refine z_sub [2, 1, 0] (lv' := [(0, .ref (B + this)), (2, .int x8), (3, .int (0 : Int32))]) rfl ?_
  refine z_fix2 (fun g11 => ∀ (a2_11 : Int32) (a3_11 : Int32), zJ B Z (zEnd B Z (fun r : Int32 => (some (Value.int r), h)) 0 0) (g11 a2_11 a3_11) 11 [(0, .ref (B + this)), (2, .int a2_11), (3, .int a3_11)] [] h (z00 Z)) (fun _ _ => z_none) (fun rec11 hrec11 a2_11 a3_11 => ?_) n x8 (0 : Int32)
  refine z_iload_n (pc := 11) C (zD D_X6_joined_0 9 rfl) rfl 1 rfl ?_
  refine z_iload_n (pc := 12) C (zD D_X6_joined_0 10 rfl) rfl 2 rfl ?_
  refine z_icmp_eq (pc := 13) C (zD D_X6_joined_0 11 rfl) (tgt := 76) (by decide) (fun _ => ?_) (fun _ => ?_)
  · refine z_iload_n (pc := 76) C (zD D_X6_joined_0 45 rfl) rfl 1 rfl ?_
    exact z_iret (pc := 77) C hr rfl (zD D_X6_joined_0 46 rfl)
  · refine z_iload_n (pc := 16) C (zD D_X6_joined_0 12 rfl) rfl 1 rfl ?_
    refine z_istore_n (pc := 17) (lv' := [(3, .int a2_11), (0, .ref (B + this)), (2, .int a2_11)]) C (zD D_X6_joined_0 13 rfl) rfl (by decide) rfl ?_
    refine z_iconst (pc := 18) (v := 0) C (zD D_X6_joined_0 14 rfl) (by decide) ?_
    refine z_istore (pc := 19) (lv' := [(4, .int (0 : Int32)), (3, .int a2_11), (0, .ref (B + this)), (2, .int a2_11)]) C (zD D_X6_joined_0 15 rfl) (by decide) rfl ?_
    refine z_sub [2, 3, 1, 0] (lv' := [(0, .ref (B + this)), (2, .int a2_11), (3, .int a2_11), (4, .int (0 : Int32))]) rfl ?_
    refine z_fix2 (fun g21 => ∀ (a2_21 : Int32) (a4_21 : Int32), zJ B Z (zEnd B Z (fun r : Int32 => (some (Value.int r), h)) 0 0) (g21 a2_21 a4_21) 21 [(0, .ref (B + this)), (2, .int a2_21), (3, .int a2_11), (4, .int a4_21)] [] h (z00 Z)) (fun _ _ => z_none) (fun rec21 hrec21 a2_21 a4_21 => ?_) n a2_11 (0 : Int32)
    refine z_iload (pc := 21) C (zD D_X6_joined_0 16 rfl) 3 rfl ?_
    refine z_bipush (pc := 23) (v := 64) C (zD D_X6_joined_0 17 rfl) (by decide) ?_
    refine z_icmp_ge (pc := 25) C (zD D_X6_joined_0 18 rfl) (tgt := 73) (by decide) (fun _ => ?_) (fun _ => ?_)
    · refine z_goto (pc := 73) C (zD D_X6_joined_0 44 rfl) (tgt := 11) (by decide) ?_
      refine z_sub [0, 1, 2] (lv' := [(0, .ref (B + this)), (2, .int a2_21), (3, .int a2_11)]) rfl ?_
      exact hrec11 a2_21 a2_11
    · refine z_iload_n (pc := 28) C (zD D_X6_joined_0 19 rfl) rfl 1 rfl ?_
      refine z_iload_n (pc := 29) C (zD D_X6_joined_0 20 rfl) rfl 2 rfl ?_
      refine z_iload (pc := 30) C (zD D_X6_joined_0 21 rfl) 3 rfl ?_
      refine z_bipush (pc := 32) (v := 8) C (zD D_X6_joined_0 22 rfl) (by decide) ?_
      refine z_idivc (pc := 34) C (zD D_X6_joined_0 23 rfl) (by decide) ?_
      refine z_csR (pc := 35) (As := [.int a2_11, .int (a4_21 / (8 : Int32))]) C [.int a2_21] (c_X6_has _ _ _ _ n a2_11 (a4_21 / (8 : Int32)) h) zn_X6_has (by decide) (by decide) hz0 q_597 q_598 q_5 q_599 rfl rfl rfl (zD D_X6_joined_0 24 rfl) (fun r35 => ?_)
      refine z_letg (fun K65 => ∀ (s0_65 : Int32), zJ B Z (zEnd B Z (fun r : Int32 => (some (Value.int r), h)) 0 0) (K65 s0_65) 65 [(0, .ref (B + this)), (3, .int a2_11), (4, .int a4_21)] [.int s0_65, .int a2_21] h (z00 Z)) (fun s0_65 => ?_) (fun K65 hK65 => ?_)
      · refine z_ior (pc := 65) C (zD D_X6_joined_0 40 rfl) ?_
        refine z_istore_nL (pc := 66) (lv' := fun x66 => [(2, .int x66), (0, .ref (B + this)), (3, .int a2_11), (4, .int a4_21)]) C (zD D_X6_joined_0 41 rfl) rfl (by decide) (fun _ => rfl) (fun x66 => ?_)
        refine z_iincL (pc := 67) (lv' := fun x67 => [(4, .int x67), (2, .int x66), (0, .ref (B + this)), (3, .int a2_11)]) C (zD D_X6_joined_0 42 rfl) 3 rfl (v := a4_21 + 1) rfl (by decide) (fun _ => rfl) (fun x67 => ?_)
        refine z_goto (pc := 70) C (zD D_X6_joined_0 43 rfl) (tgt := 21) (by decide) ?_
        refine z_sub [2, 1, 3, 0] (lv' := [(0, .ref (B + this)), (2, .int x66), (3, .int a2_11), (4, .int x67)]) rfl ?_
        exact hrec21 x66 x67
      refine z_letg (fun K64 => zJ B Z (zEnd B Z (fun r : Int32 => (some (Value.int r), h)) 0 0) (K64) 64 [(0, .ref (B + this)), (3, .int a2_11), (4, .int a4_21)] [.int a2_21] h (z00 Z)) ?_ (fun K64 hK64 => ?_)
      · refine z_iconst (pc := 64) (v := 0) C (zD D_X6_joined_0 39 rfl) (by decide) ?_
        exact hK65 (0 : Int32)
      refine z_if_eq (pc := 38) C (zD D_X6_joined_0 25 rfl) (tgt := 64) (by decide) (fun _ => ?_) (fun _ => ?_)
      · refine z_sub [0, 2, 3] (lv' := [(0, .ref (B + this)), (3, .int a2_11), (4, .int a4_21)]) rfl ?_
        exact hK64
      · refine z_aload_n (pc := 41) C (zD D_X6_joined_0 26 rfl) rfl 0 rfl ?_
        refine z_getR (pc := 42) C zc6 0 (by decide) q_102 (zD D_X6_joined_0 27 rfl) (fun v42 => ?_)
        refine z_bipush (pc := 45) (v := 62) C (zD D_X6_joined_0 28 rfl) (by decide) ?_
        refine z_iload (pc := 47) C (zD D_X6_joined_0 29 rfl) 3 rfl ?_
        refine z_iadd (pc := 49) C (zD D_X6_joined_0 30 rfl) ?_
        refine z_aiload (pc := 50) C (zD D_X6_joined_0 31 rfl) (fun v50 => ?_)
        refine z_if_le (pc := 51) C (zD D_X6_joined_0 32 rfl) (tgt := 64) (by decide) (fun _ => ?_) (fun _ => ?_)
        · refine z_sub [0, 2, 3] (lv' := [(0, .ref (B + this)), (3, .int a2_11), (4, .int a4_21)]) rfl ?_
          exact hK64
        · refine z_iconst (pc := 54) (v := 1) C (zD D_X6_joined_0 33 rfl) (by decide) ?_
          refine z_iload (pc := 55) C (zD D_X6_joined_0 34 rfl) 3 rfl ?_
          refine z_bipush (pc := 57) (v := 8) C (zD D_X6_joined_0 35 rfl) (by decide) ?_
          refine z_iremc (pc := 59) C (zD D_X6_joined_0 36 rfl) (by decide) ?_
          refine z_ishl (pc := 60) C (zD D_X6_joined_0 37 rfl) ?_
          refine z_goto (pc := 61) C (zD D_X6_joined_0 38 rfl) (tgt := 65) (by decide) ?_
          refine z_sub [0, 2, 3] (lv' := [(0, .ref (B + this)), (3, .int a2_11), (4, .int a4_21)]) rfl ?_
          exact hK65 ((1 : Int32) <<< ((zrem a4_21 (8 : Int32)) &&& 31))
def f_X6_next (n : Nat) (this : Nat) (h : zH) : Option (Int32) := zrc h this 6 <| (f_X6_isStock n this h).bind fun (r1 : Int32) => if r1 = 0 then ((zgR h this 6 0).bind fun (v12 : Nat) => (zgR h this 6 0).bind fun (v18 : Nat) => (zai h v18 (4 : Int32)).bind fun (v22 : Int32) => (zai h v12 ((10 : Int32) + v22)).bind fun (v24 : Int32) => some v24) else (some (-1 : Int32))
theorem zn_X6_next : zNm yX6_next 0 := ⟨by decide +kernel, by decide +kernel⟩
set_option maxRecDepth 100000 in
set_option maxHeartbeats 4000000 in
theorem c_X6_next (l : Launch) (B : Nat) (D : va_G) (cA : Nat → ClassId) (n : Nat) (this : Nat) (h : zH) : ∀ u, f_X6_next n this h = some u → zM l B D cA yX6_next cX6_next 1 (some .int) 2 0 0 none [.ref (B + this)] h ((fun r : Int32 => (some (Value.int r), h)) u).1 ((fun r : Int32 => (some (Value.int r), h)) u).2 := by
  unfold f_X6_next
  refine z_met (own := RX6) (fun r : Int32 => (some (Value.int r), h)) rfl (by decide) rfl (fun Z C hr _ _ => ?_)
  have hz0 : (z00 Z).1 ≤ 0 ∧ (z00 Z).2.1 ≤ 0 := ⟨Nat.le_refl 0, Nat.le_refl 0⟩
  refine z_aload_n (pc := 0) C (zD D_X6_next_0 0 rfl) rfl 0 rfl ?_
  refine z_cvR (pc := 1) (As := []) C [] (c_X6_isStock _ _ _ _ n this h) zn_X6_isStock (by decide) (by decide) hz0 zc6 rfl q_252 q_253 q_254 q_5 q_255 rfl rfl rfl (zD D_X6_next_0 1 rfl) (fun r1 => ?_)
  refine z_if_eq (pc := 4) C (zD D_X6_next_0 2 rfl) (tgt := 11) (by decide) (fun _ => ?_) (fun _ => ?_)
  · refine z_aload_n (pc := 11) C (zD D_X6_next_0 5 rfl) rfl 0 rfl ?_
    refine z_getR (pc := 12) C zc6 0 (by decide) q_102 (zD D_X6_next_0 6 rfl) (fun v12 => ?_)
    refine z_bipush (pc := 15) (v := 10) C (zD D_X6_next_0 7 rfl) (by decide) ?_
    refine z_aload_n (pc := 17) C (zD D_X6_next_0 8 rfl) rfl 0 rfl ?_
    refine z_getR (pc := 18) C zc6 0 (by decide) q_102 (zD D_X6_next_0 9 rfl) (fun v18 => ?_)
    refine z_iconst (pc := 21) (v := 4) C (zD D_X6_next_0 10 rfl) (by decide) ?_
    refine z_aiload (pc := 22) C (zD D_X6_next_0 11 rfl) (fun v22 => ?_)
    refine z_iadd (pc := 23) C (zD D_X6_next_0 12 rfl) ?_
    refine z_aiload (pc := 24) C (zD D_X6_next_0 13 rfl) (fun v24 => ?_)
    exact z_iret (pc := 25) C hr rfl (zD D_X6_next_0 14 rfl)
  · refine z_iconst (pc := 7) (v := -1) C (zD D_X6_next_0 3 rfl) (by decide) ?_
    refine z_goto (pc := 8) C (zD D_X6_next_0 4 rfl) (tgt := 25) (by decide) ?_
    exact z_iret (pc := 25) C hr rfl (zD D_X6_next_0 14 rfl)
def f_X6_openOnes (n : Nat) (this : Nat) (h : zH) : Option (Int32) := zfix2 (fun rec4 (a1_4 : Int32) (a2_4 : Int32) => if (4 : Int32) ≤ a2_4 then (some a1_4) else (zrc h this 6 <| (f_X6_of n this a2_4 (0 : Int32) h).bind fun (r13 : Int32) => zlet ((a1_4 + r13)) fun (x17 : Int32) => zlet (a2_4 + 1) fun (x18 : Int32) => rec4 x17 x18)) n (0 : Int32) (0 : Int32)
theorem zn_X6_openOnes : zNm yX6_openOnes 0 := ⟨by decide +kernel, by decide +kernel⟩
set_option maxRecDepth 100000 in
set_option maxHeartbeats 4000000 in
theorem c_X6_openOnes (l : Launch) (B : Nat) (D : va_G) (cA : Nat → ClassId) (n : Nat) (this : Nat) (h : zH) : ∀ u, f_X6_openOnes n this h = some u → zM l B D cA yX6_openOnes cX6_openOnes 3 (some .int) 2 0 0 none [.ref (B + this)] h ((fun r : Int32 => (some (Value.int r), h)) u).1 ((fun r : Int32 => (some (Value.int r), h)) u).2 := by
  unfold f_X6_openOnes
  refine z_met (own := RX6) (fun r : Int32 => (some (Value.int r), h)) rfl (by decide) rfl (fun Z C hr _ _ => ?_)
  have hz0 : (z00 Z).1 ≤ 0 ∧ (z00 Z).2.1 ≤ 0 := ⟨Nat.le_refl 0, Nat.le_refl 0⟩
  refine z_iconst (pc := 0) (v := 0) C (zD D_X6_openOnes_0 0 rfl) (by decide) ?_
  refine z_istore_n (pc := 1) (lv' := [(1, .int (0 : Int32)), (0, .ref (B + this))]) C (zD D_X6_openOnes_0 1 rfl) rfl (by decide) rfl ?_
  refine z_iconst (pc := 2) (v := 0) C (zD D_X6_openOnes_0 2 rfl) (by decide) ?_
  refine z_istore_n (pc := 3) (lv' := [(2, .int (0 : Int32)), (1, .int (0 : Int32)), (0, .ref (B + this))]) C (zD D_X6_openOnes_0 3 rfl) rfl (by decide) rfl ?_
  refine z_sub [2, 1, 0] (lv' := [(0, .ref (B + this)), (1, .int (0 : Int32)), (2, .int (0 : Int32))]) rfl ?_
  refine z_fix2 (fun g4 => ∀ (a1_4 : Int32) (a2_4 : Int32), zJ B Z (zEnd B Z (fun r : Int32 => (some (Value.int r), h)) 0 0) (g4 a1_4 a2_4) 4 [(0, .ref (B + this)), (1, .int a1_4), (2, .int a2_4)] [] h (z00 Z)) (fun _ _ => z_none) (fun rec4 hrec4 a1_4 a2_4 => ?_) n (0 : Int32) (0 : Int32)
  refine z_iload_n (pc := 4) C (zD D_X6_openOnes_0 4 rfl) rfl 2 rfl ?_
  refine z_iconst (pc := 5) (v := 4) C (zD D_X6_openOnes_0 5 rfl) (by decide) ?_
  refine z_icmp_ge (pc := 6) C (zD D_X6_openOnes_0 6 rfl) (tgt := 24) (by decide) (fun _ => ?_) (fun _ => ?_)
  · refine z_iload_n (pc := 24) C (zD D_X6_openOnes_0 16 rfl) rfl 1 rfl ?_
    exact z_iret (pc := 25) C hr rfl (zD D_X6_openOnes_0 17 rfl)
  · refine z_iload_n (pc := 9) C (zD D_X6_openOnes_0 7 rfl) rfl 1 rfl ?_
    refine z_aload_n (pc := 10) C (zD D_X6_openOnes_0 8 rfl) rfl 0 rfl ?_
    refine z_iload_n (pc := 11) C (zD D_X6_openOnes_0 9 rfl) rfl 2 rfl ?_
    refine z_iconst (pc := 12) (v := 0) C (zD D_X6_openOnes_0 10 rfl) (by decide) ?_
    refine z_cvR (pc := 13) (As := [.int a2_4, .int (0 : Int32)]) C [.int a1_4] (c_X6_of _ _ _ _ n this a2_4 (0 : Int32) h) zn_X6_of (by decide) (by decide) hz0 zc6 rfl q_260 q_261 q_262 q_5 q_263 rfl rfl rfl (zD D_X6_openOnes_0 11 rfl) (fun r13 => ?_)
    refine z_iadd (pc := 16) C (zD D_X6_openOnes_0 12 rfl) ?_
    refine z_istore_nL (pc := 17) (lv' := fun x17 => [(1, .int x17), (0, .ref (B + this)), (2, .int a2_4)]) C (zD D_X6_openOnes_0 13 rfl) rfl (by decide) (fun _ => rfl) (fun x17 => ?_)
    refine z_iincL (pc := 18) (lv' := fun x18 => [(2, .int x18), (1, .int x17), (0, .ref (B + this))]) C (zD D_X6_openOnes_0 14 rfl) 2 rfl (v := a2_4 + 1) rfl (by decide) (fun _ => rfl) (fun x18 => ?_)
    refine z_goto (pc := 21) C (zD D_X6_openOnes_0 15 rfl) (tgt := 4) (by decide) ?_
    refine z_sub [2, 1, 0] (lv' := [(0, .ref (B + this)), (1, .int x17), (2, .int x18)]) rfl ?_
    exact hrec4 x17 x18
def f_X6_presidencies (n : Nat) (this : Nat) (p0 : Int32) (h : zH) : Option (Int32) := zfix2 (fun rec4 (a2_4 : Int32) (a3_4 : Int32) => if (4 : Int32) ≤ a3_4 then (some a2_4) else (zrc h this 6 <| (f_X6_of n this a3_4 (5 : Int32) h).bind fun (r13 : Int32) => zlet (fun (s0_27 : Int32) => zlet ((a2_4 ||| s0_27)) fun (x28 : Int32) => zlet (a3_4 + 1) fun (x29 : Int32) => rec4 x28 x29) fun K27 => if r13 = p0 then (K27 ((1 : Int32) <<< (a3_4 &&& 31))) else (K27 (0 : Int32)))) n (0 : Int32) (0 : Int32)
theorem zn_X6_presidencies : zNm yX6_presidencies 1 := ⟨by decide +kernel, by decide +kernel⟩
set_option maxRecDepth 100000 in
set_option maxHeartbeats 4000000 in
theorem c_X6_presidencies (l : Launch) (B : Nat) (D : va_G) (cA : Nat → ClassId) (n : Nat) (this : Nat) (p0 : Int32) (h : zH) : ∀ u, f_X6_presidencies n this p0 h = some u → zM l B D cA yX6_presidencies cX6_presidencies 4 (some .int) 2 0 0 none [.ref (B + this), .int p0] h ((fun r : Int32 => (some (Value.int r), h)) u).1 ((fun r : Int32 => (some (Value.int r), h)) u).2 := by
  unfold f_X6_presidencies
  refine z_met (own := RX6) (fun r : Int32 => (some (Value.int r), h)) rfl (by decide) rfl (fun Z C hr _ _ => ?_)
  have hz0 : (z00 Z).1 ≤ 0 ∧ (z00 Z).2.1 ≤ 0 := ⟨Nat.le_refl 0, Nat.le_refl 0⟩
  refine z_iconst (pc := 0) (v := 0) C (zD D_X6_presidencies_0 0 rfl) (by decide) ?_
  refine z_istore_n (pc := 1) (lv' := [(2, .int (0 : Int32)), (0, .ref (B + this)), (1, .int p0)]) C (zD D_X6_presidencies_0 1 rfl) rfl (by decide) rfl ?_
  refine z_iconst (pc := 2) (v := 0) C (zD D_X6_presidencies_0 2 rfl) (by decide) ?_
  refine z_istore_n (pc := 3) (lv' := [(3, .int (0 : Int32)), (2, .int (0 : Int32)), (0, .ref (B + this)), (1, .int p0)]) C (zD D_X6_presidencies_0 3 rfl) rfl (by decide) rfl ?_
  refine z_sub [2, 3, 1, 0] (lv' := [(0, .ref (B + this)), (1, .int p0), (2, .int (0 : Int32)), (3, .int (0 : Int32))]) rfl ?_
  refine z_fix2 (fun g4 => ∀ (a2_4 : Int32) (a3_4 : Int32), zJ B Z (zEnd B Z (fun r : Int32 => (some (Value.int r), h)) 0 0) (g4 a2_4 a3_4) 4 [(0, .ref (B + this)), (1, .int p0), (2, .int a2_4), (3, .int a3_4)] [] h (z00 Z)) (fun _ _ => z_none) (fun rec4 hrec4 a2_4 a3_4 => ?_) n (0 : Int32) (0 : Int32)
  refine z_iload_n (pc := 4) C (zD D_X6_presidencies_0 4 rfl) rfl 3 rfl ?_
  refine z_iconst (pc := 5) (v := 4) C (zD D_X6_presidencies_0 5 rfl) (by decide) ?_
  refine z_icmp_ge (pc := 6) C (zD D_X6_presidencies_0 6 rfl) (tgt := 35) (by decide) (fun _ => ?_) (fun _ => ?_)
  · refine z_iload_n (pc := 35) C (zD D_X6_presidencies_0 23 rfl) rfl 2 rfl ?_
    exact z_iret (pc := 36) C hr rfl (zD D_X6_presidencies_0 24 rfl)
  · refine z_iload_n (pc := 9) C (zD D_X6_presidencies_0 7 rfl) rfl 2 rfl ?_
    refine z_aload_n (pc := 10) C (zD D_X6_presidencies_0 8 rfl) rfl 0 rfl ?_
    refine z_iload_n (pc := 11) C (zD D_X6_presidencies_0 9 rfl) rfl 3 rfl ?_
    refine z_iconst (pc := 12) (v := 5) C (zD D_X6_presidencies_0 10 rfl) (by decide) ?_
    refine z_cvR (pc := 13) (As := [.int a3_4, .int (5 : Int32)]) C [.int a2_4] (c_X6_of _ _ _ _ n this a3_4 (5 : Int32) h) zn_X6_of (by decide) (by decide) hz0 zc6 rfl q_260 q_261 q_262 q_5 q_263 rfl rfl rfl (zD D_X6_presidencies_0 11 rfl) (fun r13 => ?_)
    refine z_iload_n (pc := 16) C (zD D_X6_presidencies_0 12 rfl) rfl 1 rfl ?_
    refine z_letg (fun K27 => ∀ (s0_27 : Int32), zJ B Z (zEnd B Z (fun r : Int32 => (some (Value.int r), h)) 0 0) (K27 s0_27) 27 [(0, .ref (B + this)), (1, .int p0), (3, .int a3_4)] [.int s0_27, .int a2_4] h (z00 Z)) (fun s0_27 => ?_) (fun K27 hK27 => ?_)
    · refine z_ior (pc := 27) C (zD D_X6_presidencies_0 19 rfl) ?_
      refine z_istore_nL (pc := 28) (lv' := fun x28 => [(2, .int x28), (0, .ref (B + this)), (1, .int p0), (3, .int a3_4)]) C (zD D_X6_presidencies_0 20 rfl) rfl (by decide) (fun _ => rfl) (fun x28 => ?_)
      refine z_iincL (pc := 29) (lv' := fun x29 => [(3, .int x29), (2, .int x28), (0, .ref (B + this)), (1, .int p0)]) C (zD D_X6_presidencies_0 21 rfl) 3 rfl (v := a3_4 + 1) rfl (by decide) (fun _ => rfl) (fun x29 => ?_)
      refine z_goto (pc := 32) C (zD D_X6_presidencies_0 22 rfl) (tgt := 4) (by decide) ?_
      refine z_sub [2, 3, 1, 0] (lv' := [(0, .ref (B + this)), (1, .int p0), (2, .int x28), (3, .int x29)]) rfl ?_
      exact hrec4 x28 x29
    refine z_icmp_ne (pc := 17) C (zD D_X6_presidencies_0 13 rfl) (tgt := 26) (by decide) (fun _ => ?_) (fun _ => ?_)
    · refine z_iconst (pc := 26) (v := 0) C (zD D_X6_presidencies_0 18 rfl) (by decide) ?_
      refine z_sub [0, 1, 3] (lv' := [(0, .ref (B + this)), (1, .int p0), (3, .int a3_4)]) rfl ?_
      exact hK27 (0 : Int32)
    · refine z_iconst (pc := 20) (v := 1) C (zD D_X6_presidencies_0 14 rfl) (by decide) ?_
      refine z_iload_n (pc := 21) C (zD D_X6_presidencies_0 15 rfl) rfl 3 rfl ?_
      refine z_ishl (pc := 22) C (zD D_X6_presidencies_0 16 rfl) ?_
      refine z_goto (pc := 23) C (zD D_X6_presidencies_0 17 rfl) (tgt := 27) (by decide) ?_
      refine z_sub [0, 1, 3] (lv' := [(0, .ref (B + this)), (1, .int p0), (3, .int a3_4)]) rfl ?_
      exact hK27 ((1 : Int32) <<< (a3_4 &&& 31))
def f_X6_presides (n : Nat) (this : Nat) (p0 : Int32) (h : zH) : Option (zH) := zfix2 (fun rec4 (a2_4 : Int32) (a3_4 : Int32) => (zgR h this 6 0).bind fun (v6 : Nat) => (zai h v6 (0 : Int32)).bind fun (v10 : Int32) => if v10 ≤ a3_4 then (zrc h this 6 <| (f_X6_of n this p0 (5 : Int32) h).bind fun (r44 : Int32) => zlet (fun (a3_112 : Int32) => (zgR h this 6 0).bind fun (v113 : Nat) => (zsi h v113 (((34 : Int32) + ((7 : Int32) * p0)) + (5 : Int32)) a3_112).bind fun (h126 : zH) => some h126) fun K112 => zlet ((zgR h this 6 0).bind fun (v70 : Nat) => (zai h v70 (0 : Int32)).bind fun (v74 : Int32) => zlet ((v74 - (1 : Int32))) fun (x77 : Int32) => zfix2 (fun rec79 (a3_79 : Int32) (a4_79 : Int32) => if a4_79 < 0 then (K112 a3_79) else (if a2_4 ≤ 0 then (K112 a3_79) else (zrc h this 6 <| (f_X6_shares n this a4_79 p0 h).bind fun (r92 : Int32) => zlet (fun (s0_105 : Int32) => zlet (a4_79 + (-1)) fun (x106 : Int32) => rec79 s0_105 x106) fun K105 => if r92 = a2_4 then (K105 a4_79) else (K105 a3_79)))) n (-1 : Int32) x77) fun K67 => if a2_4 = 0 then (K67) else (if r44 = (-1 : Int32) then (K67) else (zrc h this 6 <| (f_X6_shares n this r44 p0 h).bind fun (r60 : Int32) => if a2_4 ≤ r60 then (K112 r44) else (K67)))) else (zrc h this 6 <| (f_X6_shares n this a3_4 p0 h).bind fun (r17 : Int32) => zlet (fun (s0_34 : Int32) => zlet (a3_4 + 1) fun (x35 : Int32) => rec4 s0_34 x35) fun K34 => if r17 ≤ a2_4 then (K34 a2_4) else (zrc h this 6 <| (f_X6_shares n this a3_4 p0 h).bind fun (r27 : Int32) => K34 r27))) n (0 : Int32) (0 : Int32)
theorem zn_X6_presides : zNm yX6_presides 1 := ⟨by decide +kernel, by decide +kernel⟩
set_option maxRecDepth 100000 in
set_option maxHeartbeats 4000000 in
theorem c_X6_presides (l : Launch) (B : Nat) (D : va_G) (cA : Nat → ClassId) (n : Nat) (this : Nat) (p0 : Int32) (h : zH) : ∀ u, f_X6_presides n this p0 h = some u → zM l B D cA yX6_presides cX6_presides 5 none 2 0 0 none [.ref (B + this), .int p0] h ((fun h1 : zH => ((none : Option Value), h1)) u).1 ((fun h1 : zH => ((none : Option Value), h1)) u).2 := by
  unfold f_X6_presides
  refine z_met (own := RX6) (fun h1 : zH => ((none : Option Value), h1)) rfl (by decide) rfl (fun Z C hr _ _ => ?_)
  have hz0 : (z00 Z).1 ≤ 0 ∧ (z00 Z).2.1 ≤ 0 := ⟨Nat.le_refl 0, Nat.le_refl 0⟩
  refine z_iconst (pc := 0) (v := 0) C (zD D_X6_presides_0 0 rfl) (by decide) ?_
  refine z_istore_n (pc := 1) (lv' := [(2, .int (0 : Int32)), (0, .ref (B + this)), (1, .int p0)]) C (zD D_X6_presides_0 1 rfl) rfl (by decide) rfl ?_
  refine z_iconst (pc := 2) (v := 0) C (zD D_X6_presides_0 2 rfl) (by decide) ?_
  refine z_istore_n (pc := 3) (lv' := [(3, .int (0 : Int32)), (2, .int (0 : Int32)), (0, .ref (B + this)), (1, .int p0)]) C (zD D_X6_presides_0 3 rfl) rfl (by decide) rfl ?_
  refine z_sub [2, 3, 1, 0] (lv' := [(0, .ref (B + this)), (1, .int p0), (2, .int (0 : Int32)), (3, .int (0 : Int32))]) rfl ?_
  refine z_fix2 (fun g4 => ∀ (a2_4 : Int32) (a3_4 : Int32), zJ B Z (zEnd B Z (fun h1 : zH => ((none : Option Value), h1)) 0 0) (g4 a2_4 a3_4) 4 [(0, .ref (B + this)), (1, .int p0), (2, .int a2_4), (3, .int a3_4)] [] h (z00 Z)) (fun _ _ => z_none) (fun rec4 hrec4 a2_4 a3_4 => ?_) n (0 : Int32) (0 : Int32)
  refine z_iload_n (pc := 4) C (zD D_X6_presides_0 4 rfl) rfl 3 rfl ?_
  refine z_aload_n (pc := 5) C (zD D_X6_presides_0 5 rfl) rfl 0 rfl ?_
  refine z_getR (pc := 6) C zc6 0 (by decide) q_102 (zD D_X6_presides_0 6 rfl) (fun v6 => ?_)
  refine z_iconst (pc := 9) (v := 0) C (zD D_X6_presides_0 7 rfl) (by decide) ?_
  refine z_aiload (pc := 10) C (zD D_X6_presides_0 8 rfl) (fun v10 => ?_)
  refine z_icmp_ge (pc := 11) C (zD D_X6_presides_0 9 rfl) (tgt := 41) (by decide) (fun _ => ?_) (fun _ => ?_)
  · refine z_aload_n (pc := 41) C (zD D_X6_presides_0 25 rfl) rfl 0 rfl ?_
    refine z_iload_n (pc := 42) C (zD D_X6_presides_0 26 rfl) rfl 1 rfl ?_
    refine z_iconst (pc := 43) (v := 5) C (zD D_X6_presides_0 27 rfl) (by decide) ?_
    refine z_cvR (pc := 44) (As := [.int p0, .int (5 : Int32)]) C [] (c_X6_of _ _ _ _ n this p0 (5 : Int32) h) zn_X6_of (by decide) (by decide) hz0 zc6 rfl q_260 q_261 q_262 q_5 q_263 rfl rfl rfl (zD D_X6_presides_0 28 rfl) (fun r44 => ?_)
    refine z_istore_n (pc := 47) (lv' := [(3, .int r44), (0, .ref (B + this)), (1, .int p0), (2, .int a2_4)]) C (zD D_X6_presides_0 29 rfl) rfl (by decide) rfl ?_
    refine z_iload_n (pc := 48) C (zD D_X6_presides_0 30 rfl) rfl 3 rfl ?_
    refine z_letg (fun K112 => ∀ (a3_112 : Int32), zJ B Z (zEnd B Z (fun h1 : zH => ((none : Option Value), h1)) 0 0) (K112 a3_112) 112 [(0, .ref (B + this)), (1, .int p0), (3, .int a3_112)] [] h (z00 Z)) (fun a3_112 => ?_) (fun K112 hK112 => ?_)
    · refine z_aload_n (pc := 112) C (zD D_X6_presides_1 6 rfl) rfl 0 rfl ?_
      refine z_getR (pc := 113) C zc6 0 (by decide) q_102 (zD D_X6_presides_1 7 rfl) (fun v113 => ?_)
      refine z_bipush (pc := 116) (v := 34) C (zD D_X6_presides_1 8 rfl) (by decide) ?_
      refine z_bipush (pc := 118) (v := 7) C (zD D_X6_presides_1 9 rfl) (by decide) ?_
      refine z_iload_n (pc := 120) C (zD D_X6_presides_1 10 rfl) rfl 1 rfl ?_
      refine z_imul (pc := 121) C (zD D_X6_presides_1 11 rfl) ?_
      refine z_iadd (pc := 122) C (zD D_X6_presides_1 12 rfl) ?_
      refine z_iconst (pc := 123) (v := 5) C (zD D_X6_presides_1 13 rfl) (by decide) ?_
      refine z_iadd (pc := 124) C (zD D_X6_presides_1 14 rfl) ?_
      refine z_iload_n (pc := 125) C (zD D_X6_presides_1 15 rfl) rfl 2 rfl ?_
      refine z_aistore (pc := 126) C (zD D_X6_presides_1 16 rfl) (fun h126 => ?_)
      exact z_vret (pc := 127) C hr rfl (zD D_X6_presides_1 17 rfl)
    refine z_letg (fun K67 => zJ B Z (zEnd B Z (fun h1 : zH => ((none : Option Value), h1)) 0 0) (K67) 67 [(0, .ref (B + this)), (1, .int p0), (2, .int a2_4)] [] h (z00 Z)) ?_ (fun K67 hK67 => ?_)
    · refine z_iconst (pc := 67) (v := -1) C (zD D_X6_presides_0 41 rfl) (by decide) ?_
      refine z_istore_n (pc := 68) (lv' := [(3, .int (-1 : Int32)), (0, .ref (B + this)), (1, .int p0), (2, .int a2_4)]) C (zD D_X6_presides_0 42 rfl) rfl (by decide) rfl ?_
      refine z_aload_n (pc := 69) C (zD D_X6_presides_0 43 rfl) rfl 1 rfl ?_
      refine z_getR (pc := 70) C zc6 0 (by decide) q_102 (zD D_X6_presides_0 44 rfl) (fun v70 => ?_)
      refine z_iconst (pc := 73) (v := 0) C (zD D_X6_presides_0 45 rfl) (by decide) ?_
      refine z_aiload (pc := 74) C (zD D_X6_presides_0 46 rfl) (fun v74 => ?_)
      refine z_iconst (pc := 75) (v := 1) C (zD D_X6_presides_0 47 rfl) (by decide) ?_
      refine z_isub (pc := 76) C (zD D_X6_presides_0 48 rfl) ?_
      refine z_istoreL (pc := 77) (lv' := fun x77 => [(4, .int x77), (3, .int (-1 : Int32)), (0, .ref (B + this)), (1, .int p0), (2, .int a2_4)]) C (zD D_X6_presides_0 49 rfl) (by decide) (fun _ => rfl) (fun x77 => ?_)
      refine z_sub [2, 3, 4, 1, 0] (lv' := [(0, .ref (B + this)), (1, .int p0), (2, .int a2_4), (3, .int (-1 : Int32)), (4, .int x77)]) rfl ?_
      refine z_fix2 (fun g79 => ∀ (a3_79 : Int32) (a4_79 : Int32), zJ B Z (zEnd B Z (fun h1 : zH => ((none : Option Value), h1)) 0 0) (g79 a3_79 a4_79) 79 [(0, .ref (B + this)), (1, .int p0), (2, .int a2_4), (3, .int a3_79), (4, .int a4_79)] [] h (z00 Z)) (fun _ _ => z_none) (fun rec79 hrec79 a3_79 a4_79 => ?_) n (-1 : Int32) x77
      refine z_iload (pc := 79) C (zD D_X6_presides_0 50 rfl) 4 rfl ?_
      refine z_if_lt (pc := 81) C (zD D_X6_presides_0 51 rfl) (tgt := 112) (by decide) (fun _ => ?_) (fun _ => ?_)
      · refine z_sub [0, 1, 3] (lv' := [(0, .ref (B + this)), (1, .int p0), (3, .int a3_79)]) rfl ?_
        exact hK112 a3_79
      · refine z_iload_n (pc := 84) C (zD D_X6_presides_0 52 rfl) rfl 2 rfl ?_
        refine z_if_le (pc := 85) C (zD D_X6_presides_0 53 rfl) (tgt := 112) (by decide) (fun _ => ?_) (fun _ => ?_)
        · refine z_sub [0, 1, 3] (lv' := [(0, .ref (B + this)), (1, .int p0), (3, .int a3_79)]) rfl ?_
          exact hK112 a3_79
        · refine z_aload_n (pc := 88) C (zD D_X6_presides_0 54 rfl) rfl 0 rfl ?_
          refine z_iload (pc := 89) C (zD D_X6_presides_0 55 rfl) 4 rfl ?_
          refine z_iload_n (pc := 91) C (zD D_X6_presides_0 56 rfl) rfl 1 rfl ?_
          refine z_cvR (pc := 92) (As := [.int a4_79, .int p0]) C [] (c_X6_shares _ _ _ _ n this a4_79 p0 h) zn_X6_shares (by decide) (by decide) hz0 zc6 rfl q_284 q_285 q_286 q_5 q_287 rfl rfl rfl (zD D_X6_presides_0 57 rfl) (fun r92 => ?_)
          refine z_iload_n (pc := 95) C (zD D_X6_presides_0 58 rfl) rfl 2 rfl ?_
          refine z_letg (fun K105 => ∀ (s0_105 : Int32), zJ B Z (zEnd B Z (fun h1 : zH => ((none : Option Value), h1)) 0 0) (K105 s0_105) 105 [(0, .ref (B + this)), (1, .int p0), (2, .int a2_4), (4, .int a4_79)] [.int s0_105] h (z00 Z)) (fun s0_105 => ?_) (fun K105 hK105 => ?_)
          · refine z_istore_n (pc := 105) (lv' := [(3, .int s0_105), (0, .ref (B + this)), (1, .int p0), (2, .int a2_4), (4, .int a4_79)]) C (zD D_X6_presides_1 3 rfl) rfl (by decide) rfl ?_
            refine z_iincL (pc := 106) (lv' := fun x106 => [(4, .int x106), (3, .int s0_105), (0, .ref (B + this)), (1, .int p0), (2, .int a2_4)]) C (zD D_X6_presides_1 4 rfl) 4 rfl (v := a4_79 + (-1)) rfl (by decide) (fun _ => rfl) (fun x106 => ?_)
            refine z_goto (pc := 109) C (zD D_X6_presides_1 5 rfl) (tgt := 79) (by decide) ?_
            refine z_sub [2, 3, 4, 1, 0] (lv' := [(0, .ref (B + this)), (1, .int p0), (2, .int a2_4), (3, .int s0_105), (4, .int x106)]) rfl ?_
            exact hrec79 s0_105 x106
          refine z_icmp_ne (pc := 96) C (zD D_X6_presides_0 59 rfl) (tgt := 104) (by decide) (fun _ => ?_) (fun _ => ?_)
          · refine z_iload_n (pc := 104) C (zD D_X6_presides_1 2 rfl) rfl 3 rfl ?_
            refine z_sub [0, 1, 2, 4] (lv' := [(0, .ref (B + this)), (1, .int p0), (2, .int a2_4), (4, .int a4_79)]) rfl ?_
            exact hK105 a3_79
          · refine z_iload (pc := 99) C (zD D_X6_presides_1 0 rfl) 4 rfl ?_
            refine z_goto (pc := 101) C (zD D_X6_presides_1 1 rfl) (tgt := 105) (by decide) ?_
            refine z_sub [0, 1, 2, 4] (lv' := [(0, .ref (B + this)), (1, .int p0), (2, .int a2_4), (4, .int a4_79)]) rfl ?_
            exact hK105 a4_79
    refine z_if_eq (pc := 49) C (zD D_X6_presides_0 31 rfl) (tgt := 67) (by decide) (fun _ => ?_) (fun _ => ?_)
    · refine z_sub [1, 2, 3] (lv' := [(0, .ref (B + this)), (1, .int p0), (2, .int a2_4)]) rfl ?_
      exact hK67
    · refine z_iload_n (pc := 52) C (zD D_X6_presides_0 32 rfl) rfl 0 rfl ?_
      refine z_iconst (pc := 53) (v := -1) C (zD D_X6_presides_0 33 rfl) (by decide) ?_
      refine z_icmp_eq (pc := 54) C (zD D_X6_presides_0 34 rfl) (tgt := 67) (by decide) (fun _ => ?_) (fun _ => ?_)
      · refine z_sub [1, 2, 3] (lv' := [(0, .ref (B + this)), (1, .int p0), (2, .int a2_4)]) rfl ?_
        exact hK67
      · refine z_aload_n (pc := 57) C (zD D_X6_presides_0 35 rfl) rfl 1 rfl ?_
        refine z_iload_n (pc := 58) C (zD D_X6_presides_0 36 rfl) rfl 0 rfl ?_
        refine z_iload_n (pc := 59) C (zD D_X6_presides_0 37 rfl) rfl 2 rfl ?_
        refine z_cvR (pc := 60) (As := [.int r44, .int p0]) C [] (c_X6_shares _ _ _ _ n this r44 p0 h) zn_X6_shares (by decide) (by decide) hz0 zc6 rfl q_284 q_285 q_286 q_5 q_287 rfl rfl rfl (zD D_X6_presides_0 38 rfl) (fun r60 => ?_)
        refine z_iload_n (pc := 63) C (zD D_X6_presides_0 39 rfl) rfl 3 rfl ?_
        refine z_icmp_ge (pc := 64) C (zD D_X6_presides_0 40 rfl) (tgt := 112) (by decide) (fun _ => ?_) (fun _ => ?_)
        · refine z_sub [1, 2, 0] (lv' := [(0, .ref (B + this)), (1, .int p0), (3, .int r44)]) rfl ?_
          exact hK112 r44
        · refine z_sub [1, 2, 3] (lv' := [(0, .ref (B + this)), (1, .int p0), (2, .int a2_4)]) rfl ?_
          exact hK67
  · refine z_aload_n (pc := 14) C (zD D_X6_presides_0 10 rfl) rfl 0 rfl ?_
    refine z_iload_n (pc := 15) C (zD D_X6_presides_0 11 rfl) rfl 3 rfl ?_
    refine z_iload_n (pc := 16) C (zD D_X6_presides_0 12 rfl) rfl 1 rfl ?_
    refine z_cvR (pc := 17) (As := [.int a3_4, .int p0]) C [] (c_X6_shares _ _ _ _ n this a3_4 p0 h) zn_X6_shares (by decide) (by decide) hz0 zc6 rfl q_284 q_285 q_286 q_5 q_287 rfl rfl rfl (zD D_X6_presides_0 13 rfl) (fun r17 => ?_)
    refine z_iload_n (pc := 20) C (zD D_X6_presides_0 14 rfl) rfl 2 rfl ?_
    refine z_letg (fun K34 => ∀ (s0_34 : Int32), zJ B Z (zEnd B Z (fun h1 : zH => ((none : Option Value), h1)) 0 0) (K34 s0_34) 34 [(0, .ref (B + this)), (1, .int p0), (3, .int a3_4)] [.int s0_34] h (z00 Z)) (fun s0_34 => ?_) (fun K34 hK34 => ?_)
    · refine z_istore_n (pc := 34) (lv' := [(2, .int s0_34), (0, .ref (B + this)), (1, .int p0), (3, .int a3_4)]) C (zD D_X6_presides_0 22 rfl) rfl (by decide) rfl ?_
      refine z_iincL (pc := 35) (lv' := fun x35 => [(3, .int x35), (2, .int s0_34), (0, .ref (B + this)), (1, .int p0)]) C (zD D_X6_presides_0 23 rfl) 3 rfl (v := a3_4 + 1) rfl (by decide) (fun _ => rfl) (fun x35 => ?_)
      refine z_goto (pc := 38) C (zD D_X6_presides_0 24 rfl) (tgt := 4) (by decide) ?_
      refine z_sub [2, 3, 1, 0] (lv' := [(0, .ref (B + this)), (1, .int p0), (2, .int s0_34), (3, .int x35)]) rfl ?_
      exact hrec4 s0_34 x35
    refine z_icmp_le (pc := 21) C (zD D_X6_presides_0 15 rfl) (tgt := 33) (by decide) (fun _ => ?_) (fun _ => ?_)
    · refine z_iload_n (pc := 33) C (zD D_X6_presides_0 21 rfl) rfl 2 rfl ?_
      refine z_sub [0, 1, 3] (lv' := [(0, .ref (B + this)), (1, .int p0), (3, .int a3_4)]) rfl ?_
      exact hK34 a2_4
    · refine z_aload_n (pc := 24) C (zD D_X6_presides_0 16 rfl) rfl 0 rfl ?_
      refine z_iload_n (pc := 25) C (zD D_X6_presides_0 17 rfl) rfl 3 rfl ?_
      refine z_iload_n (pc := 26) C (zD D_X6_presides_0 18 rfl) rfl 1 rfl ?_
      refine z_cvR (pc := 27) (As := [.int a3_4, .int p0]) C [] (c_X6_shares _ _ _ _ n this a3_4 p0 h) zn_X6_shares (by decide) (by decide) hz0 zc6 rfl q_284 q_285 q_286 q_5 q_287 rfl rfl rfl (zD D_X6_presides_0 19 rfl) (fun r27 => ?_)
      refine z_goto (pc := 30) C (zD D_X6_presides_0 20 rfl) (tgt := 34) (by decide) ?_
      refine z_sub [0, 1, 3] (lv' := [(0, .ref (B + this)), (1, .int p0), (3, .int a3_4)]) rfl ?_
      exact hK34 r27
def f_X6_price (n : Nat) (this : Nat) (p0 : Int32) (h : zH) : Option (Int32) := zrc h this 6 <| (f_X6_of n this p0 (3 : Int32) h).bind fun (r7 : Int32) => some ((20 : Int32) + ((10 : Int32) * r7))
theorem zn_X6_price : zNm yX6_price 1 := ⟨by decide +kernel, by decide +kernel⟩
set_option maxRecDepth 100000 in
set_option maxHeartbeats 4000000 in
theorem c_X6_price (l : Launch) (B : Nat) (D : va_G) (cA : Nat → ClassId) (n : Nat) (this : Nat) (p0 : Int32) (h : zH) : ∀ u, f_X6_price n this p0 h = some u → zM l B D cA yX6_price cX6_price 2 (some .int) 2 0 0 none [.ref (B + this), .int p0] h ((fun r : Int32 => (some (Value.int r), h)) u).1 ((fun r : Int32 => (some (Value.int r), h)) u).2 := by
  unfold f_X6_price
  refine z_met (own := RX6) (fun r : Int32 => (some (Value.int r), h)) rfl (by decide) rfl (fun Z C hr _ _ => ?_)
  have hz0 : (z00 Z).1 ≤ 0 ∧ (z00 Z).2.1 ≤ 0 := ⟨Nat.le_refl 0, Nat.le_refl 0⟩
  refine z_bipush (pc := 0) (v := 20) C (zD D_X6_price_0 0 rfl) (by decide) ?_
  refine z_bipush (pc := 2) (v := 10) C (zD D_X6_price_0 1 rfl) (by decide) ?_
  refine z_aload_n (pc := 4) C (zD D_X6_price_0 2 rfl) rfl 0 rfl ?_
  refine z_iload_n (pc := 5) C (zD D_X6_price_0 3 rfl) rfl 1 rfl ?_
  refine z_iconst (pc := 6) (v := 3) C (zD D_X6_price_0 4 rfl) (by decide) ?_
  refine z_cvR (pc := 7) (As := [.int p0, .int (3 : Int32)]) C [.int (10 : Int32), .int (20 : Int32)] (c_X6_of _ _ _ _ n this p0 (3 : Int32) h) zn_X6_of (by decide) (by decide) hz0 zc6 rfl q_260 q_261 q_262 q_5 q_263 rfl rfl rfl (zD D_X6_price_0 5 rfl) (fun r7 => ?_)
  refine z_imul (pc := 10) C (zD D_X6_price_0 6 rfl) ?_
  refine z_iadd (pc := 11) C (zD D_X6_price_0 7 rfl) ?_
  exact z_iret (pc := 12) C hr rfl (zD D_X6_price_0 8 rfl)
def f_X6_rest (n : Nat) (this : Nat) (p0 : Int32) (h : zH) : Option (Int32) := zfix2 (fun rec5 (a2_5 : Int32) (a3_5 : Int32) => (zgR h this 6 0).bind fun (v7 : Nat) => (zai h v7 (0 : Int32)).bind fun (v11 : Int32) => if v11 ≤ a3_5 then (some a2_5) else (zrc h this 6 <| (f_X6_shares n this a3_5 p0 h).bind fun (r19 : Int32) => zlet ((a2_5 - r19)) fun (x23 : Int32) => zlet (a3_5 + 1) fun (x24 : Int32) => rec5 x23 x24)) n (10 : Int32) (0 : Int32)
theorem zn_X6_rest : zNm yX6_rest 1 := ⟨by decide +kernel, by decide +kernel⟩
set_option maxRecDepth 100000 in
set_option maxHeartbeats 4000000 in
theorem c_X6_rest (l : Launch) (B : Nat) (D : va_G) (cA : Nat → ClassId) (n : Nat) (this : Nat) (p0 : Int32) (h : zH) : ∀ u, f_X6_rest n this p0 h = some u → zM l B D cA yX6_rest cX6_rest 4 (some .int) 2 0 0 none [.ref (B + this), .int p0] h ((fun r : Int32 => (some (Value.int r), h)) u).1 ((fun r : Int32 => (some (Value.int r), h)) u).2 := by
  unfold f_X6_rest
  refine z_met (own := RX6) (fun r : Int32 => (some (Value.int r), h)) rfl (by decide) rfl (fun Z C hr _ _ => ?_)
  have hz0 : (z00 Z).1 ≤ 0 ∧ (z00 Z).2.1 ≤ 0 := ⟨Nat.le_refl 0, Nat.le_refl 0⟩
  refine z_bipush (pc := 0) (v := 10) C (zD D_X6_rest_0 0 rfl) (by decide) ?_
  refine z_istore_n (pc := 2) (lv' := [(2, .int (10 : Int32)), (0, .ref (B + this)), (1, .int p0)]) C (zD D_X6_rest_0 1 rfl) rfl (by decide) rfl ?_
  refine z_iconst (pc := 3) (v := 0) C (zD D_X6_rest_0 2 rfl) (by decide) ?_
  refine z_istore_n (pc := 4) (lv' := [(3, .int (0 : Int32)), (2, .int (10 : Int32)), (0, .ref (B + this)), (1, .int p0)]) C (zD D_X6_rest_0 3 rfl) rfl (by decide) rfl ?_
  refine z_sub [2, 3, 1, 0] (lv' := [(0, .ref (B + this)), (1, .int p0), (2, .int (10 : Int32)), (3, .int (0 : Int32))]) rfl ?_
  refine z_fix2 (fun g5 => ∀ (a2_5 : Int32) (a3_5 : Int32), zJ B Z (zEnd B Z (fun r : Int32 => (some (Value.int r), h)) 0 0) (g5 a2_5 a3_5) 5 [(0, .ref (B + this)), (1, .int p0), (2, .int a2_5), (3, .int a3_5)] [] h (z00 Z)) (fun _ _ => z_none) (fun rec5 hrec5 a2_5 a3_5 => ?_) n (10 : Int32) (0 : Int32)
  refine z_iload_n (pc := 5) C (zD D_X6_rest_0 4 rfl) rfl 3 rfl ?_
  refine z_aload_n (pc := 6) C (zD D_X6_rest_0 5 rfl) rfl 0 rfl ?_
  refine z_getR (pc := 7) C zc6 0 (by decide) q_102 (zD D_X6_rest_0 6 rfl) (fun v7 => ?_)
  refine z_iconst (pc := 10) (v := 0) C (zD D_X6_rest_0 7 rfl) (by decide) ?_
  refine z_aiload (pc := 11) C (zD D_X6_rest_0 8 rfl) (fun v11 => ?_)
  refine z_icmp_ge (pc := 12) C (zD D_X6_rest_0 9 rfl) (tgt := 30) (by decide) (fun _ => ?_) (fun _ => ?_)
  · refine z_iload_n (pc := 30) C (zD D_X6_rest_0 19 rfl) rfl 2 rfl ?_
    exact z_iret (pc := 31) C hr rfl (zD D_X6_rest_0 20 rfl)
  · refine z_iload_n (pc := 15) C (zD D_X6_rest_0 10 rfl) rfl 2 rfl ?_
    refine z_aload_n (pc := 16) C (zD D_X6_rest_0 11 rfl) rfl 0 rfl ?_
    refine z_iload_n (pc := 17) C (zD D_X6_rest_0 12 rfl) rfl 3 rfl ?_
    refine z_iload_n (pc := 18) C (zD D_X6_rest_0 13 rfl) rfl 1 rfl ?_
    refine z_cvR (pc := 19) (As := [.int a3_5, .int p0]) C [.int a2_5] (c_X6_shares _ _ _ _ n this a3_5 p0 h) zn_X6_shares (by decide) (by decide) hz0 zc6 rfl q_284 q_285 q_286 q_5 q_287 rfl rfl rfl (zD D_X6_rest_0 14 rfl) (fun r19 => ?_)
    refine z_isub (pc := 22) C (zD D_X6_rest_0 15 rfl) ?_
    refine z_istore_nL (pc := 23) (lv' := fun x23 => [(2, .int x23), (0, .ref (B + this)), (1, .int p0), (3, .int a3_5)]) C (zD D_X6_rest_0 16 rfl) rfl (by decide) (fun _ => rfl) (fun x23 => ?_)
    refine z_iincL (pc := 24) (lv' := fun x24 => [(3, .int x24), (2, .int x23), (0, .ref (B + this)), (1, .int p0)]) C (zD D_X6_rest_0 17 rfl) 3 rfl (v := a3_5 + 1) rfl (by decide) (fun _ => rfl) (fun x24 => ?_)
    refine z_goto (pc := 27) C (zD D_X6_rest_0 18 rfl) (tgt := 5) (by decide) ?_
    refine z_sub [2, 3, 1, 0] (lv' := [(0, .ref (B + this)), (1, .int p0), (2, .int x23), (3, .int x24)]) rfl ?_
    exact hrec5 x23 x24
def f_X6_undo (n : Nat) (this : Nat) (h : zH) : Option (Int32 × zH) := (zgI h this 6 2).bind fun (v2 : Int32) => zlet (fun (s0_13 : Int32) => zrc h this 6 <| zb2 (f_X6_refused n this s0_13 h) fun (r13 : Int32) (h13 : zH) => if r13 = 0 then ((zgI h13 this 6 2).bind fun (v23 : Int32) => (zp h13 this 6 2 (.int (v23 - (1 : Int32)))).bind fun (h28 : zH) => zfix2 (fun rec33 (a1_33 : Int32) (h33 : zH) => if (134 : Int32) ≤ a1_33 then ((zgI h33 this 6 2).bind fun (v68 : Int32) => some (v68, h33)) else ((zgR h33 this 6 0).bind fun (v41 : Nat) => (zgR h33 this 6 1).bind fun (v46 : Nat) => (zgI h33 this 6 2).bind fun (v53 : Int32) => (zai h33 v46 (((134 : Int32) * v53) + a1_33)).bind fun (v59 : Int32) => (zsi h33 v41 a1_33 v59).bind fun (h60 : zH) => zlet (a1_33 + 1) fun (x61 : Int32) => rec33 x61 h60)) n (0 : Int32) h28) else (some ((0 : Int32), h13))) fun K13 => if v2 = 0 then (K13 (1 : Int32)) else (K13 (0 : Int32))
theorem zn_X6_undo : zNm yX6_undo 0 := ⟨by decide +kernel, by decide +kernel⟩
set_option maxRecDepth 100000 in
set_option maxHeartbeats 4000000 in
theorem c_X6_undo (l : Launch) (B : Nat) (D : va_G) (cA : Nat → ClassId) (n : Nat) (this : Nat) (h : zH) : ∀ u, f_X6_undo n this h = some u → zM l B D cA yX6_undo cX6_undo 2 (some .int) 2 0 0 none [.ref (B + this)] h ((fun u : Int32 × zH => (some (Value.int u.1), u.2)) u).1 ((fun u : Int32 × zH => (some (Value.int u.1), u.2)) u).2 := by
  unfold f_X6_undo
  refine z_met (own := RX6) (fun u : Int32 × zH => (some (Value.int u.1), u.2)) rfl (by decide) rfl (fun Z C hr _ _ => ?_)
  have hz0 : (z00 Z).1 ≤ 0 ∧ (z00 Z).2.1 ≤ 0 := ⟨Nat.le_refl 0, Nat.le_refl 0⟩
  refine z_aload_n (pc := 0) C (zD D_X6_undo_0 0 rfl) rfl 0 rfl ?_
  refine z_aload_n (pc := 1) C (zD D_X6_undo_0 1 rfl) rfl 0 rfl ?_
  refine z_getI (pc := 2) C zc6 2 (by decide) q_164 (zD D_X6_undo_0 2 rfl) (fun v2 => ?_)
  refine z_letg (fun K13 => ∀ (s0_13 : Int32), zJ B Z (zEnd B Z (fun u : Int32 × zH => (some (Value.int u.1), u.2)) 0 0) (K13 s0_13) 13 [(0, .ref (B + this))] [.int s0_13, .ref (B + this)] h (z00 Z)) (fun s0_13 => ?_) (fun K13 hK13 => ?_)
  · refine z_cvI (pc := 13) (As := [.int s0_13]) C [] (c_X6_refused _ _ _ _ n this s0_13 h) zn_X6_refused (by decide) (by decide) hz0 zc6 rfl q_155 q_156 q_157 q_5 q_158 rfl rfl rfl (zD D_X6_undo_0 7 rfl) (fun r13 h13 => ?_)
    refine z_if_eq (pc := 16) C (zD D_X6_undo_0 8 rfl) (tgt := 21) (by decide) (fun _ => ?_) (fun _ => ?_)
    · refine z_aload_n (pc := 21) C (zD D_X6_undo_0 11 rfl) rfl 0 rfl ?_
      refine z_dup (pc := 22) C (zD D_X6_undo_0 12 rfl) rfl ?_
      refine z_getI (pc := 23) C zc6 2 (by decide) q_164 (zD D_X6_undo_0 13 rfl) (fun v23 => ?_)
      refine z_iconst (pc := 26) (v := 1) C (zD D_X6_undo_0 14 rfl) (by decide) ?_
      refine z_isub (pc := 27) C (zD D_X6_undo_0 15 rfl) ?_
      refine z_putI (pc := 28) C zc6 2 (by decide) q_164 rfl rfl (zD D_X6_undo_0 16 rfl) (fun h28 => ?_)
      refine z_iconst (pc := 31) (v := 0) C (zD D_X6_undo_0 17 rfl) (by decide) ?_
      refine z_istore_n (pc := 32) (lv' := [(1, .int (0 : Int32)), (0, .ref (B + this))]) C (zD D_X6_undo_0 18 rfl) rfl (by decide) rfl ?_
      refine z_sub [1, 0] (lv' := [(0, .ref (B + this)), (1, .int (0 : Int32))]) rfl ?_
      refine z_fix2 (fun g33 => ∀ (a1_33 : Int32) (h33 : zH), zJ B Z (zEnd B Z (fun u : Int32 × zH => (some (Value.int u.1), u.2)) 0 0) (g33 a1_33 h33) 33 [(0, .ref (B + this)), (1, .int a1_33)] [] h33 (z00 Z)) (fun _ _ => z_none) (fun rec33 hrec33 a1_33 h33 => ?_) n (0 : Int32) h28
      refine z_iload_n (pc := 33) C (zD D_X6_undo_0 19 rfl) rfl 1 rfl ?_
      refine z_sipush (pc := 34) (v := 134) C (zD D_X6_undo_0 20 rfl) (by decide) ?_
      refine z_icmp_ge (pc := 37) C (zD D_X6_undo_0 21 rfl) (tgt := 67) (by decide) (fun _ => ?_) (fun _ => ?_)
      · refine z_aload_n (pc := 67) C (zD D_X6_undo_0 37 rfl) rfl 0 rfl ?_
        refine z_getI (pc := 68) C zc6 2 (by decide) q_164 (zD D_X6_undo_0 38 rfl) (fun v68 => ?_)
        exact z_iret (pc := 71) C hr rfl (zD D_X6_undo_0 39 rfl)
      · refine z_aload_n (pc := 40) C (zD D_X6_undo_0 22 rfl) rfl 0 rfl ?_
        refine z_getR (pc := 41) C zc6 0 (by decide) q_102 (zD D_X6_undo_0 23 rfl) (fun v41 => ?_)
        refine z_iload_n (pc := 44) C (zD D_X6_undo_0 24 rfl) rfl 1 rfl ?_
        refine z_aload_n (pc := 45) C (zD D_X6_undo_0 25 rfl) rfl 0 rfl ?_
        refine z_getR (pc := 46) C zc6 1 (by decide) q_103 (zD D_X6_undo_0 26 rfl) (fun v46 => ?_)
        refine z_sipush (pc := 49) (v := 134) C (zD D_X6_undo_0 27 rfl) (by decide) ?_
        refine z_aload_n (pc := 52) C (zD D_X6_undo_0 28 rfl) rfl 0 rfl ?_
        refine z_getI (pc := 53) C zc6 2 (by decide) q_164 (zD D_X6_undo_0 29 rfl) (fun v53 => ?_)
        refine z_imul (pc := 56) C (zD D_X6_undo_0 30 rfl) ?_
        refine z_iload_n (pc := 57) C (zD D_X6_undo_0 31 rfl) rfl 1 rfl ?_
        refine z_iadd (pc := 58) C (zD D_X6_undo_0 32 rfl) ?_
        refine z_aiload (pc := 59) C (zD D_X6_undo_0 33 rfl) (fun v59 => ?_)
        refine z_aistore (pc := 60) C (zD D_X6_undo_0 34 rfl) (fun h60 => ?_)
        refine z_iincL (pc := 61) (lv' := fun x61 => [(1, .int x61), (0, .ref (B + this))]) C (zD D_X6_undo_0 35 rfl) 1 rfl (v := a1_33 + 1) rfl (by decide) (fun _ => rfl) (fun x61 => ?_)
        refine z_goto (pc := 64) C (zD D_X6_undo_0 36 rfl) (tgt := 33) (by decide) ?_
        refine z_sub [1, 0] (lv' := [(0, .ref (B + this)), (1, .int x61)]) rfl ?_
        exact hrec33 x61 h60
    · refine z_iconst (pc := 19) (v := 0) C (zD D_X6_undo_0 9 rfl) (by decide) ?_
      exact z_iret (pc := 20) C hr rfl (zD D_X6_undo_0 10 rfl)
  refine z_if_ne (pc := 5) C (zD D_X6_undo_0 3 rfl) (tgt := 12) (by decide) (fun _ => ?_) (fun _ => ?_)
  · refine z_iconst (pc := 12) (v := 0) C (zD D_X6_undo_0 6 rfl) (by decide) ?_
    exact hK13 (0 : Int32)
  · refine z_iconst (pc := 8) (v := 1) C (zD D_X6_undo_0 4 rfl) (by decide) ?_
    refine z_goto (pc := 9) C (zD D_X6_undo_0 5 rfl) (tgt := 13) (by decide) ?_
    exact hK13 (1 : Int32)
def f_X6_wanted (n : Nat) (this : Nat) (p0 : Int32) (h : zH) : Option (Int32) := zfix2 (fun rec4 (a2_4 : Int32) (a3_4 : Int32) => (zgR h this 6 0).bind fun (v6 : Nat) => (zai h v6 (0 : Int32)).bind fun (v10 : Int32) => if v10 ≤ a3_4 then (some a2_4) else (zrc h this 6 <| (f_X6_shares n this a3_4 p0 h).bind fun (r18 : Int32) => zlet ((a2_4 + (r18 / (2 : Int32)))) fun (x24 : Int32) => zlet (a3_4 + 1) fun (x25 : Int32) => rec4 x24 x25)) n (0 : Int32) (0 : Int32)
theorem zn_X6_wanted : zNm yX6_wanted 1 := ⟨by decide +kernel, by decide +kernel⟩
set_option maxRecDepth 100000 in
set_option maxHeartbeats 4000000 in
theorem c_X6_wanted (l : Launch) (B : Nat) (D : va_G) (cA : Nat → ClassId) (n : Nat) (this : Nat) (p0 : Int32) (h : zH) : ∀ u, f_X6_wanted n this p0 h = some u → zM l B D cA yX6_wanted cX6_wanted 4 (some .int) 2 0 0 none [.ref (B + this), .int p0] h ((fun r : Int32 => (some (Value.int r), h)) u).1 ((fun r : Int32 => (some (Value.int r), h)) u).2 := by
  unfold f_X6_wanted
  refine z_met (own := RX6) (fun r : Int32 => (some (Value.int r), h)) rfl (by decide) rfl (fun Z C hr _ _ => ?_)
  have hz0 : (z00 Z).1 ≤ 0 ∧ (z00 Z).2.1 ≤ 0 := ⟨Nat.le_refl 0, Nat.le_refl 0⟩
  refine z_iconst (pc := 0) (v := 0) C (zD D_X6_wanted_0 0 rfl) (by decide) ?_
  refine z_istore_n (pc := 1) (lv' := [(2, .int (0 : Int32)), (0, .ref (B + this)), (1, .int p0)]) C (zD D_X6_wanted_0 1 rfl) rfl (by decide) rfl ?_
  refine z_iconst (pc := 2) (v := 0) C (zD D_X6_wanted_0 2 rfl) (by decide) ?_
  refine z_istore_n (pc := 3) (lv' := [(3, .int (0 : Int32)), (2, .int (0 : Int32)), (0, .ref (B + this)), (1, .int p0)]) C (zD D_X6_wanted_0 3 rfl) rfl (by decide) rfl ?_
  refine z_sub [2, 3, 1, 0] (lv' := [(0, .ref (B + this)), (1, .int p0), (2, .int (0 : Int32)), (3, .int (0 : Int32))]) rfl ?_
  refine z_fix2 (fun g4 => ∀ (a2_4 : Int32) (a3_4 : Int32), zJ B Z (zEnd B Z (fun r : Int32 => (some (Value.int r), h)) 0 0) (g4 a2_4 a3_4) 4 [(0, .ref (B + this)), (1, .int p0), (2, .int a2_4), (3, .int a3_4)] [] h (z00 Z)) (fun _ _ => z_none) (fun rec4 hrec4 a2_4 a3_4 => ?_) n (0 : Int32) (0 : Int32)
  refine z_iload_n (pc := 4) C (zD D_X6_wanted_0 4 rfl) rfl 3 rfl ?_
  refine z_aload_n (pc := 5) C (zD D_X6_wanted_0 5 rfl) rfl 0 rfl ?_
  refine z_getR (pc := 6) C zc6 0 (by decide) q_102 (zD D_X6_wanted_0 6 rfl) (fun v6 => ?_)
  refine z_iconst (pc := 9) (v := 0) C (zD D_X6_wanted_0 7 rfl) (by decide) ?_
  refine z_aiload (pc := 10) C (zD D_X6_wanted_0 8 rfl) (fun v10 => ?_)
  refine z_icmp_ge (pc := 11) C (zD D_X6_wanted_0 9 rfl) (tgt := 31) (by decide) (fun _ => ?_) (fun _ => ?_)
  · refine z_iload_n (pc := 31) C (zD D_X6_wanted_0 21 rfl) rfl 2 rfl ?_
    exact z_iret (pc := 32) C hr rfl (zD D_X6_wanted_0 22 rfl)
  · refine z_iload_n (pc := 14) C (zD D_X6_wanted_0 10 rfl) rfl 2 rfl ?_
    refine z_aload_n (pc := 15) C (zD D_X6_wanted_0 11 rfl) rfl 0 rfl ?_
    refine z_iload_n (pc := 16) C (zD D_X6_wanted_0 12 rfl) rfl 3 rfl ?_
    refine z_iload_n (pc := 17) C (zD D_X6_wanted_0 13 rfl) rfl 1 rfl ?_
    refine z_cvR (pc := 18) (As := [.int a3_4, .int p0]) C [.int a2_4] (c_X6_shares _ _ _ _ n this a3_4 p0 h) zn_X6_shares (by decide) (by decide) hz0 zc6 rfl q_284 q_285 q_286 q_5 q_287 rfl rfl rfl (zD D_X6_wanted_0 14 rfl) (fun r18 => ?_)
    refine z_iconst (pc := 21) (v := 2) C (zD D_X6_wanted_0 15 rfl) (by decide) ?_
    refine z_idivc (pc := 22) C (zD D_X6_wanted_0 16 rfl) (by decide) ?_
    refine z_iadd (pc := 23) C (zD D_X6_wanted_0 17 rfl) ?_
    refine z_istore_nL (pc := 24) (lv' := fun x24 => [(2, .int x24), (0, .ref (B + this)), (1, .int p0), (3, .int a3_4)]) C (zD D_X6_wanted_0 18 rfl) rfl (by decide) (fun _ => rfl) (fun x24 => ?_)
    refine z_iincL (pc := 25) (lv' := fun x25 => [(3, .int x25), (2, .int x24), (0, .ref (B + this)), (1, .int p0)]) C (zD D_X6_wanted_0 19 rfl) 3 rfl (v := a3_4 + 1) rfl (by decide) (fun _ => rfl) (fun x25 => ?_)
    refine z_goto (pc := 28) C (zD D_X6_wanted_0 20 rfl) (tgt := 4) (by decide) ?_
    refine z_sub [2, 3, 1, 0] (lv' := [(0, .ref (B + this)), (1, .int p0), (2, .int x24), (3, .int x25)]) rfl ?_
    exact hrec4 x24 x25
def f_X6_canBuy (n : Nat) (this : Nat) (p0 : Int32) (h : zH) : Option (Int32) := zrc h this 6 <| (f_X6_isStock n this h).bind fun (r1 : Int32) => zlet (some (0 : Int32)) fun K55 => if r1 = 0 then (K55) else (zrc h this 6 <| (f_X6_isOpen n this p0 h).bind fun (r9 : Int32) => if r9 = 0 then (K55) else (zrc h this 6 <| (f_X6_rest n this p0 h).bind fun (r17 : Int32) => if r17 ≤ 0 then (K55) else ((zgR h this 6 0).bind fun (v25 : Nat) => (zai h v25 (1 : Int32)).bind fun (v29 : Int32) => zrc h this 6 <| (f_X6_shares n this v29 p0 h).bind fun (r31 : Int32) => if (6 : Int32) ≤ r31 then (K55) else (zrc h this 6 <| (f_X6_purse n this h).bind fun (r40 : Int32) => zrc h this 6 <| (f_X6_price n this p0 h).bind fun (r45 : Int32) => if r40 < r45 then (K55) else (some (1 : Int32))))))
theorem zn_X6_canBuy : zNm yX6_canBuy 1 := ⟨by decide +kernel, by decide +kernel⟩
set_option maxRecDepth 100000 in
set_option maxHeartbeats 4000000 in
theorem c_X6_canBuy (l : Launch) (B : Nat) (D : va_G) (cA : Nat → ClassId) (n : Nat) (this : Nat) (p0 : Int32) (h : zH) : ∀ u, f_X6_canBuy n this p0 h = some u → zM l B D cA yX6_canBuy cX6_canBuy 2 (some .boolean) 3 0 0 none [.ref (B + this), .int p0] h ((fun r : Int32 => (some (Value.int r), h)) u).1 ((fun r : Int32 => (some (Value.int r), h)) u).2 := by
  unfold f_X6_canBuy
  refine z_met (own := RX6) (fun r : Int32 => (some (Value.int r), h)) rfl (by decide) rfl (fun Z C hr _ _ => ?_)
  have hz0 : (z00 Z).1 ≤ 0 ∧ (z00 Z).2.1 ≤ 0 := ⟨Nat.le_refl 0, Nat.le_refl 0⟩
  refine z_aload_n (pc := 0) C (zD D_X6_canBuy_0 0 rfl) rfl 0 rfl ?_
  refine z_cvR (pc := 1) (As := []) C [] (c_X6_isStock _ _ _ _ n this h) zn_X6_isStock (by decide) (by decide) hz0 zc6 rfl q_252 q_253 q_254 q_5 q_255 rfl rfl rfl (zD D_X6_canBuy_0 1 rfl) (fun r1 => ?_)
  refine z_letg (fun K55 => zJ B Z (zEnd B Z (fun r : Int32 => (some (Value.int r), h)) 0 0) (K55) 55 [] [] h (z00 Z)) ?_ (fun K55 hK55 => ?_)
  · refine z_iconst (pc := 55) (v := 0) C (zD D_X6_canBuy_0 28 rfl) (by decide) ?_
    exact z_zret (pc := 56) C hr (by decide) rfl (zD D_X6_canBuy_0 29 rfl)
  refine z_if_eq (pc := 4) C (zD D_X6_canBuy_0 2 rfl) (tgt := 55) (by decide) (fun _ => ?_) (fun _ => ?_)
  · refine z_sub [] (lv' := []) rfl ?_
    exact hK55
  · refine z_aload_n (pc := 7) C (zD D_X6_canBuy_0 3 rfl) rfl 0 rfl ?_
    refine z_iload_n (pc := 8) C (zD D_X6_canBuy_0 4 rfl) rfl 1 rfl ?_
    refine z_cvR (pc := 9) (As := [.int p0]) C [] (c_X6_isOpen _ _ _ _ n this p0 h) zn_X6_isOpen (by decide) (by decide) hz0 zc6 rfl q_256 q_257 q_258 q_5 q_259 rfl rfl rfl (zD D_X6_canBuy_0 5 rfl) (fun r9 => ?_)
    refine z_if_eq (pc := 12) C (zD D_X6_canBuy_0 6 rfl) (tgt := 55) (by decide) (fun _ => ?_) (fun _ => ?_)
    · refine z_sub [] (lv' := []) rfl ?_
      exact hK55
    · refine z_aload_n (pc := 15) C (zD D_X6_canBuy_0 7 rfl) rfl 0 rfl ?_
      refine z_iload_n (pc := 16) C (zD D_X6_canBuy_0 8 rfl) rfl 1 rfl ?_
      refine z_cvR (pc := 17) (As := [.int p0]) C [] (c_X6_rest _ _ _ _ n this p0 h) zn_X6_rest (by decide) (by decide) hz0 zc6 rfl q_327 q_328 q_329 q_5 q_330 rfl rfl rfl (zD D_X6_canBuy_0 9 rfl) (fun r17 => ?_)
      refine z_if_le (pc := 20) C (zD D_X6_canBuy_0 10 rfl) (tgt := 55) (by decide) (fun _ => ?_) (fun _ => ?_)
      · refine z_sub [] (lv' := []) rfl ?_
        exact hK55
      · refine z_aload_n (pc := 23) C (zD D_X6_canBuy_0 11 rfl) rfl 0 rfl ?_
        refine z_aload_n (pc := 24) C (zD D_X6_canBuy_0 12 rfl) rfl 0 rfl ?_
        refine z_getR (pc := 25) C zc6 0 (by decide) q_102 (zD D_X6_canBuy_0 13 rfl) (fun v25 => ?_)
        refine z_iconst (pc := 28) (v := 1) C (zD D_X6_canBuy_0 14 rfl) (by decide) ?_
        refine z_aiload (pc := 29) C (zD D_X6_canBuy_0 15 rfl) (fun v29 => ?_)
        refine z_iload_n (pc := 30) C (zD D_X6_canBuy_0 16 rfl) rfl 1 rfl ?_
        refine z_cvR (pc := 31) (As := [.int v29, .int p0]) C [] (c_X6_shares _ _ _ _ n this v29 p0 h) zn_X6_shares (by decide) (by decide) hz0 zc6 rfl q_284 q_285 q_286 q_5 q_287 rfl rfl rfl (zD D_X6_canBuy_0 17 rfl) (fun r31 => ?_)
        refine z_bipush (pc := 34) (v := 6) C (zD D_X6_canBuy_0 18 rfl) (by decide) ?_
        refine z_icmp_ge (pc := 36) C (zD D_X6_canBuy_0 19 rfl) (tgt := 55) (by decide) (fun _ => ?_) (fun _ => ?_)
        · refine z_sub [] (lv' := []) rfl ?_
          exact hK55
        · refine z_aload_n (pc := 39) C (zD D_X6_canBuy_0 20 rfl) rfl 0 rfl ?_
          refine z_cvR (pc := 40) (As := []) C [] (c_X6_purse _ _ _ _ n this h) zn_X6_purse (by decide) (by decide) hz0 zc6 rfl q_264 q_265 q_266 q_5 q_267 rfl rfl rfl (zD D_X6_canBuy_0 21 rfl) (fun r40 => ?_)
          refine z_aload_n (pc := 43) C (zD D_X6_canBuy_0 22 rfl) rfl 0 rfl ?_
          refine z_iload_n (pc := 44) C (zD D_X6_canBuy_0 23 rfl) rfl 1 rfl ?_
          refine z_cvR (pc := 45) (As := [.int p0]) C [.int r40] (c_X6_price _ _ _ _ n this p0 h) zn_X6_price (by decide) (by decide) hz0 zc6 rfl q_268 q_269 q_270 q_5 q_271 rfl rfl rfl (zD D_X6_canBuy_0 24 rfl) (fun r45 => ?_)
          refine z_icmp_lt (pc := 48) C (zD D_X6_canBuy_0 25 rfl) (tgt := 55) (by decide) (fun _ => ?_) (fun _ => ?_)
          · refine z_sub [] (lv' := []) rfl ?_
            exact hK55
          · refine z_iconst (pc := 51) (v := 1) C (zD D_X6_canBuy_0 26 rfl) (by decide) ?_
            refine z_goto (pc := 52) C (zD D_X6_canBuy_0 27 rfl) (tgt := 56) (by decide) ?_
            exact z_zret (pc := 56) C hr (by decide) rfl (zD D_X6_canBuy_0 29 rfl)
def f_X6_canLay (n : Nat) (this : Nat) (p0 : Int32) (p1 : Int32) (p2 : Int32) (h : zH) : Option (Int32) := zrc h this 6 <| (f_X6_joined n this p0 h).bind fun (r2 : Int32) => zrc h this 6 <| (f_X6_level n this p1 p2 h).bind fun (r10 : Int32) => zlet (some (0 : Int32)) fun K64 => if p1 = p2 then (K64) else (if (2 : Int32) ≤ r10 then (K64) else (zrc h this 6 <| (f_X6_of n this p0 (2 : Int32) h).bind fun (r29 : Int32) => if r29 < ((20 : Int32) * (r10 + (1 : Int32))) then (K64) else ((f_X6_has n r2 p1 h).bind fun (r45 : Int32) => zlet (some (1 : Int32)) fun K60 => if r45 = 0 then ((f_X6_has n r2 p2 h).bind fun (r54 : Int32) => if r54 = 0 then (K64) else (K60)) else (K60))))
theorem zn_X6_canLay : zNm yX6_canLay 3 := ⟨by decide +kernel, by decide +kernel⟩
set_option maxRecDepth 100000 in
set_option maxHeartbeats 4000000 in
theorem c_X6_canLay (l : Launch) (B : Nat) (D : va_G) (cA : Nat → ClassId) (n : Nat) (this : Nat) (p0 : Int32) (p1 : Int32) (p2 : Int32) (h : zH) : ∀ u, f_X6_canLay n this p0 p1 p2 h = some u → zM l B D cA yX6_canLay cX6_canLay 6 (some .boolean) 3 0 0 none [.ref (B + this), .int p0, .int p1, .int p2] h ((fun r : Int32 => (some (Value.int r), h)) u).1 ((fun r : Int32 => (some (Value.int r), h)) u).2 := by
  unfold f_X6_canLay
  refine z_met (own := RX6) (fun r : Int32 => (some (Value.int r), h)) rfl (by decide) rfl (fun Z C hr _ _ => ?_)
  have hz0 : (z00 Z).1 ≤ 0 ∧ (z00 Z).2.1 ≤ 0 := ⟨Nat.le_refl 0, Nat.le_refl 0⟩
  refine z_aload_n (pc := 0) C (zD D_X6_canLay_0 0 rfl) rfl 0 rfl ?_
  refine z_iload_n (pc := 1) C (zD D_X6_canLay_0 1 rfl) rfl 1 rfl ?_
  refine z_cvR (pc := 2) (As := [.int p0]) C [] (c_X6_joined _ _ _ _ n this p0 h) zn_X6_joined (by decide) (by decide) hz0 zc6 rfl q_593 q_594 q_595 q_5 q_596 rfl rfl rfl (zD D_X6_canLay_0 2 rfl) (fun r2 => ?_)
  refine z_istore (pc := 5) (lv' := [(4, .int r2), (0, .ref (B + this)), (1, .int p0), (2, .int p1), (3, .int p2)]) C (zD D_X6_canLay_0 3 rfl) (by decide) rfl ?_
  refine z_aload_n (pc := 7) C (zD D_X6_canLay_0 4 rfl) rfl 1 rfl ?_
  refine z_iload_n (pc := 8) C (zD D_X6_canLay_0 5 rfl) rfl 3 rfl ?_
  refine z_iload_n (pc := 9) C (zD D_X6_canLay_0 6 rfl) rfl 4 rfl ?_
  refine z_cvR (pc := 10) (As := [.int p1, .int p2]) C [] (c_X6_level _ _ _ _ n this p1 p2 h) zn_X6_level (by decide) (by decide) hz0 zc6 rfl q_600 q_601 q_602 q_5 q_603 rfl rfl rfl (zD D_X6_canLay_0 7 rfl) (fun r10 => ?_)
  refine z_istore (pc := 13) (lv' := [(5, .int r10), (4, .int r2), (0, .ref (B + this)), (1, .int p0), (2, .int p1), (3, .int p2)]) C (zD D_X6_canLay_0 8 rfl) (by decide) rfl ?_
  refine z_iload_n (pc := 15) C (zD D_X6_canLay_0 9 rfl) rfl 4 rfl ?_
  refine z_iload_n (pc := 16) C (zD D_X6_canLay_0 10 rfl) rfl 5 rfl ?_
  refine z_letg (fun K64 => zJ B Z (zEnd B Z (fun r : Int32 => (some (Value.int r), h)) 0 0) (K64) 64 [] [] h (z00 Z)) ?_ (fun K64 hK64 => ?_)
  · refine z_iconst (pc := 64) (v := 0) C (zD D_X6_canLay_0 35 rfl) (by decide) ?_
    exact z_zret (pc := 65) C hr (by decide) rfl (zD D_X6_canLay_0 36 rfl)
  refine z_icmp_eq (pc := 17) C (zD D_X6_canLay_0 11 rfl) (tgt := 64) (by decide) (fun _ => ?_) (fun _ => ?_)
  · refine z_sub [] (lv' := []) rfl ?_
    exact hK64
  · refine z_iload (pc := 20) C (zD D_X6_canLay_0 12 rfl) 0 rfl ?_
    refine z_iconst (pc := 22) (v := 2) C (zD D_X6_canLay_0 13 rfl) (by decide) ?_
    refine z_icmp_ge (pc := 23) C (zD D_X6_canLay_0 14 rfl) (tgt := 64) (by decide) (fun _ => ?_) (fun _ => ?_)
    · refine z_sub [] (lv' := []) rfl ?_
      exact hK64
    · refine z_aload_n (pc := 26) C (zD D_X6_canLay_0 15 rfl) rfl 2 rfl ?_
      refine z_iload_n (pc := 27) C (zD D_X6_canLay_0 16 rfl) rfl 3 rfl ?_
      refine z_iconst (pc := 28) (v := 2) C (zD D_X6_canLay_0 17 rfl) (by decide) ?_
      refine z_cvR (pc := 29) (As := [.int p0, .int (2 : Int32)]) C [] (c_X6_of _ _ _ _ n this p0 (2 : Int32) h) zn_X6_of (by decide) (by decide) hz0 zc6 rfl q_260 q_261 q_262 q_5 q_263 rfl rfl rfl (zD D_X6_canLay_0 18 rfl) (fun r29 => ?_)
      refine z_bipush (pc := 32) (v := 20) C (zD D_X6_canLay_0 19 rfl) (by decide) ?_
      refine z_iload (pc := 34) C (zD D_X6_canLay_0 20 rfl) 0 rfl ?_
      refine z_iconst (pc := 36) (v := 1) C (zD D_X6_canLay_0 21 rfl) (by decide) ?_
      refine z_iadd (pc := 37) C (zD D_X6_canLay_0 22 rfl) ?_
      refine z_imul (pc := 38) C (zD D_X6_canLay_0 23 rfl) ?_
      refine z_icmp_lt (pc := 39) C (zD D_X6_canLay_0 24 rfl) (tgt := 64) (by decide) (fun _ => ?_) (fun _ => ?_)
      · refine z_sub [] (lv' := []) rfl ?_
        exact hK64
      · refine z_iload (pc := 42) C (zD D_X6_canLay_0 25 rfl) 1 rfl ?_
        refine z_iload_n (pc := 44) C (zD D_X6_canLay_0 26 rfl) rfl 4 rfl ?_
        refine z_csR (pc := 45) (As := [.int r2, .int p1]) C [] (c_X6_has _ _ _ _ n r2 p1 h) zn_X6_has (by decide) (by decide) hz0 q_597 q_598 q_5 q_599 rfl rfl rfl (zD D_X6_canLay_0 27 rfl) (fun r45 => ?_)
        refine z_letg (fun K60 => zJ B Z (zEnd B Z (fun r : Int32 => (some (Value.int r), h)) 0 0) (K60) 60 [] [] h (z00 Z)) ?_ (fun K60 hK60 => ?_)
        · refine z_iconst (pc := 60) (v := 1) C (zD D_X6_canLay_0 33 rfl) (by decide) ?_
          refine z_goto (pc := 61) C (zD D_X6_canLay_0 34 rfl) (tgt := 65) (by decide) ?_
          exact z_zret (pc := 65) C hr (by decide) rfl (zD D_X6_canLay_0 36 rfl)
        refine z_if_ne (pc := 48) C (zD D_X6_canLay_0 28 rfl) (tgt := 60) (by decide) (fun _ => ?_) (fun _ => ?_)
        · refine z_sub [] (lv' := []) rfl ?_
          exact hK60
        · refine z_iload (pc := 51) C (zD D_X6_canLay_0 29 rfl) 1 rfl ?_
          refine z_iload_n (pc := 53) C (zD D_X6_canLay_0 30 rfl) rfl 5 rfl ?_
          refine z_csR (pc := 54) (As := [.int r2, .int p2]) C [] (c_X6_has _ _ _ _ n r2 p2 h) zn_X6_has (by decide) (by decide) hz0 q_597 q_598 q_5 q_599 rfl rfl rfl (zD D_X6_canLay_0 31 rfl) (fun r54 => ?_)
          refine z_if_eq (pc := 57) C (zD D_X6_canLay_0 32 rfl) (tgt := 64) (by decide) (fun _ => ?_) (fun _ => ?_)
          · refine z_sub [] (lv' := []) rfl ?_
            exact hK64
          · refine z_sub [] (lv' := []) rfl ?_
            exact hK60
def f_X6_canMerge (n : Nat) (this : Nat) (p0 : Int32) (p1 : Int32) (h : zH) : Option (Int32) := zrc h this 6 <| (f_X6_isStock n this h).bind fun (r1 : Int32) => zlet (some (0 : Int32)) fun K70 => if r1 = 0 then (K70) else (zrc h this 6 <| (f_X6_isOpen n this p0 h).bind fun (r9 : Int32) => if r9 = 0 then (K70) else (zrc h this 6 <| (f_X6_isOpen n this p1 h).bind fun (r17 : Int32) => if r17 = 0 then (K70) else (zrc h this 6 <| (f_X6_of n this p0 (5 : Int32) h).bind fun (r26 : Int32) => (zgR h this 6 0).bind fun (v30 : Nat) => (zai h v30 (1 : Int32)).bind fun (v34 : Int32) => if r26 = v34 then (zrc h this 6 <| (f_X6_of n this p1 (5 : Int32) h).bind fun (r41 : Int32) => (zgR h this 6 0).bind fun (v45 : Nat) => (zai h v45 (1 : Int32)).bind fun (v49 : Int32) => if r41 = v49 then (zrc h this 6 <| (f_X6_rest n this p0 h).bind fun (r55 : Int32) => zrc h this 6 <| (f_X6_wanted n this p1 h).bind fun (r60 : Int32) => if r55 < r60 then (K70) else (some (1 : Int32))) else (K70)) else (K70))))
theorem zn_X6_canMerge : zNm yX6_canMerge 2 := ⟨by decide +kernel, by decide +kernel⟩
set_option maxRecDepth 100000 in
set_option maxHeartbeats 4000000 in
theorem c_X6_canMerge (l : Launch) (B : Nat) (D : va_G) (cA : Nat → ClassId) (n : Nat) (this : Nat) (p0 : Int32) (p1 : Int32) (h : zH) : ∀ u, f_X6_canMerge n this p0 p1 h = some u → zM l B D cA yX6_canMerge cX6_canMerge 3 (some .boolean) 3 0 0 none [.ref (B + this), .int p0, .int p1] h ((fun r : Int32 => (some (Value.int r), h)) u).1 ((fun r : Int32 => (some (Value.int r), h)) u).2 := by
  unfold f_X6_canMerge
  refine z_met (own := RX6) (fun r : Int32 => (some (Value.int r), h)) rfl (by decide) rfl (fun Z C hr _ _ => ?_)
  have hz0 : (z00 Z).1 ≤ 0 ∧ (z00 Z).2.1 ≤ 0 := ⟨Nat.le_refl 0, Nat.le_refl 0⟩
  refine z_aload_n (pc := 0) C (zD D_X6_canMerge_0 0 rfl) rfl 0 rfl ?_
  refine z_cvR (pc := 1) (As := []) C [] (c_X6_isStock _ _ _ _ n this h) zn_X6_isStock (by decide) (by decide) hz0 zc6 rfl q_252 q_253 q_254 q_5 q_255 rfl rfl rfl (zD D_X6_canMerge_0 1 rfl) (fun r1 => ?_)
  refine z_letg (fun K70 => zJ B Z (zEnd B Z (fun r : Int32 => (some (Value.int r), h)) 0 0) (K70) 70 [] [] h (z00 Z)) ?_ (fun K70 hK70 => ?_)
  · refine z_iconst (pc := 70) (v := 0) C (zD D_X6_canMerge_0 38 rfl) (by decide) ?_
    exact z_zret (pc := 71) C hr (by decide) rfl (zD D_X6_canMerge_0 39 rfl)
  refine z_if_eq (pc := 4) C (zD D_X6_canMerge_0 2 rfl) (tgt := 70) (by decide) (fun _ => ?_) (fun _ => ?_)
  · refine z_sub [] (lv' := []) rfl ?_
    exact hK70
  · refine z_aload_n (pc := 7) C (zD D_X6_canMerge_0 3 rfl) rfl 0 rfl ?_
    refine z_iload_n (pc := 8) C (zD D_X6_canMerge_0 4 rfl) rfl 1 rfl ?_
    refine z_cvR (pc := 9) (As := [.int p0]) C [] (c_X6_isOpen _ _ _ _ n this p0 h) zn_X6_isOpen (by decide) (by decide) hz0 zc6 rfl q_256 q_257 q_258 q_5 q_259 rfl rfl rfl (zD D_X6_canMerge_0 5 rfl) (fun r9 => ?_)
    refine z_if_eq (pc := 12) C (zD D_X6_canMerge_0 6 rfl) (tgt := 70) (by decide) (fun _ => ?_) (fun _ => ?_)
    · refine z_sub [] (lv' := []) rfl ?_
      exact hK70
    · refine z_aload_n (pc := 15) C (zD D_X6_canMerge_0 7 rfl) rfl 0 rfl ?_
      refine z_iload_n (pc := 16) C (zD D_X6_canMerge_0 8 rfl) rfl 2 rfl ?_
      refine z_cvR (pc := 17) (As := [.int p1]) C [] (c_X6_isOpen _ _ _ _ n this p1 h) zn_X6_isOpen (by decide) (by decide) hz0 zc6 rfl q_256 q_257 q_258 q_5 q_259 rfl rfl rfl (zD D_X6_canMerge_0 9 rfl) (fun r17 => ?_)
      refine z_if_eq (pc := 20) C (zD D_X6_canMerge_0 10 rfl) (tgt := 70) (by decide) (fun _ => ?_) (fun _ => ?_)
      · refine z_sub [] (lv' := []) rfl ?_
        exact hK70
      · refine z_aload_n (pc := 23) C (zD D_X6_canMerge_0 11 rfl) rfl 0 rfl ?_
        refine z_iload_n (pc := 24) C (zD D_X6_canMerge_0 12 rfl) rfl 1 rfl ?_
        refine z_iconst (pc := 25) (v := 5) C (zD D_X6_canMerge_0 13 rfl) (by decide) ?_
        refine z_cvR (pc := 26) (As := [.int p0, .int (5 : Int32)]) C [] (c_X6_of _ _ _ _ n this p0 (5 : Int32) h) zn_X6_of (by decide) (by decide) hz0 zc6 rfl q_260 q_261 q_262 q_5 q_263 rfl rfl rfl (zD D_X6_canMerge_0 14 rfl) (fun r26 => ?_)
        refine z_aload_n (pc := 29) C (zD D_X6_canMerge_0 15 rfl) rfl 0 rfl ?_
        refine z_getR (pc := 30) C zc6 0 (by decide) q_102 (zD D_X6_canMerge_0 16 rfl) (fun v30 => ?_)
        refine z_iconst (pc := 33) (v := 1) C (zD D_X6_canMerge_0 17 rfl) (by decide) ?_
        refine z_aiload (pc := 34) C (zD D_X6_canMerge_0 18 rfl) (fun v34 => ?_)
        refine z_icmp_ne (pc := 35) C (zD D_X6_canMerge_0 19 rfl) (tgt := 70) (by decide) (fun _ => ?_) (fun _ => ?_)
        · refine z_sub [] (lv' := []) rfl ?_
          exact hK70
        · refine z_aload_n (pc := 38) C (zD D_X6_canMerge_0 20 rfl) rfl 0 rfl ?_
          refine z_iload_n (pc := 39) C (zD D_X6_canMerge_0 21 rfl) rfl 2 rfl ?_
          refine z_iconst (pc := 40) (v := 5) C (zD D_X6_canMerge_0 22 rfl) (by decide) ?_
          refine z_cvR (pc := 41) (As := [.int p1, .int (5 : Int32)]) C [] (c_X6_of _ _ _ _ n this p1 (5 : Int32) h) zn_X6_of (by decide) (by decide) hz0 zc6 rfl q_260 q_261 q_262 q_5 q_263 rfl rfl rfl (zD D_X6_canMerge_0 23 rfl) (fun r41 => ?_)
          refine z_aload_n (pc := 44) C (zD D_X6_canMerge_0 24 rfl) rfl 0 rfl ?_
          refine z_getR (pc := 45) C zc6 0 (by decide) q_102 (zD D_X6_canMerge_0 25 rfl) (fun v45 => ?_)
          refine z_iconst (pc := 48) (v := 1) C (zD D_X6_canMerge_0 26 rfl) (by decide) ?_
          refine z_aiload (pc := 49) C (zD D_X6_canMerge_0 27 rfl) (fun v49 => ?_)
          refine z_icmp_ne (pc := 50) C (zD D_X6_canMerge_0 28 rfl) (tgt := 70) (by decide) (fun _ => ?_) (fun _ => ?_)
          · refine z_sub [] (lv' := []) rfl ?_
            exact hK70
          · refine z_aload_n (pc := 53) C (zD D_X6_canMerge_0 29 rfl) rfl 0 rfl ?_
            refine z_iload_n (pc := 54) C (zD D_X6_canMerge_0 30 rfl) rfl 1 rfl ?_
            refine z_cvR (pc := 55) (As := [.int p0]) C [] (c_X6_rest _ _ _ _ n this p0 h) zn_X6_rest (by decide) (by decide) hz0 zc6 rfl q_327 q_328 q_329 q_5 q_330 rfl rfl rfl (zD D_X6_canMerge_0 31 rfl) (fun r55 => ?_)
            refine z_aload_n (pc := 58) C (zD D_X6_canMerge_0 32 rfl) rfl 0 rfl ?_
            refine z_iload_n (pc := 59) C (zD D_X6_canMerge_0 33 rfl) rfl 2 rfl ?_
            refine z_cvR (pc := 60) (As := [.int p1]) C [.int r55] (c_X6_wanted _ _ _ _ n this p1 h) zn_X6_wanted (by decide) (by decide) hz0 zc6 rfl q_401 q_402 q_403 q_5 q_404 rfl rfl rfl (zD D_X6_canMerge_0 34 rfl) (fun r60 => ?_)
            refine z_icmp_lt (pc := 63) C (zD D_X6_canMerge_0 35 rfl) (tgt := 70) (by decide) (fun _ => ?_) (fun _ => ?_)
            · refine z_sub [] (lv' := []) rfl ?_
              exact hK70
            · refine z_iconst (pc := 66) (v := 1) C (zD D_X6_canMerge_0 36 rfl) (by decide) ?_
              refine z_goto (pc := 67) C (zD D_X6_canMerge_0 37 rfl) (tgt := 71) (by decide) ?_
              exact z_zret (pc := 71) C hr (by decide) rfl (zD D_X6_canMerge_0 39 rfl)
def f_X6_canSell (n : Nat) (this : Nat) (p0 : Int32) (p1 : Int32) (h : zH) : Option (Int32) := zrc h this 6 <| (f_X6_isStock n this h).bind fun (r1 : Int32) => zlet (some (0 : Int32)) fun K34 => if r1 = 0 then (K34) else (zrc h this 6 <| (f_X6_isOpen n this p0 h).bind fun (r9 : Int32) => if r9 = 0 then (K34) else ((zgR h this 6 0).bind fun (v17 : Nat) => (zai h v17 (1 : Int32)).bind fun (v21 : Int32) => zrc h this 6 <| (f_X6_shares n this v21 p0 h).bind fun (r23 : Int32) => if r23 < p1 then (K34) else (some (1 : Int32))))
theorem zn_X6_canSell : zNm yX6_canSell 2 := ⟨by decide +kernel, by decide +kernel⟩
set_option maxRecDepth 100000 in
set_option maxHeartbeats 4000000 in
theorem c_X6_canSell (l : Launch) (B : Nat) (D : va_G) (cA : Nat → ClassId) (n : Nat) (this : Nat) (p0 : Int32) (p1 : Int32) (h : zH) : ∀ u, f_X6_canSell n this p0 p1 h = some u → zM l B D cA yX6_canSell cX6_canSell 3 (some .boolean) 3 0 0 none [.ref (B + this), .int p0, .int p1] h ((fun r : Int32 => (some (Value.int r), h)) u).1 ((fun r : Int32 => (some (Value.int r), h)) u).2 := by
  unfold f_X6_canSell
  refine z_met (own := RX6) (fun r : Int32 => (some (Value.int r), h)) rfl (by decide) rfl (fun Z C hr _ _ => ?_)
  have hz0 : (z00 Z).1 ≤ 0 ∧ (z00 Z).2.1 ≤ 0 := ⟨Nat.le_refl 0, Nat.le_refl 0⟩
  refine z_aload_n (pc := 0) C (zD D_X6_canSell_0 0 rfl) rfl 0 rfl ?_
  refine z_cvR (pc := 1) (As := []) C [] (c_X6_isStock _ _ _ _ n this h) zn_X6_isStock (by decide) (by decide) hz0 zc6 rfl q_252 q_253 q_254 q_5 q_255 rfl rfl rfl (zD D_X6_canSell_0 1 rfl) (fun r1 => ?_)
  refine z_letg (fun K34 => zJ B Z (zEnd B Z (fun r : Int32 => (some (Value.int r), h)) 0 0) (K34) 34 [] [] h (z00 Z)) ?_ (fun K34 hK34 => ?_)
  · refine z_iconst (pc := 34) (v := 0) C (zD D_X6_canSell_0 18 rfl) (by decide) ?_
    exact z_zret (pc := 35) C hr (by decide) rfl (zD D_X6_canSell_0 19 rfl)
  refine z_if_eq (pc := 4) C (zD D_X6_canSell_0 2 rfl) (tgt := 34) (by decide) (fun _ => ?_) (fun _ => ?_)
  · refine z_sub [] (lv' := []) rfl ?_
    exact hK34
  · refine z_aload_n (pc := 7) C (zD D_X6_canSell_0 3 rfl) rfl 0 rfl ?_
    refine z_iload_n (pc := 8) C (zD D_X6_canSell_0 4 rfl) rfl 1 rfl ?_
    refine z_cvR (pc := 9) (As := [.int p0]) C [] (c_X6_isOpen _ _ _ _ n this p0 h) zn_X6_isOpen (by decide) (by decide) hz0 zc6 rfl q_256 q_257 q_258 q_5 q_259 rfl rfl rfl (zD D_X6_canSell_0 5 rfl) (fun r9 => ?_)
    refine z_if_eq (pc := 12) C (zD D_X6_canSell_0 6 rfl) (tgt := 34) (by decide) (fun _ => ?_) (fun _ => ?_)
    · refine z_sub [] (lv' := []) rfl ?_
      exact hK34
    · refine z_aload_n (pc := 15) C (zD D_X6_canSell_0 7 rfl) rfl 0 rfl ?_
      refine z_aload_n (pc := 16) C (zD D_X6_canSell_0 8 rfl) rfl 0 rfl ?_
      refine z_getR (pc := 17) C zc6 0 (by decide) q_102 (zD D_X6_canSell_0 9 rfl) (fun v17 => ?_)
      refine z_iconst (pc := 20) (v := 1) C (zD D_X6_canSell_0 10 rfl) (by decide) ?_
      refine z_aiload (pc := 21) C (zD D_X6_canSell_0 11 rfl) (fun v21 => ?_)
      refine z_iload_n (pc := 22) C (zD D_X6_canSell_0 12 rfl) rfl 1 rfl ?_
      refine z_cvR (pc := 23) (As := [.int v21, .int p0]) C [] (c_X6_shares _ _ _ _ n this v21 p0 h) zn_X6_shares (by decide) (by decide) hz0 zc6 rfl q_284 q_285 q_286 q_5 q_287 rfl rfl rfl (zD D_X6_canSell_0 13 rfl) (fun r23 => ?_)
      refine z_iload_n (pc := 26) C (zD D_X6_canSell_0 14 rfl) rfl 2 rfl ?_
      refine z_icmp_lt (pc := 27) C (zD D_X6_canSell_0 15 rfl) (tgt := 34) (by decide) (fun _ => ?_) (fun _ => ?_)
      · refine z_sub [] (lv' := []) rfl ?_
        exact hK34
      · refine z_iconst (pc := 30) (v := 1) C (zD D_X6_canSell_0 16 rfl) (by decide) ?_
        refine z_goto (pc := 31) C (zD D_X6_canSell_0 17 rfl) (tgt := 35) (by decide) ?_
        exact z_zret (pc := 35) C hr (by decide) rfl (zD D_X6_canSell_0 19 rfl)
def f_X6_cheapest (n : Nat) (this : Nat) (p0 : Int32) (h : zH) : Option (Int32) := zfix2 (fun rec4 (a2_4 : Int32) (a3_4 : Int32) => if (4 : Int32) ≤ a3_4 then (some a2_4) else (zrc h this 6 <| (f_X6_isOpen n this a3_4 h).bind fun (r11 : Int32) => zlet (fun (s0_31 : Int32) => zlet (fun (s0_61 : Int32) => zlet (a3_4 + 1) fun (x62 : Int32) => rec4 s0_61 x62) fun K61 => zlet (K61 a2_4) fun K60 => if s0_31 = 0 then (K60) else (zlet (K61 a3_4) fun K56 => if a2_4 = (-1 : Int32) then (K56) else (zrc h this 6 <| (f_X6_price n this a3_4 h).bind fun (r45 : Int32) => zrc h this 6 <| (f_X6_price n this a2_4 h).bind fun (r50 : Int32) => if r50 ≤ r45 then (K60) else (K56)))) fun K31 => zlet (K31 (0 : Int32)) fun K30 => if r11 = 0 then (K30) else (zrc h this 6 <| (f_X6_shares n this p0 a3_4 h).bind fun (r20 : Int32) => if r20 ≤ 0 then (K30) else (K31 (1 : Int32))))) n (-1 : Int32) (0 : Int32)
theorem zn_X6_cheapest : zNm yX6_cheapest 1 := ⟨by decide +kernel, by decide +kernel⟩
set_option maxRecDepth 100000 in
set_option maxHeartbeats 4000000 in
theorem c_X6_cheapest (l : Launch) (B : Nat) (D : va_G) (cA : Nat → ClassId) (n : Nat) (this : Nat) (p0 : Int32) (h : zH) : ∀ u, f_X6_cheapest n this p0 h = some u → zM l B D cA yX6_cheapest cX6_cheapest 5 (some .int) 3 0 0 none [.ref (B + this), .int p0] h ((fun r : Int32 => (some (Value.int r), h)) u).1 ((fun r : Int32 => (some (Value.int r), h)) u).2 := by
  unfold f_X6_cheapest
  refine z_met (own := RX6) (fun r : Int32 => (some (Value.int r), h)) rfl (by decide) rfl (fun Z C hr _ _ => ?_)
  have hz0 : (z00 Z).1 ≤ 0 ∧ (z00 Z).2.1 ≤ 0 := ⟨Nat.le_refl 0, Nat.le_refl 0⟩
  refine z_iconst (pc := 0) (v := -1) C (zD D_X6_cheapest_0 0 rfl) (by decide) ?_
  refine z_istore_n (pc := 1) (lv' := [(2, .int (-1 : Int32)), (0, .ref (B + this)), (1, .int p0)]) C (zD D_X6_cheapest_0 1 rfl) rfl (by decide) rfl ?_
  refine z_iconst (pc := 2) (v := 0) C (zD D_X6_cheapest_0 2 rfl) (by decide) ?_
  refine z_istore_n (pc := 3) (lv' := [(3, .int (0 : Int32)), (2, .int (-1 : Int32)), (0, .ref (B + this)), (1, .int p0)]) C (zD D_X6_cheapest_0 3 rfl) rfl (by decide) rfl ?_
  refine z_sub [2, 3, 1, 0] (lv' := [(0, .ref (B + this)), (1, .int p0), (2, .int (-1 : Int32)), (3, .int (0 : Int32))]) rfl ?_
  refine z_fix2 (fun g4 => ∀ (a2_4 : Int32) (a3_4 : Int32), zJ B Z (zEnd B Z (fun r : Int32 => (some (Value.int r), h)) 0 0) (g4 a2_4 a3_4) 4 [(0, .ref (B + this)), (1, .int p0), (2, .int a2_4), (3, .int a3_4)] [] h (z00 Z)) (fun _ _ => z_none) (fun rec4 hrec4 a2_4 a3_4 => ?_) n (-1 : Int32) (0 : Int32)
  refine z_iload_n (pc := 4) C (zD D_X6_cheapest_0 4 rfl) rfl 3 rfl ?_
  refine z_iconst (pc := 5) (v := 4) C (zD D_X6_cheapest_0 5 rfl) (by decide) ?_
  refine z_icmp_ge (pc := 6) C (zD D_X6_cheapest_0 6 rfl) (tgt := 68) (by decide) (fun _ => ?_) (fun _ => ?_)
  · refine z_iload_n (pc := 68) C (zD D_X6_cheapest_0 38 rfl) rfl 2 rfl ?_
    exact z_iret (pc := 69) C hr rfl (zD D_X6_cheapest_0 39 rfl)
  · refine z_aload_n (pc := 9) C (zD D_X6_cheapest_0 7 rfl) rfl 0 rfl ?_
    refine z_iload_n (pc := 10) C (zD D_X6_cheapest_0 8 rfl) rfl 3 rfl ?_
    refine z_cvR (pc := 11) (As := [.int a3_4]) C [] (c_X6_isOpen _ _ _ _ n this a3_4 h) zn_X6_isOpen (by decide) (by decide) hz0 zc6 rfl q_256 q_257 q_258 q_5 q_259 rfl rfl rfl (zD D_X6_cheapest_0 9 rfl) (fun r11 => ?_)
    refine z_letg (fun K31 => ∀ (s0_31 : Int32), zJ B Z (zEnd B Z (fun r : Int32 => (some (Value.int r), h)) 0 0) (K31 s0_31) 31 [(0, .ref (B + this)), (1, .int p0), (2, .int a2_4), (3, .int a3_4)] [.int s0_31] h (z00 Z)) (fun s0_31 => ?_) (fun K31 hK31 => ?_)
    · refine z_istore (pc := 31) (lv' := [(4, .int s0_31), (0, .ref (B + this)), (1, .int p0), (2, .int a2_4), (3, .int a3_4)]) C (zD D_X6_cheapest_0 19 rfl) (by decide) rfl ?_
      refine z_iload (pc := 33) C (zD D_X6_cheapest_0 20 rfl) 0 rfl ?_
      refine z_letg (fun K61 => ∀ (s0_61 : Int32), zJ B Z (zEnd B Z (fun r : Int32 => (some (Value.int r), h)) 0 0) (K61 s0_61) 61 [(0, .ref (B + this)), (1, .int p0), (3, .int a3_4)] [.int s0_61] h (z00 Z)) (fun s0_61 => ?_) (fun K61 hK61 => ?_)
      · refine z_istore_n (pc := 61) (lv' := [(2, .int s0_61), (0, .ref (B + this)), (1, .int p0), (3, .int a3_4)]) C (zD D_X6_cheapest_0 35 rfl) rfl (by decide) rfl ?_
        refine z_iincL (pc := 62) (lv' := fun x62 => [(3, .int x62), (2, .int s0_61), (0, .ref (B + this)), (1, .int p0)]) C (zD D_X6_cheapest_0 36 rfl) 3 rfl (v := a3_4 + 1) rfl (by decide) (fun _ => rfl) (fun x62 => ?_)
        refine z_goto (pc := 65) C (zD D_X6_cheapest_0 37 rfl) (tgt := 4) (by decide) ?_
        refine z_sub [2, 3, 1, 0] (lv' := [(0, .ref (B + this)), (1, .int p0), (2, .int s0_61), (3, .int x62)]) rfl ?_
        exact hrec4 s0_61 x62
      refine z_letg (fun K60 => zJ B Z (zEnd B Z (fun r : Int32 => (some (Value.int r), h)) 0 0) (K60) 60 [(0, .ref (B + this)), (1, .int p0), (2, .int a2_4), (3, .int a3_4)] [] h (z00 Z)) ?_ (fun K60 hK60 => ?_)
      · refine z_iload_n (pc := 60) C (zD D_X6_cheapest_0 34 rfl) rfl 2 rfl ?_
        refine z_sub [0, 1, 3] (lv' := [(0, .ref (B + this)), (1, .int p0), (3, .int a3_4)]) rfl ?_
        exact hK61 a2_4
      refine z_if_eq (pc := 35) C (zD D_X6_cheapest_0 21 rfl) (tgt := 60) (by decide) (fun _ => ?_) (fun _ => ?_)
      · refine z_sub [1, 2, 3, 4] (lv' := [(0, .ref (B + this)), (1, .int p0), (2, .int a2_4), (3, .int a3_4)]) rfl ?_
        exact hK60
      · refine z_iload_n (pc := 38) C (zD D_X6_cheapest_0 22 rfl) rfl 3 rfl ?_
        refine z_iconst (pc := 39) (v := -1) C (zD D_X6_cheapest_0 23 rfl) (by decide) ?_
        refine z_letg (fun K56 => zJ B Z (zEnd B Z (fun r : Int32 => (some (Value.int r), h)) 0 0) (K56) 56 [(0, .ref (B + this)), (1, .int p0), (3, .int a3_4)] [] h (z00 Z)) ?_ (fun K56 hK56 => ?_)
        · refine z_iload_n (pc := 56) C (zD D_X6_cheapest_0 32 rfl) rfl 2 rfl ?_
          refine z_goto (pc := 57) C (zD D_X6_cheapest_0 33 rfl) (tgt := 61) (by decide) ?_
          exact hK61 a3_4
        refine z_icmp_eq (pc := 40) C (zD D_X6_cheapest_0 24 rfl) (tgt := 56) (by decide) (fun _ => ?_) (fun _ => ?_)
        · refine z_sub [1, 2, 4] (lv' := [(0, .ref (B + this)), (1, .int p0), (3, .int a3_4)]) rfl ?_
          exact hK56
        · refine z_aload_n (pc := 43) C (zD D_X6_cheapest_0 25 rfl) rfl 1 rfl ?_
          refine z_iload_n (pc := 44) C (zD D_X6_cheapest_0 26 rfl) rfl 4 rfl ?_
          refine z_cvR (pc := 45) (As := [.int a3_4]) C [] (c_X6_price _ _ _ _ n this a3_4 h) zn_X6_price (by decide) (by decide) hz0 zc6 rfl q_268 q_269 q_270 q_5 q_271 rfl rfl rfl (zD D_X6_cheapest_0 27 rfl) (fun r45 => ?_)
          refine z_aload_n (pc := 48) C (zD D_X6_cheapest_0 28 rfl) rfl 1 rfl ?_
          refine z_iload_n (pc := 49) C (zD D_X6_cheapest_0 29 rfl) rfl 3 rfl ?_
          refine z_cvR (pc := 50) (As := [.int a2_4]) C [.int r45] (c_X6_price _ _ _ _ n this a2_4 h) zn_X6_price (by decide) (by decide) hz0 zc6 rfl q_268 q_269 q_270 q_5 q_271 rfl rfl rfl (zD D_X6_cheapest_0 30 rfl) (fun r50 => ?_)
          refine z_icmp_ge (pc := 53) C (zD D_X6_cheapest_0 31 rfl) (tgt := 60) (by decide) (fun _ => ?_) (fun _ => ?_)
          · refine z_sub [1, 2, 3, 4] (lv' := [(0, .ref (B + this)), (1, .int p0), (2, .int a2_4), (3, .int a3_4)]) rfl ?_
            exact hK60
          · refine z_sub [1, 2, 4] (lv' := [(0, .ref (B + this)), (1, .int p0), (3, .int a3_4)]) rfl ?_
            exact hK56
    refine z_letg (fun K30 => zJ B Z (zEnd B Z (fun r : Int32 => (some (Value.int r), h)) 0 0) (K30) 30 [(0, .ref (B + this)), (1, .int p0), (2, .int a2_4), (3, .int a3_4)] [] h (z00 Z)) ?_ (fun K30 hK30 => ?_)
    · refine z_iconst (pc := 30) (v := 0) C (zD D_X6_cheapest_0 18 rfl) (by decide) ?_
      exact hK31 (0 : Int32)
    refine z_if_eq (pc := 14) C (zD D_X6_cheapest_0 10 rfl) (tgt := 30) (by decide) (fun _ => ?_) (fun _ => ?_)
    · exact hK30
    · refine z_aload_n (pc := 17) C (zD D_X6_cheapest_0 11 rfl) rfl 0 rfl ?_
      refine z_iload_n (pc := 18) C (zD D_X6_cheapest_0 12 rfl) rfl 1 rfl ?_
      refine z_iload_n (pc := 19) C (zD D_X6_cheapest_0 13 rfl) rfl 3 rfl ?_
      refine z_cvR (pc := 20) (As := [.int p0, .int a3_4]) C [] (c_X6_shares _ _ _ _ n this p0 a3_4 h) zn_X6_shares (by decide) (by decide) hz0 zc6 rfl q_284 q_285 q_286 q_5 q_287 rfl rfl rfl (zD D_X6_cheapest_0 14 rfl) (fun r20 => ?_)
      refine z_if_le (pc := 23) C (zD D_X6_cheapest_0 15 rfl) (tgt := 30) (by decide) (fun _ => ?_) (fun _ => ?_)
      · exact hK30
      · refine z_iconst (pc := 26) (v := 1) C (zD D_X6_cheapest_0 16 rfl) (by decide) ?_
        refine z_goto (pc := 27) C (zD D_X6_cheapest_0 17 rfl) (tgt := 31) (by decide) ?_
        exact hK31 (1 : Int32)
