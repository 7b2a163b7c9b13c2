def f_X0_init (n : Nat) (this : Nat) (k0 : Nat) (h : zH) : Option zH := zlet (zset h (k0 + 0) (.inl (0, 4, .inl (fun _ => 0)))) fun (h6 : zH) => (zp h6 this 0 0 (.ref (k0 + 0))).bind fun (h8 : zH) => some h8
theorem zn_X0_init : zNm yX0_init 0 := ⟨by decide +kernel, by decide +kernel⟩
set_option maxRecDepth 100000 in
set_option maxHeartbeats 4000000 in
theorem c_X0_init (l : Launch) (B : Nat) (D : va_G) (cA : Nat → ClassId) (n : Nat) (this : Nat) (k0 : Nat) (h : zH) : ∀ u, f_X0_init n this k0 h = some u → zM l B D cA yX0_init cX0_init 1 none 1 1 4 (some k0) [.ref (B + this)] h none u := by
  unfold f_X0_init
  refine z_met (own := RX0) (fun h1 : zH => ((none : Option Value), h1)) rfl (by decide) rfl (fun Z C hr hnm hsz => ?_)
  have hsz0 := hsz k0 rfl
  refine z_aload_n (pc := 0) C (zD D_X0_init_0 0 rfl) rfl 0 rfl ?_
  refine z_objInit (pc := 1) (rest := []) C q_55 q_9 q_10 (by decide) rfl (zD D_X0_init_0 1 rfl) ?_
  refine z_aload_n (pc := 4) C (zD D_X0_init_0 2 rfl) rfl 0 rfl ?_
  refine z_iconst (pc := 5) (v := 4) C (zD D_X0_init_0 3 rfl) (by decide) ?_
  refine z_newI (pc := 6) C hsz0 4 q_27 (by decide) (by decide) rfl rfl rfl (zD D_X0_init_0 4 rfl) (fun h6 => ?_)
  refine z_putFR (pc := 8) C (hnm.trans rfl) zc0 0 (by decide) q_56 rfl rfl (fun _ => ⟨rfl, rfl⟩) (zD D_X0_init_0 5 rfl) (fun h8 => ?_)
  exact z_vret (pc := 11) C hr rfl (zD D_X0_init_0 6 rfl)
def f_X2_init (n : Nat) (this : Nat) (k0 : Nat) (h : zH) : Option zH := zlet (zset h (k0 + 0) (.inl (0, 8, .inl (fun _ => 0)))) fun (h7 : zH) => (zp h7 this 2 0 (.ref (k0 + 0))).bind fun (h9 : zH) => zlet (zmna h9 (k0 + 1) 8 8) fun (h17 : zH) => (zp h17 this 2 1 (.ref (k0 + 1))).bind fun (h21 : zH) => (zgR h21 this 2 0).bind fun (v33 : Nat) => (zsi h21 v33 (0 : Int32) ((10 : Int32) + ((10 : Int32) * (zrem (0 : Int32) (4 : Int32))))).bind fun (h46_1 : zH) => (zgR h46_1 this 2 0).bind fun (v33_1 : Nat) => (zsi h46_1 v33_1 (1 : Int32) ((10 : Int32) + ((10 : Int32) * (zrem (1 : Int32) (4 : Int32))))).bind fun (h46_3 : zH) => (zgR h46_3 this 2 0).bind fun (v33_2 : Nat) => (zsi h46_3 v33_2 (2 : Int32) ((10 : Int32) + ((10 : Int32) * (zrem (2 : Int32) (4 : Int32))))).bind fun (h46_5 : zH) => (zgR h46_5 this 2 0).bind fun (v33_3 : Nat) => (zsi h46_5 v33_3 (3 : Int32) ((10 : Int32) + ((10 : Int32) * (zrem (3 : Int32) (4 : Int32))))).bind fun (h46_7 : zH) => (zgR h46_7 this 2 0).bind fun (v33_4 : Nat) => (zsi h46_7 v33_4 (4 : Int32) ((10 : Int32) + ((10 : Int32) * (zrem (4 : Int32) (4 : Int32))))).bind fun (h46_9 : zH) => (zgR h46_9 this 2 0).bind fun (v33_5 : Nat) => (zsi h46_9 v33_5 (5 : Int32) ((10 : Int32) + ((10 : Int32) * (zrem (5 : Int32) (4 : Int32))))).bind fun (h46_11 : zH) => (zgR h46_11 this 2 0).bind fun (v33_6 : Nat) => (zsi h46_11 v33_6 (6 : Int32) ((10 : Int32) + ((10 : Int32) * (zrem (6 : Int32) (4 : Int32))))).bind fun (h46_13 : zH) => (zgR h46_13 this 2 0).bind fun (v33_7 : Nat) => (zsi h46_13 v33_7 (7 : Int32) ((10 : Int32) + ((10 : Int32) * (zrem (7 : Int32) (4 : Int32))))).bind fun (h46_15 : zH) => some h46_15
theorem zn_X2_init : zNm yX2_init 0 := ⟨by decide +kernel, by decide +kernel⟩
set_option maxRecDepth 100000 in
set_option maxHeartbeats 4000000 in
theorem c_X2_init (l : Launch) (B : Nat) (D : va_G) (cA : Nat → ClassId) (n : Nat) (this : Nat) (k0 : Nat) (h : zH) : ∀ u, f_X2_init n this k0 h = some u → zM l B D cA yX2_init cX2_init 2 none 1 10 80 (some k0) [.ref (B + this)] h none u := by
  unfold f_X2_init
  refine z_met (own := RX2) (fun h1 : zH => ((none : Option Value), h1)) rfl (by decide) rfl (fun Z C hr hnm hsz => ?_)
  have hsz0 := hsz k0 rfl
  refine z_aload_n (pc := 0) C (zD D_X2_init_0 0 rfl) rfl 0 rfl ?_
  refine z_objInit (pc := 1) (rest := []) C q_49 q_9 q_10 (by decide) rfl (zD D_X2_init_0 1 rfl) ?_
  refine z_aload_n (pc := 4) C (zD D_X2_init_0 2 rfl) rfl 0 rfl ?_
  refine z_bipush (pc := 5) (v := 8) C (zD D_X2_init_0 3 rfl) (by decide) ?_
  refine z_newI (pc := 7) C hsz0 8 q_27 (by decide) (by decide) rfl rfl rfl (zD D_X2_init_0 4 rfl) (fun h7 => ?_)
  refine z_putFR (pc := 9) C (hnm.trans rfl) zc2 0 (by decide) q_50 rfl rfl (fun _ => ⟨rfl, rfl⟩) (zD D_X2_init_0 5 rfl) (fun h9 => ?_)
  refine z_aload_n (pc := 12) C (zD D_X2_init_0 6 rfl) rfl 0 rfl ?_
  refine z_bipush (pc := 13) (v := 8) C (zD D_X2_init_0 7 rfl) (by decide) ?_
  refine z_bipush (pc := 15) (v := 8) C (zD D_X2_init_0 8 rfl) (by decide) ?_
  refine z_mna (pc := 17) C hsz0 8 8 C.2.2.2.2.2.2.2.2.1.2.2.2.2.2 q_51 q_27 (by decide) (by decide) (by decide) (by decide) rfl rfl rfl rfl rfl (zD D_X2_init_0 9 rfl) (fun h17 => ?_)
  refine z_putFR (pc := 21) C (hnm.trans rfl) zc2 1 (by decide) q_52 rfl rfl (fun _ => ⟨rfl, rfl⟩) (zD D_X2_init_0 10 rfl) (fun h21 => ?_)
  refine z_iconst (pc := 24) (v := 0) C (zD D_X2_init_0 11 rfl) (by decide) ?_
  refine z_istore_n (pc := 25) (lv' := [(1, .int (0 : Int32)), (0, .ref (B + this))]) C (zD D_X2_init_0 12 rfl) rfl (by decide) rfl ?_
  refine z_iload_n (pc := 26) C (zD D_X2_init_0 13 rfl) rfl 0 rfl ?_
  refine z_bipush (pc := 27) (v := 8) C (zD D_X2_init_0 14 rfl) (by decide) ?_
  refine z_icmp_ge_f (pc := 29) C (zD D_X2_init_0 15 rfl) (tgt := 53) (by decide) (by decide) ?_
  refine z_aload_n (pc := 32) C (zD D_X2_init_0 16 rfl) rfl 1 rfl ?_
  refine z_getR (pc := 33) C zc2 0 (by decide) q_50 (zD D_X2_init_0 17 rfl) (fun v33 => ?_)
  refine z_iload_n (pc := 36) C (zD D_X2_init_0 18 rfl) rfl 0 rfl ?_
  refine z_bipush (pc := 37) (v := 10) C (zD D_X2_init_0 19 rfl) (by decide) ?_
  refine z_bipush (pc := 39) (v := 10) C (zD D_X2_init_0 20 rfl) (by decide) ?_
  refine z_iload_n (pc := 41) C (zD D_X2_init_0 21 rfl) rfl 0 rfl ?_
  refine z_iconst (pc := 42) (v := 4) C (zD D_X2_init_0 22 rfl) (by decide) ?_
  refine z_iremc (pc := 43) C (zD D_X2_init_0 23 rfl) (by decide) ?_
  refine z_imul (pc := 44) C (zD D_X2_init_0 24 rfl) ?_
  refine z_iadd (pc := 45) C (zD D_X2_init_0 25 rfl) ?_
  refine z_aistore (pc := 46) C (zD D_X2_init_0 26 rfl) (fun h46_1 => ?_)
  refine z_iinc (pc := 47) (lv' := [(1, .int (1 : Int32)), (0, .ref (B + this))]) C (zD D_X2_init_0 27 rfl) 0 rfl (v := 1) (by decide) (by decide) rfl ?_
  refine z_goto (pc := 50) C (zD D_X2_init_0 28 rfl) (tgt := 26) (by decide) ?_
  refine z_iload_n (pc := 26) C (zD D_X2_init_0 13 rfl) rfl 0 rfl ?_
  refine z_bipush (pc := 27) (v := 8) C (zD D_X2_init_0 14 rfl) (by decide) ?_
  refine z_icmp_ge_f (pc := 29) C (zD D_X2_init_0 15 rfl) (tgt := 53) (by decide) (by decide) ?_
  refine z_aload_n (pc := 32) C (zD D_X2_init_0 16 rfl) rfl 1 rfl ?_
  refine z_getR (pc := 33) C zc2 0 (by decide) q_50 (zD D_X2_init_0 17 rfl) (fun v33_1 => ?_)
  refine z_iload_n (pc := 36) C (zD D_X2_init_0 18 rfl) rfl 0 rfl ?_
  refine z_bipush (pc := 37) (v := 10) C (zD D_X2_init_0 19 rfl) (by decide) ?_
  refine z_bipush (pc := 39) (v := 10) C (zD D_X2_init_0 20 rfl) (by decide) ?_
  refine z_iload_n (pc := 41) C (zD D_X2_init_0 21 rfl) rfl 0 rfl ?_
  refine z_iconst (pc := 42) (v := 4) C (zD D_X2_init_0 22 rfl) (by decide) ?_
  refine z_iremc (pc := 43) C (zD D_X2_init_0 23 rfl) (by decide) ?_
  refine z_imul (pc := 44) C (zD D_X2_init_0 24 rfl) ?_
  refine z_iadd (pc := 45) C (zD D_X2_init_0 25 rfl) ?_
  refine z_aistore (pc := 46) C (zD D_X2_init_0 26 rfl) (fun h46_3 => ?_)
  refine z_iinc (pc := 47) (lv' := [(1, .int (2 : Int32)), (0, .ref (B + this))]) C (zD D_X2_init_0 27 rfl) 0 rfl (v := 2) (by decide) (by decide) rfl ?_
  refine z_goto (pc := 50) C (zD D_X2_init_0 28 rfl) (tgt := 26) (by decide) ?_
  refine z_iload_n (pc := 26) C (zD D_X2_init_0 13 rfl) rfl 0 rfl ?_
  refine z_bipush (pc := 27) (v := 8) C (zD D_X2_init_0 14 rfl) (by decide) ?_
  refine z_icmp_ge_f (pc := 29) C (zD D_X2_init_0 15 rfl) (tgt := 53) (by decide) (by decide) ?_
  refine z_aload_n (pc := 32) C (zD D_X2_init_0 16 rfl) rfl 1 rfl ?_
  refine z_getR (pc := 33) C zc2 0 (by decide) q_50 (zD D_X2_init_0 17 rfl) (fun v33_2 => ?_)
  refine z_iload_n (pc := 36) C (zD D_X2_init_0 18 rfl) rfl 0 rfl ?_
  refine z_bipush (pc := 37) (v := 10) C (zD D_X2_init_0 19 rfl) (by decide) ?_
  refine z_bipush (pc := 39) (v := 10) C (zD D_X2_init_0 20 rfl) (by decide) ?_
  refine z_iload_n (pc := 41) C (zD D_X2_init_0 21 rfl) rfl 0 rfl ?_
  refine z_iconst (pc := 42) (v := 4) C (zD D_X2_init_0 22 rfl) (by decide) ?_
  refine z_iremc (pc := 43) C (zD D_X2_init_0 23 rfl) (by decide) ?_
  refine z_imul (pc := 44) C (zD D_X2_init_0 24 rfl) ?_
  refine z_iadd (pc := 45) C (zD D_X2_init_0 25 rfl) ?_
  refine z_aistore (pc := 46) C (zD D_X2_init_0 26 rfl) (fun h46_5 => ?_)
  refine z_iinc (pc := 47) (lv' := [(1, .int (3 : Int32)), (0, .ref (B + this))]) C (zD D_X2_init_0 27 rfl) 0 rfl (v := 3) (by decide) (by decide) rfl ?_
  refine z_goto (pc := 50) C (zD D_X2_init_0 28 rfl) (tgt := 26) (by decide) ?_
  refine z_iload_n (pc := 26) C (zD D_X2_init_0 13 rfl) rfl 0 rfl ?_
  refine z_bipush (pc := 27) (v := 8) C (zD D_X2_init_0 14 rfl) (by decide) ?_
  refine z_icmp_ge_f (pc := 29) C (zD D_X2_init_0 15 rfl) (tgt := 53) (by decide) (by decide) ?_
  refine z_aload_n (pc := 32) C (zD D_X2_init_0 16 rfl) rfl 1 rfl ?_
  refine z_getR (pc := 33) C zc2 0 (by decide) q_50 (zD D_X2_init_0 17 rfl) (fun v33_3 => ?_)
  refine z_iload_n (pc := 36) C (zD D_X2_init_0 18 rfl) rfl 0 rfl ?_
  refine z_bipush (pc := 37) (v := 10) C (zD D_X2_init_0 19 rfl) (by decide) ?_
  refine z_bipush (pc := 39) (v := 10) C (zD D_X2_init_0 20 rfl) (by decide) ?_
  refine z_iload_n (pc := 41) C (zD D_X2_init_0 21 rfl) rfl 0 rfl ?_
  refine z_iconst (pc := 42) (v := 4) C (zD D_X2_init_0 22 rfl) (by decide) ?_
  refine z_iremc (pc := 43) C (zD D_X2_init_0 23 rfl) (by decide) ?_
  refine z_imul (pc := 44) C (zD D_X2_init_0 24 rfl) ?_
  refine z_iadd (pc := 45) C (zD D_X2_init_0 25 rfl) ?_
  refine z_aistore (pc := 46) C (zD D_X2_init_0 26 rfl) (fun h46_7 => ?_)
  refine z_iinc (pc := 47) (lv' := [(1, .int (4 : Int32)), (0, .ref (B + this))]) C (zD D_X2_init_0 27 rfl) 0 rfl (v := 4) (by decide) (by decide) rfl ?_
  refine z_goto (pc := 50) C (zD D_X2_init_0 28 rfl) (tgt := 26) (by decide) ?_
  refine z_iload_n (pc := 26) C (zD D_X2_init_0 13 rfl) rfl 0 rfl ?_
  refine z_bipush (pc := 27) (v := 8) C (zD D_X2_init_0 14 rfl) (by decide) ?_
  refine z_icmp_ge_f (pc := 29) C (zD D_X2_init_0 15 rfl) (tgt := 53) (by decide) (by decide) ?_
  refine z_aload_n (pc := 32) C (zD D_X2_init_0 16 rfl) rfl 1 rfl ?_
  refine z_getR (pc := 33) C zc2 0 (by decide) q_50 (zD D_X2_init_0 17 rfl) (fun v33_4 => ?_)
  refine z_iload_n (pc := 36) C (zD D_X2_init_0 18 rfl) rfl 0 rfl ?_
  refine z_bipush (pc := 37) (v := 10) C (zD D_X2_init_0 19 rfl) (by decide) ?_
  refine z_bipush (pc := 39) (v := 10) C (zD D_X2_init_0 20 rfl) (by decide) ?_
  refine z_iload_n (pc := 41) C (zD D_X2_init_0 21 rfl) rfl 0 rfl ?_
  refine z_iconst (pc := 42) (v := 4) C (zD D_X2_init_0 22 rfl) (by decide) ?_
  refine z_iremc (pc := 43) C (zD D_X2_init_0 23 rfl) (by decide) ?_
  refine z_imul (pc := 44) C (zD D_X2_init_0 24 rfl) ?_
  refine z_iadd (pc := 45) C (zD D_X2_init_0 25 rfl) ?_
  refine z_aistore (pc := 46) C (zD D_X2_init_0 26 rfl) (fun h46_9 => ?_)
  refine z_iinc (pc := 47) (lv' := [(1, .int (5 : Int32)), (0, .ref (B + this))]) C (zD D_X2_init_0 27 rfl) 0 rfl (v := 5) (by decide) (by decide) rfl ?_
  refine z_goto (pc := 50) C (zD D_X2_init_0 28 rfl) (tgt := 26) (by decide) ?_
  refine z_iload_n (pc := 26) C (zD D_X2_init_0 13 rfl) rfl 0 rfl ?_
  refine z_bipush (pc := 27) (v := 8) C (zD D_X2_init_0 14 rfl) (by decide) ?_
  refine z_icmp_ge_f (pc := 29) C (zD D_X2_init_0 15 rfl) (tgt := 53) (by decide) (by decide) ?_
  refine z_aload_n (pc := 32) C (zD D_X2_init_0 16 rfl) rfl 1 rfl ?_
  refine z_getR (pc := 33) C zc2 0 (by decide) q_50 (zD D_X2_init_0 17 rfl) (fun v33_5 => ?_)
  refine z_iload_n (pc := 36) C (zD D_X2_init_0 18 rfl) rfl 0 rfl ?_
  refine z_bipush (pc := 37) (v := 10) C (zD D_X2_init_0 19 rfl) (by decide) ?_
  refine z_bipush (pc := 39) (v := 10) C (zD D_X2_init_0 20 rfl) (by decide) ?_
  refine z_iload_n (pc := 41) C (zD D_X2_init_0 21 rfl) rfl 0 rfl ?_
  refine z_iconst (pc := 42) (v := 4) C (zD D_X2_init_0 22 rfl) (by decide) ?_
  refine z_iremc (pc := 43) C (zD D_X2_init_0 23 rfl) (by decide) ?_
  refine z_imul (pc := 44) C (zD D_X2_init_0 24 rfl) ?_
  refine z_iadd (pc := 45) C (zD D_X2_init_0 25 rfl) ?_
  refine z_aistore (pc := 46) C (zD D_X2_init_0 26 rfl) (fun h46_11 => ?_)
  refine z_iinc (pc := 47) (lv' := [(1, .int (6 : Int32)), (0, .ref (B + this))]) C (zD D_X2_init_0 27 rfl) 0 rfl (v := 6) (by decide) (by decide) rfl ?_
  refine z_goto (pc := 50) C (zD D_X2_init_0 28 rfl) (tgt := 26) (by decide) ?_
  refine z_iload_n (pc := 26) C (zD D_X2_init_0 13 rfl) rfl 0 rfl ?_
  refine z_bipush (pc := 27) (v := 8) C (zD D_X2_init_0 14 rfl) (by decide) ?_
  refine z_icmp_ge_f (pc := 29) C (zD D_X2_init_0 15 rfl) (tgt := 53) (by decide) (by decide) ?_
  refine z_aload_n (pc := 32) C (zD D_X2_init_0 16 rfl) rfl 1 rfl ?_
  refine z_getR (pc := 33) C zc2 0 (by decide) q_50 (zD D_X2_init_0 17 rfl) (fun v33_6 => ?_)
  refine z_iload_n (pc := 36) C (zD D_X2_init_0 18 rfl) rfl 0 rfl ?_
  refine z_bipush (pc := 37) (v := 10) C (zD D_X2_init_0 19 rfl) (by decide) ?_
  refine z_bipush (pc := 39) (v := 10) C (zD D_X2_init_0 20 rfl) (by decide) ?_
  refine z_iload_n (pc := 41) C (zD D_X2_init_0 21 rfl) rfl 0 rfl ?_
  refine z_iconst (pc := 42) (v := 4) C (zD D_X2_init_0 22 rfl) (by decide) ?_
  refine z_iremc (pc := 43) C (zD D_X2_init_0 23 rfl) (by decide) ?_
  refine z_imul (pc := 44) C (zD D_X2_init_0 24 rfl) ?_
  refine z_iadd (pc := 45) C (zD D_X2_init_0 25 rfl) ?_
  refine z_aistore (pc := 46) C (zD D_X2_init_0 26 rfl) (fun h46_13 => ?_)
  refine z_iinc (pc := 47) (lv' := [(1, .int (7 : Int32)), (0, .ref (B + this))]) C (zD D_X2_init_0 27 rfl) 0 rfl (v := 7) (by decide) (by decide) rfl ?_
  refine z_goto (pc := 50) C (zD D_X2_init_0 28 rfl) (tgt := 26) (by decide) ?_
  refine z_iload_n (pc := 26) C (zD D_X2_init_0 13 rfl) rfl 0 rfl ?_
  refine z_bipush (pc := 27) (v := 8) C (zD D_X2_init_0 14 rfl) (by decide) ?_
  refine z_icmp_ge_f (pc := 29) C (zD D_X2_init_0 15 rfl) (tgt := 53) (by decide) (by decide) ?_
  refine z_aload_n (pc := 32) C (zD D_X2_init_0 16 rfl) rfl 1 rfl ?_
  refine z_getR (pc := 33) C zc2 0 (by decide) q_50 (zD D_X2_init_0 17 rfl) (fun v33_7 => ?_)
  refine z_iload_n (pc := 36) C (zD D_X2_init_0 18 rfl) rfl 0 rfl ?_
  refine z_bipush (pc := 37) (v := 10) C (zD D_X2_init_0 19 rfl) (by decide) ?_
  refine z_bipush (pc := 39) (v := 10) C (zD D_X2_init_0 20 rfl) (by decide) ?_
  refine z_iload_n (pc := 41) C (zD D_X2_init_0 21 rfl) rfl 0 rfl ?_
  refine z_iconst (pc := 42) (v := 4) C (zD D_X2_init_0 22 rfl) (by decide) ?_
  refine z_iremc (pc := 43) C (zD D_X2_init_0 23 rfl) (by decide) ?_
  refine z_imul (pc := 44) C (zD D_X2_init_0 24 rfl) ?_
  refine z_iadd (pc := 45) C (zD D_X2_init_0 25 rfl) ?_
  refine z_aistore (pc := 46) C (zD D_X2_init_0 26 rfl) (fun h46_15 => ?_)
  refine z_iinc (pc := 47) (lv' := [(1, .int (8 : Int32)), (0, .ref (B + this))]) C (zD D_X2_init_0 27 rfl) 0 rfl (v := 8) (by decide) (by decide) rfl ?_
  refine z_goto (pc := 50) C (zD D_X2_init_0 28 rfl) (tgt := 26) (by decide) ?_
  refine z_iload_n (pc := 26) C (zD D_X2_init_0 13 rfl) rfl 0 rfl ?_
  refine z_bipush (pc := 27) (v := 8) C (zD D_X2_init_0 14 rfl) (by decide) ?_
  refine z_icmp_ge_t (pc := 29) C (zD D_X2_init_0 15 rfl) (tgt := 53) (by decide) (by decide) ?_
  exact z_vret (pc := 53) C hr rfl (zD D_X2_init_0 29 rfl)
def f_X3_init (n : Nat) (this : Nat) (k0 : Nat) (h : zH) : Option zH := zlet (zset h (k0 + 0) (.inl (0, 8, .inl (fun _ => 0)))) fun (h7 : zH) => (zp h7 this 3 0 (.ref (k0 + 0))).bind fun (h9 : zH) => zlet (zset h9 (k0 + 1) (.inl (0, 5, .inl (fun _ => 0)))) fun (h14 : zH) => (zp h14 this 3 1 (.ref (k0 + 1))).bind fun (h16 : zH) => zlet (zset h16 (k0 + 2) (.inl (0, 5, .inl (fun _ => 0)))) fun (h21 : zH) => (zp h21 this 3 2 (.ref (k0 + 2))).bind fun (h23 : zH) => some h23
theorem zn_X3_init : zNm yX3_init 0 := ⟨by decide +kernel, by decide +kernel⟩
set_option maxRecDepth 100000 in
set_option maxHeartbeats 4000000 in
theorem c_X3_init (l : Launch) (B : Nat) (D : va_G) (cA : Nat → ClassId) (n : Nat) (this : Nat) (k0 : Nat) (h : zH) : ∀ u, f_X3_init n this k0 h = some u → zM l B D cA yX3_init cX3_init 1 none 1 3 18 (some k0) [.ref (B + this)] h none u := by
  unfold f_X3_init
  refine z_met (own := RX3) (fun h1 : zH => ((none : Option Value), h1)) rfl (by decide) rfl (fun Z C hr hnm hsz => ?_)
  have hsz0 := hsz k0 rfl
  refine z_aload_n (pc := 0) C (zD D_X3_init_0 0 rfl) rfl 0 rfl ?_
  refine z_objInit (pc := 1) (rest := []) C q_26 q_9 q_10 (by decide) rfl (zD D_X3_init_0 1 rfl) ?_
  refine z_aload_n (pc := 4) C (zD D_X3_init_0 2 rfl) rfl 0 rfl ?_
  refine z_bipush (pc := 5) (v := 8) C (zD D_X3_init_0 3 rfl) (by decide) ?_
  refine z_newI (pc := 7) C hsz0 8 q_27 (by decide) (by decide) rfl rfl rfl (zD D_X3_init_0 4 rfl) (fun h7 => ?_)
  refine z_putFR (pc := 9) C (hnm.trans rfl) zc3 0 (by decide) q_28 rfl rfl (fun _ => ⟨rfl, rfl⟩) (zD D_X3_init_0 5 rfl) (fun h9 => ?_)
  refine z_aload_n (pc := 12) C (zD D_X3_init_0 6 rfl) rfl 0 rfl ?_
  refine z_iconst (pc := 13) (v := 5) C (zD D_X3_init_0 7 rfl) (by decide) ?_
  refine z_newI (pc := 14) C hsz0 5 q_27 (by decide) (by decide) rfl rfl rfl (zD D_X3_init_0 8 rfl) (fun h14 => ?_)
  refine z_putFR (pc := 16) C (hnm.trans rfl) zc3 1 (by decide) q_29 rfl rfl (fun _ => ⟨rfl, rfl⟩) (zD D_X3_init_0 9 rfl) (fun h16 => ?_)
  refine z_aload_n (pc := 19) C (zD D_X3_init_0 10 rfl) rfl 0 rfl ?_
  refine z_iconst (pc := 20) (v := 5) C (zD D_X3_init_0 11 rfl) (by decide) ?_
  refine z_newI (pc := 21) C hsz0 5 q_27 (by decide) (by decide) rfl rfl rfl (zD D_X3_init_0 12 rfl) (fun h21 => ?_)
  refine z_putFR (pc := 23) C (hnm.trans rfl) zc3 2 (by decide) q_30 rfl rfl (fun _ => ⟨rfl, rfl⟩) (zD D_X3_init_0 13 rfl) (fun h23 => ?_)
  exact z_vret (pc := 26) C hr rfl (zD D_X3_init_0 14 rfl)
def f_X4_init (n : Nat) (this : Nat) (k0 : Nat) (h : zH) : Option zH := zlet (zset h (k0 + 0) (.inl (0, 90, .inl (fun _ => 0)))) fun (h7 : zH) => (zp h7 this 4 0 (.ref (k0 + 0))).bind fun (h9 : zH) => some h9
theorem zn_X4_init : zNm yX4_init 0 := ⟨by decide +kernel, by decide +kernel⟩
set_option maxRecDepth 100000 in
set_option maxHeartbeats 4000000 in
theorem c_X4_init (l : Launch) (B : Nat) (D : va_G) (cA : Nat → ClassId) (n : Nat) (this : Nat) (k0 : Nat) (h : zH) : ∀ u, f_X4_init n this k0 h = some u → zM l B D cA yX4_init cX4_init 1 none 1 1 90 (some k0) [.ref (B + this)] h none u := by
  unfold f_X4_init
  refine z_met (own := RX4) (fun h1 : zH => ((none : Option Value), h1)) rfl (by decide) rfl (fun Z C hr hnm hsz => ?_)
  have hsz0 := hsz k0 rfl
  refine z_aload_n (pc := 0) C (zD D_X4_init_0 0 rfl) rfl 0 rfl ?_
  refine z_objInit (pc := 1) (rest := []) C q_94 q_9 q_10 (by decide) rfl (zD D_X4_init_0 1 rfl) ?_
  refine z_aload_n (pc := 4) C (zD D_X4_init_0 2 rfl) rfl 0 rfl ?_
  refine z_bipush (pc := 5) (v := 90) C (zD D_X4_init_0 3 rfl) (by decide) ?_
  refine z_newI (pc := 7) C hsz0 90 q_27 (by decide) (by decide) rfl rfl rfl (zD D_X4_init_0 4 rfl) (fun h7 => ?_)
  refine z_putFR (pc := 9) C (hnm.trans rfl) zc4 0 (by decide) q_95 rfl rfl (fun _ => ⟨rfl, rfl⟩) (zD D_X4_init_0 5 rfl) (fun h9 => ?_)
  exact z_vret (pc := 12) C hr rfl (zD D_X4_init_0 6 rfl)
def f_X1_init (n : Nat) (this : Nat) (p0 : Nat) (k0 : Nat) (h : zH) : Option zH := zlet (zset h (k0 + 0) (.inr (2, [.null, .null]))) fun (h5 : zH) => (f_X2_init n (k0 + 0) (k0 + 1) h5).bind fun (h9 : zH) => (zp h9 this 1 1 (.ref (k0 + 0))).bind fun (h12 : zH) => zlet (zset h12 (k0 + 11) (.inl (3, 4, .inr (.inr (.inr (.inr (fun _ => none))))))) fun (h17 : zH) => (zp h17 this 1 2 (.ref (k0 + 11))).bind fun (h20 : zH) => zlet (zset h20 (k0 + 12) (.inl (0, 4, .inl (fun _ => 0)))) fun (h25 : zH) => (zp h25 this 1 3 (.ref (k0 + 12))).bind fun (h27 : zH) => zlet (zset h27 (k0 + 13) (.inl (0, 4, .inl (fun _ => 0)))) fun (h32 : zH) => (zp h32 this 1 4 (.ref (k0 + 13))).bind fun (h34 : zH) => (zp h34 this 1 0 (.ref p0)).bind fun (h39 : zH) => (zgR h39 this 1 2).bind fun (v50 : Nat) => zlet (zset h39 (k0 + 14) (.inr (0, [.null, .int 0, .int 0, .int 0, .int 0, .int 0, .int 0, .int 0]))) fun (h54 : zH) => (f_X0_init n (k0 + 14) (k0 + 15) h54).bind fun (h58 : zH) => (zsr h58 v50 3 0 (0 : Int32) (k0 + 14)).bind fun (h61_1 : zH) => (zgR h61_1 this 1 2).bind fun (v50_1 : Nat) => zlet (zset h61_1 (k0 + 16) (.inr (0, [.null, .int 0, .int 0, .int 0, .int 0, .int 0, .int 0, .int 0]))) fun (h54_1 : zH) => (f_X0_init n (k0 + 16) (k0 + 17) h54_1).bind fun (h58_1 : zH) => (zsr h58_1 v50_1 3 0 (1 : Int32) (k0 + 16)).bind fun (h61_3 : zH) => (zgR h61_3 this 1 2).bind fun (v50_2 : Nat) => zlet (zset h61_3 (k0 + 18) (.inr (0, [.null, .int 0, .int 0, .int 0, .int 0, .int 0, .int 0, .int 0]))) fun (h54_2 : zH) => (f_X0_init n (k0 + 18) (k0 + 19) h54_2).bind fun (h58_2 : zH) => (zsr h58_2 v50_2 3 0 (2 : Int32) (k0 + 18)).bind fun (h61_5 : zH) => (zgR h61_5 this 1 2).bind fun (v50_3 : Nat) => zlet (zset h61_5 (k0 + 20) (.inr (0, [.null, .int 0, .int 0, .int 0, .int 0, .int 0, .int 0, .int 0]))) fun (h54_3 : zH) => (f_X0_init n (k0 + 20) (k0 + 21) h54_3).bind fun (h58_3 : zH) => (zsr h58_3 v50_3 3 0 (3 : Int32) (k0 + 20)).bind fun (h61_7 : zH) => zrc h61_7 this 1 <| (f_X1_reset n this (3 : Int32) h61_7).bind fun (h70_1 : zH) => some h70_1
theorem zn_X1_init : zNm yX1_init 1 := ⟨by decide +kernel, by decide +kernel⟩
set_option maxRecDepth 100000 in
set_option maxHeartbeats 4000000 in
theorem c_X1_init (l : Launch) (B : Nat) (D : va_G) (cA : Nat → ClassId) (n : Nat) (this : Nat) (p0 : Nat) (k0 : Nat) (h : zH) : ∀ u, f_X1_init n this p0 k0 h = some u → zM l B D cA yX1_init cX1_init 3 none 4 22 142 (some k0) [.ref (B + this), .ref (B + p0)] h none u := by
  unfold f_X1_init
  refine z_met (own := RX1) (fun h1 : zH => ((none : Option Value), h1)) rfl (by decide) rfl (fun Z C hr hnm hsz => ?_)
  have hsz0 := hsz k0 rfl
  refine z_aload_n (pc := 0) C (zD D_X1_init_0 0 rfl) rfl 0 rfl ?_
  refine z_objInit (pc := 1) (rest := []) C q_34 q_9 q_10 (by decide) rfl (zD D_X1_init_0 1 rfl) ?_
  refine z_aload_n (pc := 4) C (zD D_X1_init_0 2 rfl) rfl 0 rfl ?_
  refine z_new (pc := 5) C hsz0 [.null, .null] zc2 (fun j hj => by rcases (show j = 0 ∨ j = 1 by omega) with rfl | rfl <;> rfl) rfl q_35 q_36 q_37 rfl rfl (zD D_X1_init_0 3 rfl) (fun h5 => ?_)
  refine z_dup (pc := 8) C (zD D_X1_init_0 4 rfl) rfl ?_
  refine z_callI (pc := 9) (As := []) C hsz0 [.ref (B + (k0 + 0)), .ref (B + this)] (c_X2_init _ _ _ _ n (k0 + 0) (k0 + 1) h5) zn_X2_init rfl (by decide) (by decide) rfl rfl q_46 q_47 q_37 q_48 rfl rfl rfl (zD D_X1_init_0 5 rfl) (fun h9 => ?_)
  refine z_putFR (pc := 12) C (hnm.trans rfl) zc1 1 (by decide) q_38 rfl rfl (fun _ => ⟨rfl, rfl⟩) (zD D_X1_init_0 6 rfl) (fun h12 => ?_)
  refine z_aload_n (pc := 15) C (zD D_X1_init_0 7 rfl) rfl 0 rfl ?_
  refine z_iconst (pc := 16) (v := 4) C (zD D_X1_init_0 8 rfl) (by decide) ?_
  refine z_newQ (pc := 17) C hsz0 4 3 (by decide) rfl C.2.2.2.2.2.2.2.2.1.2.2.2.1 q_39 (by decide) (by decide) rfl rfl rfl (zD D_X1_init_0 9 rfl) (fun h17 => ?_)
  refine z_putFR (pc := 20) C (hnm.trans rfl) zc1 2 (by decide) q_40 rfl rfl (fun _ => ⟨rfl, rfl⟩) (zD D_X1_init_0 10 rfl) (fun h20 => ?_)
  refine z_aload_n (pc := 23) C (zD D_X1_init_0 11 rfl) rfl 0 rfl ?_
  refine z_iconst (pc := 24) (v := 4) C (zD D_X1_init_0 12 rfl) (by decide) ?_
  refine z_newI (pc := 25) C hsz0 4 q_27 (by decide) (by decide) rfl rfl rfl (zD D_X1_init_0 13 rfl) (fun h25 => ?_)
  refine z_putFR (pc := 27) C (hnm.trans rfl) zc1 3 (by decide) q_41 rfl rfl (fun _ => ⟨rfl, rfl⟩) (zD D_X1_init_0 14 rfl) (fun h27 => ?_)
  refine z_aload_n (pc := 30) C (zD D_X1_init_0 15 rfl) rfl 0 rfl ?_
  refine z_iconst (pc := 31) (v := 4) C (zD D_X1_init_0 16 rfl) (by decide) ?_
  refine z_newI (pc := 32) C hsz0 4 q_27 (by decide) (by decide) rfl rfl rfl (zD D_X1_init_0 17 rfl) (fun h32 => ?_)
  refine z_putFR (pc := 34) C (hnm.trans rfl) zc1 4 (by decide) q_42 rfl rfl (fun _ => ⟨rfl, rfl⟩) (zD D_X1_init_0 18 rfl) (fun h34 => ?_)
  refine z_aload_n (pc := 37) C (zD D_X1_init_0 19 rfl) rfl 0 rfl ?_
  refine z_aload_n (pc := 38) C (zD D_X1_init_0 20 rfl) rfl 1 rfl ?_
  refine z_putFR (pc := 39) C (hnm.trans rfl) zc1 0 (by decide) q_43 rfl rfl (fun _ => ⟨rfl, rfl⟩) (zD D_X1_init_0 21 rfl) (fun h39 => ?_)
  refine z_iconst (pc := 42) (v := 0) C (zD D_X1_init_0 22 rfl) (by decide) ?_
  refine z_istore_n (pc := 43) (lv' := [(2, .int (0 : Int32)), (0, .ref (B + this)), (1, .ref (B + p0))]) C (zD D_X1_init_0 23 rfl) rfl (by decide) rfl ?_
  refine z_iload_n (pc := 44) C (zD D_X1_init_0 24 rfl) rfl 0 rfl ?_
  refine z_iconst (pc := 45) (v := 4) C (zD D_X1_init_0 25 rfl) (by decide) ?_
  refine z_icmp_ge_f (pc := 46) C (zD D_X1_init_0 26 rfl) (tgt := 68) (by decide) (by decide) ?_
  refine z_aload_n (pc := 49) C (zD D_X1_init_0 27 rfl) rfl 1 rfl ?_
  refine z_getR (pc := 50) C zc1 2 (by decide) q_40 (zD D_X1_init_0 28 rfl) (fun v50 => ?_)
  refine z_iload_n (pc := 53) C (zD D_X1_init_0 29 rfl) rfl 0 rfl ?_
  refine z_new (pc := 54) C hsz0 [.null, .int 0, .int 0, .int 0, .int 0, .int 0, .int 0, .int 0] zc0 (fun j hj => by rcases (show j = 0 ∨ j = 1 ∨ j = 2 ∨ j = 3 ∨ j = 4 ∨ j = 5 ∨ j = 6 ∨ j = 7 by omega) with rfl | rfl | rfl | rfl | rfl | rfl | rfl | rfl <;> rfl) rfl q_39 q_44 q_45 rfl rfl (zD D_X1_init_0 30 rfl) (fun h54 => ?_)
  refine z_dup (pc := 57) C (zD D_X1_init_0 31 rfl) rfl ?_
  refine z_callIN (pc := 58) (As := []) C hsz0 [.ref (B + (k0 + 14)), .int (0 : Int32), .ref (B + v50)] (c_X0_init _ _ _ _ n (k0 + 14) (k0 + 15) h54) zn_X0_init rfl (by decide) (by decide) rfl rfl C.2.2.2.2.2.2.2.2.1.1.2.1 q_53 q_45 q_54 rfl rfl rfl (zD D_X1_init_0 32 rfl) (fun h58 => ?_)
  refine z_arstore (pc := 61) C (c := 3) (ci := 0) (by decide) rfl rfl (zD D_X1_init_0 33 rfl) (fun h61_1 => ?_)
  refine z_iinc (pc := 62) (lv' := [(2, .int (1 : Int32)), (0, .ref (B + this)), (1, .ref (B + p0))]) C (zD D_X1_init_0 34 rfl) 0 rfl (v := 1) (by decide) (by decide) rfl ?_
  refine z_goto (pc := 65) C (zD D_X1_init_0 35 rfl) (tgt := 44) (by decide) ?_
  refine z_iload_n (pc := 44) C (zD D_X1_init_0 24 rfl) rfl 0 rfl ?_
  refine z_iconst (pc := 45) (v := 4) C (zD D_X1_init_0 25 rfl) (by decide) ?_
  refine z_icmp_ge_f (pc := 46) C (zD D_X1_init_0 26 rfl) (tgt := 68) (by decide) (by decide) ?_
  refine z_aload_n (pc := 49) C (zD D_X1_init_0 27 rfl) rfl 1 rfl ?_
  refine z_getR (pc := 50) C zc1 2 (by decide) q_40 (zD D_X1_init_0 28 rfl) (fun v50_1 => ?_)
  refine z_iload_n (pc := 53) C (zD D_X1_init_0 29 rfl) rfl 0 rfl ?_
  refine z_new (pc := 54) C hsz0 [.null, .int 0, .int 0, .int 0, .int 0, .int 0, .int 0, .int 0] zc0 (fun j hj => by rcases (show j = 0 ∨ j = 1 ∨ j = 2 ∨ j = 3 ∨ j = 4 ∨ j = 5 ∨ j = 6 ∨ j = 7 by omega) with rfl | rfl | rfl | rfl | rfl | rfl | rfl | rfl <;> rfl) rfl q_39 q_44 q_45 rfl rfl (zD D_X1_init_0 30 rfl) (fun h54_1 => ?_)
  refine z_dup (pc := 57) C (zD D_X1_init_0 31 rfl) rfl ?_
  refine z_callIN (pc := 58) (As := []) C hsz0 [.ref (B + (k0 + 16)), .int (1 : Int32), .ref (B + v50_1)] (c_X0_init _ _ _ _ n (k0 + 16) (k0 + 17) h54_1) zn_X0_init rfl (by decide) (by decide) rfl rfl C.2.2.2.2.2.2.2.2.1.1.2.1 q_53 q_45 q_54 rfl rfl rfl (zD D_X1_init_0 32 rfl) (fun h58_1 => ?_)
  refine z_arstore (pc := 61) C (c := 3) (ci := 0) (by decide) rfl rfl (zD D_X1_init_0 33 rfl) (fun h61_3 => ?_)
  refine z_iinc (pc := 62) (lv' := [(2, .int (2 : Int32)), (0, .ref (B + this)), (1, .ref (B + p0))]) C (zD D_X1_init_0 34 rfl) 0 rfl (v := 2) (by decide) (by decide) rfl ?_
  refine z_goto (pc := 65) C (zD D_X1_init_0 35 rfl) (tgt := 44) (by decide) ?_
  refine z_iload_n (pc := 44) C (zD D_X1_init_0 24 rfl) rfl 0 rfl ?_
  refine z_iconst (pc := 45) (v := 4) C (zD D_X1_init_0 25 rfl) (by decide) ?_
  refine z_icmp_ge_f (pc := 46) C (zD D_X1_init_0 26 rfl) (tgt := 68) (by decide) (by decide) ?_
  refine z_aload_n (pc := 49) C (zD D_X1_init_0 27 rfl) rfl 1 rfl ?_
  refine z_getR (pc := 50) C zc1 2 (by decide) q_40 (zD D_X1_init_0 28 rfl) (fun v50_2 => ?_)
  refine z_iload_n (pc := 53) C (zD D_X1_init_0 29 rfl) rfl 0 rfl ?_
  refine z_new (pc := 54) C hsz0 [.null, .int 0, .int 0, .int 0, .int 0, .int 0, .int 0, .int 0] zc0 (fun j hj => by rcases (show j = 0 ∨ j = 1 ∨ j = 2 ∨ j = 3 ∨ j = 4 ∨ j = 5 ∨ j = 6 ∨ j = 7 by omega) with rfl | rfl | rfl | rfl | rfl | rfl | rfl | rfl <;> rfl) rfl q_39 q_44 q_45 rfl rfl (zD D_X1_init_0 30 rfl) (fun h54_2 => ?_)
  refine z_dup (pc := 57) C (zD D_X1_init_0 31 rfl) rfl ?_
  refine z_callIN (pc := 58) (As := []) C hsz0 [.ref (B + (k0 + 18)), .int (2 : Int32), .ref (B + v50_2)] (c_X0_init _ _ _ _ n (k0 + 18) (k0 + 19) h54_2) zn_X0_init rfl (by decide) (by decide) rfl rfl C.2.2.2.2.2.2.2.2.1.1.2.1 q_53 q_45 q_54 rfl rfl rfl (zD D_X1_init_0 32 rfl) (fun h58_2 => ?_)
  refine z_arstore (pc := 61) C (c := 3) (ci := 0) (by decide) rfl rfl (zD D_X1_init_0 33 rfl) (fun h61_5 => ?_)
  refine z_iinc (pc := 62) (lv' := [(2, .int (3 : Int32)), (0, .ref (B + this)), (1, .ref (B + p0))]) C (zD D_X1_init_0 34 rfl) 0 rfl (v := 3) (by decide) (by decide) rfl ?_
  refine z_goto (pc := 65) C (zD D_X1_init_0 35 rfl) (tgt := 44) (by decide) ?_
  refine z_iload_n (pc := 44) C (zD D_X1_init_0 24 rfl) rfl 0 rfl ?_
  refine z_iconst (pc := 45) (v := 4) C (zD D_X1_init_0 25 rfl) (by decide) ?_
  refine z_icmp_ge_f (pc := 46) C (zD D_X1_init_0 26 rfl) (tgt := 68) (by decide) (by decide) ?_
  refine z_aload_n (pc := 49) C (zD D_X1_init_0 27 rfl) rfl 1 rfl ?_
  refine z_getR (pc := 50) C zc1 2 (by decide) q_40 (zD D_X1_init_0 28 rfl) (fun v50_3 => ?_)
  refine z_iload_n (pc := 53) C (zD D_X1_init_0 29 rfl) rfl 0 rfl ?_
  refine z_new (pc := 54) C hsz0 [.null, .int 0, .int 0, .int 0, .int 0, .int 0, .int 0, .int 0] zc0 (fun j hj => by rcases (show j = 0 ∨ j = 1 ∨ j = 2 ∨ j = 3 ∨ j = 4 ∨ j = 5 ∨ j = 6 ∨ j = 7 by omega) with rfl | rfl | rfl | rfl | rfl | rfl | rfl | rfl <;> rfl) rfl q_39 q_44 q_45 rfl rfl (zD D_X1_init_0 30 rfl) (fun h54_3 => ?_)
  refine z_dup (pc := 57) C (zD D_X1_init_0 31 rfl) rfl ?_
  refine z_callIN (pc := 58) (As := []) C hsz0 [.ref (B + (k0 + 20)), .int (3 : Int32), .ref (B + v50_3)] (c_X0_init _ _ _ _ n (k0 + 20) (k0 + 21) h54_3) zn_X0_init rfl (by decide) (by decide) rfl rfl C.2.2.2.2.2.2.2.2.1.1.2.1 q_53 q_45 q_54 rfl rfl rfl (zD D_X1_init_0 32 rfl) (fun h58_3 => ?_)
  refine z_arstore (pc := 61) C (c := 3) (ci := 0) (by decide) rfl rfl (zD D_X1_init_0 33 rfl) (fun h61_7 => ?_)
  refine z_iinc (pc := 62) (lv' := [(2, .int (4 : Int32)), (0, .ref (B + this)), (1, .ref (B + p0))]) C (zD D_X1_init_0 34 rfl) 0 rfl (v := 4) (by decide) (by decide) rfl ?_
  refine z_goto (pc := 65) C (zD D_X1_init_0 35 rfl) (tgt := 44) (by decide) ?_
  refine z_iload_n (pc := 44) C (zD D_X1_init_0 24 rfl) rfl 0 rfl ?_
  refine z_iconst (pc := 45) (v := 4) C (zD D_X1_init_0 25 rfl) (by decide) ?_
  refine z_icmp_ge_t (pc := 46) C (zD D_X1_init_0 26 rfl) (tgt := 68) (by decide) (by decide) ?_
  refine z_aload_n (pc := 68) C (zD D_X1_init_0 36 rfl) rfl 1 rfl ?_
  refine z_iconst (pc := 69) (v := 3) C (zD D_X1_init_0 37 rfl) (by decide) ?_
  refine z_cvV (pc := 70) (As := [.int (3 : Int32)]) C [] (c_X1_reset _ _ _ _ n this (3 : Int32) h61_7) zn_X1_reset (by decide) (by decide) ⟨Nat.le_of_ble_eq_true rfl, Nat.le_of_ble_eq_true rfl⟩ zc1 rfl q_57 q_58 q_59 q_16 q_60 rfl rfl rfl (zD D_X1_init_0 38 rfl) (fun h70_1 => ?_)
  exact z_vret (pc := 73) C hr rfl (zD D_X1_init_0 39 rfl)
def f_X5_init (n : Nat) (this : Nat) (k0 : Nat) (h : zH) : Option zH := zlet (zset h (k0 + 0) (.inr (3, [.null, .null, .null, .null, .int 0, .int 0, .int 0, .int 0]))) fun (h4 : zH) => (f_X3_init n (k0 + 0) (k0 + 1) h4).bind fun (h8 : zH) => zlet (zset h8 (k0 + 4) (.inr (1, [.null, .null, .null, .null, .null, .int 0, .int 0, .int 0, .int 0, .int 0, .int 0, .int 0, .int 0, .int 0, .int 0]))) fun (h13 : zH) => (f_X1_init n (k0 + 4) (k0 + 0) (k0 + 5) h13).bind fun (h18 : zH) => (zp h18 this 5 0 (.ref (k0 + 4))).bind fun (h21 : zH) => zlet (zset h21 (k0 + 27) (.inl (4, 4, .inr (.inr (.inr (.inr (fun _ => none))))))) fun (h26 : zH) => (zp h26 this 5 1 (.ref (k0 + 27))).bind fun (h29 : zH) => (zgR h29 this 5 1).bind fun (v40 : Nat) => zlet (zset h29 (k0 + 28) (.inr (1, [.null, .null, .null, .null, .null, .int 0, .int 0, .int 0, .int 0, .int 0, .int 0, .int 0, .int 0, .int 0, .int 0]))) fun (h44 : zH) => (f_X1_init n (k0 + 28) (k0 + 0) (k0 + 29) h44).bind fun (h49 : zH) => (zsr h49 v40 4 1 (0 : Int32) (k0 + 28)).bind fun (h52_1 : zH) => (zgR h52_1 this 5 1).bind fun (v40_1 : Nat) => zlet (zset h52_1 (k0 + 51) (.inr (1, [.null, .null, .null, .null, .null, .int 0, .int 0, .int 0, .int 0, .int 0, .int 0, .int 0, .int 0, .int 0, .int 0]))) fun (h44_1 : zH) => (f_X1_init n (k0 + 51) (k0 + 0) (k0 + 52) h44_1).bind fun (h49_1 : zH) => (zsr h49_1 v40_1 4 1 (1 : Int32) (k0 + 51)).bind fun (h52_3 : zH) => (zgR h52_3 this 5 1).bind fun (v40_2 : Nat) => zlet (zset h52_3 (k0 + 74) (.inr (1, [.null, .null, .null, .null, .null, .int 0, .int 0, .int 0, .int 0, .int 0, .int 0, .int 0, .int 0, .int 0, .int 0]))) fun (h44_2 : zH) => (f_X1_init n (k0 + 74) (k0 + 0) (k0 + 75) h44_2).bind fun (h49_2 : zH) => (zsr h49_2 v40_2 4 1 (2 : Int32) (k0 + 74)).bind fun (h52_5 : zH) => (zgR h52_5 this 5 1).bind fun (v40_3 : Nat) => zlet (zset h52_5 (k0 + 97) (.inr (1, [.null, .null, .null, .null, .null, .int 0, .int 0, .int 0, .int 0, .int 0, .int 0, .int 0, .int 0, .int 0, .int 0]))) fun (h44_3 : zH) => (f_X1_init n (k0 + 97) (k0 + 0) (k0 + 98) h44_3).bind fun (h49_3 : zH) => (zsr h49_3 v40_3 4 1 (3 : Int32) (k0 + 97)).bind fun (h52_7 : zH) => (zp h52_7 this 5 2 (.int (0 : Int32))).bind fun (h61_1 : zH) => zlet (zset h61_1 (k0 + 120) (.inr (4, [.null, .int 0]))) fun (h65 : zH) => (f_X4_init n (k0 + 120) (k0 + 121) h65).bind fun (h69 : zH) => (zp h69 this 5 3 (.ref (k0 + 120))).bind fun (h72 : zH) => some h72
theorem zn_X5_init : zNm yX5_init 0 := ⟨by decide +kernel, by decide +kernel⟩
set_option maxRecDepth 100000 in
set_option maxHeartbeats 4000000 in
theorem c_X5_init (l : Launch) (B : Nat) (D : va_G) (cA : Nat → ClassId) (n : Nat) (this : Nat) (k0 : Nat) (h : zH) : ∀ u, f_X5_init n this k0 h = some u → zM l B D cA yX5_init cX5_init 3 none 5 122 907 (some k0) [.ref (B + this)] h none u := by
  unfold f_X5_init
  refine z_met (own := RX5) (fun h1 : zH => ((none : Option Value), h1)) rfl (by decide) rfl (fun Z C hr hnm hsz => ?_)
  have hsz0 := hsz k0 rfl
  refine z_aload_n (pc := 0) C (zD D_X5_init_0 0 rfl) rfl 0 rfl ?_
  refine z_objInit (pc := 1) (rest := []) C q_8 q_9 q_10 (by decide) rfl (zD D_X5_init_0 1 rfl) ?_
  refine z_new (pc := 4) C hsz0 [.null, .null, .null, .null, .int 0, .int 0, .int 0, .int 0] zc3 (fun j hj => by rcases (show j = 0 ∨ j = 1 ∨ j = 2 ∨ j = 3 ∨ j = 4 ∨ j = 5 ∨ j = 6 ∨ j = 7 by omega) with rfl | rfl | rfl | rfl | rfl | rfl | rfl | rfl <;> rfl) rfl q_11 q_12 q_13 rfl rfl (zD D_X5_init_0 2 rfl) (fun h4 => ?_)
  refine z_dup (pc := 7) C (zD D_X5_init_0 3 rfl) rfl ?_
  refine z_callIN (pc := 8) (As := []) C hsz0 [.ref (B + (k0 + 0))] (c_X3_init _ _ _ _ n (k0 + 0) (k0 + 1) h4) zn_X3_init rfl (by decide) (by decide) rfl rfl C.2.2.2.2.2.2.2.2.1.1.1 q_24 q_13 q_25 rfl rfl rfl (zD D_X5_init_0 4 rfl) (fun h8 => ?_)
  refine z_astore_n (pc := 11) (lv' := [(1, .ref (B + (k0 + 0))), (0, .ref (B + this))]) C (zD D_X5_init_0 5 rfl) rfl (by decide) rfl ?_
  refine z_aload_n (pc := 12) C (zD D_X5_init_0 6 rfl) rfl 1 rfl ?_
  refine z_new (pc := 13) C hsz0 [.null, .null, .null, .null, .null, .int 0, .int 0, .int 0, .int 0, .int 0, .int 0, .int 0, .int 0, .int 0, .int 0] zc1 (fun j hj => by rcases (show j = 0 ∨ j = 1 ∨ j = 2 ∨ j = 3 ∨ j = 4 ∨ j = 5 ∨ j = 6 ∨ j = 7 ∨ j = 8 ∨ j = 9 ∨ j = 10 ∨ j = 11 ∨ j = 12 ∨ j = 13 ∨ j = 14 by omega) with rfl | rfl | rfl | rfl | rfl | rfl | rfl | rfl | rfl | rfl | rfl | rfl | rfl | rfl | rfl <;> rfl) rfl q_14 q_15 q_16 rfl rfl (zD D_X5_init_0 7 rfl) (fun h13 => ?_)
  refine z_dup (pc := 16) C (zD D_X5_init_0 8 rfl) rfl ?_
  refine z_aload_n (pc := 17) C (zD D_X5_init_0 9 rfl) rfl 0 rfl ?_
  refine z_callI (pc := 18) (As := [.ref (B + (k0 + 0))]) C hsz0 [.ref (B + (k0 + 4)), .ref (B + this)] (c_X1_init _ _ _ _ n (k0 + 4) (k0 + 0) (k0 + 5) h13) zn_X1_init rfl (by decide) (by decide) rfl rfl q_31 q_32 q_16 q_33 rfl rfl rfl (zD D_X5_init_0 10 rfl) (fun h18 => ?_)
  refine z_putFR (pc := 21) C (hnm.trans rfl) zc5 0 (by decide) q_17 rfl rfl (fun _ => ⟨rfl, rfl⟩) (zD D_X5_init_0 11 rfl) (fun h21 => ?_)
  refine z_aload_n (pc := 24) C (zD D_X5_init_0 12 rfl) rfl 1 rfl ?_
  refine z_iconst (pc := 25) (v := 4) C (zD D_X5_init_0 13 rfl) (by decide) ?_
  refine z_newQ (pc := 26) C hsz0 4 4 (by decide) rfl C.2.2.2.2.2.2.2.2.1.2.2.2.2.1 q_14 (by decide) (by decide) rfl rfl rfl (zD D_X5_init_0 14 rfl) (fun h26 => ?_)
  refine z_putFR (pc := 29) C (hnm.trans rfl) zc5 1 (by decide) q_18 rfl rfl (fun _ => ⟨rfl, rfl⟩) (zD D_X5_init_0 15 rfl) (fun h29 => ?_)
  refine z_iconst (pc := 32) (v := 0) C (zD D_X5_init_0 16 rfl) (by decide) ?_
  refine z_istore_n (pc := 33) (lv' := [(2, .int (0 : Int32)), (1, .ref (B + (k0 + 0))), (0, .ref (B + this))]) C (zD D_X5_init_0 17 rfl) rfl (by decide) rfl ?_
  refine z_iload_n (pc := 34) C (zD D_X5_init_0 18 rfl) rfl 0 rfl ?_
  refine z_iconst (pc := 35) (v := 4) C (zD D_X5_init_0 19 rfl) (by decide) ?_
  refine z_icmp_ge_f (pc := 36) C (zD D_X5_init_0 20 rfl) (tgt := 59) (by decide) (by decide) ?_
  refine z_aload_n (pc := 39) C (zD D_X5_init_0 21 rfl) rfl 2 rfl ?_
  refine z_getR (pc := 40) C zc5 1 (by decide) q_18 (zD D_X5_init_0 22 rfl) (fun v40 => ?_)
  refine z_iload_n (pc := 43) C (zD D_X5_init_0 23 rfl) rfl 0 rfl ?_
  refine z_new (pc := 44) C hsz0 [.null, .null, .null, .null, .null, .int 0, .int 0, .int 0, .int 0, .int 0, .int 0, .int 0, .int 0, .int 0, .int 0] zc1 (fun j hj => by rcases (show j = 0 ∨ j = 1 ∨ j = 2 ∨ j = 3 ∨ j = 4 ∨ j = 5 ∨ j = 6 ∨ j = 7 ∨ j = 8 ∨ j = 9 ∨ j = 10 ∨ j = 11 ∨ j = 12 ∨ j = 13 ∨ j = 14 by omega) with rfl | rfl | rfl | rfl | rfl | rfl | rfl | rfl | rfl | rfl | rfl | rfl | rfl | rfl | rfl <;> rfl) rfl q_14 q_15 q_16 rfl rfl (zD D_X5_init_0 24 rfl) (fun h44 => ?_)
  refine z_dup (pc := 47) C (zD D_X5_init_0 25 rfl) rfl ?_
  refine z_aload_n (pc := 48) C (zD D_X5_init_0 26 rfl) rfl 1 rfl ?_
  refine z_callI (pc := 49) (As := [.ref (B + (k0 + 0))]) C hsz0 [.ref (B + (k0 + 28)), .int (0 : Int32), .ref (B + v40)] (c_X1_init _ _ _ _ n (k0 + 28) (k0 + 0) (k0 + 29) h44) zn_X1_init rfl (by decide) (by decide) rfl rfl q_31 q_32 q_16 q_33 rfl rfl rfl (zD D_X5_init_0 27 rfl) (fun h49 => ?_)
  refine z_arstore (pc := 52) C (c := 4) (ci := 1) (by decide) rfl rfl (zD D_X5_init_0 28 rfl) (fun h52_1 => ?_)
  refine z_iinc (pc := 53) (lv' := [(2, .int (1 : Int32)), (1, .ref (B + (k0 + 0))), (0, .ref (B + this))]) C (zD D_X5_init_0 29 rfl) 0 rfl (v := 1) (by decide) (by decide) rfl ?_
  refine z_goto (pc := 56) C (zD D_X5_init_0 30 rfl) (tgt := 34) (by decide) ?_
  refine z_iload_n (pc := 34) C (zD D_X5_init_0 18 rfl) rfl 0 rfl ?_
  refine z_iconst (pc := 35) (v := 4) C (zD D_X5_init_0 19 rfl) (by decide) ?_
  refine z_icmp_ge_f (pc := 36) C (zD D_X5_init_0 20 rfl) (tgt := 59) (by decide) (by decide) ?_
  refine z_aload_n (pc := 39) C (zD D_X5_init_0 21 rfl) rfl 2 rfl ?_
  refine z_getR (pc := 40) C zc5 1 (by decide) q_18 (zD D_X5_init_0 22 rfl) (fun v40_1 => ?_)
  refine z_iload_n (pc := 43) C (zD D_X5_init_0 23 rfl) rfl 0 rfl ?_
  refine z_new (pc := 44) C hsz0 [.null, .null, .null, .null, .null, .int 0, .int 0, .int 0, .int 0, .int 0, .int 0, .int 0, .int 0, .int 0, .int 0] zc1 (fun j hj => by rcases (show j = 0 ∨ j = 1 ∨ j = 2 ∨ j = 3 ∨ j = 4 ∨ j = 5 ∨ j = 6 ∨ j = 7 ∨ j = 8 ∨ j = 9 ∨ j = 10 ∨ j = 11 ∨ j = 12 ∨ j = 13 ∨ j = 14 by omega) with rfl | rfl | rfl | rfl | rfl | rfl | rfl | rfl | rfl | rfl | rfl | rfl | rfl | rfl | rfl <;> rfl) rfl q_14 q_15 q_16 rfl rfl (zD D_X5_init_0 24 rfl) (fun h44_1 => ?_)
  refine z_dup (pc := 47) C (zD D_X5_init_0 25 rfl) rfl ?_
  refine z_aload_n (pc := 48) C (zD D_X5_init_0 26 rfl) rfl 1 rfl ?_
  refine z_callI (pc := 49) (As := [.ref (B + (k0 + 0))]) C hsz0 [.ref (B + (k0 + 51)), .int (1 : Int32), .ref (B + v40_1)] (c_X1_init _ _ _ _ n (k0 + 51) (k0 + 0) (k0 + 52) h44_1) zn_X1_init rfl (by decide) (by decide) rfl rfl q_31 q_32 q_16 q_33 rfl rfl rfl (zD D_X5_init_0 27 rfl) (fun h49_1 => ?_)
  refine z_arstore (pc := 52) C (c := 4) (ci := 1) (by decide) rfl rfl (zD D_X5_init_0 28 rfl) (fun h52_3 => ?_)
  refine z_iinc (pc := 53) (lv' := [(2, .int (2 : Int32)), (1, .ref (B + (k0 + 0))), (0, .ref (B + this))]) C (zD D_X5_init_0 29 rfl) 0 rfl (v := 2) (by decide) (by decide) rfl ?_
  refine z_goto (pc := 56) C (zD D_X5_init_0 30 rfl) (tgt := 34) (by decide) ?_
  refine z_iload_n (pc := 34) C (zD D_X5_init_0 18 rfl) rfl 0 rfl ?_
  refine z_iconst (pc := 35) (v := 4) C (zD D_X5_init_0 19 rfl) (by decide) ?_
  refine z_icmp_ge_f (pc := 36) C (zD D_X5_init_0 20 rfl) (tgt := 59) (by decide) (by decide) ?_
  refine z_aload_n (pc := 39) C (zD D_X5_init_0 21 rfl) rfl 2 rfl ?_
  refine z_getR (pc := 40) C zc5 1 (by decide) q_18 (zD D_X5_init_0 22 rfl) (fun v40_2 => ?_)
  refine z_iload_n (pc := 43) C (zD D_X5_init_0 23 rfl) rfl 0 rfl ?_
  refine z_new (pc := 44) C hsz0 [.null, .null, .null, .null, .null, .int 0, .int 0, .int 0, .int 0, .int 0, .int 0, .int 0, .int 0, .int 0, .int 0] zc1 (fun j hj => by rcases (show j = 0 ∨ j = 1 ∨ j = 2 ∨ j = 3 ∨ j = 4 ∨ j = 5 ∨ j = 6 ∨ j = 7 ∨ j = 8 ∨ j = 9 ∨ j = 10 ∨ j = 11 ∨ j = 12 ∨ j = 13 ∨ j = 14 by omega) with rfl | rfl | rfl | rfl | rfl | rfl | rfl | rfl | rfl | rfl | rfl | rfl | rfl | rfl | rfl <;> rfl) rfl q_14 q_15 q_16 rfl rfl (zD D_X5_init_0 24 rfl) (fun h44_2 => ?_)
  refine z_dup (pc := 47) C (zD D_X5_init_0 25 rfl) rfl ?_
  refine z_aload_n (pc := 48) C (zD D_X5_init_0 26 rfl) rfl 1 rfl ?_
  refine z_callI (pc := 49) (As := [.ref (B + (k0 + 0))]) C hsz0 [.ref (B + (k0 + 74)), .int (2 : Int32), .ref (B + v40_2)] (c_X1_init _ _ _ _ n (k0 + 74) (k0 + 0) (k0 + 75) h44_2) zn_X1_init rfl (by decide) (by decide) rfl rfl q_31 q_32 q_16 q_33 rfl rfl rfl (zD D_X5_init_0 27 rfl) (fun h49_2 => ?_)
  refine z_arstore (pc := 52) C (c := 4) (ci := 1) (by decide) rfl rfl (zD D_X5_init_0 28 rfl) (fun h52_5 => ?_)
  refine z_iinc (pc := 53) (lv' := [(2, .int (3 : Int32)), (1, .ref (B + (k0 + 0))), (0, .ref (B + this))]) C (zD D_X5_init_0 29 rfl) 0 rfl (v := 3) (by decide) (by decide) rfl ?_
  refine z_goto (pc := 56) C (zD D_X5_init_0 30 rfl) (tgt := 34) (by decide) ?_
  refine z_iload_n (pc := 34) C (zD D_X5_init_0 18 rfl) rfl 0 rfl ?_
  refine z_iconst (pc := 35) (v := 4) C (zD D_X5_init_0 19 rfl) (by decide) ?_
  refine z_icmp_ge_f (pc := 36) C (zD D_X5_init_0 20 rfl) (tgt := 59) (by decide) (by decide) ?_
  refine z_aload_n (pc := 39) C (zD D_X5_init_0 21 rfl) rfl 2 rfl ?_
  refine z_getR (pc := 40) C zc5 1 (by decide) q_18 (zD D_X5_init_0 22 rfl) (fun v40_3 => ?_)
  refine z_iload_n (pc := 43) C (zD D_X5_init_0 23 rfl) rfl 0 rfl ?_
  refine z_new (pc := 44) C hsz0 [.null, .null, .null, .null, .null, .int 0, .int 0, .int 0, .int 0, .int 0, .int 0, .int 0, .int 0, .int 0, .int 0] zc1 (fun j hj => by rcases (show j = 0 ∨ j = 1 ∨ j = 2 ∨ j = 3 ∨ j = 4 ∨ j = 5 ∨ j = 6 ∨ j = 7 ∨ j = 8 ∨ j = 9 ∨ j = 10 ∨ j = 11 ∨ j = 12 ∨ j = 13 ∨ j = 14 by omega) with rfl | rfl | rfl | rfl | rfl | rfl | rfl | rfl | rfl | rfl | rfl | rfl | rfl | rfl | rfl <;> rfl) rfl q_14 q_15 q_16 rfl rfl (zD D_X5_init_0 24 rfl) (fun h44_3 => ?_)
  refine z_dup (pc := 47) C (zD D_X5_init_0 25 rfl) rfl ?_
  refine z_aload_n (pc := 48) C (zD D_X5_init_0 26 rfl) rfl 1 rfl ?_
  refine z_callI (pc := 49) (As := [.ref (B + (k0 + 0))]) C hsz0 [.ref (B + (k0 + 97)), .int (3 : Int32), .ref (B + v40_3)] (c_X1_init _ _ _ _ n (k0 + 97) (k0 + 0) (k0 + 98) h44_3) zn_X1_init rfl (by decide) (by decide) rfl rfl q_31 q_32 q_16 q_33 rfl rfl rfl (zD D_X5_init_0 27 rfl) (fun h49_3 => ?_)
  refine z_arstore (pc := 52) C (c := 4) (ci := 1) (by decide) rfl rfl (zD D_X5_init_0 28 rfl) (fun h52_7 => ?_)
  refine z_iinc (pc := 53) (lv' := [(2, .int (4 : Int32)), (1, .ref (B + (k0 + 0))), (0, .ref (B + this))]) C (zD D_X5_init_0 29 rfl) 0 rfl (v := 4) (by decide) (by decide) rfl ?_
  refine z_goto (pc := 56) C (zD D_X5_init_0 30 rfl) (tgt := 34) (by decide) ?_
  refine z_iload_n (pc := 34) C (zD D_X5_init_0 18 rfl) rfl 0 rfl ?_
  refine z_iconst (pc := 35) (v := 4) C (zD D_X5_init_0 19 rfl) (by decide) ?_
  refine z_icmp_ge_t (pc := 36) C (zD D_X5_init_0 20 rfl) (tgt := 59) (by decide) (by decide) ?_
  refine z_aload_n (pc := 59) C (zD D_X5_init_0 31 rfl) rfl 2 rfl ?_
  refine z_iconst (pc := 60) (v := 0) C (zD D_X5_init_0 32 rfl) (by decide) ?_
  refine z_putI (pc := 61) C zc5 2 (by decide) q_19 rfl rfl (zD D_X5_init_0 33 rfl) (fun h61_1 => ?_)
  refine z_aload_n (pc := 64) C (zD D_X5_init_0 34 rfl) rfl 2 rfl ?_
  refine z_new (pc := 65) C hsz0 [.null, .int 0] zc4 (fun j hj => by rcases (show j = 0 ∨ j = 1 by omega) with rfl | rfl <;> rfl) rfl q_20 q_21 q_22 rfl rfl (zD D_X5_init_0 35 rfl) (fun h65 => ?_)
  refine z_dup (pc := 68) C (zD D_X5_init_0 36 rfl) rfl ?_
  refine z_callIN (pc := 69) (As := []) C hsz0 [.ref (B + (k0 + 120)), .ref (B + this)] (c_X4_init _ _ _ _ n (k0 + 120) (k0 + 121) h65) zn_X4_init rfl (by decide) (by decide) rfl rfl C.2.2.2.2.2.2.2.2.1.1.2.2.1 q_92 q_22 q_93 rfl rfl rfl (zD D_X5_init_0 37 rfl) (fun h69 => ?_)
  refine z_putFR (pc := 72) C (hnm.trans rfl) zc5 3 (by decide) q_23 rfl rfl (fun _ => ⟨rfl, rfl⟩) (zD D_X5_init_0 38 rfl) (fun h72 => ?_)
  exact z_vret (pc := 75) C hr rfl (zD D_X5_init_0 39 rfl)
