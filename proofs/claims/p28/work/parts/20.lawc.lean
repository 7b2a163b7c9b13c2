/-! the law's room: 100 for each turn of its loop -/
abbrev zl (Z : zC) (N : Nat) : Nat × Nat × Nat := zg Z (20000 - 100 * N) (120000 - 600 * N) 0
theorem zl_0 {Z : zC} {a : Nat} (h : a ≤ 10000) : zUp (zg Z 0 0 a) (zg Z (20000 - 100 * 100) (120000 - 600 * 100) 0) 0 0 := ⟨by show 0 + a + 0 ≤ 20000 - 100 * 100 + 0; omega, by show 0 + 6 * a + 0 ≤ 120000 - 600 * 100 + 6 * 0; omega, Nat.le_refl _⟩
theorem zl_N {Z : zC} {N a : Nat} (hN : N + 1 ≤ 100) (h : a ≤ 100) : zUp (zg Z (20000 - 100 * (N + 1)) (120000 - 600 * (N + 1)) a) (zl Z N) 0 0 := ⟨by show 20000 - 100 * (N + 1) + a + 0 ≤ 20000 - 100 * N + 0; omega, by show 120000 - 600 * (N + 1) + 6 * a + 0 ≤ 120000 - 600 * N + 6 * 0; omega, Nat.le_refl _⟩
theorem zl_E {Z : zC} {N a : Nat} (h : a ≤ 100) : zUp (zg Z (20000 - 100 * (N + 1)) (120000 - 600 * (N + 1)) a) (zg Z 20000 120000 0) 0 0 := ⟨by show 20000 - 100 * (N + 1) + a + 0 ≤ 20000 + 0; omega, by show 120000 - 600 * (N + 1) + 6 * a + 0 ≤ 120000 + 6 * 0; omega, Nat.le_refl _⟩
theorem zlr_l {Z : zC} {N a : Nat} (h : a ≤ 5000) : 20000 - 100 * N + a ≤ 30000 ∧ 120000 - 600 * N + 6 * a ≤ 180000 := ⟨by omega, by omega⟩
theorem zlr_a {Z : zC} {a : Nat} (h : a ≤ 5000) : 0 + a ≤ 30000 ∧ 0 + 6 * a ≤ 180000 := ⟨by omega, by omega⟩
theorem zlr_e {Z : zC} {a : Nat} (h : a ≤ 5000) : 20000 + a ≤ 30000 ∧ 120000 + 6 * a ≤ 180000 := ⟨by omega, by omega⟩
theorem zlr_f {Z : zC} {a : Nat} (h : a ≤ 5000) : (zg Z 20000 120000 a).1 ≤ 30000 ∧ (zg Z 20000 120000 a).2.1 ≤ 180000 := zlr_e (Z := Z) h
def zif1 (x : Int32) : Option Unit := if x = 1 then some () else none
theorem z_if1 {B : Nat} {Z : zC} {Q : Unit → State → Prop} {pc : Nat} {lv : List (Nat × Value)} {st : List Value} {h : zH} {z : Nat × Nat × Nat} {x : Int32} (k : x = 1 → zJ B Z Q (some ()) pc lv st h z) : zJ B Z Q (zif1 x) pc lv st h z := by
  unfold zif1
  by_cases hc : x = 1
  · rw [if_pos hc]; exact k hc
  · rw [if_neg hc]; exact z_none

def f_law (n L : Nat) (xs : Nat → Int32) : Nat → Int32 → Int32 → zH → Option Unit
  | 0, _, _, _ => none
  | N + 1, a2, a3, h => zlet (zlet (fun (h492 : zH) => zif1 (0 : Int32)) fun K492 => if a2 = 0 then (K492 h) else (zb2 (f_L_refused n 0 h) fun (r475 : Int32) (h475 : zH) => if r475 = 0 then (K492 h475) else (zb2 (f_L_fits n 0 h475) fun (r482 : Int32) (h482 : zH) => if r482 = 0 then (K492 h482) else (zif1 (1 : Int32))))) fun K470 => if (56 : Int32) ≤ a3 then (zlet (fun (h492_1 : zH) => zif1 (0 : Int32)) fun K492_1 => if a2 = 0 then (K492_1 h) else (zb2 (f_L_refused n 0 h) fun (r475_1 : Int32) (h475_1 : zH) => if r475_1 = 0 then (K492_1 h475_1) else (zb2 (f_L_fits n 0 h475_1) fun (r482_1 : Int32) (h482_1 : zH) => if r482_1 = 0 then (K492_1 h482_1) else (zif1 (1 : Int32))))) else (if a2 = 0 then (zlet (fun (h492_2 : zH) => zif1 (0 : Int32)) fun K492_2 => if a2 = 0 then (K492_2 h) else (zb2 (f_L_refused n 0 h) fun (r475_2 : Int32) (h475_2 : zH) => if r475_2 = 0 then (K492_2 h475_2) else (zb2 (f_L_fits n 0 h475_2) fun (r482_2 : Int32) (h482_2 : zH) => if r482_2 = 0 then (K492_2 h482_2) else (zif1 (1 : Int32))))) else ((f_L_cell L xs ((2 : Int32) * a3)).bind fun (r53 : Int32) => (f_L_cell L xs (((2 : Int32) * a3) + (1 : Int32))).bind fun (r64 : Int32) => zrc h 0 5 <| zb2 (f_X5_digest n 0 h) fun (r70 : Int64) (h70 : zH) => (f_L_values' n 0 (1 : Int32) h70).bind fun (r77 : Int32) => zlet (fun (s0_126 : Int32) => (f_L_low n (r53 >>> ((4 : Int32) &&& 31)) (9999999 : Int32) h70).bind fun (r137 : Int32) => zb2 (f_L_acts n 0 (((14 : Int32) * r137) + s0_126) r64 h70) fun (r146 : Int32) (h146 : zH) => zlet (fun (s0_178 : Int32) (h178 : zH) => zlet (fun (s0_236 : Int32) => zlet (fun (s0_291 : Int32) (h291 : zH) => zlet (fun (a2_464 : Int32) (h464 : zH) => zlet (a3 + 1) fun (x464 : Int32) => f_law n L xs N a2_464 x464 h464) fun K464 => if s0_291 = 0 then (K464 s0_291 h291) else (if (zrem a3 (7 : Int32)) = (6 : Int32) then (if s0_126 = (10 : Int32) then (K464 s0_291 h291) else ((f_L_players' n 0 (0 : Int32) (0 : Int32) h291).bind fun (r315 : Int32) => (f_L_towns' n 0 (5 : Int32) h291).bind fun (r322 : Int32) => (f_L_values' n 0 (7 : Int32) h291).bind fun (r330 : Int32) => (f_L_values' n 0 (3 : Int32) h291).bind fun (r337 : Int32) => (f_L_low n r64 (91 : Int32) h291).bind fun (r348 : Int32) => zb2 (f_L_setsTown n 0 (5 : Int32) r348 h291) fun (r351 : Int32) (h351 : zH) => zlet (fun (s0_390 : Int32) (h390 : zH) => zlet (fun (s0_463 : Int32) (h463 : zH) => K464 s0_463 h463) fun K463 => zlet (fun (h462 : zH) => K463 (0 : Int32) h462) fun K462 => if s0_390 = 0 then (K462 h390) else (zb2 (f_L_undoes n 0 h390) fun (r396 : Int32) (h396 : zH) => if r396 < 0 then (K462 h396) else (zb2 (f_L_undoes n 0 h396) fun (r403 : Int32) (h403 : zH) => if r403 < 0 then (K462 h403) else ((f_L_towns' n 0 (5 : Int32) h403).bind fun (r411 : Int32) => if r411 = r322 then ((f_L_players' n 0 (0 : Int32) (0 : Int32) h403).bind fun (r422 : Int32) => if r422 = r315 then ((f_L_values' n 0 (7 : Int32) h403).bind fun (r433 : Int32) => if r433 = r330 then ((f_L_values' n 0 (3 : Int32) h403).bind fun (r443 : Int32) => if r443 = r337 then (zb2 (f_L_fits n 0 h403) fun (r452 : Int32) (h452 : zH) => if r452 = 0 then (K462 h452) else (K463 (1 : Int32) h452)) else (K462 h403)) else (K462 h403)) else (K462 h403)) else (K462 h403))))) fun K390 => zlet (fun (h389 : zH) => K390 (0 : Int32) h389) fun K389 => if r351 = r322 then (zlet (fun (h385 : zH) => K390 (1 : Int32) h385) fun K385 => if r337 = (1 : Int32) then (zb2 (f_L_operates n 0 (-1 : Int32) (-1 : Int32) (0 : Int32) h351) fun (r369 : Int32) (h369 : zH) => if r369 < 0 then (K389 h369) else (K385 h369)) else (zb2 (f_L_passes n 0 h351) fun (r379 : Int32) (h379 : zH) => if r379 < 0 then (K389 h379) else (K385 h379))) else (K389 h351))) else (K464 s0_291 h291))) fun K291 => zlet (fun (h290 : zH) => K291 (0 : Int32) h290) fun K290 => if s0_236 = 0 then (K290 h178) else (zb2 (f_L_fits n 0 h178) fun (r242 : Int32) (h242 : zH) => if r242 = 0 then (K290 h242) else (zlet (fun (h271 : zH) => zlet (fun (h286 : zH) => K291 (1 : Int32) h286) fun K286 => if (zrem a3 (9 : Int32)) = (5 : Int32) then (zb2 (f_L_refused n 0 h271) fun (r280 : Int32) (h280 : zH) => if r280 = 0 then (K290 h280) else (K286 h280)) else (K286 h271)) fun K271 => if (zrem a3 (6 : Int32)) = (4 : Int32) then ((f_L_low n (r64 >>> ((3 : Int32) &&& 31)) (4 : Int32) h242).bind fun (r262 : Int32) => zb2 (f_L_isForetold n 0 r262 h242) fun (r265 : Int32) (h265 : zH) => if r265 = 0 then (K290 h265) else (K271 h265)) else (K271 h242)))) fun K236 => zlet (K236 (0 : Int32)) fun K235 => if s0_178 = 0 then (K235) else (zlet (K236 (1 : Int32)) fun K231 => if r146 < 0 then (K231) else (if s0_126 < (2 : Int32) then (K231) else (if (9 : Int32) < s0_126 then (K231) else (zlet (fun (s0_213 : Int32) => (f_L_values' n 0 (1 : Int32) h178).bind fun (r215 : Int32) => zlet (fun (s0_228 : Int32) => if s0_213 = s0_228 then (K231) else (K235)) fun K228 => if r215 = r77 then (K228 (1 : Int32)) else (K228 (0 : Int32))) fun K213 => if s0_126 = (6 : Int32) then (K213 (1 : Int32)) else (K213 (0 : Int32))))))) fun K178 => zlet (fun (h173 : zH) => K178 (1 : Int32) h173) fun K173 => if 0 ≤ r146 then (K173 h146) else (zlet (fun (h177 : zH) => K178 (0 : Int32) h177) fun K177 => if r146 = (-7 : Int32) then (K177 h146) else (zrc h146 0 5 <| zb2 (f_X5_digest n 0 h146) fun (r164 : Int64) (h164 : zH) => if (lg_cmp r164 r70) = 0 then (K173 h164) else (K177 h164)))) fun K126 => if a3 = (33 : Int32) then (K126 (0 : Int32)) else (if (3 : Int32) ≤ (zrem a3 (34 : Int32)) then ((f_L_low n r53 (14 : Int32) h70).bind fun (r108 : Int32) => if r108 = 0 then (K126 (12 : Int32)) else ((f_L_low n r53 (14 : Int32) h70).bind fun (r123 : Int32) => K126 r123)) else (K126 (2 : Int32)))))
set_option maxRecDepth 100000 in
set_option maxHeartbeats 40000000 in
theorem c_law_loop {B : Nat} {Z : zC} {Q : Unit → State → Prop} {b L : Nat} {xs : Nat → Int32} (C : zOk B Z cL_law RL (zR 1000 30000 180000) 15) (hlz : Z.1.2.1.stackTraces = false) (hX : va_X b L xs Z.1.2.2.2.2 Z.1.2.2.2.2.heap) (hbl : b < Z.1.2.2.2.2.heap.size) (hbB : ¬ B ≤ b) (hret : ∀ lv h z (x : Int32), x = 1 → z.1 ≤ 30000 ∧ z.2.1 ≤ 180000 → zJ B Z Q (some ()) 493 lv [.int x] h z) (n : Nat) : ∀ N, N ≤ 100 → ∀ (a2 a3 : Int32) (h : zH), zJ B Z Q (f_law n L xs N a2 a3 h) 39 [(0, .ref b), (1, .ref (B + 0)), (2, .int a2), (3, .int a3)] [] h (zl Z N) := by
  intro N
  induction N with
  | zero => intro _ a2 a3 h; exact z_none
  | succ N ih =>
    intro hN a2 a3 h
    rw [show f_law n L xs (N + 1) a2 a3 h = zlet (zlet (fun (h492 : zH) => zif1 (0 : Int32)) fun K492 => if a2 = 0 then (K492 h) else (zb2 (f_L_refused n 0 h) fun (r475 : Int32) (h475 : zH) => if r475 = 0 then (K492 h475) else (zb2 (f_L_fits n 0 h475) fun (r482 : Int32) (h482 : zH) => if r482 = 0 then (K492 h482) else (zif1 (1 : Int32))))) fun K470 => if (56 : Int32) ≤ a3 then (zlet (fun (h492_1 : zH) => zif1 (0 : Int32)) fun K492_1 => if a2 = 0 then (K492_1 h) else (zb2 (f_L_refused n 0 h) fun (r475_1 : Int32) (h475_1 : zH) => if r475_1 = 0 then (K492_1 h475_1) else (zb2 (f_L_fits n 0 h475_1) fun (r482_1 : Int32) (h482_1 : zH) => if r482_1 = 0 then (K492_1 h482_1) else (zif1 (1 : Int32))))) else (if a2 = 0 then (zlet (fun (h492_2 : zH) => zif1 (0 : Int32)) fun K492_2 => if a2 = 0 then (K492_2 h) else (zb2 (f_L_refused n 0 h) fun (r475_2 : Int32) (h475_2 : zH) => if r475_2 = 0 then (K492_2 h475_2) else (zb2 (f_L_fits n 0 h475_2) fun (r482_2 : Int32) (h482_2 : zH) => if r482_2 = 0 then (K492_2 h482_2) else (zif1 (1 : Int32))))) else ((f_L_cell L xs ((2 : Int32) * a3)).bind fun (r53 : Int32) => (f_L_cell L xs (((2 : Int32) * a3) + (1 : Int32))).bind fun (r64 : Int32) => zrc h 0 5 <| zb2 (f_X5_digest n 0 h) fun (r70 : Int64) (h70 : zH) => (f_L_values' n 0 (1 : Int32) h70).bind fun (r77 : Int32) => zlet (fun (s0_126 : Int32) => (f_L_low n (r53 >>> ((4 : Int32) &&& 31)) (9999999 : Int32) h70).bind fun (r137 : Int32) => zb2 (f_L_acts n 0 (((14 : Int32) * r137) + s0_126) r64 h70) fun (r146 : Int32) (h146 : zH) => zlet (fun (s0_178 : Int32) (h178 : zH) => zlet (fun (s0_236 : Int32) => zlet (fun (s0_291 : Int32) (h291 : zH) => zlet (fun (a2_464 : Int32) (h464 : zH) => zlet (a3 + 1) fun (x464 : Int32) => f_law n L xs N a2_464 x464 h464) fun K464 => if s0_291 = 0 then (K464 s0_291 h291) else (if (zrem a3 (7 : Int32)) = (6 : Int32) then (if s0_126 = (10 : Int32) then (K464 s0_291 h291) else ((f_L_players' n 0 (0 : Int32) (0 : Int32) h291).bind fun (r315 : Int32) => (f_L_towns' n 0 (5 : Int32) h291).bind fun (r322 : Int32) => (f_L_values' n 0 (7 : Int32) h291).bind fun (r330 : Int32) => (f_L_values' n 0 (3 : Int32) h291).bind fun (r337 : Int32) => (f_L_low n r64 (91 : Int32) h291).bind fun (r348 : Int32) => zb2 (f_L_setsTown n 0 (5 : Int32) r348 h291) fun (r351 : Int32) (h351 : zH) => zlet (fun (s0_390 : Int32) (h390 : zH) => zlet (fun (s0_463 : Int32) (h463 : zH) => K464 s0_463 h463) fun K463 => zlet (fun (h462 : zH) => K463 (0 : Int32) h462) fun K462 => if s0_390 = 0 then (K462 h390) else (zb2 (f_L_undoes n 0 h390) fun (r396 : Int32) (h396 : zH) => if r396 < 0 then (K462 h396) else (zb2 (f_L_undoes n 0 h396) fun (r403 : Int32) (h403 : zH) => if r403 < 0 then (K462 h403) else ((f_L_towns' n 0 (5 : Int32) h403).bind fun (r411 : Int32) => if r411 = r322 then ((f_L_players' n 0 (0 : Int32) (0 : Int32) h403).bind fun (r422 : Int32) => if r422 = r315 then ((f_L_values' n 0 (7 : Int32) h403).bind fun (r433 : Int32) => if r433 = r330 then ((f_L_values' n 0 (3 : Int32) h403).bind fun (r443 : Int32) => if r443 = r337 then (zb2 (f_L_fits n 0 h403) fun (r452 : Int32) (h452 : zH) => if r452 = 0 then (K462 h452) else (K463 (1 : Int32) h452)) else (K462 h403)) else (K462 h403)) else (K462 h403)) else (K462 h403))))) fun K390 => zlet (fun (h389 : zH) => K390 (0 : Int32) h389) fun K389 => if r351 = r322 then (zlet (fun (h385 : zH) => K390 (1 : Int32) h385) fun K385 => if r337 = (1 : Int32) then (zb2 (f_L_operates n 0 (-1 : Int32) (-1 : Int32) (0 : Int32) h351) fun (r369 : Int32) (h369 : zH) => if r369 < 0 then (K389 h369) else (K385 h369)) else (zb2 (f_L_passes n 0 h351) fun (r379 : Int32) (h379 : zH) => if r379 < 0 then (K389 h379) else (K385 h379))) else (K389 h351))) else (K464 s0_291 h291))) fun K291 => zlet (fun (h290 : zH) => K291 (0 : Int32) h290) fun K290 => if s0_236 = 0 then (K290 h178) else (zb2 (f_L_fits n 0 h178) fun (r242 : Int32) (h242 : zH) => if r242 = 0 then (K290 h242) else (zlet (fun (h271 : zH) => zlet (fun (h286 : zH) => K291 (1 : Int32) h286) fun K286 => if (zrem a3 (9 : Int32)) = (5 : Int32) then (zb2 (f_L_refused n 0 h271) fun (r280 : Int32) (h280 : zH) => if r280 = 0 then (K290 h280) else (K286 h280)) else (K286 h271)) fun K271 => if (zrem a3 (6 : Int32)) = (4 : Int32) then ((f_L_low n (r64 >>> ((3 : Int32) &&& 31)) (4 : Int32) h242).bind fun (r262 : Int32) => zb2 (f_L_isForetold n 0 r262 h242) fun (r265 : Int32) (h265 : zH) => if r265 = 0 then (K290 h265) else (K271 h265)) else (K271 h242)))) fun K236 => zlet (K236 (0 : Int32)) fun K235 => if s0_178 = 0 then (K235) else (zlet (K236 (1 : Int32)) fun K231 => if r146 < 0 then (K231) else (if s0_126 < (2 : Int32) then (K231) else (if (9 : Int32) < s0_126 then (K231) else (zlet (fun (s0_213 : Int32) => (f_L_values' n 0 (1 : Int32) h178).bind fun (r215 : Int32) => zlet (fun (s0_228 : Int32) => if s0_213 = s0_228 then (K231) else (K235)) fun K228 => if r215 = r77 then (K228 (1 : Int32)) else (K228 (0 : Int32))) fun K213 => if s0_126 = (6 : Int32) then (K213 (1 : Int32)) else (K213 (0 : Int32))))))) fun K178 => zlet (fun (h173 : zH) => K178 (1 : Int32) h173) fun K173 => if 0 ≤ r146 then (K173 h146) else (zlet (fun (h177 : zH) => K178 (0 : Int32) h177) fun K177 => if r146 = (-7 : Int32) then (K177 h146) else (zrc h146 0 5 <| zb2 (f_X5_digest n 0 h146) fun (r164 : Int64) (h164 : zH) => if (lg_cmp r164 r70) = 0 then (K173 h164) else (K177 h164)))) fun K126 => if a3 = (33 : Int32) then (K126 (0 : Int32)) else (if (3 : Int32) ≤ (zrem a3 (34 : Int32)) then ((f_L_low n r53 (14 : Int32) h70).bind fun (r108 : Int32) => if r108 = 0 then (K126 (12 : Int32)) else ((f_L_low n r53 (14 : Int32) h70).bind fun (r123 : Int32) => K126 r123)) else (K126 (2 : Int32))))) from rfl]
    refine z_widen (z' := zg Z (20000 - 100 * (N + 1)) (120000 - 600 * (N + 1)) 0) ⟨Nat.le_refl _, Nat.le_refl _, Nat.le_refl _⟩ ?_
    refine z_iload_n (pc := 39) C (zD D_L_law_0 20 rfl) rfl 3 rfl ?_
    refine z_bipush (pc := 40) (v := 56) C (zD D_L_law_0 21 rfl) (by decide) ?_
    refine z_letg (fun K470 => zJ B Z Q (K470) 470 [(1, .ref (B + 0)), (2, .int a2)] [] h (zg Z (20000 - 100 * (N + 1)) (120000 - 600 * (N + 1)) 49)) ?_ (fun K470 hK470 => ?_)
    · refine z_iload_n (pc := 470) C (zD D_L_law_4 4 rfl) rfl 1 rfl ?_
      refine z_letg (fun K492 => ∀ (h492 : zH), zJ B Z Q (K492 h492) 492 [] [] h492 (zg Z (20000 - 100 * (N + 1)) (120000 - 600 * (N + 1)) 80)) (fun h492 => ?_) (fun K492 hK492 => ?_)
      · refine z_iconst (pc := 492) (v := 0) C (zD D_L_law_4 14 rfl) (by decide) ?_
        refine z_if1 (fun e1 => ?_)
        exact hret _ _ _ _ e1 (zlr_l (Z := Z) (N := N + 1) (a := 80) (by decide))
      refine z_if_eq (pc := 471) C (zD D_L_law_4 5 rfl) (tgt := 492) (by decide) (fun _ => ?_) (fun _ => ?_)
      · refine z_sub [] (lv' := []) rfl ?_
        refine z_widen (z' := (zg Z (20000 - 100 * (N + 1)) (120000 - 600 * (N + 1)) 80)) (zg_up rfl rfl) ?_
        exact hK492 h
      · refine z_aload_n (pc := 474) C (zD D_L_law_4 6 rfl) rfl 0 rfl ?_
        refine z_sCI (pc := 475) (z' := (zg Z (20000 - 100 * (N + 1)) (120000 - 600 * (N + 1)) 80)) (As := [.ref (B + 0)]) C [] (c_L_refused _ hlz _ _ _ n 0 h) zn_L_refused (by decide) (by decide) (zlr_l (N := N + 1) (Z := Z) (a := 80) (by decide)) q_125 q_126 q_98 q_127 rfl rfl rfl (zD D_L_law_4 7 rfl) (zg_up rfl rfl) (fun r475 h475 => ?_)
        refine z_if_eq (pc := 478) C (zD D_L_law_4 8 rfl) (tgt := 492) (by decide) (fun _ => ?_) (fun _ => ?_)
        · refine z_sub [] (lv' := []) rfl ?_
          exact hK492 h475
        · refine z_aload_n (pc := 481) C (zD D_L_law_4 9 rfl) rfl 0 rfl ?_
          refine z_csI (pc := 482) (As := [.ref (B + 0)]) C [] (c_L_fits _ _ _ _ n 0 h475) zn_L_fits (by decide) (by decide) (zlr_l (Z := Z) (N := N + 1) (a := 80) (by decide)) q_540 q_541 q_98 q_542 rfl rfl rfl (zD D_L_law_4 10 rfl) (fun r482 h482 => ?_)
          refine z_if_eq (pc := 485) C (zD D_L_law_4 11 rfl) (tgt := 492) (by decide) (fun _ => ?_) (fun _ => ?_)
          · refine z_sub [] (lv' := []) rfl ?_
            exact hK492 h482
          · refine z_iconst (pc := 488) (v := 1) C (zD D_L_law_4 12 rfl) (by decide) ?_
            refine z_goto (pc := 489) C (zD D_L_law_4 13 rfl) (tgt := 493) (by decide) ?_
            refine z_if1 (fun e1 => ?_)
            exact hret _ _ _ _ e1 (zlr_l (Z := Z) (N := N + 1) (a := 80) (by decide))
    refine z_icmp_ge (pc := 42) C (zD D_L_law_0 22 rfl) (tgt := 470) (by decide) (fun _ => ?_) (fun _ => ?_)
    · refine z_widen (z' := zg Z 20000 120000 0) (zl_E (by decide)) ?_
      refine z_iload_n (pc := 470) C (zD D_L_law_4 4 rfl) rfl 2 rfl ?_
      refine z_letg (fun K492_1 => ∀ (h492_1 : zH), zJ B Z Q (K492_1 h492_1) 492 [] [] h492_1 (zg Z 20000 120000 31)) (fun h492_1 => ?_) (fun K492_1 hK492_1 => ?_)
      · refine z_iconst (pc := 492) (v := 0) C (zD D_L_law_4 14 rfl) (by decide) ?_
        refine z_if1 (fun e1 => ?_)
        exact hret _ _ _ _ e1 (zlr_e (Z := Z) (a := 31) (by decide))
      refine z_if_eq (pc := 471) C (zD D_L_law_4 5 rfl) (tgt := 492) (by decide) (fun _ => ?_) (fun _ => ?_)
      · refine z_sub [] (lv' := []) rfl ?_
        refine z_widen (z' := (zg Z 20000 120000 31)) (zg_up rfl rfl) ?_
        exact hK492_1 h
      · refine z_aload_n (pc := 474) C (zD D_L_law_4 6 rfl) rfl 1 rfl ?_
        refine z_sCI (pc := 475) (z' := (zg Z 20000 120000 31)) (As := [.ref (B + 0)]) C [] (c_L_refused _ hlz _ _ _ n 0 h) zn_L_refused (by decide) (by decide) (zlr_e (Z := Z) (a := 31) (by decide)) q_125 q_126 q_98 q_127 rfl rfl rfl (zD D_L_law_4 7 rfl) (zg_up rfl rfl) (fun r475_1 h475_1 => ?_)
        refine z_if_eq (pc := 478) C (zD D_L_law_4 8 rfl) (tgt := 492) (by decide) (fun _ => ?_) (fun _ => ?_)
        · refine z_sub [] (lv' := []) rfl ?_
          exact hK492_1 h475_1
        · refine z_aload_n (pc := 481) C (zD D_L_law_4 9 rfl) rfl 1 rfl ?_
          refine z_csI (pc := 482) (As := [.ref (B + 0)]) C [] (c_L_fits _ _ _ _ n 0 h475_1) zn_L_fits (by decide) (by decide) (zlr_e (Z := Z) (a := 31) (by decide)) q_540 q_541 q_98 q_542 rfl rfl rfl (zD D_L_law_4 10 rfl) (fun r482_1 h482_1 => ?_)
          refine z_if_eq (pc := 485) C (zD D_L_law_4 11 rfl) (tgt := 492) (by decide) (fun _ => ?_) (fun _ => ?_)
          · refine z_sub [] (lv' := []) rfl ?_
            exact hK492_1 h482_1
          · refine z_iconst (pc := 488) (v := 1) C (zD D_L_law_4 12 rfl) (by decide) ?_
            refine z_goto (pc := 489) C (zD D_L_law_4 13 rfl) (tgt := 493) (by decide) ?_
            refine z_if1 (fun e1 => ?_)
            exact hret _ _ _ _ e1 (zlr_e (Z := Z) (a := 31) (by decide))
    · refine z_iload_n (pc := 45) C (zD D_L_law_0 23 rfl) rfl 2 rfl ?_
      refine z_if_eq (pc := 46) C (zD D_L_law_0 24 rfl) (tgt := 470) (by decide) (fun _ => ?_) (fun _ => ?_)
      · refine z_widen (z' := zg Z 20000 120000 0) (zl_E (by decide)) ?_
        refine z_iload_n (pc := 470) C (zD D_L_law_4 4 rfl) rfl 2 rfl ?_
        refine z_letg (fun K492_2 => ∀ (h492_2 : zH), zJ B Z Q (K492_2 h492_2) 492 [] [] h492_2 (zg Z 20000 120000 31)) (fun h492_2 => ?_) (fun K492_2 hK492_2 => ?_)
        · refine z_iconst (pc := 492) (v := 0) C (zD D_L_law_4 14 rfl) (by decide) ?_
          refine z_if1 (fun e1 => ?_)
          exact hret _ _ _ _ e1 (zlr_e (Z := Z) (a := 31) (by decide))
        refine z_if_eq (pc := 471) C (zD D_L_law_4 5 rfl) (tgt := 492) (by decide) (fun _ => ?_) (fun _ => ?_)
        · refine z_sub [] (lv' := []) rfl ?_
          refine z_widen (z' := (zg Z 20000 120000 31)) (zg_up rfl rfl) ?_
          exact hK492_2 h
        · refine z_aload_n (pc := 474) C (zD D_L_law_4 6 rfl) rfl 1 rfl ?_
          refine z_sCI (pc := 475) (z' := (zg Z 20000 120000 31)) (As := [.ref (B + 0)]) C [] (c_L_refused _ hlz _ _ _ n 0 h) zn_L_refused (by decide) (by decide) (zlr_e (Z := Z) (a := 31) (by decide)) q_125 q_126 q_98 q_127 rfl rfl rfl (zD D_L_law_4 7 rfl) (zg_up rfl rfl) (fun r475_2 h475_2 => ?_)
          refine z_if_eq (pc := 478) C (zD D_L_law_4 8 rfl) (tgt := 492) (by decide) (fun _ => ?_) (fun _ => ?_)
          · refine z_sub [] (lv' := []) rfl ?_
            exact hK492_2 h475_2
          · refine z_aload_n (pc := 481) C (zD D_L_law_4 9 rfl) rfl 1 rfl ?_
            refine z_csI (pc := 482) (As := [.ref (B + 0)]) C [] (c_L_fits _ _ _ _ n 0 h475_2) zn_L_fits (by decide) (by decide) (zlr_e (Z := Z) (a := 31) (by decide)) q_540 q_541 q_98 q_542 rfl rfl rfl (zD D_L_law_4 10 rfl) (fun r482_2 h482_2 => ?_)
            refine z_if_eq (pc := 485) C (zD D_L_law_4 11 rfl) (tgt := 492) (by decide) (fun _ => ?_) (fun _ => ?_)
            · refine z_sub [] (lv' := []) rfl ?_
              exact hK492_2 h482_2
            · refine z_iconst (pc := 488) (v := 1) C (zD D_L_law_4 12 rfl) (by decide) ?_
              refine z_goto (pc := 489) C (zD D_L_law_4 13 rfl) (tgt := 493) (by decide) ?_
              refine z_if1 (fun e1 => ?_)
              exact hret _ _ _ _ e1 (zlr_e (Z := Z) (a := 31) (by decide))
      · refine z_aload_n (pc := 49) C (zD D_L_law_0 25 rfl) rfl 0 rfl ?_
        refine z_iconst (pc := 50) (v := 2) C (zD D_L_law_0 26 rfl) (by decide) ?_
        refine z_iload_n (pc := 51) C (zD D_L_law_0 27 rfl) rfl 3 rfl ?_
        refine z_imul (pc := 52) C (zD D_L_law_0 28 rfl) ?_
        refine z_callSS (pc := 53) (As := [.ref b, .int ((2 : Int32) * a3)]) C hX hbl hbB [] (c_L_cell _ _ _ _ b L xs ((2 : Int32) * a3) h) zn_L_cell (by decide) (by decide) (zlr_l (Z := Z) (N := N + 1) (a := 0) (by decide)) q_562 q_563 q_98 q_564 rfl rfl rfl (zD D_L_law_0 29 rfl) (fun r53 => ?_)
        refine z_istore (pc := 56) (lv' := [(4, .int r53), (0, .ref b), (1, .ref (B + 0)), (2, .int a2), (3, .int a3)]) C (zD D_L_law_0 30 rfl) (by decide) rfl ?_
        refine z_aload_n (pc := 58) C (zD D_L_law_0 31 rfl) rfl 1 rfl ?_
        refine z_iconst (pc := 59) (v := 2) C (zD D_L_law_0 32 rfl) (by decide) ?_
        refine z_iload_n (pc := 60) C (zD D_L_law_0 33 rfl) rfl 4 rfl ?_
        refine z_imul (pc := 61) C (zD D_L_law_0 34 rfl) ?_
        refine z_iconst (pc := 62) (v := 1) C (zD D_L_law_0 35 rfl) (by decide) ?_
        refine z_iadd (pc := 63) C (zD D_L_law_0 36 rfl) ?_
        refine z_callSS (pc := 64) (As := [.ref b, .int (((2 : Int32) * a3) + (1 : Int32))]) C hX hbl hbB [] (c_L_cell _ _ _ _ b L xs (((2 : Int32) * a3) + (1 : Int32)) h) zn_L_cell (by decide) (by decide) (zlr_l (Z := Z) (N := N + 1) (a := 0) (by decide)) q_562 q_563 q_98 q_564 rfl rfl rfl (zD D_L_law_0 37 rfl) (fun r64 => ?_)
        refine z_istore (pc := 67) (lv' := [(5, .int r64), (4, .int r53), (0, .ref b), (1, .ref (B + 0)), (2, .int a2), (3, .int a3)]) C (zD D_L_law_0 38 rfl) (by decide) rfl ?_
        refine z_aload_n (pc := 69) C (zD D_L_law_0 39 rfl) rfl 3 rfl ?_
        refine z_cvL (pc := 70) (As := []) C [] (c_X5_digest _ _ _ _ n 0 h) zn_X5_digest (by decide) (by decide) (zlr_l (Z := Z) (N := N + 1) (a := 0) (by decide)) zc5 rfl q_130 q_131 q_132 q_2 q_133 rfl rfl rfl (zD D_L_law_0 40 rfl) (fun r70 h70 => ?_)
        refine z_lstore (pc := 73) (lv' := [(6, .long r70), (5, .int r64), (4, .int r53), (0, .ref b), (1, .ref (B + 0)), (2, .int a2), (3, .int a3)]) C (zD D_L_law_0 41 rfl) (by decide) rfl ?_
        refine z_aload_n (pc := 75) C (zD D_L_law_0 42 rfl) rfl 4 rfl ?_
        refine z_iconst (pc := 76) (v := 1) C (zD D_L_law_0 43 rfl) (by decide) ?_
        refine z_sWR (pc := 77) (As := [.ref (B + 0), .int (1 : Int32)]) C [] (c_L_values' _ _ _ _ n 0 (1 : Int32) h70) zn_L_values (by decide) (by decide) (zlr_l (Z := Z) (N := N + 1) (a := 0) (by decide)) q_263 q_264 q_98 q_265 rfl rfl rfl (zD D_L_law_0 44 rfl) (fun r77 => ?_)
        refine z_istore (pc := 80) (lv' := [(8, .int r77), (6, .long r70), (5, .int r64), (4, .int r53), (0, .ref b), (1, .ref (B + 0)), (2, .int a2), (3, .int a3)]) C (zD D_L_law_0 45 rfl) (by decide) rfl ?_
        refine z_iload_n (pc := 82) C (zD D_L_law_0 46 rfl) rfl 7 rfl ?_
        refine z_bipush (pc := 83) (v := 33) C (zD D_L_law_0 47 rfl) (by decide) ?_
        refine z_letg (fun K126 => ∀ (s0_126 : Int32), zJ B Z Q (K126 s0_126) 126 [(0, .ref b), (1, .ref (B + 0)), (3, .int a3), (4, .int r53), (5, .int r64), (6, .long r70), (8, .int r77)] [.int s0_126] h70 (zg Z (20000 - 100 * (N + 1)) (120000 - 600 * (N + 1)) 0)) (fun s0_126 => ?_) (fun K126 hK126 => ?_)
        · refine z_istore (pc := 126) (lv' := [(9, .int s0_126), (0, .ref b), (1, .ref (B + 0)), (3, .int a3), (4, .int r53), (5, .int r64), (6, .long r70), (8, .int r77)]) C (zD D_L_law_1 7 rfl) (by decide) rfl ?_
          refine z_aload_n (pc := 128) C (zD D_L_law_1 8 rfl) rfl 2 rfl ?_
          refine z_bipush (pc := 129) (v := 14) C (zD D_L_law_1 9 rfl) (by decide) ?_
          refine z_iload (pc := 131) C (zD D_L_law_1 10 rfl) 4 rfl ?_
          refine z_iconst (pc := 133) (v := 4) C (zD D_L_law_1 11 rfl) (by decide) ?_
          refine z_ishr (pc := 134) C (zD D_L_law_1 12 rfl) ?_
          refine z_ldc (pc := 135) (v := 9999999) C q_4 (zD D_L_law_1 13 rfl) ?_
          refine z_csR (pc := 137) (As := [.int (r53 >>> ((4 : Int32) &&& 31)), .int (9999999 : Int32)]) C [.int (14 : Int32), .ref (B + 0)] (c_L_low _ _ _ _ n (r53 >>> ((4 : Int32) &&& 31)) (9999999 : Int32) h70) zn_L_low (by decide) (by decide) (zlr_l (Z := Z) (N := N + 1) (a := 0) (by decide)) q_566 q_567 q_98 q_568 rfl rfl rfl (zD D_L_law_1 14 rfl) (fun r137 => ?_)
          refine z_imul (pc := 140) C (zD D_L_law_1 15 rfl) ?_
          refine z_iload (pc := 141) C (zD D_L_law_1 16 rfl) 0 rfl ?_
          refine z_iadd (pc := 143) C (zD D_L_law_1 17 rfl) ?_
          refine z_iload (pc := 144) C (zD D_L_law_1 18 rfl) 5 rfl ?_
          refine z_sCI (pc := 146) (z' := (zg Z (20000 - 100 * (N + 1)) (120000 - 600 * (N + 1)) 13)) (As := [.ref (B + 0), .int (((14 : Int32) * r137) + s0_126), .int r64]) C [] (c_L_acts _ hlz _ _ _ n 0 (((14 : Int32) * r137) + s0_126) r64 h70) zn_L_acts (by decide) (by decide) (zlr_l (N := N + 1) (Z := Z) (a := 13) (by decide)) q_570 q_571 q_98 q_572 rfl rfl rfl (zD D_L_law_1 19 rfl) (zg_up rfl rfl) (fun r146 h146 => ?_)
          refine z_istore (pc := 149) (lv' := [(10, .int r146), (9, .int s0_126), (0, .ref b), (1, .ref (B + 0)), (3, .int a3), (4, .int r53), (5, .int r64), (6, .long r70), (8, .int r77)]) C (zD D_L_law_1 20 rfl) (by decide) rfl ?_
          refine z_iload (pc := 151) C (zD D_L_law_1 21 rfl) 0 rfl ?_
          refine z_letg (fun K178 => ∀ (s0_178 : Int32) (h178 : zH), zJ B Z Q (K178 s0_178 h178) 178 [(0, .ref b), (1, .ref (B + 0)), (3, .int a3), (5, .int r64), (8, .int r77), (9, .int s0_126), (10, .int r146)] [.int s0_178] h178 (zg Z (20000 - 100 * (N + 1)) (120000 - 600 * (N + 1)) 13)) (fun s0_178 h178 => ?_) (fun K178 hK178 => ?_)
          · refine z_istore_n (pc := 178) (lv' := [(2, .int s0_178), (0, .ref b), (1, .ref (B + 0)), (3, .int a3), (5, .int r64), (8, .int r77), (9, .int s0_126), (10, .int r146)]) C (zD D_L_law_1 34 rfl) rfl (by decide) rfl ?_
            refine z_iload_n (pc := 179) C (zD D_L_law_1 35 rfl) rfl 0 rfl ?_
            refine z_letg (fun K236 => ∀ (s0_236 : Int32), zJ B Z Q (K236 s0_236) 236 [(0, .ref b), (1, .ref (B + 0)), (3, .int a3), (5, .int r64), (9, .int s0_126)] [.int s0_236] h178 (zg Z (20000 - 100 * (N + 1)) (120000 - 600 * (N + 1)) 13)) (fun s0_236 => ?_) (fun K236 hK236 => ?_)
            · refine z_istore_n (pc := 236) (lv' := [(2, .int s0_236), (0, .ref b), (1, .ref (B + 0)), (3, .int a3), (5, .int r64), (9, .int s0_126)]) C (zD D_L_law_2 3 rfl) rfl (by decide) rfl ?_
              refine z_iload_n (pc := 237) C (zD D_L_law_2 4 rfl) rfl 0 rfl ?_
              refine z_letg (fun K291 => ∀ (s0_291 : Int32) (h291 : zH), zJ B Z Q (K291 s0_291 h291) 291 [(0, .ref b), (1, .ref (B + 0)), (3, .int a3), (5, .int r64), (9, .int s0_126)] [.int s0_291] h291 (zg Z (20000 - 100 * (N + 1)) (120000 - 600 * (N + 1)) 44)) (fun s0_291 h291 => ?_) (fun K291 hK291 => ?_)
              · refine z_istore_n (pc := 291) (lv' := [(2, .int s0_291), (0, .ref b), (1, .ref (B + 0)), (3, .int a3), (5, .int r64), (9, .int s0_126)]) C (zD D_L_law_2 33 rfl) rfl (by decide) rfl ?_
                refine z_iload_n (pc := 292) C (zD D_L_law_2 34 rfl) rfl 0 rfl ?_
                refine z_letg (fun K464 => ∀ (a2_464 : Int32) (h464 : zH), zJ B Z Q (K464 a2_464 h464) 464 [(0, .ref b), (1, .ref (B + 0)), (2, .int a2_464), (3, .int a3)] [] h464 (zg Z (20000 - 100 * (N + 1)) (120000 - 600 * (N + 1)) 49)) (fun a2_464 h464 => ?_) (fun K464 hK464 => ?_)
                · refine z_iincL (pc := 464) (lv' := fun x464 => [(3, .int x464), (0, .ref b), (1, .ref (B + 0)), (2, .int a2_464)]) C (zD D_L_law_4 2 rfl) 3 rfl (v := a3 + 1) rfl (by decide) (fun _ => rfl) (fun x464 => ?_)
                  refine z_goto (pc := 467) C (zD D_L_law_4 3 rfl) (tgt := 39) (by decide) ?_
                  refine z_sub [1, 2, 3, 0] (lv' := [(0, .ref b), (1, .ref (B + 0)), (2, .int a2_464), (3, .int x464)]) rfl ?_
                  refine z_widen (z' := zl Z N) (zl_N hN (by decide)) ?_
                  exact ih (Nat.le_of_succ_le hN) a2_464 x464 h464
                refine z_if_eq (pc := 293) C (zD D_L_law_2 35 rfl) (tgt := 464) (by decide) (fun _ => ?_) (fun _ => ?_)
                · refine z_sub [1, 2, 0, 3] (lv' := [(0, .ref b), (1, .ref (B + 0)), (2, .int s0_291), (3, .int a3)]) rfl ?_
                  refine z_widen (z' := (zg Z (20000 - 100 * (N + 1)) (120000 - 600 * (N + 1)) 49)) (zg_up rfl rfl) ?_
                  exact hK464 s0_291 h291
                · refine z_iload_n (pc := 296) C (zD D_L_law_2 36 rfl) rfl 3 rfl ?_
                  refine z_bipush (pc := 297) (v := 7) C (zD D_L_law_2 37 rfl) (by decide) ?_
                  refine z_iremc (pc := 299) C (zD D_L_law_2 38 rfl) (by decide) ?_
                  refine z_bipush (pc := 300) (v := 6) C (zD D_L_law_2 39 rfl) (by decide) ?_
                  refine z_icmp_ne (pc := 302) C (zD D_L_law_2 40 rfl) (tgt := 464) (by decide) (fun _ => ?_) (fun _ => ?_)
                  · refine z_sub [1, 2, 0, 3] (lv' := [(0, .ref b), (1, .ref (B + 0)), (2, .int s0_291), (3, .int a3)]) rfl ?_
                    refine z_widen (z' := (zg Z (20000 - 100 * (N + 1)) (120000 - 600 * (N + 1)) 49)) (zg_up rfl rfl) ?_
                    exact hK464 s0_291 h291
                  · refine z_iload (pc := 305) C (zD D_L_law_2 41 rfl) 5 rfl ?_
                    refine z_bipush (pc := 307) (v := 10) C (zD D_L_law_2 42 rfl) (by decide) ?_
                    refine z_icmp_eq (pc := 309) C (zD D_L_law_2 43 rfl) (tgt := 464) (by decide) (fun _ => ?_) (fun _ => ?_)
                    · refine z_sub [1, 2, 0, 3] (lv' := [(0, .ref b), (1, .ref (B + 0)), (2, .int s0_291), (3, .int a3)]) rfl ?_
                      refine z_widen (z' := (zg Z (20000 - 100 * (N + 1)) (120000 - 600 * (N + 1)) 49)) (zg_up rfl rfl) ?_
                      exact hK464 s0_291 h291
                    · refine z_aload_n (pc := 312) C (zD D_L_law_2 44 rfl) rfl 2 rfl ?_
                      refine z_iconst (pc := 313) (v := 0) C (zD D_L_law_2 45 rfl) (by decide) ?_
                      refine z_iconst (pc := 314) (v := 0) C (zD D_L_law_2 46 rfl) (by decide) ?_
                      refine z_sWR (pc := 315) (As := [.ref (B + 0), .int (0 : Int32), .int (0 : Int32)]) C [] (c_L_players' _ _ _ _ n 0 (0 : Int32) (0 : Int32) h291) zn_L_players (by decide) (by decide) (zlr_l (Z := Z) (N := N + 1) (a := 44) (by decide)) q_444 q_445 q_98 q_446 rfl rfl rfl (zD D_L_law_2 47 rfl) (fun r315 => ?_)
                      refine z_istore (pc := 318) (lv' := [(11, .int r315), (2, .int s0_291), (0, .ref b), (1, .ref (B + 0)), (3, .int a3), (5, .int r64), (9, .int s0_126)]) C (zD D_L_law_2 48 rfl) (by decide) rfl ?_
                      refine z_aload_n (pc := 320) C (zD D_L_law_2 49 rfl) rfl 3 rfl ?_
                      refine z_iconst (pc := 321) (v := 5) C (zD D_L_law_2 50 rfl) (by decide) ?_
                      refine z_sWR (pc := 322) (As := [.ref (B + 0), .int (5 : Int32)]) C [] (c_L_towns' _ _ _ _ n 0 (5 : Int32) h291) zn_L_towns (by decide) (by decide) (zlr_l (Z := Z) (N := N + 1) (a := 44) (by decide)) q_456 q_457 q_98 q_458 rfl rfl rfl (zD D_L_law_2 51 rfl) (fun r322 => ?_)
                      refine z_istore (pc := 325) (lv' := [(12, .int r322), (11, .int r315), (2, .int s0_291), (0, .ref b), (1, .ref (B + 0)), (3, .int a3), (5, .int r64), (9, .int s0_126)]) C (zD D_L_law_2 52 rfl) (by decide) rfl ?_
                      refine z_aload_n (pc := 327) C (zD D_L_law_2 53 rfl) rfl 4 rfl ?_
                      refine z_bipush (pc := 328) (v := 7) C (zD D_L_law_2 54 rfl) (by decide) ?_
                      refine z_sWR (pc := 330) (As := [.ref (B + 0), .int (7 : Int32)]) C [] (c_L_values' _ _ _ _ n 0 (7 : Int32) h291) zn_L_values (by decide) (by decide) (zlr_l (Z := Z) (N := N + 1) (a := 44) (by decide)) q_263 q_264 q_98 q_265 rfl rfl rfl (zD D_L_law_2 55 rfl) (fun r330 => ?_)
                      refine z_istore (pc := 333) (lv' := [(13, .int r330), (12, .int r322), (11, .int r315), (2, .int s0_291), (0, .ref b), (1, .ref (B + 0)), (3, .int a3), (5, .int r64), (9, .int s0_126)]) C (zD D_L_law_2 56 rfl) (by decide) rfl ?_
                      refine z_aload_n (pc := 335) C (zD D_L_law_2 57 rfl) rfl 5 rfl ?_
                      refine z_iconst (pc := 336) (v := 3) C (zD D_L_law_2 58 rfl) (by decide) ?_
                      refine z_sWR (pc := 337) (As := [.ref (B + 0), .int (3 : Int32)]) C [] (c_L_values' _ _ _ _ n 0 (3 : Int32) h291) zn_L_values (by decide) (by decide) (zlr_l (Z := Z) (N := N + 1) (a := 44) (by decide)) q_263 q_264 q_98 q_265 rfl rfl rfl (zD D_L_law_2 59 rfl) (fun r337 => ?_)
                      refine z_istore (pc := 340) (lv' := [(14, .int r337), (13, .int r330), (12, .int r322), (11, .int r315), (2, .int s0_291), (0, .ref b), (1, .ref (B + 0)), (3, .int a3), (5, .int r64), (9, .int s0_126)]) C (zD D_L_law_3 0 rfl) (by decide) rfl ?_
                      refine z_aload_n (pc := 342) C (zD D_L_law_3 1 rfl) rfl 6 rfl ?_
                      refine z_iconst (pc := 343) (v := 5) C (zD D_L_law_3 2 rfl) (by decide) ?_
                      refine z_iload (pc := 344) C (zD D_L_law_3 3 rfl) 8 rfl ?_
                      refine z_bipush (pc := 346) (v := 91) C (zD D_L_law_3 4 rfl) (by decide) ?_
                      refine z_csR (pc := 348) (As := [.int r64, .int (91 : Int32)]) C [.int (5 : Int32), .ref (B + 0)] (c_L_low _ _ _ _ n r64 (91 : Int32) h291) zn_L_low (by decide) (by decide) (zlr_l (Z := Z) (N := N + 1) (a := 44) (by decide)) q_566 q_567 q_98 q_568 rfl rfl rfl (zD D_L_law_3 5 rfl) (fun r348 => ?_)
                      refine z_sWI (pc := 351) (z' := (zg Z (20000 - 100 * (N + 1)) (120000 - 600 * (N + 1)) 45)) (As := [.ref (B + 0), .int (5 : Int32), .int r348]) C [] (fun u hu => zMW_of (c_L_setsTown _ hlz _ _ _ n 0 (5 : Int32) r348 h291 u hu)) zn_L_setsTown (by decide) (by decide) (zlr_l (N := N + 1) (Z := Z) (a := 45) (by decide)) q_281 q_282 q_98 q_283 rfl rfl rfl (zD D_L_law_3 6 rfl) (zg_up rfl rfl) (fun r351 h351 => ?_)
                      refine z_iload (pc := 354) C (zD D_L_law_3 7 rfl) 2 rfl ?_
                      refine z_letg (fun K390 => ∀ (s0_390 : Int32) (h390 : zH), zJ B Z Q (K390 s0_390 h390) 390 [(0, .ref b), (1, .ref (B + 0)), (3, .int a3), (11, .int r315), (12, .int r322), (13, .int r330), (14, .int r337)] [.int s0_390] h390 (zg Z (20000 - 100 * (N + 1)) (120000 - 600 * (N + 1)) 47)) (fun s0_390 h390 => ?_) (fun K390 hK390 => ?_)
                      · refine z_istore_n (pc := 390) (lv' := [(2, .int s0_390), (0, .ref b), (1, .ref (B + 0)), (3, .int a3), (11, .int r315), (12, .int r322), (13, .int r330), (14, .int r337)]) C (zD D_L_law_3 25 rfl) rfl (by decide) rfl ?_
                        refine z_iload_n (pc := 391) C (zD D_L_law_3 26 rfl) rfl 0 rfl ?_
                        refine z_letg (fun K463 => ∀ (s0_463 : Int32) (h463 : zH), zJ B Z Q (K463 s0_463 h463) 463 [(0, .ref b), (1, .ref (B + 0)), (3, .int a3)] [.int s0_463] h463 (zg Z (20000 - 100 * (N + 1)) (120000 - 600 * (N + 1)) 49)) (fun s0_463 h463 => ?_) (fun K463 hK463 => ?_)
                        · refine z_istore_n (pc := 463) (lv' := [(2, .int s0_463), (0, .ref b), (1, .ref (B + 0)), (3, .int a3)]) C (zD D_L_law_4 1 rfl) rfl (by decide) rfl ?_
                          refine z_sub [1, 2, 0, 3] (lv' := [(0, .ref b), (1, .ref (B + 0)), (2, .int s0_463), (3, .int a3)]) rfl ?_
                          exact hK464 s0_463 h463
                        refine z_letg (fun K462 => ∀ (h462 : zH), zJ B Z Q (K462 h462) 462 [(0, .ref b), (1, .ref (B + 0)), (3, .int a3)] [] h462 (zg Z (20000 - 100 * (N + 1)) (120000 - 600 * (N + 1)) 49)) (fun h462 => ?_) (fun K462 hK462 => ?_)
                        · refine z_iconst (pc := 462) (v := 0) C (zD D_L_law_4 0 rfl) (by decide) ?_
                          exact hK463 (0 : Int32) h462
                        refine z_if_eq (pc := 392) C (zD D_L_law_3 27 rfl) (tgt := 462) (by decide) (fun _ => ?_) (fun _ => ?_)
                        · refine z_sub [1, 2, 3] (lv' := [(0, .ref b), (1, .ref (B + 0)), (3, .int a3)]) rfl ?_
                          refine z_widen (z' := (zg Z (20000 - 100 * (N + 1)) (120000 - 600 * (N + 1)) 49)) (zg_up rfl rfl) ?_
                          exact hK462 h390
                        · refine z_aload_n (pc := 395) C (zD D_L_law_3 28 rfl) rfl 2 rfl ?_
                          refine z_sWI (pc := 396) (z' := (zg Z (20000 - 100 * (N + 1)) (120000 - 600 * (N + 1)) 48)) (As := [.ref (B + 0)]) C [] (fun u hu => zMW_of (c_L_undoes _ hlz _ _ _ n 0 h390 u hu)) zn_L_undoes (by decide) (by decide) (zlr_l (N := N + 1) (Z := Z) (a := 48) (by decide)) q_96 q_97 q_98 q_99 rfl rfl rfl (zD D_L_law_3 29 rfl) (zg_up rfl rfl) (fun r396 h396 => ?_)
                          refine z_if_lt (pc := 399) C (zD D_L_law_3 30 rfl) (tgt := 462) (by decide) (fun _ => ?_) (fun _ => ?_)
                          · refine z_sub [1, 2, 3] (lv' := [(0, .ref b), (1, .ref (B + 0)), (3, .int a3)]) rfl ?_
                            refine z_widen (z' := (zg Z (20000 - 100 * (N + 1)) (120000 - 600 * (N + 1)) 49)) (zg_up rfl rfl) ?_
                            exact hK462 h396
                          · refine z_aload_n (pc := 402) C (zD D_L_law_3 31 rfl) rfl 2 rfl ?_
                            refine z_sWI (pc := 403) (z' := (zg Z (20000 - 100 * (N + 1)) (120000 - 600 * (N + 1)) 49)) (As := [.ref (B + 0)]) C [] (fun u hu => zMW_of (c_L_undoes _ hlz _ _ _ n 0 h396 u hu)) zn_L_undoes (by decide) (by decide) (zlr_l (N := N + 1) (Z := Z) (a := 49) (by decide)) q_96 q_97 q_98 q_99 rfl rfl rfl (zD D_L_law_3 32 rfl) (zg_up rfl rfl) (fun r403 h403 => ?_)
                            refine z_if_lt (pc := 406) C (zD D_L_law_3 33 rfl) (tgt := 462) (by decide) (fun _ => ?_) (fun _ => ?_)
                            · refine z_sub [1, 2, 3] (lv' := [(0, .ref b), (1, .ref (B + 0)), (3, .int a3)]) rfl ?_
                              exact hK462 h403
                            · refine z_aload_n (pc := 409) C (zD D_L_law_3 34 rfl) rfl 2 rfl ?_
                              refine z_iconst (pc := 410) (v := 5) C (zD D_L_law_3 35 rfl) (by decide) ?_
                              refine z_sWR (pc := 411) (As := [.ref (B + 0), .int (5 : Int32)]) C [] (c_L_towns' _ _ _ _ n 0 (5 : Int32) h403) zn_L_towns (by decide) (by decide) (zlr_l (Z := Z) (N := N + 1) (a := 49) (by decide)) q_456 q_457 q_98 q_458 rfl rfl rfl (zD D_L_law_3 36 rfl) (fun r411 => ?_)
                              refine z_iload (pc := 414) C (zD D_L_law_3 37 rfl) 5 rfl ?_
                              refine z_icmp_ne (pc := 416) C (zD D_L_law_3 38 rfl) (tgt := 462) (by decide) (fun _ => ?_) (fun _ => ?_)
                              · refine z_sub [1, 2, 3] (lv' := [(0, .ref b), (1, .ref (B + 0)), (3, .int a3)]) rfl ?_
                                exact hK462 h403
                              · refine z_aload_n (pc := 419) C (zD D_L_law_3 39 rfl) rfl 2 rfl ?_
                                refine z_iconst (pc := 420) (v := 0) C (zD D_L_law_3 40 rfl) (by decide) ?_
                                refine z_iconst (pc := 421) (v := 0) C (zD D_L_law_3 41 rfl) (by decide) ?_
                                refine z_sWR (pc := 422) (As := [.ref (B + 0), .int (0 : Int32), .int (0 : Int32)]) C [] (c_L_players' _ _ _ _ n 0 (0 : Int32) (0 : Int32) h403) zn_L_players (by decide) (by decide) (zlr_l (Z := Z) (N := N + 1) (a := 49) (by decide)) q_444 q_445 q_98 q_446 rfl rfl rfl (zD D_L_law_3 42 rfl) (fun r422 => ?_)
                                refine z_iload (pc := 425) C (zD D_L_law_3 43 rfl) 4 rfl ?_
                                refine z_icmp_ne (pc := 427) C (zD D_L_law_3 44 rfl) (tgt := 462) (by decide) (fun _ => ?_) (fun _ => ?_)
                                · refine z_sub [1, 2, 3] (lv' := [(0, .ref b), (1, .ref (B + 0)), (3, .int a3)]) rfl ?_
                                  exact hK462 h403
                                · refine z_aload_n (pc := 430) C (zD D_L_law_3 45 rfl) rfl 2 rfl ?_
                                  refine z_bipush (pc := 431) (v := 7) C (zD D_L_law_3 46 rfl) (by decide) ?_
                                  refine z_sWR (pc := 433) (As := [.ref (B + 0), .int (7 : Int32)]) C [] (c_L_values' _ _ _ _ n 0 (7 : Int32) h403) zn_L_values (by decide) (by decide) (zlr_l (Z := Z) (N := N + 1) (a := 49) (by decide)) q_263 q_264 q_98 q_265 rfl rfl rfl (zD D_L_law_3 47 rfl) (fun r433 => ?_)
                                  refine z_iload (pc := 436) C (zD D_L_law_3 48 rfl) 6 rfl ?_
                                  refine z_icmp_ne (pc := 438) C (zD D_L_law_3 49 rfl) (tgt := 462) (by decide) (fun _ => ?_) (fun _ => ?_)
                                  · refine z_sub [1, 2, 3] (lv' := [(0, .ref b), (1, .ref (B + 0)), (3, .int a3)]) rfl ?_
                                    exact hK462 h403
                                  · refine z_aload_n (pc := 441) C (zD D_L_law_3 50 rfl) rfl 2 rfl ?_
                                    refine z_iconst (pc := 442) (v := 3) C (zD D_L_law_3 51 rfl) (by decide) ?_
                                    refine z_sWR (pc := 443) (As := [.ref (B + 0), .int (3 : Int32)]) C [] (c_L_values' _ _ _ _ n 0 (3 : Int32) h403) zn_L_values (by decide) (by decide) (zlr_l (Z := Z) (N := N + 1) (a := 49) (by decide)) q_263 q_264 q_98 q_265 rfl rfl rfl (zD D_L_law_3 52 rfl) (fun r443 => ?_)
                                    refine z_iload (pc := 446) C (zD D_L_law_3 53 rfl) 7 rfl ?_
                                    refine z_icmp_ne (pc := 448) C (zD D_L_law_3 54 rfl) (tgt := 462) (by decide) (fun _ => ?_) (fun _ => ?_)
                                    · refine z_sub [1, 2, 3] (lv' := [(0, .ref b), (1, .ref (B + 0)), (3, .int a3)]) rfl ?_
                                      exact hK462 h403
                                    · refine z_aload_n (pc := 451) C (zD D_L_law_3 55 rfl) rfl 2 rfl ?_
                                      refine z_csI (pc := 452) (As := [.ref (B + 0)]) C [] (c_L_fits _ _ _ _ n 0 h403) zn_L_fits (by decide) (by decide) (zlr_l (Z := Z) (N := N + 1) (a := 49) (by decide)) q_540 q_541 q_98 q_542 rfl rfl rfl (zD D_L_law_3 56 rfl) (fun r452 h452 => ?_)
                                      refine z_if_eq (pc := 455) C (zD D_L_law_3 57 rfl) (tgt := 462) (by decide) (fun _ => ?_) (fun _ => ?_)
                                      · refine z_sub [1, 2, 3] (lv' := [(0, .ref b), (1, .ref (B + 0)), (3, .int a3)]) rfl ?_
                                        exact hK462 h452
                                      · refine z_iconst (pc := 458) (v := 1) C (zD D_L_law_3 58 rfl) (by decide) ?_
                                        refine z_goto (pc := 459) C (zD D_L_law_3 59 rfl) (tgt := 463) (by decide) ?_
                                        refine z_sub [1, 2, 3] (lv' := [(0, .ref b), (1, .ref (B + 0)), (3, .int a3)]) rfl ?_
                                        exact hK463 (1 : Int32) h452
                      refine z_letg (fun K389 => ∀ (h389 : zH), zJ B Z Q (K389 h389) 389 [(0, .ref b), (1, .ref (B + 0)), (3, .int a3), (11, .int r315), (12, .int r322), (13, .int r330), (14, .int r337)] [] h389 (zg Z (20000 - 100 * (N + 1)) (120000 - 600 * (N + 1)) 47)) (fun h389 => ?_) (fun K389 hK389 => ?_)
                      · refine z_iconst (pc := 389) (v := 0) C (zD D_L_law_3 24 rfl) (by decide) ?_
                        exact hK390 (0 : Int32) h389
                      refine z_icmp_ne (pc := 356) C (zD D_L_law_3 8 rfl) (tgt := 389) (by decide) (fun _ => ?_) (fun _ => ?_)
                      · refine z_sub [5, 6, 7, 3, 2, 1, 0] (lv' := [(0, .ref b), (1, .ref (B + 0)), (3, .int a3), (11, .int r315), (12, .int r322), (13, .int r330), (14, .int r337)]) rfl ?_
                        refine z_widen (z' := (zg Z (20000 - 100 * (N + 1)) (120000 - 600 * (N + 1)) 47)) (zg_up rfl rfl) ?_
                        exact hK389 h351
                      · refine z_iload (pc := 359) C (zD D_L_law_3 9 rfl) 0 rfl ?_
                        refine z_iconst (pc := 361) (v := 1) C (zD D_L_law_3 10 rfl) (by decide) ?_
                        refine z_letg (fun K385 => ∀ (h385 : zH), zJ B Z Q (K385 h385) 385 [(0, .ref b), (1, .ref (B + 0)), (3, .int a3), (11, .int r315), (12, .int r322), (13, .int r330), (14, .int r337)] [] h385 (zg Z (20000 - 100 * (N + 1)) (120000 - 600 * (N + 1)) 47)) (fun h385 => ?_) (fun K385 hK385 => ?_)
                        · refine z_iconst (pc := 385) (v := 1) C (zD D_L_law_3 22 rfl) (by decide) ?_
                          refine z_goto (pc := 386) C (zD D_L_law_3 23 rfl) (tgt := 390) (by decide) ?_
                          exact hK390 (1 : Int32) h385
                        refine z_icmp_ne (pc := 362) C (zD D_L_law_3 11 rfl) (tgt := 378) (by decide) (fun _ => ?_) (fun _ => ?_)
                        · refine z_aload_n (pc := 378) C (zD D_L_law_3 19 rfl) rfl 6 rfl ?_
                          refine z_sWI (pc := 379) (z' := (zg Z (20000 - 100 * (N + 1)) (120000 - 600 * (N + 1)) 46)) (As := [.ref (B + 0)]) C [] (fun u hu => zMW_of (c_L_passes _ hlz _ _ _ n 0 h351 u hu)) zn_L_passes (by decide) (by decide) (zlr_l (N := N + 1) (Z := Z) (a := 46) (by decide)) q_520 q_521 q_98 q_522 rfl rfl rfl (zD D_L_law_3 20 rfl) (zg_up rfl rfl) (fun r379 h379 => ?_)
                          refine z_if_lt (pc := 382) C (zD D_L_law_3 21 rfl) (tgt := 389) (by decide) (fun _ => ?_) (fun _ => ?_)
                          · refine z_sub [5, 6, 7, 3, 2, 1, 0] (lv' := [(0, .ref b), (1, .ref (B + 0)), (3, .int a3), (11, .int r315), (12, .int r322), (13, .int r330), (14, .int r337)]) rfl ?_
                            refine z_widen (z' := (zg Z (20000 - 100 * (N + 1)) (120000 - 600 * (N + 1)) 47)) (zg_up rfl rfl) ?_
                            exact hK389 h379
                          · refine z_sub [5, 6, 7, 3, 2, 1, 0] (lv' := [(0, .ref b), (1, .ref (B + 0)), (3, .int a3), (11, .int r315), (12, .int r322), (13, .int r330), (14, .int r337)]) rfl ?_
                            refine z_widen (z' := (zg Z (20000 - 100 * (N + 1)) (120000 - 600 * (N + 1)) 47)) (zg_up rfl rfl) ?_
                            exact hK385 h379
                        · refine z_aload_n (pc := 365) C (zD D_L_law_3 12 rfl) rfl 6 rfl ?_
                          refine z_iconst (pc := 366) (v := -1) C (zD D_L_law_3 13 rfl) (by decide) ?_
                          refine z_iconst (pc := 367) (v := -1) C (zD D_L_law_3 14 rfl) (by decide) ?_
                          refine z_iconst (pc := 368) (v := 0) C (zD D_L_law_3 15 rfl) (by decide) ?_
                          refine z_sWI (pc := 369) (z' := (zg Z (20000 - 100 * (N + 1)) (120000 - 600 * (N + 1)) 46)) (As := [.ref (B + 0), .int (-1 : Int32), .int (-1 : Int32), .int (0 : Int32)]) C [] (fun u hu => zMW_of (c_L_operates _ hlz _ _ _ n 0 (-1 : Int32) (-1 : Int32) (0 : Int32) h351 u hu)) zn_L_operates (by decide) (by decide) (zlr_l (N := N + 1) (Z := Z) (a := 46) (by decide)) q_383 q_384 q_98 q_385 rfl rfl rfl (zD D_L_law_3 16 rfl) (zg_up rfl rfl) (fun r369 h369 => ?_)
                          refine z_if_lt (pc := 372) C (zD D_L_law_3 17 rfl) (tgt := 389) (by decide) (fun _ => ?_) (fun _ => ?_)
                          · refine z_sub [5, 6, 7, 3, 2, 1, 0] (lv' := [(0, .ref b), (1, .ref (B + 0)), (3, .int a3), (11, .int r315), (12, .int r322), (13, .int r330), (14, .int r337)]) rfl ?_
                            refine z_widen (z' := (zg Z (20000 - 100 * (N + 1)) (120000 - 600 * (N + 1)) 47)) (zg_up rfl rfl) ?_
                            exact hK389 h369
                          · refine z_goto (pc := 375) C (zD D_L_law_3 18 rfl) (tgt := 385) (by decide) ?_
                            refine z_sub [5, 6, 7, 3, 2, 1, 0] (lv' := [(0, .ref b), (1, .ref (B + 0)), (3, .int a3), (11, .int r315), (12, .int r322), (13, .int r330), (14, .int r337)]) rfl ?_
                            refine z_widen (z' := (zg Z (20000 - 100 * (N + 1)) (120000 - 600 * (N + 1)) 47)) (zg_up rfl rfl) ?_
                            exact hK385 h369
              refine z_letg (fun K290 => ∀ (h290 : zH), zJ B Z Q (K290 h290) 290 [(0, .ref b), (1, .ref (B + 0)), (3, .int a3), (5, .int r64), (9, .int s0_126)] [] h290 (zg Z (20000 - 100 * (N + 1)) (120000 - 600 * (N + 1)) 44)) (fun h290 => ?_) (fun K290 hK290 => ?_)
              · refine z_iconst (pc := 290) (v := 0) C (zD D_L_law_2 32 rfl) (by decide) ?_
                exact hK291 (0 : Int32) h290
              refine z_if_eq (pc := 238) C (zD D_L_law_2 5 rfl) (tgt := 290) (by decide) (fun _ => ?_) (fun _ => ?_)
              · refine z_sub [1, 2, 3, 4, 5] (lv' := [(0, .ref b), (1, .ref (B + 0)), (3, .int a3), (5, .int r64), (9, .int s0_126)]) rfl ?_
                refine z_widen (z' := (zg Z (20000 - 100 * (N + 1)) (120000 - 600 * (N + 1)) 44)) (zg_up rfl rfl) ?_
                exact hK290 h178
              · refine z_aload_n (pc := 241) C (zD D_L_law_2 6 rfl) rfl 2 rfl ?_
                refine z_csI (pc := 242) (As := [.ref (B + 0)]) C [] (c_L_fits _ _ _ _ n 0 h178) zn_L_fits (by decide) (by decide) (zlr_l (Z := Z) (N := N + 1) (a := 13) (by decide)) q_540 q_541 q_98 q_542 rfl rfl rfl (zD D_L_law_2 7 rfl) (fun r242 h242 => ?_)
                refine z_if_eq (pc := 245) C (zD D_L_law_2 8 rfl) (tgt := 290) (by decide) (fun _ => ?_) (fun _ => ?_)
                · refine z_sub [1, 2, 3, 4, 5] (lv' := [(0, .ref b), (1, .ref (B + 0)), (3, .int a3), (5, .int r64), (9, .int s0_126)]) rfl ?_
                  refine z_widen (z' := (zg Z (20000 - 100 * (N + 1)) (120000 - 600 * (N + 1)) 44)) (zg_up rfl rfl) ?_
                  exact hK290 h242
                · refine z_iload_n (pc := 248) C (zD D_L_law_2 9 rfl) rfl 3 rfl ?_
                  refine z_bipush (pc := 249) (v := 6) C (zD D_L_law_2 10 rfl) (by decide) ?_
                  refine z_iremc (pc := 251) C (zD D_L_law_2 11 rfl) (by decide) ?_
                  refine z_iconst (pc := 252) (v := 4) C (zD D_L_law_2 12 rfl) (by decide) ?_
                  refine z_letg (fun K271 => ∀ (h271 : zH), zJ B Z Q (K271 h271) 271 [(0, .ref b), (1, .ref (B + 0)), (3, .int a3), (5, .int r64), (9, .int s0_126)] [] h271 (zg Z (20000 - 100 * (N + 1)) (120000 - 600 * (N + 1)) 13)) (fun h271 => ?_) (fun K271 hK271 => ?_)
                  · refine z_iload_n (pc := 271) C (zD D_L_law_2 22 rfl) rfl 2 rfl ?_
                    refine z_bipush (pc := 272) (v := 9) C (zD D_L_law_2 23 rfl) (by decide) ?_
                    refine z_iremc (pc := 274) C (zD D_L_law_2 24 rfl) (by decide) ?_
                    refine z_iconst (pc := 275) (v := 5) C (zD D_L_law_2 25 rfl) (by decide) ?_
                    refine z_letg (fun K286 => ∀ (h286 : zH), zJ B Z Q (K286 h286) 286 [(0, .ref b), (1, .ref (B + 0)), (3, .int a3), (5, .int r64), (9, .int s0_126)] [] h286 (zg Z (20000 - 100 * (N + 1)) (120000 - 600 * (N + 1)) 44)) (fun h286 => ?_) (fun K286 hK286 => ?_)
                    · refine z_iconst (pc := 286) (v := 1) C (zD D_L_law_2 30 rfl) (by decide) ?_
                      refine z_goto (pc := 287) C (zD D_L_law_2 31 rfl) (tgt := 291) (by decide) ?_
                      exact hK291 (1 : Int32) h286
                    refine z_icmp_ne (pc := 276) C (zD D_L_law_2 26 rfl) (tgt := 286) (by decide) (fun _ => ?_) (fun _ => ?_)
                    · refine z_widen (z' := (zg Z (20000 - 100 * (N + 1)) (120000 - 600 * (N + 1)) 44)) (zg_up rfl rfl) ?_
                      exact hK286 h271
                    · refine z_aload_n (pc := 279) C (zD D_L_law_2 27 rfl) rfl 1 rfl ?_
                      refine z_sCI (pc := 280) (z' := (zg Z (20000 - 100 * (N + 1)) (120000 - 600 * (N + 1)) 44)) (As := [.ref (B + 0)]) C [] (c_L_refused _ hlz _ _ _ n 0 h271) zn_L_refused (by decide) (by decide) (zlr_l (N := N + 1) (Z := Z) (a := 44) (by decide)) q_125 q_126 q_98 q_127 rfl rfl rfl (zD D_L_law_2 28 rfl) (zg_up rfl rfl) (fun r280 h280 => ?_)
                      refine z_if_eq (pc := 283) C (zD D_L_law_2 29 rfl) (tgt := 290) (by decide) (fun _ => ?_) (fun _ => ?_)
                      · exact hK290 h280
                      · exact hK286 h280
                  refine z_icmp_ne (pc := 253) C (zD D_L_law_2 13 rfl) (tgt := 271) (by decide) (fun _ => ?_) (fun _ => ?_)
                  · refine z_sub [1, 2, 3, 4, 5] (lv' := [(0, .ref b), (1, .ref (B + 0)), (3, .int a3), (5, .int r64), (9, .int s0_126)]) rfl ?_
                    exact hK271 h242
                  · refine z_aload_n (pc := 256) C (zD D_L_law_2 14 rfl) rfl 2 rfl ?_
                    refine z_iload (pc := 257) C (zD D_L_law_2 15 rfl) 4 rfl ?_
                    refine z_iconst (pc := 259) (v := 3) C (zD D_L_law_2 16 rfl) (by decide) ?_
                    refine z_ishr (pc := 260) C (zD D_L_law_2 17 rfl) ?_
                    refine z_iconst (pc := 261) (v := 4) C (zD D_L_law_2 18 rfl) (by decide) ?_
                    refine z_csR (pc := 262) (As := [.int (r64 >>> ((3 : Int32) &&& 31)), .int (4 : Int32)]) C [.ref (B + 0)] (c_L_low _ _ _ _ n (r64 >>> ((3 : Int32) &&& 31)) (4 : Int32) h242) zn_L_low (by decide) (by decide) (zlr_l (Z := Z) (N := N + 1) (a := 13) (by decide)) q_566 q_567 q_98 q_568 rfl rfl rfl (zD D_L_law_2 19 rfl) (fun r262 => ?_)
                    refine z_csI (pc := 265) (As := [.ref (B + 0), .int r262]) C [] (c_L_isForetold _ _ _ _ n 0 r262 h242) zn_L_isForetold (by decide) (by decide) (zlr_l (Z := Z) (N := N + 1) (a := 13) (by decide)) q_579 q_580 q_98 q_581 rfl rfl rfl (zD D_L_law_2 20 rfl) (fun r265 h265 => ?_)
                    refine z_if_eq (pc := 268) C (zD D_L_law_2 21 rfl) (tgt := 290) (by decide) (fun _ => ?_) (fun _ => ?_)
                    · refine z_sub [1, 2, 3, 4, 5] (lv' := [(0, .ref b), (1, .ref (B + 0)), (3, .int a3), (5, .int r64), (9, .int s0_126)]) rfl ?_
                      refine z_widen (z' := (zg Z (20000 - 100 * (N + 1)) (120000 - 600 * (N + 1)) 44)) (zg_up rfl rfl) ?_
                      exact hK290 h265
                    · refine z_sub [1, 2, 3, 4, 5] (lv' := [(0, .ref b), (1, .ref (B + 0)), (3, .int a3), (5, .int r64), (9, .int s0_126)]) rfl ?_
                      exact hK271 h265
            refine z_letg (fun K235 => zJ B Z Q (K235) 235 [(0, .ref b), (1, .ref (B + 0)), (3, .int a3), (5, .int r64), (9, .int s0_126)] [] h178 (zg Z (20000 - 100 * (N + 1)) (120000 - 600 * (N + 1)) 13)) ?_ (fun K235 hK235 => ?_)
            · refine z_iconst (pc := 235) (v := 0) C (zD D_L_law_2 2 rfl) (by decide) ?_
              exact hK236 (0 : Int32)
            refine z_if_eq (pc := 180) C (zD D_L_law_1 36 rfl) (tgt := 235) (by decide) (fun _ => ?_) (fun _ => ?_)
            · refine z_sub [1, 2, 3, 4, 6] (lv' := [(0, .ref b), (1, .ref (B + 0)), (3, .int a3), (5, .int r64), (9, .int s0_126)]) rfl ?_
              exact hK235
            · refine z_iload (pc := 183) C (zD D_L_law_1 37 rfl) 7 rfl ?_
              refine z_letg (fun K231 => zJ B Z Q (K231) 231 [(0, .ref b), (1, .ref (B + 0)), (3, .int a3), (5, .int r64), (9, .int s0_126)] [] h178 (zg Z (20000 - 100 * (N + 1)) (120000 - 600 * (N + 1)) 13)) ?_ (fun K231 hK231 => ?_)
              · refine z_iconst (pc := 231) (v := 1) C (zD D_L_law_2 0 rfl) (by decide) ?_
                refine z_goto (pc := 232) C (zD D_L_law_2 1 rfl) (tgt := 236) (by decide) ?_
                exact hK236 (1 : Int32)
              refine z_if_lt (pc := 185) C (zD D_L_law_1 38 rfl) (tgt := 231) (by decide) (fun _ => ?_) (fun _ => ?_)
              · refine z_sub [1, 2, 3, 4, 6] (lv' := [(0, .ref b), (1, .ref (B + 0)), (3, .int a3), (5, .int r64), (9, .int s0_126)]) rfl ?_
                exact hK231
              · refine z_iload (pc := 188) C (zD D_L_law_1 39 rfl) 6 rfl ?_
                refine z_iconst (pc := 190) (v := 2) C (zD D_L_law_1 40 rfl) (by decide) ?_
                refine z_icmp_lt (pc := 191) C (zD D_L_law_1 41 rfl) (tgt := 231) (by decide) (fun _ => ?_) (fun _ => ?_)
                · refine z_sub [1, 2, 3, 4, 6] (lv' := [(0, .ref b), (1, .ref (B + 0)), (3, .int a3), (5, .int r64), (9, .int s0_126)]) rfl ?_
                  exact hK231
                · refine z_iload (pc := 194) C (zD D_L_law_1 42 rfl) 6 rfl ?_
                  refine z_bipush (pc := 196) (v := 9) C (zD D_L_law_1 43 rfl) (by decide) ?_
                  refine z_icmp_gt (pc := 198) C (zD D_L_law_1 44 rfl) (tgt := 231) (by decide) (fun _ => ?_) (fun _ => ?_)
                  · refine z_sub [1, 2, 3, 4, 6] (lv' := [(0, .ref b), (1, .ref (B + 0)), (3, .int a3), (5, .int r64), (9, .int s0_126)]) rfl ?_
                    exact hK231
                  · refine z_iload (pc := 201) C (zD D_L_law_1 45 rfl) 6 rfl ?_
                    refine z_bipush (pc := 203) (v := 6) C (zD D_L_law_1 46 rfl) (by decide) ?_
                    refine z_letg (fun K213 => ∀ (s0_213 : Int32), zJ B Z Q (K213 s0_213) 213 [(0, .ref b), (1, .ref (B + 0)), (3, .int a3), (5, .int r64), (8, .int r77), (9, .int s0_126)] [.int s0_213] h178 (zg Z (20000 - 100 * (N + 1)) (120000 - 600 * (N + 1)) 13)) (fun s0_213 => ?_) (fun K213 hK213 => ?_)
                    · refine z_aload_n (pc := 213) C (zD D_L_law_1 51 rfl) rfl 1 rfl ?_
                      refine z_iconst (pc := 214) (v := 1) C (zD D_L_law_1 52 rfl) (by decide) ?_
                      refine z_sWR (pc := 215) (As := [.ref (B + 0), .int (1 : Int32)]) C [.int s0_213] (c_L_values' _ _ _ _ n 0 (1 : Int32) h178) zn_L_values (by decide) (by decide) (zlr_l (Z := Z) (N := N + 1) (a := 13) (by decide)) q_263 q_264 q_98 q_265 rfl rfl rfl (zD D_L_law_1 53 rfl) (fun r215 => ?_)
                      refine z_iload (pc := 218) C (zD D_L_law_1 54 rfl) 4 rfl ?_
                      refine z_letg (fun K228 => ∀ (s0_228 : Int32), zJ B Z Q (K228 s0_228) 228 [(0, .ref b), (1, .ref (B + 0)), (3, .int a3), (5, .int r64), (9, .int s0_126)] [.int s0_228, .int s0_213] h178 (zg Z (20000 - 100 * (N + 1)) (120000 - 600 * (N + 1)) 13)) (fun s0_228 => ?_) (fun K228 hK228 => ?_)
                      · refine z_icmp_ne (pc := 228) C (zD D_L_law_1 59 rfl) (tgt := 235) (by decide) (fun _ => ?_) (fun _ => ?_)
                        · exact hK235
                        · exact hK231
                      refine z_icmp_ne (pc := 220) C (zD D_L_law_1 55 rfl) (tgt := 227) (by decide) (fun _ => ?_) (fun _ => ?_)
                      · refine z_iconst (pc := 227) (v := 0) C (zD D_L_law_1 58 rfl) (by decide) ?_
                        refine z_sub [0, 1, 2, 3, 5] (lv' := [(0, .ref b), (1, .ref (B + 0)), (3, .int a3), (5, .int r64), (9, .int s0_126)]) rfl ?_
                        exact hK228 (0 : Int32)
                      · refine z_iconst (pc := 223) (v := 1) C (zD D_L_law_1 56 rfl) (by decide) ?_
                        refine z_goto (pc := 224) C (zD D_L_law_1 57 rfl) (tgt := 228) (by decide) ?_
                        refine z_sub [0, 1, 2, 3, 5] (lv' := [(0, .ref b), (1, .ref (B + 0)), (3, .int a3), (5, .int r64), (9, .int s0_126)]) rfl ?_
                        exact hK228 (1 : Int32)
                    refine z_icmp_ne (pc := 205) C (zD D_L_law_1 47 rfl) (tgt := 212) (by decide) (fun _ => ?_) (fun _ => ?_)
                    · refine z_iconst (pc := 212) (v := 0) C (zD D_L_law_1 50 rfl) (by decide) ?_
                      refine z_sub [1, 2, 3, 4, 5, 6] (lv' := [(0, .ref b), (1, .ref (B + 0)), (3, .int a3), (5, .int r64), (8, .int r77), (9, .int s0_126)]) rfl ?_
                      exact hK213 (0 : Int32)
                    · refine z_iconst (pc := 208) (v := 1) C (zD D_L_law_1 48 rfl) (by decide) ?_
                      refine z_goto (pc := 209) C (zD D_L_law_1 49 rfl) (tgt := 213) (by decide) ?_
                      refine z_sub [1, 2, 3, 4, 5, 6] (lv' := [(0, .ref b), (1, .ref (B + 0)), (3, .int a3), (5, .int r64), (8, .int r77), (9, .int s0_126)]) rfl ?_
                      exact hK213 (1 : Int32)
          refine z_letg (fun K173 => ∀ (h173 : zH), zJ B Z Q (K173 h173) 173 [(0, .ref b), (1, .ref (B + 0)), (3, .int a3), (5, .int r64), (8, .int r77), (9, .int s0_126), (10, .int r146)] [] h173 (zg Z (20000 - 100 * (N + 1)) (120000 - 600 * (N + 1)) 13)) (fun h173 => ?_) (fun K173 hK173 => ?_)
          · refine z_iconst (pc := 173) (v := 1) C (zD D_L_law_1 31 rfl) (by decide) ?_
            refine z_goto (pc := 174) C (zD D_L_law_1 32 rfl) (tgt := 178) (by decide) ?_
            exact hK178 (1 : Int32) h173
          refine z_if_ge (pc := 153) C (zD D_L_law_1 22 rfl) (tgt := 173) (by decide) (fun _ => ?_) (fun _ => ?_)
          · refine z_sub [2, 3, 4, 6, 8, 1, 0] (lv' := [(0, .ref b), (1, .ref (B + 0)), (3, .int a3), (5, .int r64), (8, .int r77), (9, .int s0_126), (10, .int r146)]) rfl ?_
            exact hK173 h146
          · refine z_iload (pc := 156) C (zD D_L_law_1 23 rfl) 0 rfl ?_
            refine z_bipush (pc := 158) (v := -7) C (zD D_L_law_1 24 rfl) (by decide) ?_
            refine z_letg (fun K177 => ∀ (h177 : zH), zJ B Z Q (K177 h177) 177 [(0, .ref b), (1, .ref (B + 0)), (3, .int a3), (5, .int r64), (8, .int r77), (9, .int s0_126), (10, .int r146)] [] h177 (zg Z (20000 - 100 * (N + 1)) (120000 - 600 * (N + 1)) 13)) (fun h177 => ?_) (fun K177 hK177 => ?_)
            · refine z_iconst (pc := 177) (v := 0) C (zD D_L_law_1 33 rfl) (by decide) ?_
              exact hK178 (0 : Int32) h177
            refine z_icmp_eq (pc := 160) C (zD D_L_law_1 25 rfl) (tgt := 177) (by decide) (fun _ => ?_) (fun _ => ?_)
            · refine z_sub [2, 3, 4, 6, 8, 1, 0] (lv' := [(0, .ref b), (1, .ref (B + 0)), (3, .int a3), (5, .int r64), (8, .int r77), (9, .int s0_126), (10, .int r146)]) rfl ?_
              exact hK177 h146
            · refine z_aload_n (pc := 163) C (zD D_L_law_1 26 rfl) rfl 3 rfl ?_
              refine z_cvL (pc := 164) (As := []) C [] (c_X5_digest _ _ _ _ n 0 h146) zn_X5_digest (by decide) (by decide) (zlr_l (Z := Z) (N := N + 1) (a := 13) (by decide)) zc5 rfl q_130 q_131 q_132 q_2 q_133 rfl rfl rfl (zD D_L_law_1 27 rfl) (fun r164 h164 => ?_)
              refine z_lload (pc := 167) C (zD D_L_law_1 28 rfl) 7 rfl ?_
              refine z_lcmp (pc := 169) C (zD D_L_law_1 29 rfl) ?_
              refine z_if_ne (pc := 170) C (zD D_L_law_1 30 rfl) (tgt := 177) (by decide) (fun _ => ?_) (fun _ => ?_)
              · refine z_sub [2, 3, 4, 6, 8, 1, 0] (lv' := [(0, .ref b), (1, .ref (B + 0)), (3, .int a3), (5, .int r64), (8, .int r77), (9, .int s0_126), (10, .int r146)]) rfl ?_
                exact hK177 h164
              · refine z_sub [2, 3, 4, 6, 8, 1, 0] (lv' := [(0, .ref b), (1, .ref (B + 0)), (3, .int a3), (5, .int r64), (8, .int r77), (9, .int s0_126), (10, .int r146)]) rfl ?_
                exact hK173 h164
        refine z_icmp_ne (pc := 85) C (zD D_L_law_0 48 rfl) (tgt := 92) (by decide) (fun _ => ?_) (fun _ => ?_)
        · refine z_iload_n (pc := 92) C (zD D_L_law_0 51 rfl) rfl 7 rfl ?_
          refine z_bipush (pc := 93) (v := 34) C (zD D_L_law_0 52 rfl) (by decide) ?_
          refine z_iremc (pc := 95) C (zD D_L_law_0 53 rfl) (by decide) ?_
          refine z_iconst (pc := 96) (v := 3) C (zD D_L_law_0 54 rfl) (by decide) ?_
          refine z_icmp_ge (pc := 97) C (zD D_L_law_0 55 rfl) (tgt := 104) (by decide) (fun _ => ?_) (fun _ => ?_)
          · refine z_iload (pc := 104) C (zD D_L_law_0 58 rfl) 3 rfl ?_
            refine z_bipush (pc := 106) (v := 14) C (zD D_L_law_0 59 rfl) (by decide) ?_
            refine z_csR (pc := 108) (As := [.int r53, .int (14 : Int32)]) C [] (c_L_low _ _ _ _ n r53 (14 : Int32) h70) zn_L_low (by decide) (by decide) (zlr_l (Z := Z) (N := N + 1) (a := 0) (by decide)) q_566 q_567 q_98 q_568 rfl rfl rfl (zD D_L_law_1 0 rfl) (fun r108 => ?_)
            refine z_if_ne (pc := 111) C (zD D_L_law_1 1 rfl) (tgt := 119) (by decide) (fun _ => ?_) (fun _ => ?_)
            · refine z_iload (pc := 119) C (zD D_L_law_1 4 rfl) 3 rfl ?_
              refine z_bipush (pc := 121) (v := 14) C (zD D_L_law_1 5 rfl) (by decide) ?_
              refine z_csR (pc := 123) (As := [.int r53, .int (14 : Int32)]) C [] (c_L_low _ _ _ _ n r53 (14 : Int32) h70) zn_L_low (by decide) (by decide) (zlr_l (Z := Z) (N := N + 1) (a := 0) (by decide)) q_566 q_567 q_98 q_568 rfl rfl rfl (zD D_L_law_1 6 rfl) (fun r123 => ?_)
              refine z_sub [4, 5, 7, 3, 2, 1, 0] (lv' := [(0, .ref b), (1, .ref (B + 0)), (3, .int a3), (4, .int r53), (5, .int r64), (6, .long r70), (8, .int r77)]) rfl ?_
              exact hK126 r123
            · refine z_bipush (pc := 114) (v := 12) C (zD D_L_law_1 2 rfl) (by decide) ?_
              refine z_goto (pc := 116) C (zD D_L_law_1 3 rfl) (tgt := 126) (by decide) ?_
              refine z_sub [4, 5, 7, 3, 2, 1, 0] (lv' := [(0, .ref b), (1, .ref (B + 0)), (3, .int a3), (4, .int r53), (5, .int r64), (6, .long r70), (8, .int r77)]) rfl ?_
              exact hK126 (12 : Int32)
          · refine z_iconst (pc := 100) (v := 2) C (zD D_L_law_0 56 rfl) (by decide) ?_
            refine z_goto (pc := 101) C (zD D_L_law_0 57 rfl) (tgt := 126) (by decide) ?_
            refine z_sub [4, 5, 7, 3, 2, 1, 0] (lv' := [(0, .ref b), (1, .ref (B + 0)), (3, .int a3), (4, .int r53), (5, .int r64), (6, .long r70), (8, .int r77)]) rfl ?_
            exact hK126 (2 : Int32)
        · refine z_iconst (pc := 88) (v := 0) C (zD D_L_law_0 49 rfl) (by decide) ?_
          refine z_goto (pc := 89) C (zD D_L_law_0 50 rfl) (tgt := 126) (by decide) ?_
          refine z_sub [4, 5, 7, 3, 2, 1, 0] (lv' := [(0, .ref b), (1, .ref (B + 0)), (3, .int a3), (4, .int r53), (5, .int r64), (6, .long r70), (8, .int r77)]) rfl ?_
          exact hK126 (0 : Int32)
def f_lawAll (n L : Nat) (xs : Nat → Int32) : Option Unit := zlet (zset (fun _ => none) (0 + 0) (.inr (5, [.null, .null, .int 0, .null]))) fun (h0 : zH) => (f_X5_init n (0 + 0) (0 + 1) h0).bind fun (h4 : zH) => zb2 (f_L_undoes n 0 h4) fun (r9 : Int32) (h9 : zH) => zlet (fun (s0_36 : Int32) (h36 : zH) => f_law n L xs 100 s0_36 (0 : Int32) h36) fun K36 => zlet (fun (h35 : zH) => K36 (0 : Int32) h35) fun K35 => if r9 = (-5000002 : Int32) then (zb2 (f_L_refused n 0 h9) fun (r18 : Int32) (h18 : zH) => if r18 = 0 then (K35 h18) else (zb2 (f_L_fits n 0 h18) fun (r25 : Int32) (h25 : zH) => if r25 = 0 then (K35 h25) else (K36 (1 : Int32) h25))) else (K35 h9)
set_option maxRecDepth 100000 in
set_option maxHeartbeats 40000000 in
theorem c_law_all {B : Nat} {Z : zC} {Q : Unit → State → Prop} {b L : Nat} {xs : Nat → Int32} (hsz0 : Z.1.2.2.2.2.heap.size = B + 0) (C : zOk B Z cL_law RL (zR 1000 30000 180000) 15) (hlz : Z.1.2.1.stackTraces = false) (hX : va_X b L xs Z.1.2.2.2.2 Z.1.2.2.2.2.heap) (hbl : b < Z.1.2.2.2.2.heap.size) (hbB : ¬ B ≤ b) (hret : ∀ lv h z (x : Int32), x = 1 → z.1 ≤ 30000 ∧ z.2.1 ≤ 180000 → zJ B Z Q (some ()) 493 lv [.int x] h z) (n : Nat) : zJ B Z Q (f_lawAll n L xs) 0 [(0, .ref b)] [] (fun _ => none) (0, 0, Z.1.2.2.2.2.heap.size + 0) := by
  unfold f_lawAll
  refine z_new (pc := 0) C hsz0 [.null, .null, .int 0, .null] zc5 (fun j hj => by rcases (show j = 0 ∨ j = 1 ∨ j = 2 ∨ j = 3 by omega) with rfl | rfl | rfl | rfl <;> rfl) rfl q_0 q_1 q_2 rfl rfl (zD D_L_law_0 0 rfl) (fun h0 => ?_)
  refine z_dup (pc := 3) C (zD D_L_law_0 1 rfl) rfl ?_
  refine z_callI (pc := 4) (As := []) C hsz0 [.ref (B + (0 + 0))] (c_X5_init _ _ _ _ n (0 + 0) (0 + 1) h0) zn_X5_init rfl (by decide) (by decide) rfl rfl q_5 q_6 q_2 q_7 rfl rfl rfl (zD D_L_law_0 2 rfl) (fun h4 => ?_)
  refine z_astore_n (pc := 7) (lv' := [(1, .ref (B + 0)), (0, .ref b)]) C (zD D_L_law_0 3 rfl) rfl (by decide) rfl ?_
  refine z_widen (z' := zg Z 0 0 152) ⟨Nat.le_of_ble_eq_true rfl, Nat.le_of_ble_eq_true rfl, Nat.le_add_right _ _⟩ ?_
  refine z_aload_n (pc := 8) C (zD D_L_law_0 4 rfl) rfl 0 rfl ?_
  refine z_sWI (pc := 9) (z' := (zg Z 0 0 153)) (As := [.ref (B + 0)]) C [] (fun u hu => zMW_of (c_L_undoes _ hlz _ _ _ n 0 h4 u hu)) zn_L_undoes (by decide) (by decide) (zlr_a (Z := Z) (a := 153) (by decide)) q_96 q_97 q_98 q_99 rfl rfl rfl (zD D_L_law_0 5 rfl) (zg_up rfl rfl) (fun r9 h9 => ?_)
  refine z_ldc (pc := 12) (v := -5000002) C q_3 (zD D_L_law_0 6 rfl) ?_
  refine z_letg (fun K36 => ∀ (s0_36 : Int32) (h36 : zH), zJ B Z Q (K36 s0_36 h36) 36 [(0, .ref b), (1, .ref (B + 0))] [.int s0_36] h36 (zg Z 0 0 184)) (fun s0_36 h36 => ?_) (fun K36 hK36 => ?_)
  · refine z_istore_n (pc := 36) (lv' := [(2, .int s0_36), (0, .ref b), (1, .ref (B + 0))]) C (zD D_L_law_0 17 rfl) rfl (by decide) rfl ?_
    refine z_iconst (pc := 37) (v := 0) C (zD D_L_law_0 18 rfl) (by decide) ?_
    refine z_istore_n (pc := 38) (lv' := [(3, .int (0 : Int32)), (2, .int s0_36), (0, .ref b), (1, .ref (B + 0))]) C (zD D_L_law_0 19 rfl) rfl (by decide) rfl ?_
    refine z_sub [2, 3, 1, 0] (lv' := [(0, .ref b), (1, .ref (B + 0)), (2, .int s0_36), (3, .int (0 : Int32))]) rfl ?_
    refine z_widen (z' := zl Z 100) (by show zUp _ (zg Z (20000 - 100 * 100) (120000 - 600 * 100) 0) 0 0; exact zl_0 (by decide)) ?_
    exact c_law_loop C hlz hX hbl hbB hret n 100 (by decide) s0_36 (0 : Int32) h36
  refine z_letg (fun K35 => ∀ (h35 : zH), zJ B Z Q (K35 h35) 35 [(0, .ref b), (1, .ref (B + 0))] [] h35 (zg Z 0 0 184)) (fun h35 => ?_) (fun K35 hK35 => ?_)
  · refine z_iconst (pc := 35) (v := 0) C (zD D_L_law_0 16 rfl) (by decide) ?_
    exact hK36 (0 : Int32) h35
  refine z_icmp_ne (pc := 14) C (zD D_L_law_0 7 rfl) (tgt := 35) (by decide) (fun _ => ?_) (fun _ => ?_)
  · refine z_sub [1, 0] (lv' := [(0, .ref b), (1, .ref (B + 0))]) rfl ?_
    refine z_widen (z' := (zg Z 0 0 184)) (zg_up rfl rfl) ?_
    exact hK35 h9
  · refine z_aload_n (pc := 17) C (zD D_L_law_0 8 rfl) rfl 0 rfl ?_
    refine z_sCI (pc := 18) (z' := (zg Z 0 0 184)) (As := [.ref (B + 0)]) C [] (c_L_refused _ hlz _ _ _ n 0 h9) zn_L_refused (by decide) (by decide) (zlr_a (Z := Z) (a := 184) (by decide)) q_125 q_126 q_98 q_127 rfl rfl rfl (zD D_L_law_0 9 rfl) (zg_up rfl rfl) (fun r18 h18 => ?_)
    refine z_if_eq (pc := 21) C (zD D_L_law_0 10 rfl) (tgt := 35) (by decide) (fun _ => ?_) (fun _ => ?_)
    · refine z_sub [1, 0] (lv' := [(0, .ref b), (1, .ref (B + 0))]) rfl ?_
      exact hK35 h18
    · refine z_aload_n (pc := 24) C (zD D_L_law_0 11 rfl) rfl 0 rfl ?_
      refine z_csI (pc := 25) (As := [.ref (B + 0)]) C [] (c_L_fits _ _ _ _ n 0 h18) zn_L_fits (by decide) (by decide) (zlr_a (Z := Z) (a := 184) (by decide)) q_540 q_541 q_98 q_542 rfl rfl rfl (zD D_L_law_0 12 rfl) (fun r25 h25 => ?_)
      refine z_if_eq (pc := 28) C (zD D_L_law_0 13 rfl) (tgt := 35) (by decide) (fun _ => ?_) (fun _ => ?_)
      · refine z_sub [1, 0] (lv' := [(0, .ref b), (1, .ref (B + 0))]) rfl ?_
        exact hK35 h25
      · refine z_iconst (pc := 31) (v := 1) C (zD D_L_law_0 14 rfl) (by decide) ?_
        refine z_goto (pc := 32) C (zD D_L_law_0 15 rfl) (tgt := 36) (by decide) ?_
        refine z_sub [1, 0] (lv' := [(0, .ref b), (1, .ref (B + 0))]) rfl ?_
        exact hK36 (1 : Int32) h25
