/-! THE LAW's OWN ROWS -/
abbrev zl (Z : zC) (N : Nat) : Nat × Nat × Nat := (616000 - N, 7247000 - 6 * N, Z.1.2.2.2.2.heap.size)
abbrev zlb (Z : zC) (N : Nat) : Nat × Nat × Nat := (616000 - N + 1, 7247000 - 6 * N + 6, Z.1.2.2.2.2.heap.size)
def zsx (L : Nat) (xs : Nat → Int32) (i : Int32) : Option Int32 := if i < 0 ∨ L ≤ i.toNatClampNeg then none else some (xs i.toNatClampNeg)
section ZLW
variable {B : Nat} {Z : zC} {α : Type} {Q : α → State → Prop} {o : Option α} {pc : Nat} {lv : List (Nat × Value)} {st : List Value} {h : zH} {cc : ByteArray} {own : String} {nL : Nat} {z : Nat × Nat × Nat} {R : Room} {b L : Nat} {xs : Nat → Int32}
theorem z_widen {z' : Nat × Nat × Nat} (h1 : z.1 ≤ z'.1) (h2 : z.2.1 ≤ z'.2.1) (h3 : z'.2.2 ≤ z.2.2) (k : zJ B Z Q o pc lv st h z') : zJ B Z Q o pc lv st h z := fun u hu H locs ls hL hP hz hS => W.widen h1 h2 (k u hu H locs ls hL hP (Nat.le_trans h3 hz) hS)
theorem zl_A {N : Nat} : (zl Z N).1 ≤ 616119 ∧ (zl Z N).2.1 ≤ 7247748 := ⟨by show 616000 - N ≤ 616119; omega, by show 7247000 - 6 * N ≤ 7247748; omega⟩
theorem zl_B {N : Nat} : (zlb Z N).1 ≤ 616119 ∧ (zlb Z N).2.1 ≤ 7247748 := ⟨by show 616000 - N + 1 ≤ 616119; omega, by show 7247000 - 6 * N + 6 ≤ 7247748; omega⟩
theorem z_AC {N : Nat} (k : zJ B Z Q o pc lv st h (zl Z N)) : zJ B Z Q o pc lv st h (zl Z (N + 1)) := z_widen (z' := zl Z N) (by show 616000 - (N + 1) ≤ 616000 - N; omega) (by show 7247000 - 6 * (N + 1) ≤ 7247000 - 6 * N; omega) (Nat.le_refl _) k
theorem z_BC {N : Nat} (hN : N + 1 ≤ 1000) (k : zJ B Z Q o pc lv st h (zl Z N)) : zJ B Z Q o pc lv st h (zlb Z (N + 1)) := z_widen (z' := zl Z N) (by show 616000 - (N + 1) + 1 ≤ 616000 - N; omega) (by show 7247000 - 6 * (N + 1) + 6 ≤ 7247000 - 6 * N; omega) (Nat.le_refl _) k
theorem z_slen (C : zOk B Z cc own R nL) (hX : va_X b L xs Z.1.2.2.2.2 Z.1.2.2.2.2.heap) (hbl : b < Z.1.2.2.2.2.heap.size) (hbB : ¬ B ≤ b) (d : decode cc pc = .ok (.arraylength, 1)) (k : zJ B Z Q o (pc + 1) lv (.int (Int32.ofNat L) :: st) h z) : zJ B Z Q o pc lv (.ref b :: st) h z := fun u hu H locs ls hL hP hz hS => va_slen C.1 C.2.1 hX hbl hbB hS d (k u hu H locs ls hL hP hz hS)
theorem z_sld (C : zOk B Z cc own R nL) (hX : va_X b L xs Z.1.2.2.2.2 Z.1.2.2.2.2.heap) (hbl : b < Z.1.2.2.2.2.heap.size) (hbB : ¬ B ≤ b) {i : Int32} {F : Int32 → Option α} (d : decode cc pc = .ok (.iaload, 1)) (k : ∀ v, zJ B Z Q (F v) (pc + 1) lv (.int v :: st) h z) : zJ B Z Q ((zsx L xs i).bind F) pc lv (.int i :: .ref b :: st) h z := by
  unfold zsx
  by_cases hc : i < 0 ∨ L ≤ i.toNatClampNeg
  · rw [if_pos hc]; exact z_none
  · rw [if_neg hc]
    exact fun u hu H locs ls hL hP hz hS => va_sld C.1 C.2.1 hX hbl hbB hS hc d (k _ u hu H locs ls hL hP hz hS)
theorem z_callW {y : MethodName} {bytes : ByteArray} {maxL index n k' k mc ms : Nat} {ret : Option FieldType} {hh : List (Nat × Nat × Nat × Nat)} {As : List Value} {f : Option (Int32 × zH)} {F : Int32 → zH → Option α} {z' : Nat × Nat × Nat} (C : zOk B Z cc own (zR k mc ms) nL) (rest : List Value) (hM : ∀ u, f = some u → zMw Z.1.2.1 B Z.2.2.1 Z.2.2.2.1 y bytes maxL ret hh k' As h (some (.int u.1)) u.2) (hn : zNm y n) (hk : Nat.ble (k' + 1) k = true) (hx : Nat.ble (8 + (maxL + 11) + 64 * k') (64 * k) = true) (hroom : z.1 + 1 ≤ mc ∧ z.2.1 + 6 ≤ ms)
    (w1 : Cond.methodLink own index y ∈ zWs) (w2 : Cond.static y ∈ zWs) (w4 : Cond.initialized y.cls ∈ zWs) (w5 : Cond.codeWith y bytes maxL ret hh ∈ zWs) (hlen : As.length = n) (hst : st = As.reverse ++ rest) (hrm : Nat.ble (rest.map fun v => v.category).sum 8 = true) (d : decode cc pc = .ok (.invokestatic index, 3)) (hz9 : z' = (z.1 + 1, z.2.1 + 6, z.2.2)) (kk : ∀ r h1, zJ B Z Q (F r h1) (pc + 3) lv (.int r :: rest) h1 z') : zJ B Z Q (zb2 f F) pc lv st h z :=
  z_b2 (fun r h1 hu u2 hu2 => by
    subst hz9
    intro H locs ls hL hP hz hS T9 hT X
    obtain ⟨hx1, hx2, hts, hown, hK, hR, hml, hB, hN, hX, hlk, hnL⟩ := id C
    have hgi : ∀ w ∈ (Cond.codeWith y bytes maxL ret hh :: zWs), w ∈ zWs ∧ ((w.onTables && w.keeps) = true ∨ ∃ ty, w = .arrayClass ty) := fun w hw => (List.mem_cons.mp hw).elim (fun e => by rw [e]; exact ⟨w5, zgood _ w5⟩) (fun e => ⟨e, zgood w e⟩)
    have run : va_Run Z.1.1 Z.1.2.1 Z.1.2.2.1 Z.1.2.2.2.1 Z.1.2.2.2.2 Z.2.1.1 Z.2.1.2.1 Z.2.1.2.2.1 Z.2.1.2.2.2.1 Z.2.1.2.2.2.2 H locs z.1 z.2.1 1 6 (F0 Z.2.1.1 pc ls st) rest (zQc B Z.2.2.1 Z.2.2.2.1 (some (.int r)) h1 0 As.toArray) (fun q => B ≤ q) :=
      vx_runSW (own := own) (index := index) (bytes := bytes) (maxL := maxL) (ret := ret) (hh := hh) (n := n) (As := As) ⟨hx1, hx2, hml, hown, hts⟩ (hM (r, h1) hu) ⟨⟨rfl, rfl, by rw [hR]; exact Nat.le_of_ble_eq_true hk, by rw [hR]; exact Nat.le_of_ble_eq_true hx, pay_in hts hgi, List.mem_cons_self⟩, hts _ w5, hts _ w4, hn.1, hn.len, hts _ w1, hts _ w2⟩ ⟨zPc_blind, fun U hU hW => ⟨rfl, zSt_at C hP hS hU hW, fun n hn => nomatch hn⟩⟩ rfl hlen hL.1 hst (lv_room (Nat.le_of_ble_eq_true hrm)) d (by rw [hR]; exact hroom)
    obtain ⟨w, st₀, t, T', L9, h0, X', hF, e1, e2, ⟨hv, hp, hsz, hf⟩, stp⟩ := run T9 hT X
    cases hv
    obtain ⟨f1, f2⟩ := hf
    rw [h0] at f1 f2
    obtain ⟨t2, a1, b1⟩ := kk r h1 u2 hu2 T'.heap (locs ++ L9) ls hL (by rw [e1]; exact hp) (by rw [e1]; exact Nat.le_trans hz f1)
      ⟨Nat.le_trans hS.1 (by rw [e1]; exact f1), fun q h1 h2 => by rw [e1, f2 q (Nat.lt_of_lt_of_le h1 hS.1) h2]; exact hS.2.1 q h1 h2, fun q hq => by
        rcases List.mem_append.mp hq with h | h
        · exact hS.2.2 q h
        · exact hF q h⟩ T' rfl X'
    exact ⟨t2, stp t2 a1, b1⟩)
end ZLW
