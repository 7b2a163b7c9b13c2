/-! THE LAW's OWN ROWS: methods that leave exceptions behind (at most g of them), called by others of the law; the script as an argument -/
abbrev zg (Z : zC) (k s a : Nat) : Nat × Nat × Nat := (k + a, s + 6 * a, Z.1.2.2.2.2.heap.size)
def zUp (z z' : Nat × Nat × Nat) (c s : Nat) : Prop := z.1 + c ≤ z'.1 ∧ z.2.1 + s ≤ z'.2.1 ∧ z'.2.2 ≤ z.2.2
theorem zg_up {Z : zC} {k s a a' c s' : Nat} (h : Nat.ble (a + c) a' = true) (h6 : s' = 6 * c) : zUp (zg Z k s a) (zg Z k s a') c s' := by
  have h1 := Nat.le_of_ble_eq_true h
  subst h6
  exact ⟨by show k + a + c ≤ k + a'; omega, by show s + 6 * a + 6 * c ≤ s + 6 * a'; omega, Nat.le_refl _⟩
theorem zg_end {Z : zC} {a G s' : Nat} (h : Nat.ble a G = true) (h6 : s' = 6 * G) : zUp (zg Z 0 0 a) (G, s', Z.1.2.2.2.2.heap.size) 0 0 := by
  have h1 := Nat.le_of_ble_eq_true h
  subst h6
  exact ⟨by show 0 + a + 0 ≤ G; omega, by show 0 + 6 * a + 0 ≤ 6 * G; omega, Nat.le_refl _⟩
theorem z00_up {Z : zC} {a : Nat} : zUp (z00 Z) (zg Z 0 0 a) 0 0 := ⟨Nat.zero_le _, Nat.zero_le _, Nat.le_refl _⟩
def zsx (L : Nat) (xs : Nat → Int32) (i : Int32) : Option Int32 := if i < 0 ∨ L ≤ i.toNatClampNeg then none else some (xs i.toNatClampNeg)
def zMW (l : Launch) (B : Nat) (D : va_G) (cA : Nat → ClassId) (y : MethodName) (cc : ByteArray) (maxL : Nat) (ret : Option FieldType) (hh : List (Nat × Nat × Nat × Nat)) (k mc ms : Nat) (av : List Value) (h : zH) (v : Option Value) (h' : zH) : Prop :=
  Met l y (Cond.codeWith y cc maxL ret hh :: zWs) (zR k mc ms) (zPc B D cA h none av) (zQc B D cA v h' 0) mc ms (fun q => B ≤ q)
def zMC (l : Launch) (B : Nat) (D : va_G) (cA : Nat → ClassId) (y : MethodName) (cc : ByteArray) (maxL : Nat) (ret : Option FieldType) (k mc ms : Nat) (av : List Value) (h : zH) (v : Option Value) (h' : zH) : Prop :=
  Met l y (Cond.code y cc maxL ret :: zWs) (zR k mc ms) (zPc B D cA h none av) (zQc B D cA v h' 0) mc ms (fun q => B ≤ q)
def zEndG (B : Nat) (Z : zC) {α : Type} (out : α → Option Value × zH) (mc ms : Nat) (u : α) : State → Prop := MQ Z.2.1.2.2.1 (zQc B Z.2.2.1 Z.2.2.2.1 (out u).1 (out u).2 0) Z.2.1.2.1 Z.1.2.2.2.2 mc ms (fun q => B ≤ q)
theorem zMW_of {l : Launch} {B : Nat} {D : va_G} {cA : Nat → ClassId} {y : MethodName} {cc : ByteArray} {maxL : Nat} {ret : Option FieldType} {hh : List (Nat × Nat × Nat × Nat)} {k : Nat} {av : List Value} {h : zH} {v : Option Value} {h' : zH} (H : zMw l B D cA y cc maxL ret hh k av h v h') : zMW l B D cA y cc maxL ret hh k 1 6 av h v h' := H
theorem z_metW {l : Launch} {B : Nat} {D : va_G} {cA : Nat → ClassId} {y : MethodName} {cc : ByteArray} {maxL : Nat} {ret : Option FieldType} {hh : List (Nat × Nat × Nat × Nat)} {k mc ms : Nat} {av : List Value} {h : zH} {α : Type} {o : Option α} (out : α → Option Value × zH) {own : String} (hown0 : y.cls = own) (hy : plainName y.cls = true) (hn : Nat.ble (lg_sl av).length maxL = true)
    (walk : ∀ Z : zC, zOk B Z cc own (zR k mc ms) maxL → Z.2.1.2.2.2.1.sig.returnType = ret → Z.1.2.1 = l → zJ B Z (zEndG B Z out mc ms) o 0 (lv_args 0 av) [] h (z00 Z)) :
    ∀ u, o = some u → zMW l B D cA y cc maxL ret hh k mc ms av h (out u).1 (out u).2 := by
  intro u hu
  subst hown0
  unfold zMW Met
  refine MetFree.of_bodyS (code := cc) (maxLocals := maxL) (ret := ret) hy ?_ ?_
  · intro args s m h hn
    obtain ⟨m9, meth, c, hn9, h1, h2, h3, h4, -, h5, h6, -⟩ := Cond.codeWith_spec (atoms_spec (ws := Cond.codeWith y cc maxL ret hh :: zWs) h _ List.mem_cons_self)
    cases hn.symm.trans hn9
    exact ⟨meth, c, h1, h2, h3, h4, h5, h6⟩
  · intro p e s m args below meth c s₁ Bd hml hv _
    have hh0 : s₁.heap = s.heap := by rw [Bd.state]; rfl
    obtain ⟨rfl, ⟨hP, hK, hB, hN, hX⟩, -⟩ := hv
    have hts := atoms_spec (ws := Cond.codeWith y cc maxL ret hh :: zWs) Bd.pre
    have hown : s.vm.findClass y.cls = some m.cls := findClass_of_methodNamed Bd.named
    have W1 := walk ((p, l, e, zR k mc ms, s), (m, av.toArray, below, meth, c), (D, cA, maxL)) ⟨Bd.exec, Bd.bytes, fun w hw => hts w (List.mem_cons_of_mem _ hw), hown, hK, rfl, hml, hB, hN, hX, Bd.notSynchronized, rfl⟩ Bd.returns rfl u hu
    have hll := lv_entry av (n := maxL) (Nat.le_of_ble_eq_true hn)
    have W2 : W p l e (zR k mc ms) s m av.toArray below meth c s.heap [] 0 0 (zEndG B ((p, l, e, zR k mc ms, s), (m, av.toArray, below, meth, c), (D, cA, maxL)) out mc ms u) (entryFrame m av.toArray maxL) := by
      rw [lg_entry_eq]
      exact W1 s.heap [] _ hll hP (Nat.le_refl _) va_S.rf
    obtain ⟨t, a1, o, b1, b2, b3⟩ := W2 s₁ hh0 (Stand.of_body Bd)
    exact ⟨t, o, a1, b1, b2, ⟨b3.1, b3.2⟩⟩
theorem z_metC {l : Launch} {B : Nat} {D : va_G} {cA : Nat → ClassId} {y : MethodName} {cc : ByteArray} {maxL : Nat} {ret : Option FieldType} {k mc ms : Nat} {av : List Value} {h : zH} {α : Type} {o : Option α} (out : α → Option Value × zH) {own : String} (hown0 : y.cls = own) (hy : plainName y.cls = true) (hn : Nat.ble (lg_sl av).length maxL = true)
    (walk : ∀ Z : zC, zOk B Z cc own (zR k mc ms) maxL → Z.2.1.2.2.2.1.sig.returnType = ret → Z.1.2.1 = l → zJ B Z (zEndG B Z out mc ms) o 0 (lv_args 0 av) [] h (z00 Z)) :
    ∀ u, o = some u → zMC l B D cA y cc maxL ret k mc ms av h (out u).1 (out u).2 := by
  intro u hu
  subst hown0
  refine Met.ofW (cc := cc) (maxL := maxL) (ret := ret) hy rfl ?_
  intro p e s m args below meth c s₁ Bd hml hv
  obtain ⟨rfl, ⟨hP, hK, hB, hN, hX⟩, -⟩ := hv
  have hts := atoms_spec (ws := Cond.code y cc maxL ret :: zWs) Bd.pre
  have hown : s.vm.findClass y.cls = some m.cls := findClass_of_methodNamed Bd.named
  have W1 := walk ((p, l, e, zR k mc ms, s), (m, av.toArray, below, meth, c), (D, cA, maxL)) ⟨Bd.exec, Bd.bytes, fun w hw => hts w (List.mem_cons_of_mem _ hw), hown, hK, rfl, hml, hB, hN, hX, Bd.notSynchronized, rfl⟩ Bd.returns rfl u hu
  have hl := lv_entry av (n := maxL) (Nat.le_of_ble_eq_true hn)
  rw [lg_entry_eq]
  exact W1 s.heap [] _ hl hP (Nat.le_refl _) va_S.rf
def zPs (B : Nat) (D : va_G) (cA : Nat → ClassId) (h : zH) (b L : Nat) (xs : Nat → Int32) (av : List Value) : Array Value → State → Prop := va_Pc av (fun U => zSt B D cA h U ∧ va_X b L xs U U.heap ∧ b < U.heap.size ∧ ¬ B ≤ b)
def zMS (l : Launch) (B : Nat) (D : va_G) (cA : Nat → ClassId) (y : MethodName) (cc : ByteArray) (maxL : Nat) (ret : Option FieldType) (k b L : Nat) (xs : Nat → Int32) (av : List Value) (h : zH) (v : Option Value) : Prop :=
  Met l y (Cond.code y cc maxL ret :: zWs) (zR k 0 0) (zPs B D cA h b L xs av) (zQc B D cA v h 0) 0 0 (fun q => B ≤ q)
theorem zPs_blind {B : Nat} {D : va_G} {cA : Nat → ClassId} {h : zH} {b L : Nat} {xs : Nat → Int32} {av : List Value} : FrameBlind (zPs B D cA h b L xs av) := fun a U g mk q => by
  obtain ⟨e, ⟨q1, q2, q3, q4, q5⟩, q6, q7⟩ := q
  exact ⟨e, ⟨q1, va_K.moved (u := U) (U := U.calling g mk a) (Vm.Alike.refl U.vm) q2, q3, zN.same q4, ⟨vx_Zq.moved (u := U) (U := U.calling g mk a) (Vm.Alike.refl U.vm) q5.1, vx_Zq.moved (u := U) (U := U.calling g mk a) (Vm.Alike.refl U.vm) q5.2⟩⟩, va_X.moved (u := U) (U := U.calling g mk a) (Vm.Alike.refl U.vm) q6, q7⟩
theorem z_metS {l : Launch} {B : Nat} {D : va_G} {cA : Nat → ClassId} {y : MethodName} {cc : ByteArray} {maxL : Nat} {ret : Option FieldType} {k b L : Nat} {xs : Nat → Int32} {av : List Value} {h : zH} {o : Option Int32} {own : String} (hown0 : y.cls = own) (hy : plainName y.cls = true) (hn : Nat.ble (lg_sl av).length maxL = true)
    (walk : ∀ Z : zC, zOk B Z cc own (zR k 0 0) maxL → Z.2.1.2.2.2.1.sig.returnType = ret → va_X b L xs Z.1.2.2.2.2 Z.1.2.2.2.2.heap → b < Z.1.2.2.2.2.heap.size → ¬ B ≤ b → zJ B Z (zEndG B Z (fun r : Int32 => (some (Value.int r), h)) 0 0) o 0 (lv_args 0 av) [] h (z00 Z)) :
    ∀ u, o = some u → zMS l B D cA y cc maxL ret k b L xs av h (some (.int u)) := by
  intro u hu
  subst hown0
  refine Met.ofW (cc := cc) (maxL := maxL) (ret := ret) hy rfl ?_
  intro p e s m args below meth c s₁ Bd hml hv
  obtain ⟨rfl, ⟨hP, hK, hB, hN, hX⟩, hx, hbl, hbB⟩ := hv
  have hts := atoms_spec (ws := Cond.code y cc maxL ret :: zWs) Bd.pre
  have hown : s.vm.findClass y.cls = some m.cls := findClass_of_methodNamed Bd.named
  have W1 := walk ((p, l, e, zR k 0 0, s), (m, av.toArray, below, meth, c), (D, cA, maxL)) ⟨Bd.exec, Bd.bytes, fun w hw => hts w (List.mem_cons_of_mem _ hw), hown, hK, rfl, hml, hB, hN, hX, Bd.notSynchronized, rfl⟩ Bd.returns hx hbl hbB u hu
  have hl := lv_entry av (n := maxL) (Nat.le_of_ble_eq_true hn)
  rw [lg_entry_eq]
  exact W1 s.heap [] _ hl hP (Nat.le_refl _) va_S.rf
section ZLW
variable {B : Nat} {Z : zC} {α β : Type} {Q : α → State → Prop} {o : Option α} {pc : Nat} {lv : List (Nat × Value)} {st rest : List Value} {h : zH} {cc : ByteArray} {own : String} {nL : Nat} {z z' : Nat × Nat × Nat} {R : Room} {b L : Nat} {xs : Nat → Int32}
theorem z_widen (hz : zUp z z' 0 0) (k : zJ B Z Q o pc lv st h z') : zJ B Z Q o pc lv st h z := fun u hu H locs ls hL hP hzz hS => W.widen hz.1 hz.2.1 (k u hu H locs ls hL hP (Nat.le_trans hz.2.2 hzz) hS)
theorem z_slen (C : zOk B Z cc own R nL) (hX : va_X b L xs Z.1.2.2.2.2 Z.1.2.2.2.2.heap) (hbl : b < Z.1.2.2.2.2.heap.size) (hbB : ¬ B ≤ b) (d : decode cc pc = .ok (.arraylength, 1)) (k : zJ B Z Q o (pc + 1) lv (.int (Int32.ofNat L) :: st) h z) : zJ B Z Q o pc lv (.ref b :: st) h z := fun u hu H locs ls hL hP hz hS => va_slen C.1 C.2.1 hX hbl hbB hS d (k u hu H locs ls hL hP hz hS)
theorem z_sld (C : zOk B Z cc own R nL) (hX : va_X b L xs Z.1.2.2.2.2 Z.1.2.2.2.2.heap) (hbl : b < Z.1.2.2.2.2.heap.size) (hbB : ¬ B ≤ b) {i : Int32} {F : Int32 → Option α} (d : decode cc pc = .ok (.iaload, 1)) (k : ∀ v, zJ B Z Q (F v) (pc + 1) lv (.int v :: st) h z) : zJ B Z Q ((zsx L xs i).bind F) pc lv (.int i :: .ref b :: st) h z := by
  unfold zsx
  by_cases hc : i < 0 ∨ L ≤ i.toNatClampNeg
  · rw [if_pos hc]; exact z_none
  · rw [if_neg hc]
    exact fun u hu H locs ls hL hP hz hS => va_sld C.1 C.2.1 hX hbl hbB hS hc d (k _ u hu H locs ls hL hP hz hS)
theorem z_ldc (C : zOk B Z cc own R nL) {index : Nat} {v : Int32} (hw : Cond.constant own index v ∈ zWs) (d : decode cc pc = .ok (.ldc index, 2)) (k : zJ B Z Q o (pc + 2) lv (.int v :: st) h z) : zJ B Z Q o pc lv st h z := fun u hu H locs ls hL hP hz hS => lv_ldc C.1 C.2.1 C.2.2.2.1 (C.2.2.1 _ hw) d (k u hu H locs ls hL hP hz hS)
theorem z_ixor (C : zOk B Z cc own R nL) {x y : Int32} (d : decode cc pc = .ok (.ixor, 1)) (k : zJ B Z Q o (pc + 1) lv (.int (x ^^^ y) :: st) h z) : zJ B Z Q o pc lv (.int y :: .int x :: st) h z := fun u hu H locs ls hL hP hz hS => lv_ixor C.1 C.2.1 d (k u hu H locs ls hL hP hz hS)
def zushr (x y : Int32) : Int32 := (x.toUInt32 >>> (y.toUInt32 &&& Int32.toUInt32 31)).toInt32
theorem z_iushr (C : zOk B Z cc own R nL) {x y : Int32} (d : decode cc pc = .ok (.iushr, 1)) (k : zJ B Z Q o (pc + 1) lv (.int (zushr x y) :: st) h z) : zJ B Z Q o pc lv (.int y :: .int x :: st) h z := fun u hu H locs ls hL hP hz hS => lv_iushr C.1 C.2.1 d rfl (k u hu H locs ls hL hP hz hS)
theorem z_iretG (C : zOk B Z cc own R nL) {out : α → Option Value × zH} {mc ms : Nat} (hr : Z.2.1.2.2.2.1.sig.returnType = some .int) (hz : zUp z (mc, ms, Z.1.2.2.2.2.heap.size) 0 0) {u : α} {x : Int32} (hu : out u = (some (.int x), h)) (d : decode cc pc = .ok (.ireturn, 1)) : zJ B Z (zEndG B Z out mc ms) (some u) pc lv [.int x] h z := by
  intro u' e H locs ls hL hP hzz hS
  cases e
  refine W.widen (k := mc) (n := ms) hz.1 hz.2.1 ?_
  exact W.iret (v := x) C.1 C.2.1 hr (fun t ht hW => ⟨by rw [hu], by rw [hu, ht]; exact hP, by rw [ht]; exact Nat.le_trans hz.2.2 hzz, hS.F ht⟩) hS.2.2 d C.2.2.2.2.2.2.2.2.2.2.1
theorem z_zretG (C : zOk B Z cc own R nL) {out : α → Option Value × zH} {mc ms : Nat} (hr : Z.2.1.2.2.2.1.sig.returnType = some .boolean) (hz : zUp z (mc, ms, Z.1.2.2.2.2.heap.size) 0 0) {u : α} {x : Int32} (hx : x = 0 ∨ x = 1) (hu : out u = (some (.int x), h)) (d : decode cc pc = .ok (.ireturn, 1)) : zJ B Z (zEndG B Z out mc ms) (some u) pc lv [.int x] h z := by
  intro u' e H locs ls hL hP hzz hS
  cases e
  refine W.widen (k := mc) (n := ms) hz.1 hz.2.1 ?_
  exact W.zret (v := x) C.1 C.2.1 hr (by rcases hx with rfl | rfl <;> rfl) (fun t ht hW => ⟨by rw [hu], by rw [hu, ht]; exact hP, by rw [ht]; exact Nat.le_trans hz.2.2 hzz, hS.F ht⟩) hS.2.2 d C.2.2.2.2.2.2.2.2.2.2.1
theorem z_backG {Qs : State → Prop} {mc' ms' : Nat} {v : Option Value} {h' : zH} {a : Array Value} {st0 : List Value} (hzz : zUp z z' mc' ms')
    (hr : ∀ (H : Heap) (locs : List Loc) (ls : Array Slot), lv_has ls Z.2.2.2.2 lv → zP B Z.2.2.1 Z.2.2.2.1 h H → z.2.2 ≤ H.size → va_S (fun q => B ≤ q) Z.1.2.2.2.2.heap H locs → va_Run Z.1.1 Z.1.2.1 Z.1.2.2.1 Z.1.2.2.2.1 Z.1.2.2.2.2 Z.2.1.1 Z.2.1.2.1 Z.2.1.2.2.1 Z.2.1.2.2.2.1 Z.2.1.2.2.2.2 H locs z.1 z.2.1 mc' ms' (F0 Z.2.1.1 pc ls st0) rest (zQc B Z.2.2.1 Z.2.2.2.1 v h' 0 a) (fun q => B ≤ q))
    (kk : zW B Z Qs (pc + 3) lv (v.toList ++ rest) h' z') : zW B Z Qs pc lv st0 h z := by
  intro H locs ls hL hP hz hS T hT X
  obtain ⟨w, st₀, t, T', L, h0, X', hF, e1, e2, ⟨hv, hp, hsz, hf⟩, stp⟩ := hr H locs ls hL hP hz hS T hT X
  cases hv
  obtain ⟨f1, f2⟩ := hf
  rw [h0] at f1 f2 hsz
  obtain ⟨t2, a1, b1⟩ := (W.widen hzz.1 hzz.2.1 (kk T'.heap (locs ++ L) ls hL (by rw [e1]; exact hp) (by rw [e1]; exact Nat.le_trans hzz.2.2 (Nat.le_trans hz f1))
    ⟨Nat.le_trans hS.1 (by rw [e1]; exact f1), fun q h1 h2 => by rw [e1, f2 q (Nat.lt_of_lt_of_le h1 hS.1) h2]; exact hS.2.1 q h1 h2, fun q hq => by
      rcases List.mem_append.mp hq with h | h
      · exact hS.2.2 q h
      · exact hF q h⟩)) T' rfl X'
  exact ⟨t2, stp t2 a1, b1⟩
theorem z_callSW {y : MethodName} {bytes : ByteArray} {maxL index n k' mc' ms' k mc ms : Nat} {ret : Option FieldType} {hh : List (Nat × Nat × Nat × Nat)} {As : List Value} {v : Option Value} {h' : zH} {Qs : State → Prop} (C : zOk B Z cc own (zR k mc ms) nL) (hM : zMW Z.1.2.1 B Z.2.2.1 Z.2.2.2.1 y bytes maxL ret hh k' mc' ms' As h v h') (hn : zNm y n) (hk : Nat.ble (k' + 1) k = true) (hx : Nat.ble (8 + (maxL + 11) + 64 * k') (64 * k) = true) (hroom : z.1 + mc' ≤ mc ∧ z.2.1 + ms' ≤ ms)
    (w1 : Cond.methodLink own index y ∈ zWs) (w2 : Cond.static y ∈ zWs) (w4 : Cond.initialized y.cls ∈ zWs) (w5 : Cond.codeWith y bytes maxL ret hh ∈ zWs) (hlen : As.length = n) (hst : st = As.reverse ++ rest) (hrm : Nat.ble (rest.map fun v => v.category).sum 8 = true) (d : decode cc pc = .ok (.invokestatic index, 3)) (hzz : zUp z z' mc' ms') (kk : zW B Z Qs (pc + 3) lv (v.toList ++ rest) h' z') : zW B Z Qs pc lv st h z := by
  refine z_backG (rest := rest) (mc' := mc') (ms' := ms') (a := As.toArray) hzz (fun H locs ls hL hP hzz hS => ?_) kk
  obtain ⟨hx1, hx2, hts, hown, hK, hR, hml, hB, hN, hX, hlk, hnL⟩ := id C
  have hgi : ∀ w ∈ (Cond.codeWith y bytes maxL ret hh :: zWs), w ∈ zWs ∧ ((w.onTables && w.keeps) = true ∨ ∃ ty, w = .arrayClass ty) := fun w hw => (List.mem_cons.mp hw).elim (fun e => by rw [e]; exact ⟨w5, zgood _ w5⟩) (fun e => ⟨e, zgood w e⟩)
  exact vx_runSW (own := own) (index := index) (bytes := bytes) (maxL := maxL) (ret := ret) (hh := hh) (n := n) (As := As) ⟨hx1, hx2, hml, hown, hts⟩ hM ⟨⟨rfl, rfl, by rw [hR]; exact Nat.le_of_ble_eq_true hk, by rw [hR]; exact Nat.le_of_ble_eq_true hx, pay_in hts hgi, List.mem_cons_self⟩, hts _ w5, hts _ w4, hn.1, hn.len, hts _ w1, hts _ w2⟩ ⟨zPc_blind, fun U hU hW => ⟨rfl, zSt_at C hP hS hU hW, fun n hn => nomatch hn⟩⟩ rfl hlen hL.1 hst (lv_room (Nat.le_of_ble_eq_true hrm)) d (by rw [hR]; exact hroom)
theorem z_callSC {y : MethodName} {bytes : ByteArray} {maxL index n k' mc' ms' k mc ms : Nat} {ret : Option FieldType} {As : List Value} {v : Option Value} {h' : zH} {Qs : State → Prop} (C : zOk B Z cc own (zR k mc ms) nL) (hM : zMC Z.1.2.1 B Z.2.2.1 Z.2.2.2.1 y bytes maxL ret k' mc' ms' As h v h') (hn : zNm y n) (hk : Nat.ble (k' + 1) k = true) (hx : Nat.ble (8 + (maxL + 11) + 64 * k') (64 * k) = true) (hroom : z.1 + mc' ≤ mc ∧ z.2.1 + ms' ≤ ms)
    (w1 : Cond.methodLink own index y ∈ zWs) (w2 : Cond.static y ∈ zWs) (w4 : Cond.initialized y.cls ∈ zWs) (w5 : Cond.code y bytes maxL ret ∈ zWs) (hlen : As.length = n) (hst : st = As.reverse ++ rest) (hrm : Nat.ble (rest.map fun v => v.category).sum 8 = true) (d : decode cc pc = .ok (.invokestatic index, 3)) (hzz : zUp z z' mc' ms') (kk : zW B Z Qs (pc + 3) lv (v.toList ++ rest) h' z') : zW B Z Qs pc lv st h z := by
  refine z_backG (rest := rest) (mc' := mc') (ms' := ms') (a := As.toArray) hzz (fun H locs ls hL hP hzz hS => ?_) kk
  obtain ⟨hx1, hx2, hts, hown, hK, hR, hml, hB, hN, hX, hlk, hnL⟩ := id C
  exact va_runS (own := own) (index := index) (bytes := bytes) (maxL := maxL) (ret := ret) (n := n) (As := As) ⟨hx1, hx2, hml, hown, hts⟩ hM ⟨⟨rfl, rfl, by rw [hR]; exact Nat.le_of_ble_eq_true hk, by rw [hR]; exact Nat.le_of_ble_eq_true hx, pay_in hts (zgoodIn w5), List.mem_cons_self, hts _ w5, hts _ w4, hn.1, hn.len, hts _ w1⟩, hts _ w2⟩ ⟨zPc_blind, fun U hU hW => ⟨rfl, zSt_at C hP hS hU hW, fun n hn => nomatch hn⟩⟩ rfl hlen hL.1 hst (lv_room (Nat.le_of_ble_eq_true hrm)) d (by rw [hR]; exact hroom)
/-- a call with the script as an argument -/
theorem z_callSS {y : MethodName} {bytes : ByteArray} {maxL index n k' k mc ms : Nat} {ret : Option FieldType} {As : List Value} {f : Option Int32} {F : Int32 → Option α} (C : zOk B Z cc own (zR k mc ms) nL) (hX : va_X b L xs Z.1.2.2.2.2 Z.1.2.2.2.2.heap) (hbl : b < Z.1.2.2.2.2.heap.size) (hbB : ¬ B ≤ b) (rest : List Value) (hM : ∀ u, f = some u → zMS Z.1.2.1 B Z.2.2.1 Z.2.2.2.1 y bytes maxL ret k' b L xs As h (some (.int u))) (hn : zNm y n) (hk : Nat.ble (k' + 1) k = true) (hx : Nat.ble (8 + (maxL + 11) + 64 * k') (64 * k) = true) (hroom : z.1 ≤ mc ∧ z.2.1 ≤ ms)
    (w1 : Cond.methodLink own index y ∈ zWs) (w2 : Cond.static y ∈ zWs) (w4 : Cond.initialized y.cls ∈ zWs) (w5 : Cond.code y bytes maxL ret ∈ zWs) (hlen : As.length = n) (hst : st = As.reverse ++ rest) (hrm : Nat.ble (rest.map fun v => v.category).sum 8 = true) (d : decode cc pc = .ok (.invokestatic index, 3)) (kk : ∀ r, zJ B Z Q (F r) (pc + 3) lv (.int r :: rest) h z) : zJ B Z Q (f.bind F) pc lv st h z :=
  z_bind (fun r hu u2 hu2 => by
    refine z_backG (rest := rest) (mc' := 0) (ms' := 0) (z' := z) (v := some (.int r)) (h' := h) (a := As.toArray) ⟨Nat.le_refl _, Nat.le_refl _, Nat.le_refl _⟩ (fun H locs ls hL hP hzz hS => ?_) (kk r u2 hu2)
    obtain ⟨hx1, hx2, hts, hown, hK, hR, hml, hB, hN, hX9, hlk, hnL⟩ := id C
    exact va_runS (own := own) (index := index) (bytes := bytes) (maxL := maxL) (ret := ret) (n := n) (As := As) ⟨hx1, hx2, hml, hown, hts⟩ (hM r hu) ⟨⟨rfl, rfl, by rw [hR]; exact Nat.le_of_ble_eq_true hk, by rw [hR]; exact Nat.le_of_ble_eq_true hx, pay_in hts (zgoodIn w5), List.mem_cons_self, hts _ w5, hts _ w4, hn.1, hn.len, hts _ w1⟩, hts _ w2⟩ ⟨zPs_blind, fun U hU hW => ⟨rfl, zSt_at C hP hS hU hW, by rw [hU]; exact va_X.moved hW.alike (hX.kept (hS.2.1 _ hbl hbB)), by rw [hU]; exact Nat.lt_of_lt_of_le hbl hS.1, hbB⟩⟩ rfl hlen hL.1 hst (lv_room (Nat.le_of_ble_eq_true hrm)) d (by rw [hR]; exact hroom))
theorem z_sWI {y : MethodName} {bytes : ByteArray} {maxL index n k' mc' ms' k mc ms : Nat} {ret : Option FieldType} {hh : List (Nat × Nat × Nat × Nat)} {As : List Value} {f : Option (Int32 × zH)} {F : Int32 → zH → Option α} (C : zOk B Z cc own (zR k mc ms) nL) (rest : List Value) (hM : ∀ u, f = some u → zMW Z.1.2.1 B Z.2.2.1 Z.2.2.2.1 y bytes maxL ret hh k' mc' ms' As h (some (.int u.1)) u.2) (hn : zNm y n) (hk : Nat.ble (k' + 1) k = true) (hx : Nat.ble (8 + (maxL + 11) + 64 * k') (64 * k) = true) (hroom : z.1 + mc' ≤ mc ∧ z.2.1 + ms' ≤ ms)
    (w1 : Cond.methodLink own index y ∈ zWs) (w2 : Cond.static y ∈ zWs) (w4 : Cond.initialized y.cls ∈ zWs) (w5 : Cond.codeWith y bytes maxL ret hh ∈ zWs) (hlen : As.length = n) (hst : st = As.reverse ++ rest) (hrm : Nat.ble (rest.map fun v => v.category).sum 8 = true) (d : decode cc pc = .ok (.invokestatic index, 3)) (hzz : zUp z z' mc' ms') (kk : ∀ r h1, zJ B Z Q (F r h1) (pc + 3) lv (.int r :: rest) h1 z') : zJ B Z Q (zb2 f F) pc lv st h z :=
  z_b2 (fun r h1 hu u2 hu2 => z_callSW (rest := rest) C (hM (r, h1) hu) hn hk hx hroom w1 w2 w4 w5 hlen hst hrm d hzz (kk r h1 u2 hu2))
theorem z_sWR {y : MethodName} {bytes : ByteArray} {maxL index n k' k mc ms : Nat} {ret : Option FieldType} {hh : List (Nat × Nat × Nat × Nat)} {As : List Value} {f : Option Int32} {F : Int32 → Option α} (C : zOk B Z cc own (zR k mc ms) nL) (rest : List Value) (hM : ∀ u, f = some u → zMW Z.1.2.1 B Z.2.2.1 Z.2.2.2.1 y bytes maxL ret hh k' 0 0 As h (some (.int u)) h) (hn : zNm y n) (hk : Nat.ble (k' + 1) k = true) (hx : Nat.ble (8 + (maxL + 11) + 64 * k') (64 * k) = true) (hroom : z.1 ≤ mc ∧ z.2.1 ≤ ms)
    (w1 : Cond.methodLink own index y ∈ zWs) (w2 : Cond.static y ∈ zWs) (w4 : Cond.initialized y.cls ∈ zWs) (w5 : Cond.codeWith y bytes maxL ret hh ∈ zWs) (hlen : As.length = n) (hst : st = As.reverse ++ rest) (hrm : Nat.ble (rest.map fun v => v.category).sum 8 = true) (d : decode cc pc = .ok (.invokestatic index, 3)) (kk : ∀ r, zJ B Z Q (F r) (pc + 3) lv (.int r :: rest) h z) : zJ B Z Q (f.bind F) pc lv st h z :=
  z_bind (fun r hu u2 hu2 => z_callSW (rest := rest) (z' := z) C (hM r hu) hn hk hx hroom w1 w2 w4 w5 hlen hst hrm d ⟨Nat.le_refl _, Nat.le_refl _, Nat.le_refl _⟩ (kk r u2 hu2))
theorem z_sCI {y : MethodName} {bytes : ByteArray} {maxL index n k' mc' ms' k mc ms : Nat} {ret : Option FieldType} {As : List Value} {f : Option (Int32 × zH)} {F : Int32 → zH → Option α} (C : zOk B Z cc own (zR k mc ms) nL) (rest : List Value) (hM : ∀ u, f = some u → zMC Z.1.2.1 B Z.2.2.1 Z.2.2.2.1 y bytes maxL ret k' mc' ms' As h (some (.int u.1)) u.2) (hn : zNm y n) (hk : Nat.ble (k' + 1) k = true) (hx : Nat.ble (8 + (maxL + 11) + 64 * k') (64 * k) = true) (hroom : z.1 + mc' ≤ mc ∧ z.2.1 + ms' ≤ ms)
    (w1 : Cond.methodLink own index y ∈ zWs) (w2 : Cond.static y ∈ zWs) (w4 : Cond.initialized y.cls ∈ zWs) (w5 : Cond.code y bytes maxL ret ∈ zWs) (hlen : As.length = n) (hst : st = As.reverse ++ rest) (hrm : Nat.ble (rest.map fun v => v.category).sum 8 = true) (d : decode cc pc = .ok (.invokestatic index, 3)) (hzz : zUp z z' mc' ms') (kk : ∀ r h1, zJ B Z Q (F r h1) (pc + 3) lv (.int r :: rest) h1 z') : zJ B Z Q (zb2 f F) pc lv st h z :=
  z_b2 (fun r h1 hu u2 hu2 => z_callSC (rest := rest) C (hM (r, h1) hu) hn hk hx hroom w1 w2 w4 w5 hlen hst hrm d hzz (kk r h1 u2 hu2))
end ZLW
