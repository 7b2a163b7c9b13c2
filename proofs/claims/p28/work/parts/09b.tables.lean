/-! METHODS WITH A TABLE: a call that may throw, caught here -/
def zMw (l : Launch) (B : Nat) (D : va_G) (cA : Nat → ClassId) (y : MethodName) (cc : ByteArray) (maxL : Nat) (ret : Option FieldType) (hh : List (Nat × Nat × Nat × Nat)) (k : Nat) (av : List Value) (h : zH) (v : Option Value) (h' : zH) : Prop :=
  Met l y (Cond.codeWith y cc maxL ret hh :: zWs) (zR k 1 6) (zPc B D cA h none av) (zQc B D cA v h' 0) 1 6 (fun q => B ≤ q)
def zEndw (B : Nat) (Z : zC) (u : Int32 × zH) : State → Prop := MQ Z.2.1.2.2.1 (zQc B Z.2.2.1 Z.2.2.2.1 (some (.int u.1)) u.2 0) Z.2.1.2.1 Z.1.2.2.2.2 1 6 (fun q => B ≤ q)
theorem z_metw {l : Launch} {B : Nat} {D : va_G} {cA : Nat → ClassId} {y : MethodName} {cc : ByteArray} {maxL : Nat} {ret : Option FieldType} {hh : List (Nat × Nat × Nat × Nat)} {k : Nat} {av : List Value} {h : zH} {o : Option (Int32 × zH)} {own : String} (hown0 : y.cls = own) (hy : plainName y.cls = true) (hn : Nat.ble (lg_sl av).length maxL = true)
    (walk : ∀ Z : zC, zOk B Z cc own (zR k 1 6) maxL → Z.2.1.2.2.2.1.sig.returnType = ret → Z.2.1.2.2.2.2.exceptionTable.toList = tableOf hh → Z.1.2.1 = l → zJ B Z (zEndw B Z) o 0 (lv_args 0 av) [] h (z00 Z)) :
    ∀ u, o = some u → zMw l B D cA y cc maxL ret hh k av h (some (.int u.1)) u.2 := by
  intro u hu
  subst hown0
  unfold zMw Met
  refine MetFree.of_bodyS (code := cc) (maxLocals := maxL) (ret := ret) hy ?_ ?_
  · intro args s m h hn
    obtain ⟨m9, meth, c, hn9, h1, h2, h3, h4, -, h5, h6, -⟩ := Cond.codeWith_spec (atoms_spec (ws := Cond.codeWith y cc maxL ret hh :: zWs) h _ List.mem_cons_self)
    cases hn.symm.trans hn9
    exact ⟨meth, c, h1, h2, h3, h4, h5, h6⟩
  · intro p e s m args below meth c s₁ Bd hml hv _
    have hh0 : s₁.heap = s.heap := by rw [Bd.state]; rfl
    obtain ⟨rfl, ⟨hP, hK, hB, hN, hX⟩, -⟩ := hv
    have hts := atoms_spec (ws := Cond.codeWith y cc maxL ret hh :: zWs) Bd.pre
    have hown : s.vm.findClass y.cls = some m.cls := findClass_of_methodNamed Bd.named
    have W1 := walk ((p, l, e, zR k 1 6, s), (m, av.toArray, below, meth, c), (D, cA, maxL)) ⟨Bd.exec, Bd.bytes, fun w hw => hts w (List.mem_cons_of_mem _ hw), hown, hK, rfl, hml, hB, hN, hX, Bd.notSynchronized, rfl⟩ Bd.returns (vx_table (x := y) Bd (hts _ List.mem_cons_self)) rfl u hu
    have hll := lv_entry av (n := maxL) (Nat.le_of_ble_eq_true hn)
    have W2 : W p l e (zR k 1 6) s m av.toArray below meth c s.heap [] 0 0 (zEndw B ((p, l, e, zR k 1 6, s), (m, av.toArray, below, meth, c), (D, cA, maxL)) u) (entryFrame m av.toArray maxL) := by
      rw [lg_entry_eq]
      exact W1 s.heap [] _ hll hP (Nat.le_refl _) va_S.rf
    obtain ⟨t, a1, o, b1, b2, b3⟩ := W2 s₁ hh0 (Stand.of_body Bd)
    exact ⟨t, o, a1, b1, b2, ⟨b3.1, b3.2⟩⟩
/-- what is known where a call has thrown exception e -/
def zXJ (B : Nat) (Z : zC) {α : Type} (Q : α → State → Prop) (o : Option α) (pc : Nat) (lv : List (Nat × Value)) (st : List Value) (h : zH) (z : Nat × Nat × Nat) (e : Nat) : Prop := ∀ u, o = some u → ∀ (H : Heap) (locs : List Loc) (ls : Array Slot) (ce : Cell) (q : Addr), lv_has ls Z.2.2.2.2 lv → zP B Z.2.2.1 Z.2.2.2.1 h H → z.2.2 ≤ H.size → va_S (fun q => B ≤ q) Z.1.2.2.2.2.heap H locs → H[q]? = some ce → ce.vm = .none → Z.1.2.2.2.2.vm.findClass (zExN e) = some ce.cls →
    vx_W Z.1.1 Z.1.2.1 Z.1.2.2.1 Z.1.2.2.2.1 Z.1.2.2.2.2 Z.2.1.1 Z.2.1.2.1 Z.2.1.2.2.1 Z.2.1.2.2.2.1 Z.2.1.2.2.2.2 H locs z.1 z.2.1 (Q u) (F0 Z.2.1.1 pc ls st) q
def zcs {α : Type} (u : zO2) (N : Int32 → zH → Option α) (X : Nat → zH → Option α) : Option α := match u.1 with
  | .inr r => N r u.2
  | .inl e => X e u.2
/-- what a handler asks of the exceptions that pass the entries ahead of it -/
def zPass (e : Nat) (U : State) (own : String) (pre : List ExceptionTableEntry) : Prop := ∀ x ∈ pre, x.catchType ≠ 0 ∧ ∃ d : Nat, Cond.classLink own x.catchType (zExN d) ∈ zWs ∧ va_Nc (zExN e) (zExN d) U
theorem zPass_0 {e : Nat} {U : State} {own : String} : zPass e U own [] := fun _ h => nomatch h
theorem zPass_c {e : Nat} {U : State} {own : String} {x : ExceptionTableEntry} {pre : List ExceptionTableEntry} {ct : Nat} (hct : x.catchType = ct) (h0 : Nat.ble 1 ct = true) (d : Nat) (w : Cond.classLink own ct (zExN d) ∈ zWs) (hn : va_Nc (zExN e) (zExN d) U) (h : zPass e U own pre) : zPass e U own (x :: pre) := fun y hy => (List.mem_cons.mp hy).elim (fun q => by subst hct; rw [q]; exact ⟨fun q0 => (by rw [q0] at h0; exact absurd h0 (by decide)), d, w, hn⟩) (h y)
section ZXW
variable {B : Nat} {Z : zC} {α : Type} {Q : α → State → Prop} {o o1 o2 : Option α} {pc : Nat} {lv : List (Nat × Value)} {st rest : List Value} {h : zH} {cc : ByteArray} {own : String} {nL k e : Nat} {z : Nat × Nat × Nat} {R : Room}
theorem z_wret (C : zOk B Z cc own R nL) (hr : Z.2.1.2.2.2.1.sig.returnType = some .int) {x : Int32} (d : decode cc pc = .ok (.ireturn, 1)) : zJ B Z (zEndw B Z) (some (x, h)) pc lv [.int x] h (1, 6, Z.1.2.2.2.2.heap.size) := by
  intro u' eu H locs ls hL hP hz hS
  cases eu
  exact W.iret (v := x) C.1 C.2.1 hr (fun t ht hW => ⟨rfl, by rw [ht]; exact hP, by rw [ht]; exact hz, hS.F ht⟩) hS.2.2 d C.2.2.2.2.2.2.2.2.2.2.1
theorem zX_none : zXJ B Z Q none pc lv st h z e := fun u hu => nomatch hu
theorem zX_ite {c : Prop} [Decidable c] (kt : c → zXJ B Z Q o1 pc lv st h z e) (kf : ¬ c → zXJ B Z Q o2 pc lv st h z e) : zXJ B Z Q (if c then o1 else o2) pc lv st h z e := by
  by_cases hc : c
  · rw [if_pos hc]; exact kt hc
  · rw [if_neg hc]; exact kf hc
theorem zX_catch (C : zOk B Z cc own R nL) {hh : List (Nat × Nat × Nat × Nat)} (htab : Z.2.1.2.2.2.2.exceptionTable.toList = tableOf hh) (pre : List ExceptionTableEntry) (x : ExceptionTableEntry) (suf : List ExceptionTableEntry) (hsplit : tableOf hh = pre ++ x :: suf) (hpass : zPass e Z.1.2.2.2.2 own pre) (hx : covers x pc = true) {ct hp : Nat} (hct : x.catchType = ct) (hhp : x.handlerPc = hp) (h0 : Nat.ble 1 ct = true) (w : Cond.classLink own ct (zExN e) ∈ zWs) (hcast : va_Nw (.castable (zExN e) (zExN e)) Z.1.2.2.2.2) (kk : ∀ q : Nat, zJ B Z Q o hp lv [.ref q] h z) : zXJ B Z Q o pc lv rest h z e := by
  intro u hu H locs ls ce q hL hP hz hS hq hv hcl
  subst hct
  subst hhp
  refine vx_catch C.2.2.2.1 pre x suf (htab.trans hsplit) (fun y hy => ?_) hx (fun q0 => (by rw [q0] at h0; exact absurd h0 (by decide))) (C.2.2.1 _ w) (va_Nw.use rfl hcast) hq hv hcl (kk q u hu H locs ls hL hP hz hS)
  obtain ⟨a1, d, a2, a3⟩ := hpass y hy
  exact Or.inr ⟨a1, zExN d, C.2.2.1 _ a2, a3⟩
theorem z_callX {y : MethodName} {bytes : ByteArray} {maxL index n b ci N k' : Nat} {ret : Option FieldType} {Cn : String} {T : u_T} {ty : Nat → FieldType} {As : List Value} {f : Option zO2} {F : Int32 → zH → Option α} {G : Nat → zH → Option α} (C : zOk B Z cc own (zR k 1 6) nL) (rest : List Value) (hM : ∀ u, f = some u → zMx Z.1.2.1 B Z.2.2.1 Z.2.2.2.1 y bytes maxL ret k' (.ref (B + b) :: As) h u) (hn : zNm y n) (hk : Nat.ble (k' + 1) k = true) (hx : Nat.ble (8 + (maxL + 11) + 64 * k') (64 * k) = true)
    (hci : zCl ci Cn T N ty) (hy : Cn = y.cls) (w1 : Cond.methodLink own index y ∈ zWs) (w2 : Cond.instanceMethod y ∈ zWs) (w3 : Cond.selects y.cls y y ∈ zWs) (w4 : Cond.initialized y.cls ∈ zWs) (w5 : Cond.code y bytes maxL ret ∈ zWs) (hlen : As.length = n) (hst : st = As.reverse ++ .ref (B + b) :: rest) (hrm : Nat.ble (rest.map fun v => v.category).sum 8 = true) (d : decode cc pc = .ok (.invokevirtual index, 3))
    (kn : ∀ r h1, zJ B Z Q (F r h1) (pc + 3) lv (.int r :: rest) h1 (1, 6, Z.1.2.2.2.2.heap.size)) (kx : ∀ e h1, zXJ B Z Q (G e h1) pc lv rest h1 (1, 6, Z.1.2.2.2.2.heap.size) e) : zJ B Z Q (zrc h b ci (f.bind (fun u => zcs u F G))) pc lv st h (z00 Z) :=
  z_rc (fun fs hrc => z_bind (fun u hu u2 hu2 => by
    intro H locs ls hL hP hz hS T9 hT X
    obtain ⟨hx1, hx2, hts, hown, hK, hR, hml, hB, hN, hX, hlk, hnL⟩ := id C
    subst hy
    have run : vx_Run Z.1.1 Z.1.2.1 Z.1.2.2.1 Z.1.2.2.2.1 Z.1.2.2.2.2 Z.2.1.1 Z.2.1.2.1 Z.2.1.2.2.1 Z.2.1.2.2.2.1 Z.2.1.2.2.2.2 H locs 0 0 1 6 (F0 Z.2.1.1 pc ls st) rest (zQx B Z.2.2.1 Z.2.2.2.1 u (Value.ref (B + b) :: As).toArray) (zXx B Z.2.2.1 Z.2.2.2.1 u) (fun q => B ≤ q) :=
      vx_runV (own := own) (C := y.cls) (index := index) (bytes := bytes) (maxL := maxL) (ret := ret) (n := n) (As := As) (b := B + b) ⟨hx1, hx2, hml, hown, hts⟩ (hM u hu) ⟨⟨rfl, rfl, by rw [hR]; exact Nat.le_of_ble_eq_true hk, by rw [hR]; exact Nat.le_of_ble_eq_true hx, pay_in hts (zgoodIn w5), List.mem_cons_self, hts _ w5, hts _ w4, hn.1, hn.len, hts _ w1⟩, hts _ w2, hts _ w3⟩ ⟨zPc_blind, va_recv hK (hP.one (zO_of hrc)) (ci := ci) (q0 := 0) hci.1 rfl, fun U hU hW => ⟨rfl, zSt_at C hP hS hU hW, fun n hn => nomatch hn⟩⟩ rfl hlen hL.1 hst (lv_room (Nat.le_of_ble_eq_true hrm)) d (by rw [hR]; exact ⟨Nat.le_refl 1, Nat.le_refl 6⟩)
    rcases run T9 hT X with ⟨v, st₀, t, T', L, h0, X', hF, e1, e2, ⟨r, hr1, hv, hp, hf⟩, stp⟩ | ⟨q, st₀, t, T', L, E, ce, h0, X', hF, e1, e2, ⟨e9, he1, hE, hp, hf⟩, hce, hcv, hcl, stp⟩
    · cases hv
      obtain ⟨f1, f2⟩ := hf
      rw [h0] at f1 f2
      have hu3 : F r u.2 = some u2 := by
        have := hu2
        unfold zcs at this
        rw [hr1] at this
        exact this
      obtain ⟨t2, a1, b1⟩ := kn r u.2 u2 hu3 T'.heap (locs ++ L) ls hL (by rw [e1]; exact hp) (by rw [e1]; exact Nat.le_trans hz f1)
        ⟨Nat.le_trans hS.1 (by rw [e1]; exact f1), fun q h1 h2 => by rw [e1, f2 q (Nat.lt_of_lt_of_le h1 hS.1) h2]; exact hS.2.1 q h1 h2, fun q hq => by
          rcases List.mem_append.mp hq with h | h
          · exact hS.2.2 q h
          · exact hF q h⟩ T' rfl X'
      exact ⟨t2, stp t2 a1, b1⟩
    · subst hE
      obtain ⟨f1, f2⟩ := hf
      rw [h0] at f1 f2
      have hu3 : G e9 u.2 = some u2 := by
        have := hu2
        unfold zcs at this
        rw [he1] at this
        exact this
      obtain ⟨t2, a1, b1⟩ := kx e9 u.2 u2 hu3 T'.heap (locs ++ L) ls ce q hL (by rw [e1]; exact hp) (by rw [e1]; exact Nat.le_trans hz f1)
        ⟨Nat.le_trans hS.1 (by rw [e1]; exact f1), fun q h1 h2 => by rw [e1, f2 q (Nat.lt_of_lt_of_le h1 hS.1) h2]; exact hS.2.1 q h1 h2, fun q hq => by
          rcases List.mem_append.mp hq with h | h
          · exact hS.2.2 q h
          · exact hF q h⟩ (by rw [e1]; exact hce) hcv hcl T' rfl X'
      exact ⟨t2, stp.trans a1, b1⟩))
end ZXW
