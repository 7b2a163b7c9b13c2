/-! METHODS THAT THROW: the outcome is an exception's number, or an int -/
abbrev zO2 : Type := (Nat ⊕ Int32) × zH
def zQx (B : Nat) (D : va_G) (cA : Nat → ClassId) (u : zO2) : Array Value → State → Outcome → State → Prop := fun _ st oc t => ∃ r, u.1 = .inr r ∧ oc = .returned (some (.int r)) ∧ zP B D cA u.2 t.heap ∧ va_F (fun q => B ≤ q) st t
def zXx (B : Nat) (D : va_G) (cA : Nat → ClassId) (u : zO2) : String → State → State → Prop := fun E st t => ∃ e, u.1 = .inl e ∧ E = zExN e ∧ zP B D cA u.2 t.heap ∧ va_F (fun q => B ≤ q) st t
def zMx (l : Launch) (B : Nat) (D : va_G) (cA : Nat → ClassId) (y : MethodName) (cc : ByteArray) (maxL : Nat) (ret : Option FieldType) (k : Nat) (av : List Value) (h : zH) (u : zO2) : Prop :=
  vx_Met l y (Cond.code y cc maxL ret :: zWs) (zR k 1 6) (zPc B D cA h none av) (zQx B D cA u) (zXx B D cA u) 1 6 (fun q => B ≤ q)
def zEndx (B : Nat) (Z : zC) (u : zO2) : State → Prop := vx_MQ Z.2.1.2.2.1 (zQx B Z.2.2.1 Z.2.2.2.1 u) (zXx B Z.2.2.1 Z.2.2.2.1 u) Z.2.1.2.1 Z.1.2.2.2.2 1 6 (fun q => B ≤ q)
theorem z_metx {l : Launch} {B : Nat} {D : va_G} {cA : Nat → ClassId} {y : MethodName} {cc : ByteArray} {maxL : Nat} {ret : Option FieldType} {k : Nat} {av : List Value} {h : zH} {o : Option zO2} {own : String} (hl : l.stackTraces = false) (hown0 : y.cls = own) (hy : plainName y.cls = true) (hn : Nat.ble (lg_sl av).length maxL = true)
    (walk : ∀ Z : zC, zOk B Z cc own (zR k 1 6) maxL → Z.2.1.2.2.2.1.sig.returnType = ret → Z.1.2.1.stackTraces = false → (∀ x ∈ Z.2.1.2.2.2.2.exceptionTable.toList, False) → zJ B Z (zEndx B Z) o 0 (lv_args 0 av) [] h (z00 Z)) :
    ∀ u, o = some u → zMx l B D cA y cc maxL ret k av h u := by
  intro u hu
  subst hown0
  refine vx_ofW (cc := cc) (maxL := maxL) (ret := ret) hy rfl ?_
  intro p e s m args below meth c s₁ Bd hml hnt hv
  obtain ⟨rfl, ⟨hP, hK, hB, hN, hX⟩, -⟩ := hv
  have hts := atoms_spec (ws := Cond.code y cc maxL ret :: zWs) Bd.pre
  have hown : s.vm.findClass y.cls = some m.cls := findClass_of_methodNamed Bd.named
  have W1 := walk ((p, l, e, zR k 1 6, s), (m, av.toArray, below, meth, c), (D, cA, maxL)) ⟨Bd.exec, Bd.bytes, fun w hw => hts w (List.mem_cons_of_mem _ hw), hown, hK, rfl, hml, hB, hN, hX, Bd.notSynchronized, rfl⟩ Bd.returns hl hnt u hu
  have hll := lv_entry av (n := maxL) (Nat.le_of_ble_eq_true hn)
  rw [lg_entry_eq]
  exact W1 s.heap [] _ hll hP (Nat.le_refl _) va_S.rf
def zBad (e : Nat) : List Cond := [Cond.castable (zExN e) (zExN e), Cond.declares ⟨"java/lang/RuntimeException", "<init>", "()V"⟩, Cond.declares ⟨"java/lang/Exception", "<init>", "()V"⟩, Cond.declares ⟨"java/lang/Throwable", "<init>", "()V"⟩]
/-- what 'throw new E()' in StockLines links -/
def zThr (e ik ic : Nat) : Prop := Cond.classLink RX5 ik (zExN e) ∈ zWs ∧ Cond.initialized (zExN e) ∈ zWs ∧ (∀ w ∈ (vx_at0 RX5 ic (zExN e) ["java/lang/RuntimeException", "java/lang/Exception"]).filter goodWord, w ∈ zWs) ∧ (∀ w ∈ (vx_at0 RX5 ic (zExN e) ["java/lang/RuntimeException", "java/lang/Exception"]).filter (fun w => !goodWord w), w ∈ zBad e) ∧
  (∀ w ∈ Cond.classLink RX5 ik (zExN e) :: Cond.initialized (zExN e) :: vx_at0 RX5 ic (zExN e) ["java/lang/RuntimeException", "java/lang/Exception"], vx_ot w = true) ∧ Bundle.fit (zExN e) = true ∧ (∀ n ∈ ["java/lang/RuntimeException", "java/lang/Exception"], Bundle.fit n = true) ∧ ∀ U, zNb U → va_Nw (.castable (zExN e) (zExN e)) U
theorem zt_good {L : List Cond} (h : ∀ w ∈ L.filter goodWord, w ∈ lw_tbl) : ∀ w ∈ L.filter goodWord, w ∈ zWs := fun w hw => List.mem_filter.mpr ⟨h w hw, (List.mem_filter.mp hw).2⟩
theorem zt_0 : zThr 0 36 38 := ⟨q_142, q_143, zt_good (by decide +kernel), by decide +kernel, by decide +kernel, by decide +kernel, by decide +kernel, fun _ h => h.1⟩
theorem zt_1 : zThr 1 53 55 := ⟨q_165, q_166, zt_good (by decide +kernel), by decide +kernel, by decide +kernel, by decide +kernel, by decide +kernel, fun _ h => h.2.1⟩
theorem zt_2 : zThr 2 73 75 := ⟨q_105, q_106, zt_good (by decide +kernel), by decide +kernel, by decide +kernel, by decide +kernel, by decide +kernel, fun _ h => h.2.2.1⟩
section ZX
variable {B : Nat} {Z : zC} {pc : Nat} {lv : List (Nat × Value)} {st : List Value} {h : zH} {cc : ByteArray} {own : String} {nL k : Nat}
theorem z_throw {e ik ic : Nat} (T : zThr e ik ic) (C : zOk B Z cc RX5 (zR k 1 6) nL) (hl : Z.1.2.1.stackTraces = false) (hnt : ∀ x ∈ Z.2.1.2.2.2.2.exceptionTable.toList, False) (hk : Nat.ble 6 k = true) (hrm : Nat.ble ((st.map fun v => v.category).sum + 81) (64 * k) = true) (d0 : decode cc pc = .ok (.new ik, 3)) (d3 : decode cc (pc + 3) = .ok (.dup, 1)) (d4 : decode cc (pc + 4) = .ok (.invokespecial ic, 3)) (d7 : decode cc (pc + 7) = .ok (.athrow, 1)) : zJ B Z (zEndx B Z) (some (.inl e, h)) pc lv st h (z00 Z) := by
  intro u' eu H locs ls hL hP hz hS
  cases eu
  obtain ⟨hx1, hx2, hts, hown, hK, hR, hml, hB, hN, hX, hlk, hnL⟩ := id C
  obtain ⟨t1, t2, t3, t4, t5, t6, t7, t8⟩ := T
  refine vx_throw0 (names := ["java/lang/RuntimeException", "java/lang/Exception"]) (A := fun q => B ≤ q) hx1 hx2 hl hown t6 t7 (hts _ t1) (hts _ t2) (vx_hat (B := zBad e) (fun w hw => hts w (t3 w hw)) t4 (vx_c (va_Nw.use rfl (t8 _ hN.2.1)) (vx_c (va_Nw.use rfl hN.2.1.2.2.2.1) (vx_c (va_Nw.use rfl hN.2.1.2.2.2.2.1) (vx_c (va_Nw.use rfl hN.2.1.2.2.2.2.2) vx_n))))) t5 hX.1 hX.2 hS (by rw [hml]; exact hL.1) d0 d3 d4 d7 (fun x hx => (hnt x hx).elim) (by rw [hR]; exact Nat.le_of_ble_eq_true hk) (by rw [hR]; exact Nat.le_of_ble_eq_true hrm) (by rw [hR]; exact Nat.le_refl _) (by rw [hR]; exact Nat.le_refl _) hlk (fun t hal hsz hkq => ?_) hS.2.2 (Nat.le_refl _) (Nat.le_refl _)
  exact ⟨e, rfl, rfl, hP.kept hkq, ⟨Nat.le_trans hS.1 hsz, fun q h1 h2 => (hkq q (Nat.lt_of_lt_of_le h1 hS.1)).trans (hS.2.1 q h1 h2)⟩⟩
theorem z_xret (C : zOk B Z cc own (zR k 1 6) nL) (hr : Z.2.1.2.2.2.1.sig.returnType = some .int) {x : Int32} (d : decode cc pc = .ok (.ireturn, 1)) : zJ B Z (zEndx B Z) (some (.inr x, h)) pc lv [.int x] h (z00 Z) := by
  intro u' eu H locs ls hL hP hz hS
  cases eu
  refine W.widen (k := 1) (n := 6) (Nat.zero_le _) (Nat.zero_le _) (vx_ret ?_)
  exact W.iret (v := x) C.1 C.2.1 hr (fun t ht hW => ⟨x, rfl, rfl, by rw [ht]; exact hP, hS.F ht⟩) hS.2.2 d C.2.2.2.2.2.2.2.2.2.2.1
end ZX
