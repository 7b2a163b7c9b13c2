/-- new T[N][K]: the outer row, and the inner ones behind it -/
def zmna (h : zH) (a N K : Nat) : zH := fun q => if q = a then some (.inl (2, N, .inr (.inr (.inr (.inr (fun i => if i < N then some (a + 1 + i) else none)))))) else if a + 1 ≤ q ∧ q < a + 1 + N then some (.inl (0, K, .inl (fun _ => 0))) else h q
theorem vr_outer (c : ClassId) (N h0 : Nat) : ∀ i : Nat, Jvm.Free.Multi.outerC c N h0 i = arrV c N (fun j => va_rf (if j < i then some (h0 + 1 + j) else none))
  | 0 => by
    show ({ cls := c, slots := Array.replicate N .null, vm := .none } : Cell) = _
    rw [arrV_new]
    refine congrArg (arrV c N) (funext fun j => ?_)
    simp [va_rf]
  | i + 1 => by
    show (Jvm.Free.Multi.outerC c N h0 i).setSlot i (.ref (h0 + 1 + i)) = _
    rw [vr_outer c N h0 i, arrV_store]
    refine congrArg (arrV c N) (funext fun j => ?_)
    by_cases e : j = i
    · subst e
      simp [updV, va_rf]
    · by_cases h : j < i
      · simp [updV, e, h, Nat.lt_succ_of_lt h]
      · simp [updV, e, h, show ¬ j < i + 1 by omega]
set_option maxHeartbeats 1000000 in
theorem z_mna {B : Nat} {Z : zC} {α : Type} {Q : α → State → Prop} {pc : Nat} {lv : List (Nat × Value)} {st : List Value} {h : zH} {cc : ByteArray} {own : String} {nL kk0 mc ms n0 kc sl : Nat} (C : zOk B Z cc own (zR kk0 mc ms) nL) (hsz : Z.1.2.2.2.2.heap.size = B + n0) {n k : Int32} {F : zH → Option α} (N K : Nat) {index : Nat} (hover : zAOA Z.1.2.2.2.2) (w : Cond.classLink own index "[[I" ∈ zWs) (w2 : Cond.arrayClass .int ∈ zWs) (hn : ¬ n < 0) (hk : ¬ k < 0) (hN : n.toNatClampNeg = N) (hK : k.toNatClampNeg = K) (hb1 : Nat.ble (N * 4) 536870912 = true) (hb2 : Nat.ble (K * 4) 536870912 = true) (hb3 : Nat.ble K 536870912 = true) (hc : Nat.ble (kc + (1 + N)) mc = true) (hs : Nat.ble (sl + (N + N * K)) ms = true) (d : decode cc pc = .ok (.multianewarray index 2, 4)) (kk : ∀ h1, zJ B Z Q (F h1) (pc + 4) lv (.ref (B + (n0 + kc)) :: st) h1 (kc + (1 + N), sl + (N + N * K), Z.1.2.2.2.2.heap.size + (kc + (1 + N)))) : zJ B Z Q (zlet (zmna h (n0 + kc) N K) F) pc lv (.int k :: .int n :: st) h (kc, sl, Z.1.2.2.2.2.heap.size + kc) := by
  intro u hu H locs ls hL hP hz hS
  obtain ⟨hx1, hx2, hts, hown, hKK, hR, hml, hB, hN9, hX, hlk, hnL⟩ := id C
  refine z_sized hsz hz (fun hH => ?_)
  subst hN
  subst hK
  intro T hT Xs
  obtain ⟨vm₁, cA, comp, -, fA, fC, hO, -, X', step⟩ := Xs.multianewarray2F (ty := .int) hx1 hown (hts _ w) hover (hts _ w2) (g := F0 Z.2.1.1 pc ls (.int k :: .int n :: st)) rfl (by rw [hx2]; exact d) rfl hn hk (Nat.le_of_ble_eq_true hb1) (Nat.le_of_ble_eq_true hb2) (Nat.le_of_ble_eq_true hb3) rfl rfl (by rw [hR]; exact Nat.le_of_ble_eq_true hc) (by rw [hR]; exact Nat.le_of_ble_eq_true hs)
  have ecA : cA = Z.2.2.2.1 2 := Option.some.inj (fA.symm.trans (hKK.2 2 _ rfl).2)
  have eco : comp = Z.2.2.2.1 0 := Option.some.inj (fC.symm.trans (hKK.2 0 _ rfl).2)
  subst ecA
  subst eco
  generalize hF : Jvm.Free.Multi.fill (T.setVm vm₁) (Z.2.2.2.1 2) (Z.2.2.2.1 0) n.toNatClampNeg k.toNatClampNeg (defaultValue .int) n.toNatClampNeg = FF at X' step
  have hTh : (T.setVm vm₁).heap = H := hT
  obtain ⟨f1, f2, -, -⟩ := Jvm.Free.Multi.fill_facts (T.setVm vm₁) (Z.2.2.2.1 2) (Z.2.2.2.1 0) n.toNatClampNeg k.toNatClampNeg (defaultValue .int) n.toNatClampNeg
  rw [hF, hTh] at f1 f2
  have hold : ∀ x : Nat, x < H.size → FF.heap[x]? = H[x]? := fun x hx => by
    have := Jvm.Free.Multi.fill_old (T.setVm vm₁) (Z.2.2.2.1 2) (Z.2.2.2.1 0) n.toNatClampNeg k.toNatClampNeg (defaultValue .int) (a := x) (by rw [hTh]; exact hx) n.toNatClampNeg
    rw [hF, hTh] at this
    exact this
  have hrow : ∀ j : Nat, j < n.toNatClampNeg → FF.heap[H.size + 1 + j]? = some (vp_cell (Z.2.2.2.1 0) (k.toNatClampNeg, .inl (fun _ => 0))) := fun j hj => by
    have := Jvm.Free.Multi.fill_inner (T.setVm vm₁) (Z.2.2.2.1 2) (Z.2.2.2.1 0) n.toNatClampNeg k.toNatClampNeg (defaultValue .int) n.toNatClampNeg j hj
    rw [hF, hTh] at this
    rw [this, vp_cell_i]
    exact congrArg some (arrV_new (Z.2.2.2.1 0) k.toNatClampNeg (.int 0))
  have hout : Jvm.Free.Multi.outerC (Z.2.2.2.1 2) n.toNatClampNeg H.size n.toNatClampNeg = vp_cell (Z.2.2.2.1 2) (n.toNatClampNeg, .inr (.inr (.inr (.inr (fun i => if i < n.toNatClampNeg then some (H.size + 1 + i) else none))))) := by
    rw [vp_cell_q]
    exact vr_outer (Z.2.2.2.1 2) n.toNatClampNeg H.size n.toNatClampNeg
  rw [hout] at f2
  have hP1 : zP B Z.2.2.1 Z.2.2.2.1 (zmna h (n0 + kc) n.toNatClampNeg k.toNatClampNeg) FF.heap := by
    intro b e' hb
    unfold zmna at hb
    by_cases c1 : b = n0 + kc
    · rw [if_pos c1] at hb
      cases hb
      subst c1
      show FF.heap[B + (n0 + kc)]? = some (vp_cell (Z.2.2.2.1 2) (n.toNatClampNeg, .inr (.inr (.inr (.inr (fun j => ((if j < n.toNatClampNeg then some (n0 + kc + 1 + j) else none)).map (fun a => B + a)))))))
      rw [← hH, f2]
      refine congrArg (fun f : Nat → Option Nat => some (vp_cell (Z.2.2.2.1 2) (n.toNatClampNeg, .inr (.inr (.inr (.inr f)))))) (funext fun j => ?_)
      by_cases c : j < n.toNatClampNeg
      · rw [if_pos c, if_pos c]
        show some (H.size + 1 + j) = some (B + (n0 + kc + 1 + j))
        rw [hH]
        exact congrArg some (by omega)
      · rw [if_neg c, if_neg c]
        rfl
    · rw [if_neg c1] at hb
      by_cases c2 : n0 + kc + 1 ≤ b ∧ b < n0 + kc + 1 + n.toNatClampNeg
      · rw [if_pos c2] at hb
        cases hb
        show FF.heap[B + b]? = some (vp_cell (Z.2.2.2.1 0) (k.toNatClampNeg, .inl (fun _ => 0)))
        have := hrow (b - (n0 + kc + 1)) (by omega)
        rw [show H.size + 1 + (b - (n0 + kc + 1)) = B + b by omega] at this
        exact this
      · rw [if_neg c2] at hb
        exact (hP b e' hb).kept (hold _ (hP b e' hb).lt)
  rw [Nat.add_assoc kc, Nat.add_assoc sl] at X'
  obtain ⟨t, a1, b1⟩ := kk (zmna h (n0 + kc) n.toNatClampNeg k.toNatClampNeg) u hu FF.heap locs ls hL hP1 (by show _ + (kc + (1 + n.toNatClampNeg)) ≤ _; rw [f1]; omega) ⟨by rw [f1]; have := hS.1; omega, fun q h1 h2 => (hold q (Nat.lt_of_lt_of_le h1 hS.1)).trans (hS.2.1 q h1 h2), hS.2.2⟩ FF rfl X'
  refine ⟨t, step t ?_, b1⟩
  have e : T.heap.size = B + (n0 + kc) := by rw [hT, hH]
  rw [e]
  exact a1
