/-! METHODS THAT MAKE OBJECTS: cells come one behind the other; the k-th of a method whose heap began with the ids below n0 has the id n0 + k -/
section ZNW
variable {B : Nat} {Z : zC} {α : Type} {Q : α → State → Prop} {o : Option α} {pc : Nat} {lv : List (Nat × Value)} {st rest : List Value} {h : zH} {cc : ByteArray} {own : String} {nL kk0 mc ms n0 kc sl : Nat} {z : Nat × Nat × Nat}
theorem z_objInit (C : zOk B Z cc own (zR kk0 mc ms) nL) {index a : Nat} (w1 : Cond.methodLink own index objectInit ∈ zWs) (w2 : Cond.instanceMethod objectInit ∈ zWs) (w3 : Cond.code objectInit ⟨#[0xb1]⟩ 1 none ∈ zWs) (hk : Nat.ble 1 kk0 = true) (hrm : Nat.ble ((rest.map fun v => v.category).sum + 12) (64 * kk0) = true) (d : decode cc pc = .ok (.invokespecial index, 3)) (k : zJ B Z Q o (pc + 3) lv rest h z) : zJ B Z Q o pc lv (.ref a :: rest) h z := by
  intro u hu H locs ls hL hP hz hS
  obtain ⟨hx1, hx2, hts, hown, hK, hR, hml, hB, hN, hX, hlk, hnL⟩ := id C
  refine W.objInit hx1 hx2 hown (hts _ w1) (hts _ w2) (hts _ w3) rfl (by rw [hml]; exact hL.1) rfl d (by rw [hR]; exact Nat.le_of_ble_eq_true hk) (by rw [hR]; show 2 * 0 + _ + 12 ≤ _; rw [Nat.mul_zero, Nat.zero_add]; exact Nat.le_of_ble_eq_true hrm) ?_
  exact k u hu H locs ls hL hP hz hS
theorem z_size {T : State} {H : Heap} {locs : List Loc} {slots : Nat} (hsz : Z.1.2.2.2.2.heap.size = B + n0) (hT : T.heap = H) (hz : Z.1.2.2.2.2.heap.size + kc ≤ H.size) (X : Stand Z.1.1 Z.1.2.1 Z.1.2.2.1 Z.1.2.2.2.1 Z.1.2.2.2.2 Z.2.1.1 Z.2.1.2.1 Z.2.1.2.2.1 Z.2.1.2.2.2.1 Z.2.1.2.2.2.2 T locs kc slots) : H.size = B + (n0 + kc) := by
  have h1 := X.heapSize
  rw [hT] at h1
  omega
theorem z_sized {H : Heap} {locs : List Loc} {slots : Nat} {Qs : State → Prop} {g : JFrame} (hsz : Z.1.2.2.2.2.heap.size = B + n0) (hz : Z.1.2.2.2.2.heap.size + kc ≤ H.size) (k : H.size = B + (n0 + kc) → W Z.1.1 Z.1.2.1 Z.1.2.2.1 Z.1.2.2.2.1 Z.1.2.2.2.2 Z.2.1.1 Z.2.1.2.1 Z.2.1.2.2.1 Z.2.1.2.2.2.1 Z.2.1.2.2.2.2 H locs kc slots Qs g) : W Z.1.1 Z.1.2.1 Z.1.2.2.1 Z.1.2.2.2.1 Z.1.2.2.2.2 Z.2.1.1 Z.2.1.2.1 Z.2.1.2.2.1 Z.2.1.2.2.2.1 Z.2.1.2.2.2.2 H locs kc slots Qs g := fun T hT X => k (z_size hsz hT hz X) T hT X
set_option maxHeartbeats 200000 in
theorem z_new (C : zOk B Z cc own (zR kk0 mc ms) nL) (hsz : Z.1.2.2.2.2.heap.size = B + n0) {ci N index : Nat} {Cn : String} {T : u_T} {ty : Nat → FieldType} {F : zH → Option α} (fs : List Value) (hc : zCl ci Cn T N ty) (hfs : ∀ j, j < N → defaultValue (ty j) = vp_V fs j) (hfz : fs.map (zv B) = fs) (w1 : Cond.classLink own index Cn ∈ zWs) (w2 : Cond.instantiable Cn N ∈ zWs) (w3 : Cond.initialized Cn ∈ zWs) (hk : Nat.ble (kc + 1) mc = true) (hs : Nat.ble (sl + N) ms = true) (d : decode cc pc = .ok (.new index, 3)) (k : ∀ h1, zJ B Z Q (F h1) (pc + 3) lv (.ref (B + (n0 + kc)) :: st) h1 (kc + 1, sl + N, Z.1.2.2.2.2.heap.size + (kc + 1))) : zJ B Z Q (zlet (zset h (n0 + kc) (.inr (ci, fs))) F) pc lv st h (kc, sl, Z.1.2.2.2.2.heap.size + kc) := by
  intro u hu H locs ls hL hP hz hS
  obtain ⟨hx1, hx2, hts, hown, hK, hR, hml, hB, hN, hX, hlk, hnL⟩ := id C
  refine z_sized hsz hz (fun hH => ?_)
  have hKn := hK.1 ci _ hc.1
  refine W.newcK (H := H) hx1 hx2 hown (hts _ w1) (hts _ w2) (hts _ w3) rfl d (by rw [hR]; exact Nat.le_of_ble_eq_true hk) (by rw [hR]; exact Nat.le_of_ble_eq_true hs) hKn.2.1 hH fun H1 kC hkC e1 z1 o1 => ?_
  have e2 : va_at Z.2.2.1 vwCl (B + (n0 + kc), ze B Z.2.2.2.1 (.inr (ci, fs))) H1 := by
    refine ⟨_, hc.1, ?_⟩
    show t_OB (B + (n0 + kc)) _ _ _ H1 (vp_V (fs.map (zv B)))
    rw [hfz]
    exact (u_born ty hts hc.2.1 hKn hkC e1 hc.2.2.1).to hfs
  exact k (zset h (n0 + kc) (.inr (ci, fs))) u hu H1 locs ls hL (hP.new e2 (fun q hq => o1 q (by rw [← hH]; exact hq))) (by show _ + (kc + 1) ≤ _; rw [z1]; omega) ⟨by rw [z1, ← hH]; exact Nat.le_succ_of_le hS.1, fun q h1 h2 => (o1 q (by rw [← hH]; exact Nat.lt_of_lt_of_le h1 hS.1)).trans (hS.2.1 q h1 h2), hS.2.2⟩
set_option maxHeartbeats 200000 in
/-- a new row of ints -/
theorem z_newI (C : zOk B Z cc own (zR kk0 mc ms) nL) (hsz : Z.1.2.2.2.2.heap.size = B + n0) {n : Int32} {F : zH → Option α} (N : Nat) (w : Cond.arrayClass .int ∈ zWs) (hn : ¬ n < 0) (hN : n.toNatClampNeg = N) (hb : Nat.ble (N * 4) 536870912 = true) (hk : Nat.ble (kc + 1) mc = true) (hs : Nat.ble (sl + N) ms = true) (d : decode cc pc = .ok (.newarray .int, 2)) (k : ∀ h1, zJ B Z Q (F h1) (pc + 2) lv (.ref (B + (n0 + kc)) :: st) h1 (kc + 1, sl + N, Z.1.2.2.2.2.heap.size + (kc + 1))) : zJ B Z Q (zlet (zset h (n0 + kc) (.inl (0, N, .inl (fun _ => 0)))) F) pc lv (.int n :: st) h (kc, sl, Z.1.2.2.2.2.heap.size + kc) := by
  intro u hu H locs ls hL hP hz hS
  obtain ⟨hx1, hx2, hts, hown, hK, hR, hml, hB, hN9, hX, hlk, hnL⟩ := id C
  refine z_sized hsz hz (fun hH => ?_)
  refine va_newaK (H := H) (atype := .int) hx1 hx2 (hts _ w) rfl d rfl hn hN (Nat.le_of_ble_eq_true hb) (by rw [hR]; exact Nat.le_of_ble_eq_true hk) (by rw [hR]; exact Nat.le_of_ble_eq_true hs) hH fun H1 cA' e1 z1 o1 hAr hNm => ?_
  have hcA : cA' = Z.2.2.2.1 0 := Option.some.inj (hNm.symm.trans (hK.2 0 _ rfl).2)
  subst hcA
  have e2 : va_at Z.2.2.1 vwCl (B + (n0 + kc), ze B Z.2.2.2.1 (.inl (0, N, .inl (fun _ => 0)))) H1 := by
    show H1[B + (n0 + kc)]? = some (vp_cell (Z.2.2.2.1 0) (N, .inl (fun _ => 0)))
    rw [e1, vp_cell_i]
    rfl
  exact k (zset h (n0 + kc) (.inl (0, N, .inl (fun _ => 0)))) u hu H1 locs ls hL (hP.new e2 (fun q hq => o1 q (by rw [← hH]; exact hq))) (by show _ + (kc + 1) ≤ _; rw [z1]; omega) ⟨by rw [z1, ← hH]; exact Nat.le_succ_of_le hS.1, fun q h1 h2 => (o1 q (by rw [← hH]; exact Nat.lt_of_lt_of_le h1 hS.1)).trans (hS.2.1 q h1 h2), hS.2.2⟩
set_option maxHeartbeats 200000 in
/-- a new row of references -/
theorem z_newQ (C : zOk B Z cc own (zR kk0 mc ms) nL) (hsz : Z.1.2.2.2.2.heap.size = B + n0) {n : Int32} {F : zH → Option α} (N c : Nat) {index : Nat} {Cn : String} (hc : c < 5) (ht : zty c = .object Cn) (hover : va_AO Cn Z.1.2.2.2.2) (w : Cond.classLink own index Cn ∈ zWs) (hn : ¬ n < 0) (hN : n.toNatClampNeg = N) (hb : Nat.ble (N * 4) 536870912 = true) (hk : Nat.ble (kc + 1) mc = true) (hs : Nat.ble (sl + N) ms = true) (d : decode cc pc = .ok (.anewarray index, 3)) (k : ∀ h1, zJ B Z Q (F h1) (pc + 3) lv (.ref (B + (n0 + kc)) :: st) h1 (kc + 1, sl + N, Z.1.2.2.2.2.heap.size + (kc + 1))) : zJ B Z Q (zlet (zset h (n0 + kc) (.inl (c, N, .inr (.inr (.inr (.inr (fun _ => none))))))) F) pc lv (.int n :: st) h (kc, sl, Z.1.2.2.2.2.heap.size + kc) := by
  intro u hu H locs ls hL hP hz hS
  obtain ⟨hx1, hx2, hts, hown, hK, hR, hml, hB, hN9, hX, hlk, hnL⟩ := id C
  subst hN
  refine z_sized hsz hz (fun hH => ?_)
  refine W.anew (H := H) hx1 hx2 hown (hts _ w) (va_AO.use hover) rfl d rfl hn (Nat.le_of_ble_eq_true hb) (by rw [hR]; exact Nat.le_of_ble_eq_true hk) (by rw [hR]; exact Nat.le_of_ble_eq_true hs) fun cA' kA comp f1 f2 f3 f4 => ?_
  have hT2 := (hK.2 c _ (ztys_at _ hc)).2
  rw [ht] at hT2
  obtain ⟨kA2, comp2, k1, k2, k3, k4⟩ := hT2
  have hcA : cA' = Z.2.2.2.1 c := Option.some.inj (f1.symm.trans k4)
  subst hcA
  generalize hH1 : H.push ({ cls := Z.2.2.2.1 c, slots := Array.replicate n.toNatClampNeg .null, vm := .none } : Cell) = H1
  have z1 : H1.size = H.size + 1 := by rw [← hH1, Array.size_push]
  have e1 : H1[H.size]? = some (arrV (Z.2.2.2.1 c) n.toNatClampNeg (fun _ => .null)) := by rw [← hH1, Array.getElem?_push_size, ← arrV_new]
  have o1 : ∀ q : Nat, q < H.size → H1[q]? = H[q]? := fun q hq => by rw [← hH1, Array.getElem?_push, if_neg (Nat.ne_of_lt hq)]
  have e2 : va_at Z.2.2.1 vwCl (B + (n0 + kc), ze B Z.2.2.2.1 (.inl (c, n.toNatClampNeg, .inr (.inr (.inr (.inr (fun _ => none))))))) H1 := by
    show H1[B + (n0 + kc)]? = some (vp_cell (Z.2.2.2.1 c) (n.toNatClampNeg, .inr (.inr (.inr (.inr (fun _ => none))))))
    rw [← hH, e1, vp_cell_q]
    rfl
  have := k (zset h (n0 + kc) (.inl (c, n.toNatClampNeg, .inr (.inr (.inr (.inr (fun _ => none))))))) u hu H1 locs ls hL (hP.new e2 o1) (by show _ + (kc + 1) ≤ _; rw [z1]; omega) ⟨by rw [z1]; exact Nat.le_succ_of_le hS.1, fun q h1 h2 => (o1 q (Nat.lt_of_lt_of_le h1 hS.1)).trans (hS.2.1 q h1 h2), hS.2.2⟩
  rw [← hH] at this
  exact this
theorem z_putFR (C : zOk B Z cc own (zR kk0 mc ms) nL) (hin : Z.2.1.2.2.2.1.name = "<init>") {ci N index a : Nat} {Cn : String} {T : u_T} {ty : Nat → FieldType} (hc : zCl ci Cn T N ty) (k : Nat) (hk : k < N) (hw : Cond.fieldLink own index (T k).1 (T k).2.1 (T k).2.2.1 ∈ zWs) (hfin : (T k).2.2.2 = true) (hdecl : (T k).1 = own) (hn : ∀ r : Nat, narrow (ty k) (.ref r) = .ref r ∧ fits (ty k) (.ref r) = true) (d : decode cc pc = .ok (.putfield index, 3)) {r : Nat} {F : zH → Option α} (kk : ∀ h1, zJ B Z Q (F h1) (pc + 3) lv st h1 z) : zJ B Z Q ((zp h a ci k (.ref r)).bind F) pc lv (.ref (B + r) :: .ref (B + a) :: st) h z :=
  z_bind (fun h1 hh u hu H locs ls hL hP hz hS => by
    have hkk := kk h1
    obtain ⟨fs, e1, e2, rfl⟩ := zp_of hh
    have hl : k < (fs.map (zv B)).length := by rw [List.length_map]; exact e2
    have hap := va_apart (own := own) C.2.2.1 hc.2.1 ty hc.2.2.1 hc.2.2.2 C.2.2.2.2.1 hc.1
    obtain ⟨r9, h1', cell, q1, q2, q3, q4⟩ := hP a _ e1
    have hr : r9 = (Cn, T, N) := Option.some.inj (h1'.symm.trans hc.1)
    subst hr
    obtain ⟨hSl, hfc, kC, hkC, hkind⟩ := C.2.2.2.2.1.1 ci _ hc.1
    obtain ⟨cf, kf, fi, f, hi, hsl⟩ := hSl k hk
    have hlay := C.2.2.1 _ (hc.2.1 _ (u_in_lay hk))
    unfold u_lay at hlay
    rw [if_pos hfin] at hlay
    have hst := (u_facts hfc hkC (u_lays C.2.2.1 hc.2.1 hk) hi).1
    have hcf : Z.2.1.1.cls = cf := by
      obtain ⟨_, _, c', _, _, _, -, -, hf', -, -, -, hown2, -⟩ := Cond.laysFinal_spec hlay
      have e1 : c' = cf := by have := hi.symm.trans hf'; simp at this; exact this.1.symm
      rw [hdecl] at hown2
      rw [← e1]; exact Option.some.inj (C.2.2.2.1.symm.trans hown2)
    have h6 := u_fits hfc hkC hkind (Or.inr hlay) hi (hc.2.2.1 k hk) (hn (B + r)).1 (hn (B + r)).2
    refine W.putFinK C.1 C.2.1 C.2.2.2.1 (C.2.2.1 _ hw) hi hst hcf hin (by rw [q2]; exact h6) q1 q3 (by rw [hsl]; exact k2_hasslot (q4 k hk)) rfl rfl d fun H' g1 g2 g3 => ?_
    rw [hsl] at g1 ⊢
    refine hkk u hu H' _ ls hL (hP.set ?_ g3) (by rw [g2]; exact hz) (hS.put g2 g3 (Nat.le_add_right B a))
    refine ⟨_, hc.1, t_OB.to (V := updV (vp_V (fs.map (zv B))) k (.ref (B + r))) ⟨_, g1, q2, q3, t_set q4 hap hk _⟩ (fun j _ => ?_)⟩
    rw [show (fs.set k (.ref r)).map (zv B) = (fs.map (zv B)).set k (.ref (B + r)) from List.map_set]
    exact vp_updV_set hl _ j)
/-- a constructor's call -/
theorem z_callI {y : MethodName} {bytes : ByteArray} {maxL index n b k' mc' ms' : Nat} {As : List Value} {f : Option zH} {F : zH → Option α} (C : zOk B Z cc own (zR kk0 mc ms) nL) (hsz : Z.1.2.2.2.2.heap.size = B + n0) (rest : List Value) (hM : ∀ u, f = some u → zM Z.1.2.1 B Z.2.2.1 Z.2.2.2.1 y bytes maxL none k' mc' ms' (some (n0 + kc)) (.ref (B + b) :: As) h none u) (hn : zNm y n) (hinit : y.name = "<init>") (hk : Nat.ble (k' + 1) kk0 = true) (hx : Nat.ble (8 + (maxL + 11) + 64 * k') (64 * kk0) = true) (hrc : Nat.ble (kc + mc') mc = true) (hrs : Nat.ble (sl + ms') ms = true)
    (w1 : Cond.methodLink own index y ∈ zWs) (w2 : Cond.instanceMethod y ∈ zWs) (w4 : Cond.initialized y.cls ∈ zWs) (w5 : Cond.code y bytes maxL none ∈ zWs) (hlen : As.length = n) (hst : st = As.reverse ++ .ref (B + b) :: rest) (hrm : Nat.ble (rest.map fun v => v.category).sum 8 = true) (d : decode cc pc = .ok (.invokespecial index, 3)) (kk : ∀ h1, zJ B Z Q (F h1) (pc + 3) lv rest h1 (kc + mc', sl + ms', Z.1.2.2.2.2.heap.size + (kc + mc'))) : zJ B Z Q (f.bind F) pc lv st h (kc, sl, Z.1.2.2.2.2.heap.size + kc) :=
  z_bind (fun h1 hh u2 hu2 => by
    refine z_back (rest := rest) (mc' := mc') (ms' := ms') (v := none) (h' := h1) (a := (Value.ref (B + b) :: As).toArray) (fun H locs ls hL hP hz hS T9 hT X => ?_) ?_
    · obtain ⟨hx1, hx2, hts, hown, hK, hR, hml, hB, hN, hX, hlk, hnL⟩ := id C
      have hH : H.size = B + (n0 + kc) := z_size hsz hT hz X
      exact va_runI (own := own) (index := index) (bytes := bytes) (maxL := maxL) (n := n) (As := As) (b := B + b) ⟨hx1, hx2, hml, hown, hts⟩ (hM h1 hh) ⟨⟨rfl, rfl, by rw [hR]; exact Nat.le_of_ble_eq_true hk, by rw [hR]; exact Nat.le_of_ble_eq_true hx, pay_in hts (zgoodIn w5), List.mem_cons_self, hts _ w5, hts _ w4, hn.1, hn.len, hts _ w1⟩, hinit, hts _ w2⟩ ⟨zPc_blind, fun U hU hW => ⟨rfl, zSt_at C hP hS hU hW, fun n hn => by cases hn; rw [hU]; exact hH⟩⟩ rfl hlen hL.1 hst (lv_room (Nat.le_of_ble_eq_true hrm)) d (by rw [hR]; exact ⟨Nat.le_of_ble_eq_true hrc, Nat.le_of_ble_eq_true hrs⟩) T9 hT X
    · have := kk h1 u2 hu2
      rw [← Nat.add_assoc] at this
      exact this)
/-- a nest mate's constructor -/
theorem z_callIN {y : MethodName} {host : String} {bytes : ByteArray} {maxL index n b k' mc' ms' : Nat} {As : List Value} {f : Option zH} {F : zH → Option α} (C : zOk B Z cc own (zR kk0 mc ms) nL) (hsz : Z.1.2.2.2.2.heap.size = B + n0) (rest : List Value) (hM : ∀ u, f = some u → zM Z.1.2.1 B Z.2.2.1 Z.2.2.2.1 y bytes maxL none k' mc' ms' (some (n0 + kc)) (.ref (B + b) :: As) h none u) (hn : zNm y n) (hinit : y.name = "<init>") (hk : Nat.ble (k' + 1) kk0 = true) (hx : Nat.ble (8 + (maxL + 11) + 64 * k') (64 * kk0) = true) (hrc : Nat.ble (kc + mc') mc = true) (hrs : Nat.ble (sl + ms') ms = true)
    (w1 : va_Nw (.methodLinkNest own index y host) Z.1.2.2.2.2) (w2 : Cond.instanceMethod y ∈ zWs) (w4 : Cond.initialized y.cls ∈ zWs) (w5 : Cond.code y bytes maxL none ∈ zWs) (hlen : As.length = n) (hst : st = As.reverse ++ .ref (B + b) :: rest) (hrm : Nat.ble (rest.map fun v => v.category).sum 8 = true) (d : decode cc pc = .ok (.invokespecial index, 3)) (kk : ∀ h1, zJ B Z Q (F h1) (pc + 3) lv rest h1 (kc + mc', sl + ms', Z.1.2.2.2.2.heap.size + (kc + mc'))) : zJ B Z Q (f.bind F) pc lv st h (kc, sl, Z.1.2.2.2.2.heap.size + kc) :=
  z_bind (fun h1 hh u2 hu2 => by
    refine z_back (rest := rest) (mc' := mc') (ms' := ms') (v := none) (h' := h1) (a := (Value.ref (B + b) :: As).toArray) (fun H locs ls hL hP hz hS T9 hT X => ?_) ?_
    · obtain ⟨hx1, hx2, hts, hown, hK, hR, hml, hB, hN, hX, hlk, hnL⟩ := id C
      have hH : H.size = B + (n0 + kc) := z_size hsz hT hz X
      exact va_runIN (own := own) (host := host) (index := index) (bytes := bytes) (maxL := maxL) (n := n) (As := As) (b := B + b) ⟨hx1, hx2, hml, hown, hts⟩ (hM h1 hh) ⟨⟨⟨rfl, rfl, by rw [hR]; exact Nat.le_of_ble_eq_true hk, by rw [hR]; exact Nat.le_of_ble_eq_true hx, pay_in hts (zgoodIn w5), List.mem_cons_self⟩, hts _ w5, hts _ w4, hn.1, hn.len, va_Nw.use rfl w1⟩, hinit, hts _ w2⟩ ⟨zPc_blind, fun U hU hW => ⟨rfl, zSt_at C hP hS hU hW, fun n hn => by cases hn; rw [hU]; exact hH⟩⟩ rfl hlen hL.1 hst (lv_room (Nat.le_of_ble_eq_true hrm)) d (by rw [hR]; exact ⟨Nat.le_of_ble_eq_true hrc, Nat.le_of_ble_eq_true hrs⟩) T9 hT X
    · have := kk h1 u2 hu2
      rw [← Nat.add_assoc] at this
      exact this)
end ZNW
