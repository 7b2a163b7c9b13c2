/-! ABSTRACT HEAPS: ids to cells; references inside are ids too; the cell of id a lies at B + a; an array's class is a number, cA gives its id -/
abbrev zH : Type := Nat → Option va_E
def zset (h : zH) (a : Nat) (e : va_E) : zH := fun q => if q = a then some e else h q
def zv (B : Nat) (v : Value) : Value := match v with
  | .ref a => .ref (B + a)
  | v => v
def zA (B : Nat) (x : vp_A) : vp_A := match x with
  | (n, .inl f) => (n, .inl f)
  | (n, .inr (.inl f)) => (n, .inr (.inl f))
  | (n, .inr (.inr (.inl f))) => (n, .inr (.inr (.inl f)))
  | (n, .inr (.inr (.inr (.inl f)))) => (n, .inr (.inr (.inr (.inl f))))
  | (n, .inr (.inr (.inr (.inr f)))) => (n, .inr (.inr (.inr (.inr (fun j => (f j).map (fun a => B + a))))))
def ze (B : Nat) (cA : Nat → ClassId) (e : va_E) : va_E := match e with
  | .inl (c, x) => .inl (cA c, zA B x)
  | .inr (c, fs) => .inr (c, fs.map (zv B))
def zP (B : Nat) (D : va_G) (cA : Nat → ClassId) (h : zH) (H : Heap) : Prop := ∀ (a : Nat) (e : va_E), h a = some e → va_at D vwCl (B + a, ze B cA e) H
abbrev ztys (cA : Nat → ClassId) : List (ClassId × FieldType) := [(cA 0, .int), (cA 1, .int), (cA 2, .array .int), (cA 3, .object "StockLines$Company"), (cA 4, .object "StockLines$Game")]
def zty (k : Nat) : FieldType := match k with
  | 0 => .int
  | 1 => .int
  | 2 => .array .int
  | 3 => .object "StockLines$Company"
  | _ => .object "StockLines$Game"
theorem ztys_at (cA : Nat → ClassId) {k : Nat} (hk : k < 5) : (ztys cA)[k]? = some (cA k, zty k) := by
  match k, hk with
  | 0, _ => rfl
  | 1, _ => rfl
  | 2, _ => rfl
  | 3, _ => rfl
  | 4, _ => rfl
theorem zset_s {h : zH} {a : Nat} {e : va_E} : zset h a e a = some e := if_pos rfl
theorem zset_n {h : zH} {a b : Nat} {e : va_E} (hb : b ≠ a) : zset h a e b = h b := if_neg hb
theorem zP.one {B : Nat} {D : va_G} {cA : Nat → ClassId} {h : zH} {H : Heap} (hP : zP B D cA h H) {a : Nat} {e : va_E} (ha : h a = some e) : va_P D vwCl [(B + a, ze B cA e)] H := by
  intro k q hk
  have hz : k < 1 := (List.getElem?_eq_some_iff.mp hk).1
  rw [show k = 0 by omega] at hk
  cases hk
  exact hP a e ha
theorem zP.kept {B : Nat} {D : va_G} {cA : Nat → ClassId} {h : zH} {H H1 : Heap} (hP : zP B D cA h H) (hq : ∀ q : Nat, q < H.size → H1[q]? = H[q]?) : zP B D cA h H1 := fun a e ha => (hP a e ha).kept (hq _ (hP a e ha).lt)
theorem zP.set {B : Nat} {D : va_G} {cA : Nat → ClassId} {h : zH} {H H1 : Heap} (hP : zP B D cA h H) {a : Nat} {e : va_E} (he : va_at D vwCl (B + a, ze B cA e) H1) (oq : ∀ q : Nat, q ≠ B + a → H1[q]? = H[q]?) : zP B D cA (zset h a e) H1 := by
  intro b e' hb
  by_cases hba : b = a
  · subst hba
    rw [zset_s] at hb
    cases hb
    exact he
  · rw [zset_n hba] at hb
    exact (hP b e' hb).kept (oq _ (by show B + b ≠ B + a; omega))
theorem zP.new {B : Nat} {D : va_G} {cA : Nat → ClassId} {h : zH} {H H1 : Heap} (hP : zP B D cA h H) {a : Nat} {e : va_E} (he : va_at D vwCl (B + a, ze B cA e) H1) (oq : ∀ q : Nat, q < H.size → H1[q]? = H[q]?) : zP B D cA (zset h a e) H1 := by
  intro b e' hb
  by_cases hba : b = a
  · subst hba
    rw [zset_s] at hb
    cases hb
    exact he
  · rw [zset_n hba] at hb
    exact (hP b e' hb).kept (oq _ (hP b e' hb).lt)
/-! what the abstract instructions read and write -/
def zO (h : zH) (a ci : Nat) : Option (List Value) := match h a with
  | some (.inr (c, fs)) => if c = ci then some fs else none
  | _ => none
def zgI (h : zH) (a ci k : Nat) : Option Int32 := match zO h a ci with
  | some fs => (match fs[k]? with
    | some (.int x) => some x
    | _ => none)
  | none => none
def zgL (h : zH) (a ci k : Nat) : Option Int64 := match zO h a ci with
  | some fs => (match fs[k]? with
    | some (.long x) => some x
    | _ => none)
  | none => none
def zgR (h : zH) (a ci k : Nat) : Option Nat := match zO h a ci with
  | some fs => (match fs[k]? with
    | some (.ref x) => some x
    | _ => none)
  | none => none
def zp (h : zH) (a ci k : Nat) (v : Value) : Option zH := match zO h a ci with
  | some fs => if k < fs.length then some (zset h a (.inr (ci, fs.set k v))) else none
  | none => none
def zIA (h : zH) (a : Nat) : Option (Nat × (Nat → Int32)) := match h a with
  | some (.inl (c, n, .inl f)) => if c = 0 then some (n, f) else none
  | _ => none
def zLA (h : zH) (a : Nat) : Option (Nat × (Nat → Int64)) := match h a with
  | some (.inl (c, n, .inr (.inl f))) => if c = 1 then some (n, f) else none
  | _ => none
def zRA (h : zH) (a c : Nat) : Option (Nat × (Nat → Option Nat)) := match h a with
  | some (.inl (c', n, .inr (.inr (.inr (.inr f))))) => if c' = c then some (n, f) else none
  | _ => none
def zai (h : zH) (a : Nat) (i : Int32) : Option Int32 := match zIA h a with
  | some (n, f) => if i < 0 ∨ n ≤ i.toNatClampNeg then none else some (f i.toNatClampNeg)
  | none => none
def zsi (h : zH) (a : Nat) (i x : Int32) : Option zH := match zIA h a with
  | some (n, f) => if i < 0 ∨ n ≤ i.toNatClampNeg then none else some (zset h a (.inl (0, n, .inl (upd f i.toNatClampNeg x))))
  | none => none
def zal (h : zH) (a : Nat) (i : Int32) : Option Int64 := match zLA h a with
  | some (n, f) => if i < 0 ∨ n ≤ i.toNatClampNeg then none else some (f i.toNatClampNeg)
  | none => none
def zsl (h : zH) (a : Nat) (i : Int32) (x : Int64) : Option zH := match zLA h a with
  | some (n, f) => if i < 0 ∨ n ≤ i.toNatClampNeg then none else some (zset h a (.inl (1, n, .inr (.inl (vp_updL f i.toNatClampNeg x)))))
  | none => none
def zar (h : zH) (a c : Nat) (i : Int32) : Option Nat := match zRA h a c with
  | some (n, f) => if i < 0 ∨ n ≤ i.toNatClampNeg then none else f i.toNatClampNeg
  | none => none
/-- an element of an array of references of kind c (3: of objects of class 0; 4: of class 1) -/
def zsr (h : zH) (a c ci : Nat) (i : Int32) (r : Nat) : Option zH := match zRA h a c with
  | some (n, f) => if i < 0 ∨ n ≤ i.toNatClampNeg then none else (match zO h r ci with
    | some _ => some (zset h a (.inl (c, n, .inr (.inr (.inr (.inr (va_up f i.toNatClampNeg (some r))))))))
    | none => none)
  | none => none
def zlen (h : zH) (a : Nat) : Option Int32 := match zIA h a with
  | some (n, _) => some (Int32.ofNat n)
  | none => none
def zcp (h : zH) (a : Nat) (sp : Int32) (b : Nat) (dp n : Int32) : Option zH := match zIA h a with
  | some (n0, f) => (match zIA h b with
    | some (n1, g) => if sp < 0 ∨ dp < 0 ∨ n < 0 ∨ n0 < sp.toNatClampNeg + n.toNatClampNeg ∨ n1 < dp.toNatClampNeg + n.toNatClampNeg then none else some (zset h b (.inl (0, n1, .inl (va_cpy f g sp.toNatClampNeg dp.toNatClampNeg n.toNatClampNeg))))
    | none => none)
  | none => none
def zdiv (x y : Int32) : Option Int32 := if y = 0 then none else some (x / y)
def zrem (x y : Int32) : Int32 := x - x / y * y
/-- a truth value -/
def zB (x : Int32) : Option Int32 := if x = 0 ∨ x = 1 then some x else none
/-- the receiver of a call is an object of class ci -/
def zrc {β : Type} (h : zH) (a ci : Nat) (o : Option β) : Option β := match zO h a ci with
  | some _ => o
  | none => none
def zlet {α β : Type} (x : α) (F : α → Option β) : Option β := F x
def zb2 {α β γ : Type} (o : Option (α × β)) (F : α → β → Option γ) : Option γ := o.bind (fun u => F u.1 u.2)

def zfix1 {A1 β : Type} (F : (A1 → Option β) → A1 → Option β) : Nat → A1 → Option β
  | 0, _ => none
  | n + 1, a1 => F (zfix1 F n) a1
theorem zfix1_s {A1 β : Type} {F : (A1 → Option β) → A1 → Option β} {n : Nat} {a1 : A1} : zfix1 F (n + 1) a1 = F (zfix1 F n) a1 := rfl
def zfix2 {A1 A2 β : Type} (F : (A1 → A2 → Option β) → A1 → A2 → Option β) : Nat → A1 → A2 → Option β
  | 0, _, _ => none
  | n + 1, a1, a2 => F (zfix2 F n) a1 a2
theorem zfix2_s {A1 A2 β : Type} {F : (A1 → A2 → Option β) → A1 → A2 → Option β} {n : Nat} {a1 : A1} {a2 : A2} : zfix2 F (n + 1) a1 a2 = F (zfix2 F n) a1 a2 := rfl
def zfix3 {A1 A2 A3 β : Type} (F : (A1 → A2 → A3 → Option β) → A1 → A2 → A3 → Option β) : Nat → A1 → A2 → A3 → Option β
  | 0, _, _, _ => none
  | n + 1, a1, a2, a3 => F (zfix3 F n) a1 a2 a3
theorem zfix3_s {A1 A2 A3 β : Type} {F : (A1 → A2 → A3 → Option β) → A1 → A2 → A3 → Option β} {n : Nat} {a1 : A1} {a2 : A2} {a3 : A3} : zfix3 F (n + 1) a1 a2 a3 = F (zfix3 F n) a1 a2 a3 := rfl
def zfix4 {A1 A2 A3 A4 β : Type} (F : (A1 → A2 → A3 → A4 → Option β) → A1 → A2 → A3 → A4 → Option β) : Nat → A1 → A2 → A3 → A4 → Option β
  | 0, _, _, _, _ => none
  | n + 1, a1, a2, a3, a4 => F (zfix4 F n) a1 a2 a3 a4
theorem zfix4_s {A1 A2 A3 A4 β : Type} {F : (A1 → A2 → A3 → A4 → Option β) → A1 → A2 → A3 → A4 → Option β} {n : Nat} {a1 : A1} {a2 : A2} {a3 : A3} {a4 : A4} : zfix4 F (n + 1) a1 a2 a3 a4 = F (zfix4 F n) a1 a2 a3 a4 := rfl
def zfix5 {A1 A2 A3 A4 A5 β : Type} (F : (A1 → A2 → A3 → A4 → A5 → Option β) → A1 → A2 → A3 → A4 → A5 → Option β) : Nat → A1 → A2 → A3 → A4 → A5 → Option β
  | 0, _, _, _, _, _ => none
  | n + 1, a1, a2, a3, a4, a5 => F (zfix5 F n) a1 a2 a3 a4 a5
theorem zfix5_s {A1 A2 A3 A4 A5 β : Type} {F : (A1 → A2 → A3 → A4 → A5 → Option β) → A1 → A2 → A3 → A4 → A5 → Option β} {n : Nat} {a1 : A1} {a2 : A2} {a3 : A3} {a4 : A4} {a5 : A5} : zfix5 F (n + 1) a1 a2 a3 a4 a5 = F (zfix5 F n) a1 a2 a3 a4 a5 := rfl
def zfix6 {A1 A2 A3 A4 A5 A6 β : Type} (F : (A1 → A2 → A3 → A4 → A5 → A6 → Option β) → A1 → A2 → A3 → A4 → A5 → A6 → Option β) : Nat → A1 → A2 → A3 → A4 → A5 → A6 → Option β
  | 0, _, _, _, _, _, _ => none
  | n + 1, a1, a2, a3, a4, a5, a6 => F (zfix6 F n) a1 a2 a3 a4 a5 a6
theorem zfix6_s {A1 A2 A3 A4 A5 A6 β : Type} {F : (A1 → A2 → A3 → A4 → A5 → A6 → Option β) → A1 → A2 → A3 → A4 → A5 → A6 → Option β} {n : Nat} {a1 : A1} {a2 : A2} {a3 : A3} {a4 : A4} {a5 : A5} {a6 : A6} : zfix6 F (n + 1) a1 a2 a3 a4 a5 a6 = F (zfix6 F n) a1 a2 a3 a4 a5 a6 := rfl
def zfix7 {A1 A2 A3 A4 A5 A6 A7 β : Type} (F : (A1 → A2 → A3 → A4 → A5 → A6 → A7 → Option β) → A1 → A2 → A3 → A4 → A5 → A6 → A7 → Option β) : Nat → A1 → A2 → A3 → A4 → A5 → A6 → A7 → Option β
  | 0, _, _, _, _, _, _, _ => none
  | n + 1, a1, a2, a3, a4, a5, a6, a7 => F (zfix7 F n) a1 a2 a3 a4 a5 a6 a7
theorem zfix7_s {A1 A2 A3 A4 A5 A6 A7 β : Type} {F : (A1 → A2 → A3 → A4 → A5 → A6 → A7 → Option β) → A1 → A2 → A3 → A4 → A5 → A6 → A7 → Option β} {n : Nat} {a1 : A1} {a2 : A2} {a3 : A3} {a4 : A4} {a5 : A5} {a6 : A6} {a7 : A7} : zfix7 F (n + 1) a1 a2 a3 a4 a5 a6 a7 = F (zfix7 F n) a1 a2 a3 a4 a5 a6 a7 := rfl
def zfix8 {A1 A2 A3 A4 A5 A6 A7 A8 β : Type} (F : (A1 → A2 → A3 → A4 → A5 → A6 → A7 → A8 → Option β) → A1 → A2 → A3 → A4 → A5 → A6 → A7 → A8 → Option β) : Nat → A1 → A2 → A3 → A4 → A5 → A6 → A7 → A8 → Option β
  | 0, _, _, _, _, _, _, _, _ => none
  | n + 1, a1, a2, a3, a4, a5, a6, a7, a8 => F (zfix8 F n) a1 a2 a3 a4 a5 a6 a7 a8
theorem zfix8_s {A1 A2 A3 A4 A5 A6 A7 A8 β : Type} {F : (A1 → A2 → A3 → A4 → A5 → A6 → A7 → A8 → Option β) → A1 → A2 → A3 → A4 → A5 → A6 → A7 → A8 → Option β} {n : Nat} {a1 : A1} {a2 : A2} {a3 : A3} {a4 : A4} {a5 : A5} {a6 : A6} {a7 : A7} {a8 : A8} : zfix8 F (n + 1) a1 a2 a3 a4 a5 a6 a7 a8 = F (zfix8 F n) a1 a2 a3 a4 a5 a6 a7 a8 := rfl
/-! THE JUDGEMENT -/
abbrev zC : Type := (Program × Launch × Env × Room × State) × (MethodId × Array Value × List Frame × Method × Code) × (va_G × (Nat → ClassId) × Nat)
abbrev zN_RS : MethodName := ⟨"StockLines$RouteSearch", "<init>", "()V"⟩
def zAOA (U : State) : Prop := (Cond.arrayOver (.array .int)).before #[] U = true
theorem zAOA.moved {u U : State} (hvm : u.vm.Alike U.vm) (h : zAOA u) : zAOA U := by
  unfold zAOA Cond.before Cond.holds at h ⊢
  simp only [Cond.value, beq_iff_eq] at h ⊢
  have hi : ∀ comp : ClassId, (U.vm.classes.findIdx? fun (x : Class) => match x.kind with | .array component _ => component == comp | _ => false) = (u.vm.classes.findIdx? fun (x : Class) => match x.kind with | .array component _ => component == comp | _ => false) := by
    intro comp
    have hb : U.vm.bare = u.vm.bare := by first | exact hvm.bare_eq | exact hvm.bare_eq.symm
    exact (va_idx_bare U.vm comp).symm.trans ((congrArg (fun v : Vm => v.classes.findIdx? fun (x : Class) => match x.kind with | .array component _ => component == comp | _ => false) hb).trans (va_idx_bare u.vm comp))
  rw [hvm.findClass]
  cases hc : u.vm.findClass (FieldType.array FieldType.int).toString with
  | none => rw [hc] at h; simp at h
  | some comp =>
    rw [hc] at h
    simp only [Option.bind_some] at h ⊢
    have h2 := hi comp
    cases hx : (u.vm.classes.findIdx? fun (x : Class) => match x.kind with | .array component _ => component == comp | _ => false) with
    | none =>
      have h3 := (congrArg (fun o : Option Nat => (o.bind (fun c => (u.vm.classes[c]?).map fun (k : Class) => match k.kind with | .array _ ty => decide (ty = FieldType.array FieldType.int) && decide (u.vm.findClass ("[" ++ (FieldType.array FieldType.int).toString) = some c) | _ => false))) hx).symm.trans h
      simp at h3
    | some c =>
      have h3 := (congrArg (fun o : Option Nat => (o.bind (fun c => (u.vm.classes[c]?).map fun (k : Class) => match k.kind with | .array _ ty => decide (ty = FieldType.array FieldType.int) && decide (u.vm.findClass ("[" ++ (FieldType.array FieldType.int).toString) = some c) | _ => false))) hx).symm.trans h
      simp only [Option.bind_some, Option.map_eq_some_iff] at h3
      obtain ⟨k, hk, hb⟩ := h3
      obtain ⟨k', hk', he⟩ := hvm.2.2 _ _ hk
      refine (congrArg (fun o : Option Nat => (o.bind (fun c => (U.vm.classes[c]?).map fun (k : Class) => match k.kind with | .array _ ty => decide (ty = FieldType.array FieldType.int) && decide (U.vm.findClass ("[" ++ (FieldType.array FieldType.int).toString) = some c) | _ => false))) (h2.trans hx)).trans ?_
      simp only [Option.bind_some, Option.map_eq_some_iff]
      refine ⟨k', hk', ?_⟩
      rw [hvm.findClass]
      rw [he]
      exact hb
def zNa (U : State) : Prop := va_Nw (.methodLinkNest "StockLines" 9 ⟨"StockLines$RouteSearch", "<init>", "()V"⟩ "StockLines") U ∧ va_Nw (.methodLinkNest "StockLines$Game" 35 ⟨"StockLines$Company", "<init>", "()V"⟩ "StockLines") U ∧ va_Nw (.methodLinkNest "StockLines" 31 ⟨"StockLines$Script", "<init>", "()V"⟩ "StockLines") U ∧ va_Nw (.methodLinkNest "StockLines$Game" 167 ⟨"StockLines", "isTown", "(I)Z"⟩ "StockLines") U
def zExN (e : Nat) : String := match e with
  | 0 => "java/lang/IllegalArgumentException"
  | 1 => "java/lang/IndexOutOfBoundsException"
  | _ => "java/lang/IllegalStateException"
def zNb (U : State) : Prop := va_Nw (.castable (zExN 0) (zExN 0)) U ∧ va_Nw (.castable (zExN 1) (zExN 1)) U ∧ va_Nw (.castable (zExN 2) (zExN 2)) U ∧ va_Nw (.declares ⟨"java/lang/RuntimeException", "<init>", "()V"⟩) U ∧ va_Nw (.declares ⟨"java/lang/Exception", "<init>", "()V"⟩) U ∧ va_Nw (.declares ⟨"java/lang/Throwable", "<init>", "()V"⟩) U
def zNc (U : State) : Prop := va_Nc (zExN 0) (zExN 1) U ∧ va_Nc (zExN 2) (zExN 1) U ∧ va_Nc (zExN 2) (zExN 0) U
def zNd (U : State) : Prop := va_AO "StockLines$Company" U ∧ va_AO "StockLines$Game" U ∧ zAOA U
def zN (U : State) : Prop := zNa U ∧ zNb U ∧ zNc U ∧ zNd U
def zX (B : Nat) (U : State) (H : Heap) : Prop := vx_Zq Bundle.tN "UNASSIGNED_STACK" Bundle.steD (fun q => B ≤ q) U H ∧ vx_Zq Bundle.tN "SUPPRESSED_SENTINEL" Bundle.listD (fun q => B ≤ q) U H
def zSt (B : Nat) (D : va_G) (cA : Nat → ClassId) (h : zH) (U : State) : Prop := zP B D cA h U.heap ∧ va_K D vwCl (ztys cA) U ∧ B ≤ U.heap.size ∧ zN U ∧ zX B U U.heap
def zOk (B : Nat) (Z : zC) (cc : ByteArray) (own : String) (R : Room) (nL : Nat) : Prop :=
  Z.1.1.tables.exec = Jvm.exec ∧ Z.2.1.2.2.2.2.code = cc ∧ (∀ w ∈ zWs, w.before Z.2.1.2.1 Z.1.2.2.2.2 = true) ∧ Z.1.2.2.2.2.vm.findClass own = some Z.2.1.1.cls ∧ va_K Z.2.2.1 vwCl (ztys Z.2.2.2.1) Z.1.2.2.2.2 ∧ Z.1.2.2.2.1 = R ∧ Z.2.1.2.2.2.2.maxLocals = Z.2.2.2.2 ∧ B ≤ Z.1.2.2.2.2.heap.size ∧ zN Z.1.2.2.2.2 ∧ zX B Z.1.2.2.2.2 Z.1.2.2.2.2.heap ∧ Z.2.1.2.2.2.1.locks = false ∧ Z.2.2.2.2 = nL
def zW (B : Nat) (Z : zC) (Q : State → Prop) (pc : Nat) (lv : List (Nat × Value)) (st : List Value) (h : zH) (z : Nat × Nat × Nat) : Prop :=
  ∀ (H : Heap) (locs : List Loc) (ls : Array Slot), lv_has ls Z.2.2.2.2 lv → zP B Z.2.2.1 Z.2.2.2.1 h H → z.2.2 ≤ H.size → va_S (fun q => B ≤ q) Z.1.2.2.2.2.heap H locs →
    W Z.1.1 Z.1.2.1 Z.1.2.2.1 Z.1.2.2.2.1 Z.1.2.2.2.2 Z.2.1.1 Z.2.1.2.1 Z.2.1.2.2.1 Z.2.1.2.2.2.1 Z.2.1.2.2.2.2 H locs z.1 z.2.1 Q (F0 Z.2.1.1 pc ls st)
/-- if the abstract run o comes to u, the machine, now at pc with the locals lv, the stack st and a heap that stands for h, comes to a state of Q u -/
def zJ (B : Nat) (Z : zC) {α : Type} (Q : α → State → Prop) (o : Option α) (pc : Nat) (lv : List (Nat × Value)) (st : List Value) (h : zH) (z : Nat × Nat × Nat) : Prop := ∀ u, o = some u → zW B Z (Q u) pc lv st h z
section ZR
variable {B : Nat} {Z : zC} {α β γ : Type} {Q : α → State → Prop} {o o1 o2 : Option α} {pc : Nat} {lv lv' : List (Nat × Value)} {st : List Value} {h : zH} {z : Nat × Nat × Nat} {cc : ByteArray} {own : String} {R : Room} {nL : Nat}
theorem zlt {B : Nat} {Z : zC} {cc : ByteArray} {own : String} {R : Room} {nL i : Nat} (C : zOk B Z cc own R nL) (h : i < nL) : i < (Z.2.2.2.2 : Nat) := by rw [C.2.2.2.2.2.2.2.2.2.2.2]; exact h
theorem z_none : zJ B Z Q none pc lv st h z := fun u hu => nomatch hu
theorem z_let {x : β} {F : β → Option α} (k : zJ B Z Q (F x) pc lv st h z) : zJ B Z Q (zlet x F) pc lv st h z := k
theorem z_letg {x : β} {F : β → Option α} (P : β → Prop) (hx : P x) (k : ∀ K, P K → zJ B Z Q (F K) pc lv st h z) : zJ B Z Q (zlet x F) pc lv st h z := k x hx
theorem z_sub (ks : List Nat) (hl : lv_pick lv ks = lv') (k : zJ B Z Q o pc lv' st h z) : zJ B Z Q o pc lv st h z := fun u hu H locs ls hL hP hz hS => k u hu H locs ls (lv_sub hL ks hl) hP hz hS
theorem z_bind {x : Option β} {F : β → Option α} (k : ∀ y, x = some y → zJ B Z Q (F y) pc lv st h z) : zJ B Z Q (x.bind F) pc lv st h z := by
  cases hx : x with
  | none => exact z_none
  | some y => exact k y hx
theorem z_b2 {x : Option (β × γ)} {F : β → γ → Option α} (k : ∀ y w, x = some (y, w) → zJ B Z Q (F y w) pc lv st h z) : zJ B Z Q (zb2 x F) pc lv st h z := by
  cases hx : x with
  | none => exact z_none
  | some y => exact k y.1 y.2 hx
theorem z_rc {a ci : Nat} {x : Option α} (k : ∀ fs, zO h a ci = some fs → zJ B Z Q x pc lv st h z) : zJ B Z Q (zrc h a ci x) pc lv st h z := by
  unfold zrc
  cases hx : zO h a ci with
  | none => exact z_none
  | some y => exact k y hx

theorem z_iconst (C : zOk B Z cc own R nL) {n : Int} {v : Int32} (d : decode cc pc = .ok (.iconst n, 1)) (hv : Int32.ofInt n = v) (k : zJ B Z Q o (pc + 1) lv (.int v :: st) h z) : zJ B Z Q o pc lv (st) h z := fun u hu H locs ls hL hP hz hS => lv_iconst C.1 C.2.1 d hv (k u hu H locs ls hL hP hz hS)
theorem z_bipush (C : zOk B Z cc own R nL) {n : Int} {v : Int32} (d : decode cc pc = .ok (.bipush n, 2)) (hv : (Int8.ofInt n).toInt32 = v) (k : zJ B Z Q o (pc + 2) lv (.int v :: st) h z) : zJ B Z Q o pc lv (st) h z := fun u hu H locs ls hL hP hz hS => lv_bipush C.1 C.2.1 d hv (k u hu H locs ls hL hP hz hS)
theorem z_sipush (C : zOk B Z cc own R nL) {n : Int} {v : Int32} (d : decode cc pc = .ok (.sipush n, 3)) (hv : (Int16.ofInt n).toInt32 = v) (k : zJ B Z Q o (pc + 3) lv (.int v :: st) h z) : zJ B Z Q o pc lv (st) h z := fun u hu H locs ls hL hP hz hS => lv_sipush C.1 C.2.1 d hv (k u hu H locs ls hL hP hz hS)
theorem z_iload (C : zOk B Z cc own R nL) {i : Nat} {x : Int32} (d : decode cc pc = .ok (.iload i, 2)) (j : Nat) (hl : lv[j]? = some (i, .int x)) (k : zJ B Z Q o (pc + 2) lv (.int x :: st) h z) : zJ B Z Q o pc lv (st) h z := fun u hu H locs ls hL hP hz hS => lv_iload C.1 C.2.1 d (lv_at hL j hl) (k u hu H locs ls hL hP hz hS)
theorem z_iload_n (C : zOk B Z cc own R nL) {i : Fin 4} {i2 : Nat} {x : Int32} (d : decode cc pc = .ok (.iload_n i, 1)) (hi : (i : Nat) = i2) (j : Nat) (hl : lv[j]? = some (i2, .int x)) (k : zJ B Z Q o (pc + 1) lv (.int x :: st) h z) : zJ B Z Q o pc lv (st) h z := fun u hu H locs ls hL hP hz hS => lv_iload_n C.1 C.2.1 d hi (lv_at hL j hl) (k u hu H locs ls hL hP hz hS)
theorem z_lload (C : zOk B Z cc own R nL) {i : Nat} {x : Int64} (d : decode cc pc = .ok (.lload i, 2)) (j : Nat) (hl : lv[j]? = some (i, .long x)) (k : zJ B Z Q o (pc + 2) lv (.long x :: st) h z) : zJ B Z Q o pc lv (st) h z := fun u hu H locs ls hL hP hz hS => lv_lload C.1 C.2.1 d (lv_at hL j hl) (k u hu H locs ls hL hP hz hS)
theorem z_lload_n (C : zOk B Z cc own R nL) {i : Fin 4} {i2 : Nat} {x : Int64} (d : decode cc pc = .ok (.lload_n i, 1)) (hi : (i : Nat) = i2) (j : Nat) (hl : lv[j]? = some (i2, .long x)) (k : zJ B Z Q o (pc + 1) lv (.long x :: st) h z) : zJ B Z Q o pc lv (st) h z := fun u hu H locs ls hL hP hz hS => lv_lload_n C.1 C.2.1 d hi (lv_at hL j hl) (k u hu H locs ls hL hP hz hS)
theorem z_dload (C : zOk B Z cc own R nL) {i : Nat} {x : UInt64} (d : decode cc pc = .ok (.dload i, 2)) (j : Nat) (hl : lv[j]? = some (i, .double x)) (k : zJ B Z Q o (pc + 2) lv (.double x :: st) h z) : zJ B Z Q o pc lv (st) h z := fun u hu H locs ls hL hP hz hS => lv_dload C.1 C.2.1 d (lv_at hL j hl) (k u hu H locs ls hL hP hz hS)
theorem z_dload_n (C : zOk B Z cc own R nL) {i : Fin 4} {i2 : Nat} {x : UInt64} (d : decode cc pc = .ok (.dload_n i, 1)) (hi : (i : Nat) = i2) (j : Nat) (hl : lv[j]? = some (i2, .double x)) (k : zJ B Z Q o (pc + 1) lv (.double x :: st) h z) : zJ B Z Q o pc lv (st) h z := fun u hu H locs ls hL hP hz hS => lv_dload_n C.1 C.2.1 d hi (lv_at hL j hl) (k u hu H locs ls hL hP hz hS)
theorem z_aload (C : zOk B Z cc own R nL) {i x : Nat} (d : decode cc pc = .ok (.aload i, 2)) (j : Nat) (hl : lv[j]? = some (i, .ref x)) (k : zJ B Z Q o (pc + 2) lv (.ref x :: st) h z) : zJ B Z Q o pc lv (st) h z := fun u hu H locs ls hL hP hz hS => lv_aload C.1 C.2.1 d (lv_at hL j hl) (k u hu H locs ls hL hP hz hS)
theorem z_aload_n (C : zOk B Z cc own R nL) {i : Fin 4} {i2 x : Nat} (d : decode cc pc = .ok (.aload_n i, 1)) (hi : (i : Nat) = i2) (j : Nat) (hl : lv[j]? = some (i2, .ref x)) (k : zJ B Z Q o (pc + 1) lv (.ref x :: st) h z) : zJ B Z Q o pc lv (st) h z := fun u hu H locs ls hL hP hz hS => lv_aload_n C.1 C.2.1 d hi (lv_at hL j hl) (k u hu H locs ls hL hP hz hS)
theorem z_istore (C : zOk B Z cc own R nL) {i : Nat} {x : Int32} (d : decode cc pc = .ok (.istore i, 2)) (hn : i < nL) (hl : (i, .int x) :: lv.filter (fun q => !(q.1 == i) && !(q.1 + 1 == i && q.2.category == 2)) = lv') (k : zJ B Z Q o (pc + 2) lv' st h z) : zJ B Z Q o pc lv (.int x :: st) h z := fun u hu H locs ls hL hP hz hS => lv_istore C.1 C.2.1 d hL (zlt C hn) hl (fun ls hL => k u hu H locs ls hL hP hz hS)
theorem z_istore_n (C : zOk B Z cc own R nL) {j : Fin 4} {i : Nat} {x : Int32} (d : decode cc pc = .ok (.istore_n j, 1)) (hi : (j : Nat) = i) (hn : i < nL) (hl : (i, .int x) :: lv.filter (fun q => !(q.1 == i) && !(q.1 + 1 == i && q.2.category == 2)) = lv') (k : zJ B Z Q o (pc + 1) lv' st h z) : zJ B Z Q o pc lv (.int x :: st) h z := fun u hu H locs ls hL hP hz hS => lv_istore_n C.1 C.2.1 d hi hL (zlt C hn) hl (fun ls hL => k u hu H locs ls hL hP hz hS)
theorem z_astore (C : zOk B Z cc own R nL) {i : Nat} {x : Nat} (d : decode cc pc = .ok (.astore i, 2)) (hn : i < nL) (hl : (i, .ref x) :: lv.filter (fun q => !(q.1 == i) && !(q.1 + 1 == i && q.2.category == 2)) = lv') (k : zJ B Z Q o (pc + 2) lv' st h z) : zJ B Z Q o pc lv (.ref x :: st) h z := fun u hu H locs ls hL hP hz hS => lv_astore C.1 C.2.1 d hL (zlt C hn) hl (fun ls hL => k u hu H locs ls hL hP hz hS)
theorem z_astore_n (C : zOk B Z cc own R nL) {j : Fin 4} {i : Nat} {x : Nat} (d : decode cc pc = .ok (.astore_n j, 1)) (hi : (j : Nat) = i) (hn : i < nL) (hl : (i, .ref x) :: lv.filter (fun q => !(q.1 == i) && !(q.1 + 1 == i && q.2.category == 2)) = lv') (k : zJ B Z Q o (pc + 1) lv' st h z) : zJ B Z Q o pc lv (.ref x :: st) h z := fun u hu H locs ls hL hP hz hS => lv_astore_n C.1 C.2.1 d hi hL (zlt C hn) hl (fun ls hL => k u hu H locs ls hL hP hz hS)
theorem z_lstore (C : zOk B Z cc own R nL) {i : Nat} {x : Int64} (d : decode cc pc = .ok (.lstore i, 2)) (hn : i + 1 < nL) (hl : (i, .long x) :: lv.filter (fun q => !(q.1 == i) && (!(q.1 == i + 1) && !(q.1 + 1 == i && q.2.category == 2))) = lv') (k : zJ B Z Q o (pc + 2) lv' st h z) : zJ B Z Q o pc lv (.long x :: st) h z := fun u hu H locs ls hL hP hz hS => lv_lstore C.1 C.2.1 d hL (zlt C hn) hl (fun ls hL => k u hu H locs ls hL hP hz hS)
theorem z_lstore_n (C : zOk B Z cc own R nL) {j : Fin 4} {i : Nat} {x : Int64} (d : decode cc pc = .ok (.lstore_n j, 1)) (hi : (j : Nat) = i) (hn : i + 1 < nL) (hl : (i, .long x) :: lv.filter (fun q => !(q.1 == i) && (!(q.1 == i + 1) && !(q.1 + 1 == i && q.2.category == 2))) = lv') (k : zJ B Z Q o (pc + 1) lv' st h z) : zJ B Z Q o pc lv (.long x :: st) h z := fun u hu H locs ls hL hP hz hS => lv_lstore_n C.1 C.2.1 d hi hL (zlt C hn) hl (fun ls hL => k u hu H locs ls hL hP hz hS)
theorem z_dstore (C : zOk B Z cc own R nL) {i : Nat} {x : UInt64} (d : decode cc pc = .ok (.dstore i, 2)) (hn : i + 1 < nL) (hl : (i, .double x) :: lv.filter (fun q => !(q.1 == i) && (!(q.1 == i + 1) && !(q.1 + 1 == i && q.2.category == 2))) = lv') (k : zJ B Z Q o (pc + 2) lv' st h z) : zJ B Z Q o pc lv (.double x :: st) h z := fun u hu H locs ls hL hP hz hS => lv_dstore C.1 C.2.1 d hL (zlt C hn) hl (fun ls hL => k u hu H locs ls hL hP hz hS)
theorem z_dstore_n (C : zOk B Z cc own R nL) {j : Fin 4} {i : Nat} {x : UInt64} (d : decode cc pc = .ok (.dstore_n j, 1)) (hi : (j : Nat) = i) (hn : i + 1 < nL) (hl : (i, .double x) :: lv.filter (fun q => !(q.1 == i) && (!(q.1 == i + 1) && !(q.1 + 1 == i && q.2.category == 2))) = lv') (k : zJ B Z Q o (pc + 1) lv' st h z) : zJ B Z Q o pc lv (.double x :: st) h z := fun u hu H locs ls hL hP hz hS => lv_dstore_n C.1 C.2.1 d hi hL (zlt C hn) hl (fun ls hL => k u hu H locs ls hL hP hz hS)
theorem z_iinc (C : zOk B Z cc own R nL) {i : Nat} {n : Int} {x v : Int32} (d : decode cc pc = .ok (.iinc i n, 3)) (j : Nat) (hk : lv[j]? = some (i, .int x)) (hv : x + Int32.ofInt n = v) (hn : i < nL) (hl : (i, .int v) :: lv.filter (fun q => !(q.1 == i) && !(q.1 + 1 == i && q.2.category == 2)) = lv') (k : zJ B Z Q o (pc + 3) lv' st h z) : zJ B Z Q o pc lv st h z := fun u hu H locs ls hL hP hz hS => lv_iinc C.1 C.2.1 d hL hk hv (zlt C hn) hl (fun ls hL => k u hu H locs ls hL hP hz hS)
theorem z_iadd (C : zOk B Z cc own R nL) {x y : Int32} (d : decode cc pc = .ok (.iadd, 1)) (k : zJ B Z Q o (pc + 1) lv (.int (x + y) :: st) h z) : zJ B Z Q o pc lv (.int y :: .int x :: st) h z := fun u hu H locs ls hL hP hz hS => lv_iadd C.1 C.2.1 d (k u hu H locs ls hL hP hz hS)
theorem z_isub (C : zOk B Z cc own R nL) {x y : Int32} (d : decode cc pc = .ok (.isub, 1)) (k : zJ B Z Q o (pc + 1) lv (.int (x - y) :: st) h z) : zJ B Z Q o pc lv (.int y :: .int x :: st) h z := fun u hu H locs ls hL hP hz hS => lv_isub C.1 C.2.1 d (k u hu H locs ls hL hP hz hS)
theorem z_imul (C : zOk B Z cc own R nL) {x y : Int32} (d : decode cc pc = .ok (.imul, 1)) (k : zJ B Z Q o (pc + 1) lv (.int (x * y) :: st) h z) : zJ B Z Q o pc lv (.int y :: .int x :: st) h z := fun u hu H locs ls hL hP hz hS => lv_imul C.1 C.2.1 d (k u hu H locs ls hL hP hz hS)
theorem z_iand (C : zOk B Z cc own R nL) {x y : Int32} (d : decode cc pc = .ok (.iand, 1)) (k : zJ B Z Q o (pc + 1) lv (.int (x &&& y) :: st) h z) : zJ B Z Q o pc lv (.int y :: .int x :: st) h z := fun u hu H locs ls hL hP hz hS => lv_iand C.1 C.2.1 d (k u hu H locs ls hL hP hz hS)
theorem z_ior (C : zOk B Z cc own R nL) {x y : Int32} (d : decode cc pc = .ok (.ior, 1)) (k : zJ B Z Q o (pc + 1) lv (.int (x ||| y) :: st) h z) : zJ B Z Q o pc lv (.int y :: .int x :: st) h z := fun u hu H locs ls hL hP hz hS => lv_ior C.1 C.2.1 d (k u hu H locs ls hL hP hz hS)
theorem z_ishl (C : zOk B Z cc own R nL) {x y : Int32} (d : decode cc pc = .ok (.ishl, 1)) (k : zJ B Z Q o (pc + 1) lv (.int (x <<< (y &&& 31)) :: st) h z) : zJ B Z Q o pc lv (.int y :: .int x :: st) h z := fun u hu H locs ls hL hP hz hS => lv_ishl C.1 C.2.1 d (k u hu H locs ls hL hP hz hS)
theorem z_ishr (C : zOk B Z cc own R nL) {x y : Int32} (d : decode cc pc = .ok (.ishr, 1)) (k : zJ B Z Q o (pc + 1) lv (.int (x >>> (y &&& 31)) :: st) h z) : zJ B Z Q o pc lv (.int y :: .int x :: st) h z := fun u hu H locs ls hL hP hz hS => lv_ishr C.1 C.2.1 d (k u hu H locs ls hL hP hz hS)
theorem z_ladd (C : zOk B Z cc own R nL) {x y : Int64} (d : decode cc pc = .ok (.ladd, 1)) (k : zJ B Z Q o (pc + 1) lv (.long (x + y) :: st) h z) : zJ B Z Q o pc lv (.long y :: .long x :: st) h z := fun u hu H locs ls hL hP hz hS => lv_ladd C.1 C.2.1 d (k u hu H locs ls hL hP hz hS)
theorem z_lmul (C : zOk B Z cc own R nL) {x y : Int64} (d : decode cc pc = .ok (.lmul, 1)) (k : zJ B Z Q o (pc + 1) lv (.long (x * y) :: st) h z) : zJ B Z Q o pc lv (.long y :: .long x :: st) h z := fun u hu H locs ls hL hP hz hS => lv_lmul C.1 C.2.1 d (k u hu H locs ls hL hP hz hS)
theorem z_ineg (C : zOk B Z cc own R nL) {x : Int32} (d : decode cc pc = .ok (.ineg, 1)) (k : zJ B Z Q o (pc + 1) lv (.int (-x) :: st) h z) : zJ B Z Q o pc lv (.int x :: st) h z := fun u hu H locs ls hL hP hz hS => lv_ineg C.1 C.2.1 d (k u hu H locs ls hL hP hz hS)
theorem z_i2l (C : zOk B Z cc own R nL) {x : Int32} (d : decode cc pc = .ok (.i2l, 1)) (k : zJ B Z Q o (pc + 1) lv (.long x.toInt64 :: st) h z) : zJ B Z Q o pc lv (.int x :: st) h z := fun u hu H locs ls hL hP hz hS => lv_i2l C.1 C.2.1 d rfl (k u hu H locs ls hL hP hz hS)
theorem z_i2d (C : zOk B Z cc own R nL) {x : Int32} (d : decode cc pc = .ok (.i2d, 1)) (k : zJ B Z Q o (pc + 1) lv (.double (FP.i2d x) :: st) h z) : zJ B Z Q o pc lv (.int x :: st) h z := fun u hu H locs ls hL hP hz hS => lv_i2d C.1 C.2.1 d (k u hu H locs ls hL hP hz hS)
theorem z_lcmp (C : zOk B Z cc own R nL) {x y : Int64} (d : decode cc pc = .ok (.lcmp, 1)) (k : zJ B Z Q o (pc + 1) lv (.int (lg_cmp x y) :: st) h z) : zJ B Z Q o pc lv (.long y :: .long x :: st) h z := fun u hu H locs ls hL hP hz hS => W.lcmp C.1 C.2.1 d (k u hu H locs ls hL hP hz hS)
theorem z_dcmp (C : zOk B Z cc own R nL) {x y : UInt64} {op : CmpOp} (d : decode cc pc = .ok (.dcmp op, 1)) (k : zJ B Z Q o (pc + 1) lv (.int (Op.cmpValue (FP.dcmp x y) op) :: st) h z) : zJ B Z Q o pc lv (.double y :: .double x :: st) h z := fun u hu H locs ls hL hP hz hS => lv_dcmp C.1 C.2.1 d (k u hu H locs ls hL hP hz hS)
theorem z_dconst0 (C : zOk B Z cc own R nL)  (d : decode cc pc = .ok (.dconst 0, 1)) (k : zJ B Z Q o (pc + 1) lv (.double FP.dconst0 :: st) h z) : zJ B Z Q o pc lv (st) h z := fun u hu H locs ls hL hP hz hS => lv_dconst0 C.1 C.2.1 d (k u hu H locs ls hL hP hz hS)
theorem z_ddiv (C : zOk B Z cc own R nL) {x y : UInt64} (d : decode cc pc = .ok (.ddiv, 1)) (hne : vf_n64 (FP.ddiv x y)) (k : zJ B Z Q o (pc + 1) lv (.double (FP.ddiv x y) :: st) h z) : zJ B Z Q o pc lv (.double y :: .double x :: st) h z := fun u hu H locs ls hL hP hz hS => lv_ddiv C.1 C.2.1 d hne (k u hu H locs ls hL hP hz hS)
theorem z_idivc (C : zOk B Z cc own R nL) {x y : Int32} (d : decode cc pc = .ok (.idiv, 1)) (hne : ¬ y = 0) (k : zJ B Z Q o (pc + 1) lv (.int (x / y) :: st) h z) : zJ B Z Q o pc lv (.int y :: .int x :: st) h z := fun u hu H locs ls hL hP hz hS => lv_idiv C.1 C.2.1 d hne (k u hu H locs ls hL hP hz hS)
theorem z_iremc (C : zOk B Z cc own R nL) {x y : Int32} (d : decode cc pc = .ok (.irem, 1)) (hne : ¬ y = 0) (k : zJ B Z Q o (pc + 1) lv (.int (zrem x y) :: st) h z) : zJ B Z Q o pc lv (.int y :: .int x :: st) h z := fun u hu H locs ls hL hP hz hS => lv_irem C.1 C.2.1 d hne (k u hu H locs ls hL hP hz hS)
theorem z_dup (C : zOk B Z cc own R nL) {v : Value} (d : decode cc pc = .ok (.dup, 1)) (hv : v.category = 1) (k : zJ B Z Q o (pc + 1) lv (v :: v :: st) h z) : zJ B Z Q o pc lv (v :: st) h z := fun u hu H locs ls hL hP hz hS => lv_dup C.1 C.2.1 d hv (k u hu H locs ls hL hP hz hS)
theorem z_dup2 (C : zOk B Z cc own R nL) {v w : Value} (d : decode cc pc = .ok (.dup2, 1)) (hv : v.category = 1) (hw : w.category = 1) (k : zJ B Z Q o (pc + 1) lv (v :: w :: v :: w :: st) h z) : zJ B Z Q o pc lv (v :: w :: st) h z := fun u hu H locs ls hL hP hz hS => lv_dup2_11 C.1 C.2.1 d hv hw (k u hu H locs ls hL hP hz hS)
theorem z_pop (C : zOk B Z cc own R nL) {v : Value} (d : decode cc pc = .ok (.pop, 1)) (hv : v.category = 1) (k : zJ B Z Q o (pc + 1) lv (st) h z) : zJ B Z Q o pc lv (v :: st) h z := fun u hu H locs ls hL hP hz hS => lv_pop C.1 C.2.1 d hv (k u hu H locs ls hL hP hz hS)
theorem z_idiv (C : zOk B Z cc own R nL) {x y : Int32} {F : Int32 → Option α} (d : decode cc pc = .ok (.idiv, 1)) (k : zJ B Z Q (F (x / y)) (pc + 1) lv (.int (x / y) :: st) h z) : zJ B Z Q ((zdiv x y).bind F) pc lv (.int y :: .int x :: st) h z := by
  unfold zdiv
  by_cases hy : y = 0
  · rw [if_pos hy]; exact z_none
  · rw [if_neg hy]
    exact z_idivc C d hy k
theorem z_goto (C : zOk B Z cc own R nL) {off : Int} {tgt : Nat} (d : decode cc pc = .ok (.goto off, 3)) (ht : (pc : Int) + off = (tgt : Int)) (k : zJ B Z Q o tgt lv st h z) : zJ B Z Q o pc lv st h z := fun u hu H locs ls hL hP hz hS => lv_goto C.1 C.2.1 d ht (k u hu H locs ls hL hP hz hS)
theorem z_ldc2 (C : zOk B Z cc own R nL) {index : Nat} {v : Int64} (hw : Cond.constantLong own index v ∈ zWs) (d : decode cc pc = .ok (.ldc2_w index, 3)) (k : zJ B Z Q o (pc + 3) lv (.long v :: st) h z) : zJ B Z Q o pc lv st h z := fun u hu H locs ls hL hP hz hS => lv_ldc2 C.1 C.2.1 C.2.2.2.1 (C.2.2.1 _ hw) d (k u hu H locs ls hL hP hz hS)
theorem z_if_eq (C : zOk B Z cc own R nL) {x : Int32} {off : Int} {tgt : Nat} (d : decode cc pc = .ok (.ifCond .eq off, 3)) (ht : (pc : Int) + off = (tgt : Int)) (kt : x = 0 → zJ B Z Q o1 tgt lv st h z) (kf : ¬ x = 0 → zJ B Z Q o2 (pc + 3) lv st h z) : zJ B Z Q (if x = 0 then o1 else o2) pc lv (.int x :: st) h z := fun u hu H locs ls hL hP hz hS => lv_if_eq C.1 C.2.1 d ht (fun hc => kt hc u (by rw [if_pos hc] at hu; exact hu) H locs ls hL hP hz hS) (fun hc => kf hc u (by rw [if_neg hc] at hu; exact hu) H locs ls hL hP hz hS)
/-- a branch that its numbers decide -/
theorem z_if_eq_t (C : zOk B Z cc own R nL) {x : Int32} {off : Int} {tgt : Nat} (d : decode cc pc = .ok (.ifCond .eq off, 3)) (ht : (pc : Int) + off = (tgt : Int)) (hc : x = 0) (kt : zJ B Z Q o tgt lv st h z) : zJ B Z Q o pc lv (.int x :: st) h z := fun u hu H locs ls hL hP hz hS => lv_if_eq C.1 C.2.1 d ht (fun _ => kt u hu H locs ls hL hP hz hS) (fun hf => absurd hc hf)
theorem z_if_eq_f (C : zOk B Z cc own R nL) {x : Int32} {off : Int} {tgt : Nat} (d : decode cc pc = .ok (.ifCond .eq off, 3)) (ht : (pc : Int) + off = (tgt : Int)) (hc : ¬ x = 0) (kf : zJ B Z Q o (pc + 3) lv st h z) : zJ B Z Q o pc lv (.int x :: st) h z := fun u hu H locs ls hL hP hz hS => lv_if_eq C.1 C.2.1 d ht (fun ht => absurd ht hc) (fun _ => kf u hu H locs ls hL hP hz hS)
theorem z_icmp_eq (C : zOk B Z cc own R nL) {x y : Int32} {off : Int} {tgt : Nat} (d : decode cc pc = .ok (.if_icmp .eq off, 3)) (ht : (pc : Int) + off = (tgt : Int)) (kt : x = y → zJ B Z Q o1 tgt lv st h z) (kf : ¬ x = y → zJ B Z Q o2 (pc + 3) lv st h z) : zJ B Z Q (if x = y then o1 else o2) pc lv (.int y :: .int x :: st) h z := fun u hu H locs ls hL hP hz hS => lv_icmp_eq C.1 C.2.1 d ht (fun hc => kt hc u (by rw [if_pos hc] at hu; exact hu) H locs ls hL hP hz hS) (fun hc => kf hc u (by rw [if_neg hc] at hu; exact hu) H locs ls hL hP hz hS)
/-- a branch that its numbers decide -/
theorem z_icmp_eq_t (C : zOk B Z cc own R nL) {x y : Int32} {off : Int} {tgt : Nat} (d : decode cc pc = .ok (.if_icmp .eq off, 3)) (ht : (pc : Int) + off = (tgt : Int)) (hc : x = y) (kt : zJ B Z Q o tgt lv st h z) : zJ B Z Q o pc lv (.int y :: .int x :: st) h z := fun u hu H locs ls hL hP hz hS => lv_icmp_eq C.1 C.2.1 d ht (fun _ => kt u hu H locs ls hL hP hz hS) (fun hf => absurd hc hf)
theorem z_icmp_eq_f (C : zOk B Z cc own R nL) {x y : Int32} {off : Int} {tgt : Nat} (d : decode cc pc = .ok (.if_icmp .eq off, 3)) (ht : (pc : Int) + off = (tgt : Int)) (hc : ¬ x = y) (kf : zJ B Z Q o (pc + 3) lv st h z) : zJ B Z Q o pc lv (.int y :: .int x :: st) h z := fun u hu H locs ls hL hP hz hS => lv_icmp_eq C.1 C.2.1 d ht (fun ht => absurd ht hc) (fun _ => kf u hu H locs ls hL hP hz hS)
theorem z_if_ne (C : zOk B Z cc own R nL) {x : Int32} {off : Int} {tgt : Nat} (d : decode cc pc = .ok (.ifCond .ne off, 3)) (ht : (pc : Int) + off = (tgt : Int)) (kt : ¬ x = 0 → zJ B Z Q o2 tgt lv st h z) (kf : x = 0 → zJ B Z Q o1 (pc + 3) lv st h z) : zJ B Z Q (if x = 0 then o1 else o2) pc lv (.int x :: st) h z := fun u hu H locs ls hL hP hz hS => lv_if_ne C.1 C.2.1 d ht (fun hc => kt hc u (by rw [if_neg hc] at hu; exact hu) H locs ls hL hP hz hS) (fun hc => kf hc u (by rw [if_pos hc] at hu; exact hu) H locs ls hL hP hz hS)
/-- a branch that its numbers decide -/
theorem z_if_ne_t (C : zOk B Z cc own R nL) {x : Int32} {off : Int} {tgt : Nat} (d : decode cc pc = .ok (.ifCond .ne off, 3)) (ht : (pc : Int) + off = (tgt : Int)) (hc : ¬ x = 0) (kt : zJ B Z Q o tgt lv st h z) : zJ B Z Q o pc lv (.int x :: st) h z := fun u hu H locs ls hL hP hz hS => lv_if_ne C.1 C.2.1 d ht (fun _ => kt u hu H locs ls hL hP hz hS) (fun hf => absurd hc (fun q => q hf))
theorem z_if_ne_f (C : zOk B Z cc own R nL) {x : Int32} {off : Int} {tgt : Nat} (d : decode cc pc = .ok (.ifCond .ne off, 3)) (ht : (pc : Int) + off = (tgt : Int)) (hc : x = 0) (kf : zJ B Z Q o (pc + 3) lv st h z) : zJ B Z Q o pc lv (.int x :: st) h z := fun u hu H locs ls hL hP hz hS => lv_if_ne C.1 C.2.1 d ht (fun ht => absurd hc ht) (fun _ => kf u hu H locs ls hL hP hz hS)
theorem z_icmp_ne (C : zOk B Z cc own R nL) {x y : Int32} {off : Int} {tgt : Nat} (d : decode cc pc = .ok (.if_icmp .ne off, 3)) (ht : (pc : Int) + off = (tgt : Int)) (kt : ¬ x = y → zJ B Z Q o2 tgt lv st h z) (kf : x = y → zJ B Z Q o1 (pc + 3) lv st h z) : zJ B Z Q (if x = y then o1 else o2) pc lv (.int y :: .int x :: st) h z := fun u hu H locs ls hL hP hz hS => lv_icmp_ne C.1 C.2.1 d ht (fun hc => kt hc u (by rw [if_neg hc] at hu; exact hu) H locs ls hL hP hz hS) (fun hc => kf hc u (by rw [if_pos hc] at hu; exact hu) H locs ls hL hP hz hS)
/-- a branch that its numbers decide -/
theorem z_icmp_ne_t (C : zOk B Z cc own R nL) {x y : Int32} {off : Int} {tgt : Nat} (d : decode cc pc = .ok (.if_icmp .ne off, 3)) (ht : (pc : Int) + off = (tgt : Int)) (hc : ¬ x = y) (kt : zJ B Z Q o tgt lv st h z) : zJ B Z Q o pc lv (.int y :: .int x :: st) h z := fun u hu H locs ls hL hP hz hS => lv_icmp_ne C.1 C.2.1 d ht (fun _ => kt u hu H locs ls hL hP hz hS) (fun hf => absurd hc (fun q => q hf))
theorem z_icmp_ne_f (C : zOk B Z cc own R nL) {x y : Int32} {off : Int} {tgt : Nat} (d : decode cc pc = .ok (.if_icmp .ne off, 3)) (ht : (pc : Int) + off = (tgt : Int)) (hc : x = y) (kf : zJ B Z Q o (pc + 3) lv st h z) : zJ B Z Q o pc lv (.int y :: .int x :: st) h z := fun u hu H locs ls hL hP hz hS => lv_icmp_ne C.1 C.2.1 d ht (fun ht => absurd hc ht) (fun _ => kf u hu H locs ls hL hP hz hS)
theorem z_if_lt (C : zOk B Z cc own R nL) {x : Int32} {off : Int} {tgt : Nat} (d : decode cc pc = .ok (.ifCond .lt off, 3)) (ht : (pc : Int) + off = (tgt : Int)) (kt : x < 0 → zJ B Z Q o1 tgt lv st h z) (kf : ¬ x < 0 → zJ B Z Q o2 (pc + 3) lv st h z) : zJ B Z Q (if x < 0 then o1 else o2) pc lv (.int x :: st) h z := fun u hu H locs ls hL hP hz hS => lv_if_lt C.1 C.2.1 d ht (fun hc => kt hc u (by rw [if_pos hc] at hu; exact hu) H locs ls hL hP hz hS) (fun hc => kf hc u (by rw [if_neg hc] at hu; exact hu) H locs ls hL hP hz hS)
/-- a branch that its numbers decide -/
theorem z_if_lt_t (C : zOk B Z cc own R nL) {x : Int32} {off : Int} {tgt : Nat} (d : decode cc pc = .ok (.ifCond .lt off, 3)) (ht : (pc : Int) + off = (tgt : Int)) (hc : x < 0) (kt : zJ B Z Q o tgt lv st h z) : zJ B Z Q o pc lv (.int x :: st) h z := fun u hu H locs ls hL hP hz hS => lv_if_lt C.1 C.2.1 d ht (fun _ => kt u hu H locs ls hL hP hz hS) (fun hf => absurd hc hf)
theorem z_if_lt_f (C : zOk B Z cc own R nL) {x : Int32} {off : Int} {tgt : Nat} (d : decode cc pc = .ok (.ifCond .lt off, 3)) (ht : (pc : Int) + off = (tgt : Int)) (hc : ¬ x < 0) (kf : zJ B Z Q o (pc + 3) lv st h z) : zJ B Z Q o pc lv (.int x :: st) h z := fun u hu H locs ls hL hP hz hS => lv_if_lt C.1 C.2.1 d ht (fun ht => absurd ht hc) (fun _ => kf u hu H locs ls hL hP hz hS)
theorem z_icmp_lt (C : zOk B Z cc own R nL) {x y : Int32} {off : Int} {tgt : Nat} (d : decode cc pc = .ok (.if_icmp .lt off, 3)) (ht : (pc : Int) + off = (tgt : Int)) (kt : x < y → zJ B Z Q o1 tgt lv st h z) (kf : ¬ x < y → zJ B Z Q o2 (pc + 3) lv st h z) : zJ B Z Q (if x < y then o1 else o2) pc lv (.int y :: .int x :: st) h z := fun u hu H locs ls hL hP hz hS => lv_icmp_lt C.1 C.2.1 d ht (fun hc => kt hc u (by rw [if_pos hc] at hu; exact hu) H locs ls hL hP hz hS) (fun hc => kf hc u (by rw [if_neg hc] at hu; exact hu) H locs ls hL hP hz hS)
/-- a branch that its numbers decide -/
theorem z_icmp_lt_t (C : zOk B Z cc own R nL) {x y : Int32} {off : Int} {tgt : Nat} (d : decode cc pc = .ok (.if_icmp .lt off, 3)) (ht : (pc : Int) + off = (tgt : Int)) (hc : x < y) (kt : zJ B Z Q o tgt lv st h z) : zJ B Z Q o pc lv (.int y :: .int x :: st) h z := fun u hu H locs ls hL hP hz hS => lv_icmp_lt C.1 C.2.1 d ht (fun _ => kt u hu H locs ls hL hP hz hS) (fun hf => absurd hc hf)
theorem z_icmp_lt_f (C : zOk B Z cc own R nL) {x y : Int32} {off : Int} {tgt : Nat} (d : decode cc pc = .ok (.if_icmp .lt off, 3)) (ht : (pc : Int) + off = (tgt : Int)) (hc : ¬ x < y) (kf : zJ B Z Q o (pc + 3) lv st h z) : zJ B Z Q o pc lv (.int y :: .int x :: st) h z := fun u hu H locs ls hL hP hz hS => lv_icmp_lt C.1 C.2.1 d ht (fun ht => absurd ht hc) (fun _ => kf u hu H locs ls hL hP hz hS)
theorem z_if_ge (C : zOk B Z cc own R nL) {x : Int32} {off : Int} {tgt : Nat} (d : decode cc pc = .ok (.ifCond .ge off, 3)) (ht : (pc : Int) + off = (tgt : Int)) (kt : 0 ≤ x → zJ B Z Q o1 tgt lv st h z) (kf : ¬ 0 ≤ x → zJ B Z Q o2 (pc + 3) lv st h z) : zJ B Z Q (if 0 ≤ x then o1 else o2) pc lv (.int x :: st) h z := fun u hu H locs ls hL hP hz hS => lv_if_ge C.1 C.2.1 d ht (fun hc => kt hc u (by rw [if_pos hc] at hu; exact hu) H locs ls hL hP hz hS) (fun hc => kf hc u (by rw [if_neg hc] at hu; exact hu) H locs ls hL hP hz hS)
/-- a branch that its numbers decide -/
theorem z_if_ge_t (C : zOk B Z cc own R nL) {x : Int32} {off : Int} {tgt : Nat} (d : decode cc pc = .ok (.ifCond .ge off, 3)) (ht : (pc : Int) + off = (tgt : Int)) (hc : 0 ≤ x) (kt : zJ B Z Q o tgt lv st h z) : zJ B Z Q o pc lv (.int x :: st) h z := fun u hu H locs ls hL hP hz hS => lv_if_ge C.1 C.2.1 d ht (fun _ => kt u hu H locs ls hL hP hz hS) (fun hf => absurd hc hf)
theorem z_if_ge_f (C : zOk B Z cc own R nL) {x : Int32} {off : Int} {tgt : Nat} (d : decode cc pc = .ok (.ifCond .ge off, 3)) (ht : (pc : Int) + off = (tgt : Int)) (hc : ¬ 0 ≤ x) (kf : zJ B Z Q o (pc + 3) lv st h z) : zJ B Z Q o pc lv (.int x :: st) h z := fun u hu H locs ls hL hP hz hS => lv_if_ge C.1 C.2.1 d ht (fun ht => absurd ht hc) (fun _ => kf u hu H locs ls hL hP hz hS)
theorem z_icmp_ge (C : zOk B Z cc own R nL) {x y : Int32} {off : Int} {tgt : Nat} (d : decode cc pc = .ok (.if_icmp .ge off, 3)) (ht : (pc : Int) + off = (tgt : Int)) (kt : y ≤ x → zJ B Z Q o1 tgt lv st h z) (kf : ¬ y ≤ x → zJ B Z Q o2 (pc + 3) lv st h z) : zJ B Z Q (if y ≤ x then o1 else o2) pc lv (.int y :: .int x :: st) h z := fun u hu H locs ls hL hP hz hS => lv_icmp_ge C.1 C.2.1 d ht (fun hc => kt hc u (by rw [if_pos hc] at hu; exact hu) H locs ls hL hP hz hS) (fun hc => kf hc u (by rw [if_neg hc] at hu; exact hu) H locs ls hL hP hz hS)
/-- a branch that its numbers decide -/
theorem z_icmp_ge_t (C : zOk B Z cc own R nL) {x y : Int32} {off : Int} {tgt : Nat} (d : decode cc pc = .ok (.if_icmp .ge off, 3)) (ht : (pc : Int) + off = (tgt : Int)) (hc : y ≤ x) (kt : zJ B Z Q o tgt lv st h z) : zJ B Z Q o pc lv (.int y :: .int x :: st) h z := fun u hu H locs ls hL hP hz hS => lv_icmp_ge C.1 C.2.1 d ht (fun _ => kt u hu H locs ls hL hP hz hS) (fun hf => absurd hc hf)
theorem z_icmp_ge_f (C : zOk B Z cc own R nL) {x y : Int32} {off : Int} {tgt : Nat} (d : decode cc pc = .ok (.if_icmp .ge off, 3)) (ht : (pc : Int) + off = (tgt : Int)) (hc : ¬ y ≤ x) (kf : zJ B Z Q o (pc + 3) lv st h z) : zJ B Z Q o pc lv (.int y :: .int x :: st) h z := fun u hu H locs ls hL hP hz hS => lv_icmp_ge C.1 C.2.1 d ht (fun ht => absurd ht hc) (fun _ => kf u hu H locs ls hL hP hz hS)
theorem z_if_gt (C : zOk B Z cc own R nL) {x : Int32} {off : Int} {tgt : Nat} (d : decode cc pc = .ok (.ifCond .gt off, 3)) (ht : (pc : Int) + off = (tgt : Int)) (kt : 0 < x → zJ B Z Q o1 tgt lv st h z) (kf : ¬ 0 < x → zJ B Z Q o2 (pc + 3) lv st h z) : zJ B Z Q (if 0 < x then o1 else o2) pc lv (.int x :: st) h z := fun u hu H locs ls hL hP hz hS => lv_if_gt C.1 C.2.1 d ht (fun hc => kt hc u (by rw [if_pos hc] at hu; exact hu) H locs ls hL hP hz hS) (fun hc => kf hc u (by rw [if_neg hc] at hu; exact hu) H locs ls hL hP hz hS)
/-- a branch that its numbers decide -/
theorem z_if_gt_t (C : zOk B Z cc own R nL) {x : Int32} {off : Int} {tgt : Nat} (d : decode cc pc = .ok (.ifCond .gt off, 3)) (ht : (pc : Int) + off = (tgt : Int)) (hc : 0 < x) (kt : zJ B Z Q o tgt lv st h z) : zJ B Z Q o pc lv (.int x :: st) h z := fun u hu H locs ls hL hP hz hS => lv_if_gt C.1 C.2.1 d ht (fun _ => kt u hu H locs ls hL hP hz hS) (fun hf => absurd hc hf)
theorem z_if_gt_f (C : zOk B Z cc own R nL) {x : Int32} {off : Int} {tgt : Nat} (d : decode cc pc = .ok (.ifCond .gt off, 3)) (ht : (pc : Int) + off = (tgt : Int)) (hc : ¬ 0 < x) (kf : zJ B Z Q o (pc + 3) lv st h z) : zJ B Z Q o pc lv (.int x :: st) h z := fun u hu H locs ls hL hP hz hS => lv_if_gt C.1 C.2.1 d ht (fun ht => absurd ht hc) (fun _ => kf u hu H locs ls hL hP hz hS)
theorem z_icmp_gt (C : zOk B Z cc own R nL) {x y : Int32} {off : Int} {tgt : Nat} (d : decode cc pc = .ok (.if_icmp .gt off, 3)) (ht : (pc : Int) + off = (tgt : Int)) (kt : y < x → zJ B Z Q o1 tgt lv st h z) (kf : ¬ y < x → zJ B Z Q o2 (pc + 3) lv st h z) : zJ B Z Q (if y < x then o1 else o2) pc lv (.int y :: .int x :: st) h z := fun u hu H locs ls hL hP hz hS => lv_icmp_gt C.1 C.2.1 d ht (fun hc => kt hc u (by rw [if_pos hc] at hu; exact hu) H locs ls hL hP hz hS) (fun hc => kf hc u (by rw [if_neg hc] at hu; exact hu) H locs ls hL hP hz hS)
/-- a branch that its numbers decide -/
theorem z_icmp_gt_t (C : zOk B Z cc own R nL) {x y : Int32} {off : Int} {tgt : Nat} (d : decode cc pc = .ok (.if_icmp .gt off, 3)) (ht : (pc : Int) + off = (tgt : Int)) (hc : y < x) (kt : zJ B Z Q o tgt lv st h z) : zJ B Z Q o pc lv (.int y :: .int x :: st) h z := fun u hu H locs ls hL hP hz hS => lv_icmp_gt C.1 C.2.1 d ht (fun _ => kt u hu H locs ls hL hP hz hS) (fun hf => absurd hc hf)
theorem z_icmp_gt_f (C : zOk B Z cc own R nL) {x y : Int32} {off : Int} {tgt : Nat} (d : decode cc pc = .ok (.if_icmp .gt off, 3)) (ht : (pc : Int) + off = (tgt : Int)) (hc : ¬ y < x) (kf : zJ B Z Q o (pc + 3) lv st h z) : zJ B Z Q o pc lv (.int y :: .int x :: st) h z := fun u hu H locs ls hL hP hz hS => lv_icmp_gt C.1 C.2.1 d ht (fun ht => absurd ht hc) (fun _ => kf u hu H locs ls hL hP hz hS)
theorem z_if_le (C : zOk B Z cc own R nL) {x : Int32} {off : Int} {tgt : Nat} (d : decode cc pc = .ok (.ifCond .le off, 3)) (ht : (pc : Int) + off = (tgt : Int)) (kt : x ≤ 0 → zJ B Z Q o1 tgt lv st h z) (kf : ¬ x ≤ 0 → zJ B Z Q o2 (pc + 3) lv st h z) : zJ B Z Q (if x ≤ 0 then o1 else o2) pc lv (.int x :: st) h z := fun u hu H locs ls hL hP hz hS => lv_if_le C.1 C.2.1 d ht (fun hc => kt hc u (by rw [if_pos hc] at hu; exact hu) H locs ls hL hP hz hS) (fun hc => kf hc u (by rw [if_neg hc] at hu; exact hu) H locs ls hL hP hz hS)
/-- a branch that its numbers decide -/
theorem z_if_le_t (C : zOk B Z cc own R nL) {x : Int32} {off : Int} {tgt : Nat} (d : decode cc pc = .ok (.ifCond .le off, 3)) (ht : (pc : Int) + off = (tgt : Int)) (hc : x ≤ 0) (kt : zJ B Z Q o tgt lv st h z) : zJ B Z Q o pc lv (.int x :: st) h z := fun u hu H locs ls hL hP hz hS => lv_if_le C.1 C.2.1 d ht (fun _ => kt u hu H locs ls hL hP hz hS) (fun hf => absurd hc hf)
theorem z_if_le_f (C : zOk B Z cc own R nL) {x : Int32} {off : Int} {tgt : Nat} (d : decode cc pc = .ok (.ifCond .le off, 3)) (ht : (pc : Int) + off = (tgt : Int)) (hc : ¬ x ≤ 0) (kf : zJ B Z Q o (pc + 3) lv st h z) : zJ B Z Q o pc lv (.int x :: st) h z := fun u hu H locs ls hL hP hz hS => lv_if_le C.1 C.2.1 d ht (fun ht => absurd ht hc) (fun _ => kf u hu H locs ls hL hP hz hS)
theorem z_icmp_le (C : zOk B Z cc own R nL) {x y : Int32} {off : Int} {tgt : Nat} (d : decode cc pc = .ok (.if_icmp .le off, 3)) (ht : (pc : Int) + off = (tgt : Int)) (kt : x ≤ y → zJ B Z Q o1 tgt lv st h z) (kf : ¬ x ≤ y → zJ B Z Q o2 (pc + 3) lv st h z) : zJ B Z Q (if x ≤ y then o1 else o2) pc lv (.int y :: .int x :: st) h z := fun u hu H locs ls hL hP hz hS => lv_icmp_le C.1 C.2.1 d ht (fun hc => kt hc u (by rw [if_pos hc] at hu; exact hu) H locs ls hL hP hz hS) (fun hc => kf hc u (by rw [if_neg hc] at hu; exact hu) H locs ls hL hP hz hS)
/-- a branch that its numbers decide -/
theorem z_icmp_le_t (C : zOk B Z cc own R nL) {x y : Int32} {off : Int} {tgt : Nat} (d : decode cc pc = .ok (.if_icmp .le off, 3)) (ht : (pc : Int) + off = (tgt : Int)) (hc : x ≤ y) (kt : zJ B Z Q o tgt lv st h z) : zJ B Z Q o pc lv (.int y :: .int x :: st) h z := fun u hu H locs ls hL hP hz hS => lv_icmp_le C.1 C.2.1 d ht (fun _ => kt u hu H locs ls hL hP hz hS) (fun hf => absurd hc hf)
theorem z_icmp_le_f (C : zOk B Z cc own R nL) {x y : Int32} {off : Int} {tgt : Nat} (d : decode cc pc = .ok (.if_icmp .le off, 3)) (ht : (pc : Int) + off = (tgt : Int)) (hc : ¬ x ≤ y) (kf : zJ B Z Q o (pc + 3) lv st h z) : zJ B Z Q o pc lv (.int y :: .int x :: st) h z := fun u hu H locs ls hL hP hz hS => lv_icmp_le C.1 C.2.1 d ht (fun ht => absurd ht hc) (fun _ => kf u hu H locs ls hL hP hz hS)
theorem z_tblIn (C : zOk B Z cc own R nL) {dflt lo hi : Int} {offs : Array Int} {len : Nat} {x : Int32} {off : Int} {tgt : Nat} (d : decode cc pc = .ok (.tableswitch dflt lo hi offs, len)) (h1 : ¬ x.toInt < lo) (h2 : ¬ hi < x.toInt) (ho : offs[(x.toInt - lo).toNat]? = some off) (ht : (pc : Int) + off = (tgt : Int)) (k : zJ B Z Q o tgt lv st h z) : zJ B Z Q o pc lv (.int x :: st) h z := fun u hu H locs ls hL hP hz hS => lv_tableIn C.1 C.2.1 d h1 h2 ho ht (k u hu H locs ls hL hP hz hS)
theorem z_tblOut (C : zOk B Z cc own R nL) {dflt lo hi : Int} {offs : Array Int} {len : Nat} {x : Int32} {tgt : Nat} (d : decode cc pc = .ok (.tableswitch dflt lo hi offs, len)) (h1 : x.toInt < lo ∨ hi < x.toInt) (ht : (pc : Int) + dflt = (tgt : Int)) (k : zJ B Z Q o tgt lv st h z) : zJ B Z Q o pc lv (.int x :: st) h z := fun u hu H locs ls hL hP hz hS => lv_tableOut C.1 C.2.1 d h1 ht (k u hu H locs ls hL hP hz hS)
theorem z_lkp (C : zOk B Z cc own R nL) {dflt : Int} {ps : Array (Int × Int)} {len : Nat} {x : Int32} {off : Int} {tgt : Nat} (d : decode cc pc = .ok (.lookupswitch dflt ps, len)) (hp : (ps.toList.zip (ps.toList.drop 1)).all (fun (a, next) => a.1 < next.1) = true) (ho : Op.lookupswitch.offset ps.toList dflt x.toInt = off) (ht : (pc : Int) + off = (tgt : Int)) (k : zJ B Z Q o tgt lv st h z) : zJ B Z Q o pc lv (.int x :: st) h z := fun u hu H locs ls hL hP hz hS => lv_lookup C.1 C.2.1 d hp ho ht (k u hu H locs ls hL hP hz hS)
theorem z_ite {c : Prop} [Decidable c] (kt : c → zJ B Z Q o1 pc lv st h z) (kf : ¬ c → zJ B Z Q o2 pc lv st h z) : zJ B Z Q (if c then o1 else o2) pc lv st h z := by
  by_cases hc : c
  · rw [if_pos hc]; exact kt hc
  · rw [if_neg hc]; exact kf hc
theorem z_bool {x : Int32} {F : Int32 → Option α} (k : x = 0 ∨ x = 1 → zJ B Z Q (F x) pc lv st h z) : zJ B Z Q ((zB x).bind F) pc lv st h z := by
  unfold zB
  by_cases hc : x = 0 ∨ x = 1
  · rw [if_pos hc]; exact k hc
  · rw [if_neg hc]; exact z_none
theorem z_fix1 {A1 : Type} {F : (A1 → Option α) → A1 → Option α} (P : (A1 → Option α) → Prop) (h0 : P (fun _ => none)) (hs : ∀ rec, P rec → P (F rec)) : ∀ n, P (zfix1 F n)
  | 0 => h0
  | n + 1 => hs _ (z_fix1 P h0 hs n)
theorem z_fix2 {A1 A2 : Type} {F : (A1 → A2 → Option α) → A1 → A2 → Option α} (P : (A1 → A2 → Option α) → Prop) (h0 : P (fun _ _ => none)) (hs : ∀ rec, P rec → P (F rec)) : ∀ n, P (zfix2 F n)
  | 0 => h0
  | n + 1 => hs _ (z_fix2 P h0 hs n)
theorem z_fix3 {A1 A2 A3 : Type} {F : (A1 → A2 → A3 → Option α) → A1 → A2 → A3 → Option α} (P : (A1 → A2 → A3 → Option α) → Prop) (h0 : P (fun _ _ _ => none)) (hs : ∀ rec, P rec → P (F rec)) : ∀ n, P (zfix3 F n)
  | 0 => h0
  | n + 1 => hs _ (z_fix3 P h0 hs n)
theorem z_fix4 {A1 A2 A3 A4 : Type} {F : (A1 → A2 → A3 → A4 → Option α) → A1 → A2 → A3 → A4 → Option α} (P : (A1 → A2 → A3 → A4 → Option α) → Prop) (h0 : P (fun _ _ _ _ => none)) (hs : ∀ rec, P rec → P (F rec)) : ∀ n, P (zfix4 F n)
  | 0 => h0
  | n + 1 => hs _ (z_fix4 P h0 hs n)
theorem z_fix5 {A1 A2 A3 A4 A5 : Type} {F : (A1 → A2 → A3 → A4 → A5 → Option α) → A1 → A2 → A3 → A4 → A5 → Option α} (P : (A1 → A2 → A3 → A4 → A5 → Option α) → Prop) (h0 : P (fun _ _ _ _ _ => none)) (hs : ∀ rec, P rec → P (F rec)) : ∀ n, P (zfix5 F n)
  | 0 => h0
  | n + 1 => hs _ (z_fix5 P h0 hs n)
theorem z_fix6 {A1 A2 A3 A4 A5 A6 : Type} {F : (A1 → A2 → A3 → A4 → A5 → A6 → Option α) → A1 → A2 → A3 → A4 → A5 → A6 → Option α} (P : (A1 → A2 → A3 → A4 → A5 → A6 → Option α) → Prop) (h0 : P (fun _ _ _ _ _ _ => none)) (hs : ∀ rec, P rec → P (F rec)) : ∀ n, P (zfix6 F n)
  | 0 => h0
  | n + 1 => hs _ (z_fix6 P h0 hs n)
theorem z_fix7 {A1 A2 A3 A4 A5 A6 A7 : Type} {F : (A1 → A2 → A3 → A4 → A5 → A6 → A7 → Option α) → A1 → A2 → A3 → A4 → A5 → A6 → A7 → Option α} (P : (A1 → A2 → A3 → A4 → A5 → A6 → A7 → Option α) → Prop) (h0 : P (fun _ _ _ _ _ _ _ => none)) (hs : ∀ rec, P rec → P (F rec)) : ∀ n, P (zfix7 F n)
  | 0 => h0
  | n + 1 => hs _ (z_fix7 P h0 hs n)
theorem z_fix8 {A1 A2 A3 A4 A5 A6 A7 A8 : Type} {F : (A1 → A2 → A3 → A4 → A5 → A6 → A7 → A8 → Option α) → A1 → A2 → A3 → A4 → A5 → A6 → A7 → A8 → Option α} (P : (A1 → A2 → A3 → A4 → A5 → A6 → A7 → A8 → Option α) → Prop) (h0 : P (fun _ _ _ _ _ _ _ _ => none)) (hs : ∀ rec, P rec → P (F rec)) : ∀ n, P (zfix8 F n)
  | 0 => h0
  | n + 1 => hs _ (z_fix8 P h0 hs n)
theorem z_istoreL (C : zOk B Z cc own R nL) {i : Nat} {x : Int32} {F : Int32 → Option α} {lv' : Int32 → List (Nat × Value)} (d : decode cc pc = .ok (.istore i, 2)) (hn : i < nL) (hl : ∀ y, (i, .int y) :: lv.filter (fun q => !(q.1 == i) && !(q.1 + 1 == i && q.2.category == 2)) = lv' y) (k : ∀ y, zJ B Z Q (F y) (pc + 2) (lv' y) st h z) : zJ B Z Q (zlet x F) pc lv (.int x :: st) h z := z_istore C d hn (hl x) (k x)
theorem z_istore_nL (C : zOk B Z cc own R nL) {j : Fin 4} {i : Nat} {x : Int32} {F : Int32 → Option α} {lv' : Int32 → List (Nat × Value)} (d : decode cc pc = .ok (.istore_n j, 1)) (hi : (j : Nat) = i) (hn : i < nL) (hl : ∀ y, (i, .int y) :: lv.filter (fun q => !(q.1 == i) && !(q.1 + 1 == i && q.2.category == 2)) = lv' y) (k : ∀ y, zJ B Z Q (F y) (pc + 1) (lv' y) st h z) : zJ B Z Q (zlet x F) pc lv (.int x :: st) h z := z_istore_n C d hi hn (hl x) (k x)
theorem z_lstoreL (C : zOk B Z cc own R nL) {i : Nat} {x : Int64} {F : Int64 → Option α} {lv' : Int64 → List (Nat × Value)} (d : decode cc pc = .ok (.lstore i, 2)) (hn : i + 1 < nL) (hl : ∀ y, (i, .long y) :: lv.filter (fun q => !(q.1 == i) && (!(q.1 == i + 1) && !(q.1 + 1 == i && q.2.category == 2))) = lv' y) (k : ∀ y, zJ B Z Q (F y) (pc + 2) (lv' y) st h z) : zJ B Z Q (zlet x F) pc lv (.long x :: st) h z := z_lstore C d hn (hl x) (k x)
theorem z_lstore_nL (C : zOk B Z cc own R nL) {j : Fin 4} {i : Nat} {x : Int64} {F : Int64 → Option α} {lv' : Int64 → List (Nat × Value)} (d : decode cc pc = .ok (.lstore_n j, 1)) (hi : (j : Nat) = i) (hn : i + 1 < nL) (hl : ∀ y, (i, .long y) :: lv.filter (fun q => !(q.1 == i) && (!(q.1 == i + 1) && !(q.1 + 1 == i && q.2.category == 2))) = lv' y) (k : ∀ y, zJ B Z Q (F y) (pc + 1) (lv' y) st h z) : zJ B Z Q (zlet x F) pc lv (.long x :: st) h z := z_lstore_n C d hi hn (hl x) (k x)
theorem z_dstoreL (C : zOk B Z cc own R nL) {i : Nat} {x : UInt64} {F : UInt64 → Option α} {lv' : UInt64 → List (Nat × Value)} (d : decode cc pc = .ok (.dstore i, 2)) (hn : i + 1 < nL) (hl : ∀ y, (i, .double y) :: lv.filter (fun q => !(q.1 == i) && (!(q.1 == i + 1) && !(q.1 + 1 == i && q.2.category == 2))) = lv' y) (k : ∀ y, zJ B Z Q (F y) (pc + 2) (lv' y) st h z) : zJ B Z Q (zlet x F) pc lv (.double x :: st) h z := z_dstore C d hn (hl x) (k x)
theorem z_dstore_nL (C : zOk B Z cc own R nL) {j : Fin 4} {i : Nat} {x : UInt64} {F : UInt64 → Option α} {lv' : UInt64 → List (Nat × Value)} (d : decode cc pc = .ok (.dstore_n j, 1)) (hi : (j : Nat) = i) (hn : i + 1 < nL) (hl : ∀ y, (i, .double y) :: lv.filter (fun q => !(q.1 == i) && (!(q.1 == i + 1) && !(q.1 + 1 == i && q.2.category == 2))) = lv' y) (k : ∀ y, zJ B Z Q (F y) (pc + 1) (lv' y) st h z) : zJ B Z Q (zlet x F) pc lv (.double x :: st) h z := z_dstore_n C d hi hn (hl x) (k x)
theorem z_iincL (C : zOk B Z cc own R nL) {i : Nat} {n : Int} {x v : Int32} {F : Int32 → Option α} {lv' : Int32 → List (Nat × Value)} (d : decode cc pc = .ok (.iinc i n, 3)) (j : Nat) (hk : lv[j]? = some (i, .int x)) (hv : x + Int32.ofInt n = v) (hn : i < nL) (hl : ∀ y, (i, .int y) :: lv.filter (fun q => !(q.1 == i) && !(q.1 + 1 == i && q.2.category == 2)) = lv' y) (k : ∀ y, zJ B Z Q (F y) (pc + 3) (lv' y) st h z) : zJ B Z Q (zlet v F) pc lv st h z := z_iinc C d j hk hv hn (hl v) (k v)
/-- a quotient of doubles that is no NaN -/
def zdd (x y : UInt64) : Option UInt64 := if (FP.ddiv x y) &&& 0x7fffffffffffffff ≤ 0x7ff0000000000000 then some (FP.ddiv x y) else none
theorem z_dd (C : zOk B Z cc own R nL) {x y : UInt64} {F : UInt64 → Option α} (d : decode cc pc = .ok (.ddiv, 1)) (k : ∀ v, zJ B Z Q (F v) (pc + 1) lv (.double v :: st) h z) : zJ B Z Q ((zdd x y).bind F) pc lv (.double y :: .double x :: st) h z := by
  unfold zdd
  by_cases hc : (FP.ddiv x y) &&& 0x7fffffffffffffff ≤ 0x7ff0000000000000
  · rw [if_pos hc]
    exact z_ddiv C d hc (k _)
  · rw [if_neg hc]; exact z_none
theorem z_irem (C : zOk B Z cc own R nL) {x y : Int32} {F : Int32 → Option α} (d : decode cc pc = .ok (.irem, 1)) (k : ∀ w, zJ B Z Q (F w) (pc + 1) lv (.int (zrem x y) :: st) h z) : zJ B Z Q ((zdiv x y).bind F) pc lv (.int y :: .int x :: st) h z := by
  unfold zdiv
  by_cases hy : y = 0
  · rw [if_pos hy]; exact z_none
  · rw [if_neg hy]
    exact z_iremc C d hy (k _)
theorem z_out (x : Int32) {lo hi : Int} (hne : ∀ k : Int, lo ≤ k → k ≤ hi → ¬ x = Int32.ofInt k) : x.toInt < lo ∨ hi < x.toInt := by
  by_cases h1 : x.toInt < lo
  · exact Or.inl h1
  · by_cases h2 : hi < x.toInt
    · exact Or.inr h2
    · exact absurd (Int32.ofInt_toInt x).symm (hne x.toInt (by omega) (by omega))
theorem zOk.nest {B : Nat} {Z : zC} {cc : ByteArray} {own : String} {R : Room} {nL : Nat} (C : zOk B Z cc own R nL) : va_Nw (.methodLinkNest "StockLines$Game" 167 ⟨"StockLines", "isTown", "(I)Z"⟩ "StockLines") Z.1.2.2.2.2 := C.2.2.2.2.2.2.2.2.1.1.2.2.2
abbrev z00 (Z : zC) : Nat × Nat × Nat := (0, 0, Z.1.2.2.2.2.heap.size)
/-! the rows that read and write -/
theorem zO_of {h : zH} {a ci : Nat} {fs : List Value} (e : zO h a ci = some fs) : h a = some (.inr (ci, fs)) := by
  unfold zO at e
  split at e
  · rename_i c fs' he
    by_cases hc : c = ci
    · rw [if_pos hc] at e
      cases e
      rw [he, hc]
    · rw [if_neg hc] at e
      cases e
  · cases e
theorem zIA_of {h : zH} {a n : Nat} {f : Nat → Int32} (e : zIA h a = some (n, f)) : h a = some (.inl (0, n, .inl f)) := by
  unfold zIA at e
  split at e
  · rename_i c n' f' he
    by_cases hc : c = 0
    · rw [if_pos hc] at e
      cases e
      rw [he, hc]
    · rw [if_neg hc] at e
      cases e
  · cases e
theorem zLA_of {h : zH} {a n : Nat} {f : Nat → Int64} (e : zLA h a = some (n, f)) : h a = some (.inl (1, n, .inr (.inl f))) := by
  unfold zLA at e
  split at e
  · rename_i c n' f' he
    by_cases hc : c = 1
    · rw [if_pos hc] at e
      cases e
      rw [he, hc]
    · rw [if_neg hc] at e
      cases e
  · cases e
theorem zRA_of {h : zH} {a c n : Nat} {f : Nat → Option Nat} (e : zRA h a c = some (n, f)) : h a = some (.inl (c, n, .inr (.inr (.inr (.inr f))))) := by
  unfold zRA at e
  split at e
  · rename_i c' n' f' he
    by_cases hc : c' = c
    · rw [if_pos hc] at e
      cases e
      rw [he, hc]
    · rw [if_neg hc] at e
      cases e
  · cases e
theorem zgI_of {h : zH} {a ci k : Nat} {x : Int32} (e : zgI h a ci k = some x) : ∃ fs, h a = some (.inr (ci, fs)) ∧ fs[k]? = some (.int x) := by
  unfold zgI at e
  split at e
  · rename_i fs he
    split at e
    · rename_i y hy
      cases e
      exact ⟨fs, zO_of he, hy⟩
    · cases e
  · cases e
theorem zgL_of {h : zH} {a ci k : Nat} {x : Int64} (e : zgL h a ci k = some x) : ∃ fs, h a = some (.inr (ci, fs)) ∧ fs[k]? = some (.long x) := by
  unfold zgL at e
  split at e
  · rename_i fs he
    split at e
    · rename_i y hy
      cases e
      exact ⟨fs, zO_of he, hy⟩
    · cases e
  · cases e
theorem zgR_of {h : zH} {a ci k x : Nat} (e : zgR h a ci k = some x) : ∃ fs, h a = some (.inr (ci, fs)) ∧ fs[k]? = some (.ref x) := by
  unfold zgR at e
  split at e
  · rename_i fs he
    split at e
    · rename_i y hy
      cases e
      exact ⟨fs, zO_of he, hy⟩
    · cases e
  · cases e
theorem zp_of {h h1 : zH} {a ci k : Nat} {v : Value} (e : zp h a ci k v = some h1) : ∃ fs, h a = some (.inr (ci, fs)) ∧ k < fs.length ∧ h1 = zset h a (.inr (ci, fs.set k v)) := by
  unfold zp at e
  split at e
  · rename_i fs he
    by_cases hk : k < fs.length
    · rw [if_pos hk] at e
      cases e
      exact ⟨fs, zO_of he, hk, rfl⟩
    · rw [if_neg hk] at e
      cases e
  · cases e
theorem zai_of {h : zH} {a : Nat} {i x : Int32} (e : zai h a i = some x) : ∃ n f, h a = some (.inl (0, n, .inl f)) ∧ vp_in i n ∧ f i.toNatClampNeg = x := by
  unfold zai at e
  split at e
  · rename_i n f he
    by_cases hk : i < 0 ∨ n ≤ i.toNatClampNeg
    · rw [if_pos hk] at e
      cases e
    · rw [if_neg hk] at e
      cases e
      exact ⟨n, f, zIA_of he, hk, rfl⟩
  · cases e
theorem zsi_of {h h1 : zH} {a : Nat} {i x : Int32} (e : zsi h a i x = some h1) : ∃ n f, h a = some (.inl (0, n, .inl f)) ∧ vp_in i n ∧ h1 = zset h a (.inl (0, n, .inl (upd f i.toNatClampNeg x))) := by
  unfold zsi at e
  split at e
  · rename_i n f he
    by_cases hk : i < 0 ∨ n ≤ i.toNatClampNeg
    · rw [if_pos hk] at e
      cases e
    · rw [if_neg hk] at e
      cases e
      exact ⟨n, f, zIA_of he, hk, rfl⟩
  · cases e
theorem zal_of {h : zH} {a : Nat} {i : Int32} {x : Int64} (e : zal h a i = some x) : ∃ n f, h a = some (.inl (1, n, .inr (.inl f))) ∧ vp_in i n ∧ f i.toNatClampNeg = x := by
  unfold zal at e
  split at e
  · rename_i n f he
    by_cases hk : i < 0 ∨ n ≤ i.toNatClampNeg
    · rw [if_pos hk] at e
      cases e
    · rw [if_neg hk] at e
      cases e
      exact ⟨n, f, zLA_of he, hk, rfl⟩
  · cases e
theorem zsl_of {h h1 : zH} {a : Nat} {i : Int32} {x : Int64} (e : zsl h a i x = some h1) : ∃ n f, h a = some (.inl (1, n, .inr (.inl f))) ∧ vp_in i n ∧ h1 = zset h a (.inl (1, n, .inr (.inl (vp_updL f i.toNatClampNeg x)))) := by
  unfold zsl at e
  split at e
  · rename_i n f he
    by_cases hk : i < 0 ∨ n ≤ i.toNatClampNeg
    · rw [if_pos hk] at e
      cases e
    · rw [if_neg hk] at e
      cases e
      exact ⟨n, f, zLA_of he, hk, rfl⟩
  · cases e
theorem zar_of {h : zH} {a c r : Nat} {i : Int32} (e : zar h a c i = some r) : ∃ n f, h a = some (.inl (c, n, .inr (.inr (.inr (.inr f))))) ∧ vp_in i n ∧ f i.toNatClampNeg = some r := by
  unfold zar at e
  split at e
  · rename_i n f he
    by_cases hk : i < 0 ∨ n ≤ i.toNatClampNeg
    · rw [if_pos hk] at e
      cases e
    · rw [if_neg hk] at e
      exact ⟨n, f, zRA_of he, hk, e⟩
  · cases e
theorem zsr_of {h h1 : zH} {a c ci r : Nat} {i : Int32} (e : zsr h a c ci i r = some h1) : ∃ n f fs, h a = some (.inl (c, n, .inr (.inr (.inr (.inr f))))) ∧ vp_in i n ∧ h r = some (.inr (ci, fs)) ∧ h1 = zset h a (.inl (c, n, .inr (.inr (.inr (.inr (va_up f i.toNatClampNeg (some r))))))) := by
  unfold zsr at e
  split at e
  · rename_i n f he
    by_cases hk : i < 0 ∨ n ≤ i.toNatClampNeg
    · rw [if_pos hk] at e
      cases e
    · rw [if_neg hk] at e
      split at e
      · rename_i fs hf
        cases e
        exact ⟨n, f, fs, zRA_of he, hk, zO_of hf, rfl⟩
      · cases e
  · cases e
theorem zlen_of {h : zH} {a : Nat} {x : Int32} (e : zlen h a = some x) : ∃ n f, h a = some (.inl (0, n, .inl f)) ∧ Int32.ofNat n = x := by
  unfold zlen at e
  split at e
  · rename_i n f he
    cases e
    exact ⟨n, f, zIA_of he, rfl⟩
  · cases e
theorem zcp_of {h h1 : zH} {a b : Nat} {sp dp n : Int32} (e : zcp h a sp b dp n = some h1) : ∃ n0 f n1 g, h a = some (.inl (0, n0, .inl f)) ∧ h b = some (.inl (0, n1, .inl g)) ∧ ¬ sp < 0 ∧ ¬ dp < 0 ∧ ¬ n < 0 ∧ sp.toNatClampNeg + n.toNatClampNeg ≤ n0 ∧ dp.toNatClampNeg + n.toNatClampNeg ≤ n1 ∧ h1 = zset h b (.inl (0, n1, .inl (va_cpy f g sp.toNatClampNeg dp.toNatClampNeg n.toNatClampNeg))) := by
  unfold zcp at e
  split at e
  · rename_i n0 f he
    split at e
    · rename_i n1 g hg
      by_cases hk : sp < 0 ∨ dp < 0 ∨ n < 0 ∨ n0 < sp.toNatClampNeg + n.toNatClampNeg ∨ n1 < dp.toNatClampNeg + n.toNatClampNeg
      · rw [if_pos hk] at e
        cases e
      · rw [if_neg hk] at e
        cases e
        simp only [not_or] at hk
        exact ⟨n0, f, n1, g, zIA_of he, zIA_of hg, hk.1, hk.2.1, hk.2.2.1, Nat.not_lt.mp hk.2.2.2.1, Nat.not_lt.mp hk.2.2.2.2, rfl⟩
    · cases e
  · cases e
/-- what is known of kind ci of objects -/
def zCl (ci : Nat) (C : String) (T : u_T) (N : Nat) (ty : Nat → FieldType) : Prop := vwCl[ci]? = some (C, T, N) ∧ (∀ w ∈ u_ws C T N, w ∈ zWs) ∧ (∀ k, k < N → parseFieldDescriptor (T k).2.2.1 = some (ty k)) ∧ ∀ a, a < N → ∀ b, b < N → a ≠ b → (T a).2.1 ≠ (T b).2.1
theorem zc0 : zCl 0 RX0 TX0 8 tyX0 := ⟨rfl, inlX0, tyX0_ok, nmX0⟩
theorem zc1 : zCl 1 RX1 TX1 15 tyX1 := ⟨rfl, inlX1, tyX1_ok, nmX1⟩
theorem zc2 : zCl 2 RX2 TX2 2 tyX2 := ⟨rfl, inlX2, tyX2_ok, nmX2⟩
theorem zc3 : zCl 3 RX3 TX3 8 tyX3 := ⟨rfl, inlX3, tyX3_ok, nmX3⟩
theorem zc4 : zCl 4 RX4 TX4 2 tyX4 := ⟨rfl, inlX4, tyX4_ok, nmX4⟩
theorem zc5 : zCl 5 RX5 TX5 4 tyX5 := ⟨rfl, inlX5, tyX5_ok, nmX5⟩
theorem zmap_at {B k : Nat} {fs : List Value} {v : Value} (e : fs[k]? = some v) : (fs.map (zv B))[k]? = some (zv B v) := by rw [List.getElem?_map, e]; rfl
theorem z_get0 (C : zOk B Z cc own R nL) {ci N index a : Nat} {Cn : String} {T : u_T} {ty : Nat → FieldType} (hc : zCl ci Cn T N ty) (k : Nat) (hk : k < N) (hw : Cond.fieldLink own index (T k).1 (T k).2.1 (T k).2.2.1 ∈ zWs) (d : decode cc pc = .ok (.getfield index, 3)) {fs : List Value} {v : Value} (ha : h a = some (.inr (ci, fs))) (hv : fs[k]? = some v) (kk : zJ B Z Q o (pc + 3) lv (zv B v :: st) h z) : zJ B Z Q o pc lv (.ref (B + a) :: st) h z := fun u hu H locs ls hL hP hz hS =>
  va_get (D := Z.2.2.1) (ci := ci) (v := zv B v) (C := Cn) (T := T) (N := N) C.1 C.2.1 C.2.2.1 hc.2.1 C.2.2.2.1 C.2.2.2.2.1 (hP.one ha) 0 rfl hc.1 k hk (C.2.2.1 _ hw) (fun _ h9 => h9) (zmap_at hv) d (kk u hu H locs ls hL hP hz hS)
theorem z_getI (C : zOk B Z cc own R nL) {ci N index a : Nat} {Cn : String} {T : u_T} {ty : Nat → FieldType} {F : Int32 → Option α} (hc : zCl ci Cn T N ty) (k : Nat) (hk : k < N) (hw : Cond.fieldLink own index (T k).1 (T k).2.1 (T k).2.2.1 ∈ zWs) (d : decode cc pc = .ok (.getfield index, 3)) (kk : ∀ x, zJ B Z Q (F x) (pc + 3) lv (.int x :: st) h z) : zJ B Z Q ((zgI h a ci k).bind F) pc lv (.ref (B + a) :: st) h z :=
  z_bind (fun x hx => by
    obtain ⟨fs, e1, e2⟩ := zgI_of hx
    exact z_get0 C hc k hk hw d e1 e2 (kk x))
theorem z_getL (C : zOk B Z cc own R nL) {ci N index a : Nat} {Cn : String} {T : u_T} {ty : Nat → FieldType} {F : Int64 → Option α} (hc : zCl ci Cn T N ty) (k : Nat) (hk : k < N) (hw : Cond.fieldLink own index (T k).1 (T k).2.1 (T k).2.2.1 ∈ zWs) (d : decode cc pc = .ok (.getfield index, 3)) (kk : ∀ x, zJ B Z Q (F x) (pc + 3) lv (.long x :: st) h z) : zJ B Z Q ((zgL h a ci k).bind F) pc lv (.ref (B + a) :: st) h z :=
  z_bind (fun x hx => by
    obtain ⟨fs, e1, e2⟩ := zgL_of hx
    exact z_get0 C hc k hk hw d e1 e2 (kk x))
theorem z_getR (C : zOk B Z cc own R nL) {ci N index a : Nat} {Cn : String} {T : u_T} {ty : Nat → FieldType} {F : Nat → Option α} (hc : zCl ci Cn T N ty) (k : Nat) (hk : k < N) (hw : Cond.fieldLink own index (T k).1 (T k).2.1 (T k).2.2.1 ∈ zWs) (d : decode cc pc = .ok (.getfield index, 3)) (kk : ∀ x, zJ B Z Q (F x) (pc + 3) lv (.ref (B + x) :: st) h z) : zJ B Z Q ((zgR h a ci k).bind F) pc lv (.ref (B + a) :: st) h z :=
  z_bind (fun x hx => by
    obtain ⟨fs, e1, e2⟩ := zgR_of hx
    exact z_get0 C hc k hk hw d e1 e2 (kk x))
theorem z_put0 (C : zOk B Z cc own R nL) {ci N index a : Nat} {Cn : String} {T : u_T} {ty : Nat → FieldType} (hc : zCl ci Cn T N ty) (k : Nat) (hk : k < N) (hw : Cond.fieldLink own index (T k).1 (T k).2.1 (T k).2.2.1 ∈ zWs) (hfin : (T k).2.2.2 = false) (d : decode cc pc = .ok (.putfield index, 3)) {v : Value} {F : zH → Option α} (hn : narrow (ty k) (zv B v) = zv B v) (hfit : fits (ty k) (zv B v) = true) (kk : ∀ h1, zp h a ci k v = some h1 → zJ B Z Q (F h1) (pc + 3) lv st h1 z) : zJ B Z Q ((zp h a ci k v).bind F) pc lv (zv B v :: .ref (B + a) :: st) h z :=
  z_bind (fun h1 hh u hu H locs ls hL hP hz hS => by
    have hkk := kk h1 hh
    obtain ⟨fs, e1, e2, rfl⟩ := zp_of hh
    have hl : k < (fs.map (zv B)).length := by rw [List.length_map]; exact e2
    have hap := va_apart (own := own) C.2.2.1 hc.2.1 ty hc.2.2.1 hc.2.2.2 C.2.2.2.2.1 hc.1
    obtain ⟨r, h1', cell, q1, q2, q3, q4⟩ := hP a _ e1
    have hr : r = (Cn, T, N) := Option.some.inj (h1'.symm.trans hc.1)
    subst hr
    obtain ⟨hSl, hfc, kC, hkC, hkind⟩ := C.2.2.2.2.1.1 ci _ hc.1
    obtain ⟨cf, kf, fi, f, hi, hsl⟩ := hSl k hk
    have hlay := C.2.2.1 _ (hc.2.1 _ (u_in_lay hk))
    unfold u_lay at hlay
    rw [if_neg (by rw [hfin]; decide)] at hlay
    have hst := (u_facts hfc hkC (u_lays C.2.2.1 hc.2.1 hk) hi).1
    have h6 := u_store hfc hkC hkind hlay hi (hc.2.2.1 k hk) hn hfit
    refine W.putK C.1 C.2.1 (f := f) ⟨C.2.2.2.1, C.2.2.1 _ hw, ⟨_, _, _, hi⟩, hst⟩ (by rw [q2]; exact h6) q1 q3 (by rw [hsl]; exact k2_hasslot (q4 k hk)) rfl rfl d fun H' g1 g2 g3 => ?_
    rw [hsl] at g1 ⊢
    refine hkk u hu H' _ ls hL (hP.set ?_ g3) (by rw [g2]; exact hz) (hS.put g2 g3 (Nat.le_add_right B a))
    refine ⟨_, hc.1, t_OB.to (V := updV (vp_V (fs.map (zv B))) k (zv B v)) ⟨_, g1, q2, q3, t_set q4 hap hk _⟩ (fun j _ => ?_)⟩
    rw [show (fs.set k v).map (zv B) = (fs.map (zv B)).set k (zv B v) from List.map_set]
    exact vp_updV_set hl _ j)
theorem z_putI (C : zOk B Z cc own R nL) {ci N index a : Nat} {Cn : String} {T : u_T} {ty : Nat → FieldType} (hc : zCl ci Cn T N ty) (k : Nat) (hk : k < N) (hw : Cond.fieldLink own index (T k).1 (T k).2.1 (T k).2.2.1 ∈ zWs) (hfin : (T k).2.2.2 = false) (hty : ty k = .int) (d : decode cc pc = .ok (.putfield index, 3)) {x : Int32} {F : zH → Option α} (kk : ∀ h1, zJ B Z Q (F h1) (pc + 3) lv st h1 z) : zJ B Z Q ((zp h a ci k (.int x)).bind F) pc lv (.int x :: .ref (B + a) :: st) h z :=
  z_put0 (v := .int x) C hc k hk hw hfin d (by rw [hty]; rfl) (by rw [hty]; rfl) (fun h1 _ => kk h1)
theorem z_putL (C : zOk B Z cc own R nL) {ci N index a : Nat} {Cn : String} {T : u_T} {ty : Nat → FieldType} (hc : zCl ci Cn T N ty) (k : Nat) (hk : k < N) (hw : Cond.fieldLink own index (T k).1 (T k).2.1 (T k).2.2.1 ∈ zWs) (hfin : (T k).2.2.2 = false) (hty : ty k = .long) (d : decode cc pc = .ok (.putfield index, 3)) {x : Int64} {F : zH → Option α} (kk : ∀ h1, zJ B Z Q (F h1) (pc + 3) lv st h1 z) : zJ B Z Q ((zp h a ci k (.long x)).bind F) pc lv (.long x :: .ref (B + a) :: st) h z :=
  z_put0 (v := .long x) C hc k hk hw hfin d (by rw [hty]; rfl) (by rw [hty]; rfl) (fun h1 _ => kk h1)
theorem z_putZ (C : zOk B Z cc own R nL) {ci N index a : Nat} {Cn : String} {T : u_T} {ty : Nat → FieldType} (hc : zCl ci Cn T N ty) (k : Nat) (hk : k < N) (hw : Cond.fieldLink own index (T k).1 (T k).2.1 (T k).2.2.1 ∈ zWs) (hfin : (T k).2.2.2 = false) (hty : ty k = .boolean) (d : decode cc pc = .ok (.putfield index, 3)) {x : Int32} (hx : x = 0 ∨ x = 1) {F : zH → Option α} (kk : ∀ h1, zJ B Z Q (F h1) (pc + 3) lv st h1 z) : zJ B Z Q ((zp h a ci k (.int x)).bind F) pc lv (.int x :: .ref (B + a) :: st) h z :=
  z_put0 (v := .int x) C hc k hk hw hfin d (by rw [hty]; rcases hx with rfl | rfl <;> rfl) (by rw [hty]; rcases hx with rfl | rfl <;> rfl) (fun h1 _ => kk h1)
theorem z_putR (C : zOk B Z cc own R nL) {ci N index a : Nat} {Cn : String} {T : u_T} {ty : Nat → FieldType} (hc : zCl ci Cn T N ty) (k : Nat) (hk : k < N) (hw : Cond.fieldLink own index (T k).1 (T k).2.1 (T k).2.2.1 ∈ zWs) (hfin : (T k).2.2.2 = false) {nm : String} (hty : ty k = .object nm) (d : decode cc pc = .ok (.putfield index, 3)) {x : Nat} {F : zH → Option α} (kk : ∀ h1, zJ B Z Q (F h1) (pc + 3) lv st h1 z) : zJ B Z Q ((zp h a ci k (.ref x)).bind F) pc lv (.ref (B + x) :: .ref (B + a) :: st) h z :=
  z_put0 (v := .ref x) C hc k hk hw hfin d (by rw [hty]; rfl) (by rw [hty]; rfl) (fun h1 _ => kk h1)
theorem z_aiload (C : zOk B Z cc own R nL) {a : Nat} {i : Int32} {F : Int32 → Option α} (d : decode cc pc = .ok (.iaload, 1)) (kk : ∀ x, zJ B Z Q (F x) (pc + 1) lv (.int x :: st) h z) : zJ B Z Q ((zai h a i).bind F) pc lv (.int i :: .ref (B + a) :: st) h z :=
  z_bind (fun x hx u hu H locs ls hL hP hz hS => by
    obtain ⟨n, f, e1, e2, e3⟩ := zai_of hx
    subst e3
    exact va_iald (f := f) (n := n) C.1 C.2.1 C.2.2.2.2.1 (hP.one e1) 0 0 rfl rfl e2 d (kk _ u hu H locs ls hL hP hz hS))
theorem z_aistore (C : zOk B Z cc own R nL) {a : Nat} {i x : Int32} {F : zH → Option α} (d : decode cc pc = .ok (.iastore, 1)) (kk : ∀ h1, zJ B Z Q (F h1) (pc + 1) lv st h1 z) : zJ B Z Q ((zsi h a i x).bind F) pc lv (.int x :: .int i :: .ref (B + a) :: st) h z :=
  z_bind (fun h1 hh u hu H locs ls hL hP hz hS => by
    have hkk := kk h1
    obtain ⟨n, f, e1, e2, rfl⟩ := zsi_of hh
    refine W.iast C.1 C.2.1 (hP a _ e1) ((C.2.2.2.2.1.2 0 _ rfl).1 n (fun j => .int (f j))) (fun q => by cases q) (by show ¬ (i < 0 ∨ (arrV _ _ _).slots.size ≤ _); rw [arrV_size]; exact e2) rfl rfl d fun H1 g1 g2 g3 => ?_
    refine hkk u hu H1 _ ls hL (hP.set ?_ g3) (by rw [g2]; exact hz) (hS.put g2 g3 (Nat.le_add_right B a))
    show H1[B + a]? = some (vp_cell _ _)
    rw [g1]
    show some ((vp_cell (Z.2.2.2.1 0) (n, .inl f)).setSlot _ _) = some (vp_cell (Z.2.2.2.1 0) (n, .inl _))
    rw [vp_cell_i, vp_cell_i, arrV_store]
    congr 2
    funext q
    by_cases hq : q = i.toNatClampNeg
    · subst hq
      simp [updV, upd]
    · simp [updV, upd, hq])
theorem z_arload (C : zOk B Z cc own R nL) {a c : Nat} {i : Int32} {F : Nat → Option α} (hc : c < 5) (hr : (zty c).isReference = true) (d : decode cc pc = .ok (.aaload, 1)) (kk : ∀ x, zJ B Z Q (F x) (pc + 1) lv (.ref (B + x) :: st) h z) : zJ B Z Q ((zar h a c i).bind F) pc lv (.int i :: .ref (B + a) :: st) h z :=
  z_bind (fun x hx u hu H locs ls hL hP hz hS => by
    obtain ⟨n, f, e1, e2, e3⟩ := zar_of hx
    have hlt : i.toNatClampNeg < n := Nat.not_le.mp fun q => e2 (Or.inr q)
    refine W.aald (v := .ref (B + x)) (ty := zty c) C.1 C.2.1 (hP a _ e1) ((C.2.2.2.2.1.2 c _ (ztys_at _ hc)).1 n (fun j => va_rf ((f j).map (fun a => B + a)))) hr (fun q => by cases q) (by show ¬ (i < 0 ∨ (arrV _ _ _).slots.size ≤ _); rw [arrV_size]; exact e2) ?_ rfl rfl d (kk x u hu H locs ls hL hP hz hS)
    show (arrV (Z.2.2.2.1 c) n (fun j => va_rf ((f j).map (fun a => B + a)))).slots[i.toNatClampNeg]? = some (.ref (B + x))
    rw [arrV_read _ _ hlt, e3]
    rfl)
theorem z_arstore (C : zOk B Z cc own R nL) {a c ci r : Nat} {i : Int32} {F : zH → Option α} {q0 : vw_C} (hc : c < 5) (hq : vwCl[ci]? = some q0) (ht : zty c = .object q0.1) (d : decode cc pc = .ok (.aastore, 1)) (kk : ∀ h1, zJ B Z Q (F h1) (pc + 1) lv st h1 z) : zJ B Z Q ((zsr h a c ci i r).bind F) pc lv (.ref (B + r) :: .int i :: .ref (B + a) :: st) h z :=
  z_bind (fun h1 hh u hu H locs ls hL hP hz hS => by
    have hkk := kk h1
    obtain ⟨n, f, fs, e1, e2, e3, rfl⟩ := zsr_of hh
    have hlt : i.toNatClampNeg < n := Nat.not_le.mp fun q => e2 (Or.inr q)
    have h0 : ¬ i < 0 := fun q => e2 (Or.inl q)
    obtain ⟨r', hr', cellV, g1, g2, g3, -⟩ := hP r _ e3
    have hcls := (C.2.2.2.2.1.1 ci q0 hq).2
    have hT := (C.2.2.2.2.1.2 c _ (ztys_at _ hc)).2
    rw [ht] at hT
    obtain ⟨kA, comp, k1, k2, k3, -⟩ := hT
    have hcomp : comp = Z.2.2.1.1 ci := Option.some.inj (k3.symm.trans hcls.1)
    subst hcomp
    obtain ⟨kC, hkC, -⟩ := hcls.2
    refine W.aast C.1 C.2.1 (hP a _ e1) (fun q h => by cases h) (fun h => by cases h) k1 k2 rfl hkC ⟨h0, by show _ < (arrV _ _ _).slots.size; rw [arrV_size]; exact hlt⟩ g1 (fun q h => by rw [g3] at h; cases h) (by rw [g2]; exact hkC) (by rw [g2]; exact va_assign hcls) rfl rfl d fun H1 f1 f2 f3 => ?_
    refine hkk u hu H1 _ ls hL (hP.set ?_ f3) (by rw [f2]; exact hz) (hS.put f2 f3 (Nat.le_add_right B a))
    show H1[B + a]? = some (vp_cell _ _)
    rw [f1]
    show some ((vp_cell (Z.2.2.2.1 c) (n, .inr (.inr (.inr (.inr (fun j => (f j).map (fun a => B + a))))))).setSlot _ _) = some (vp_cell (Z.2.2.2.1 c) (n, .inr (.inr (.inr (.inr (fun j => (va_up f i.toNatClampNeg (some r) j).map (fun a => B + a)))))))
    rw [vp_cell_q, vp_cell_q, arrV_store]
    congr 2
    funext q
    by_cases hq : q = i.toNatClampNeg
    · subst hq
      simp [updV, va_up, va_rf]
    · simp [updV, va_up, hq])
theorem z_alen (C : zOk B Z cc own R nL) {a : Nat} {F : Int32 → Option α} (d : decode cc pc = .ok (.arraylength, 1)) (kk : ∀ x, zJ B Z Q (F x) (pc + 1) lv (.int x :: st) h z) : zJ B Z Q ((zlen h a).bind F) pc lv (.ref (B + a) :: st) h z :=
  z_bind (fun x hx u hu H locs ls hL hP hz hS => by
    obtain ⟨n, f, e1, e2⟩ := zlen_of hx
    exact va_alen (x := (n, .inl f)) C.1 C.2.1 C.2.2.2.2.1 (hP.one e1) 0 0 rfl rfl e2 d (kk x u hu H locs ls hL hP hz hS))
theorem z_copy (C : zOk B Z cc own R nL) {a b index : Nat} {sp dp n : Int32} {F : zH → Option α} (hl : Cond.methodLink own index arraycopyName ∈ zWs) (hnat : Cond.native arraycopyName ∈ zWs) (hstat : Cond.static arraycopyName ∈ zWs) (hini : Cond.initialized "java/lang/System" ∈ zWs) (hR : 1 ≤ R.frames ∧ (st.map fun v => v.category).sum + (nativeFrameWords "java/lang/System" "arraycopy" 5 + 11) ≤ R.locals) (d : decode cc pc = .ok (.invokestatic index, 3)) (kk : ∀ h1, zJ B Z Q (F h1) (pc + 3) lv st h1 z) : zJ B Z Q ((zcp h a sp b dp n).bind F) pc lv (.int n :: .int dp :: .ref (B + b) :: .int sp :: .ref (B + a) :: st) h z :=
  z_bind (fun h1 hh u hu H locs ls hL hP hz hS => by
    have hkk := kk h1
    obtain ⟨n0, f, n1, g, e1, e2, f1, f2, f3, f4, f5, rfl⟩ := zcp_of hh
    have nn : ∀ z : Int32, ¬ z < 0 → z.toInt = (z.toNatClampNeg : Int) := by
      intro z hz
      have hz0 : (0 : Int) ≤ z.toInt := by
        have := Int32.not_lt.mp hz
        simpa using Int32.le_iff_toInt_le.mp this
      show z.toInt = ((z.toInt.toNat : Nat) : Int)
      omega
    intro T hT X
    have hc0 : H[B + a]? = some (vp_cell (Z.2.2.2.1 0) (n0, .inl f)) := hP a _ e1
    have hc1 : H[B + b]? = some (vp_cell (Z.2.2.2.1 0) (n1, .inl g)) := hP b _ e2
    obtain ⟨-, k0, hk0, cm0, hkk0⟩ := (C.2.2.2.2.1.2 0 _ rfl).1 n0 (fun j => .int (f j))
    obtain ⟨-, k1, hk1, cm1, hkk1⟩ := (C.2.2.2.2.1.2 0 _ rfl).1 n1 (fun j => .int (g j))
    obtain ⟨vm', X', step⟩ := X.arraycopy C.1 C.2.2.2.1 (C.2.2.1 _ hl) (C.2.2.1 _ hnat) (C.2.2.1 _ hstat) (C.2.2.1 _ hini) (src := B + a) (dst := B + b) (cs := vp_cell (Z.2.2.2.1 0) (n0, .inl f)) (cd := vp_cell (Z.2.2.2.1 0) (n1, .inl g)) (srcPos := sp) (destPos := dp) (n := n) (by rw [hT]; exact hc0) (by rw [hT]; exact hc1)
      (fun _ h => by cases h) (fun _ h => by cases h) (fun h => by cases h) (fun h => by cases h) hk0 hk1 hkk0 hkk1 (by simp [refKind]) f1 f2 f3
      (by rw [nn sp f1, nn n f3]; show ¬ _ > ((arrV (Z.2.2.2.1 0) n0 (fun j => .int (f j))).slots.size : Int); rw [arrV_size]; omega)
      (by rw [nn dp f2, nn n f3]; show ¬ _ > ((arrV (Z.2.2.2.1 0) n1 (fun j => .int (g j))).slots.size : Int); rw [arrV_size]; omega)
      (fun vm₁ _ i hi => by
        have e : (vp_cell (Z.2.2.2.1 0) (n0, .inl f)).slots.getD (sp.toNatClampNeg + i) .null = .int (f (sp.toNatClampNeg + i)) := by
          show (arrV (Z.2.2.2.1 0) n0 (fun j => .int (f j))).slots.getD _ _ = _
          rw [Array.getD_eq_getD_getElem?, arrV_read _ _ (by omega)]
          rfl
        refine ⟨?_, ?_⟩
        · rw [e]
          rfl
        · rw [e]
          exact trivial)
      (g := F0 Z.2.1.1 pc ls (.int n :: .int dp :: .ref (B + b) :: .int sp :: .ref (B + a) :: st)) rfl (by rw [C.2.2.2.2.2.2.1]; exact hL.1) (rest := st) rfl (by rw [C.2.1]; exact d) (by rw [C.2.2.2.2.2.1]; exact hR.1) (by rw [C.2.2.2.2.2.1]; show 2 * 0 + _ + _ ≤ _; have := hR.2; omega)
    have e3 : copied (vp_cell (Z.2.2.2.1 0) (n0, .inl f)) (vp_cell (Z.2.2.2.1 0) (n1, .inl g)) sp dp n = vp_cell (Z.2.2.2.1 0) (n1, .inl (va_cpy f g sp.toNatClampNeg dp.toNatClampNeg n.toNatClampNeg)) := va_copied (fun z => .int z) _ _ f g f4
    rw [e3] at X' step
    have hlt : B + b < H.size := (Array.getElem?_eq_some_iff.mp hc1).1
    have hheap : ((T.setVm vm').setCell (B + b) (vp_cell (Z.2.2.2.1 0) (n1, .inl (va_cpy f g sp.toNatClampNeg dp.toNatClampNeg n.toNatClampNeg)))).heap = H.setIfInBounds (B + b) (vp_cell (Z.2.2.2.1 0) (n1, .inl (va_cpy f g sp.toNatClampNeg dp.toNatClampNeg n.toNatClampNeg))) := by rw [← hT]; rfl
    have oq : ∀ q : Nat, q ≠ B + b → (H.setIfInBounds (B + b) (vp_cell (Z.2.2.2.1 0) (n1, .inl (va_cpy f g sp.toNatClampNeg dp.toNatClampNeg n.toNatClampNeg))))[q]? = H[q]? := fun q hq => by simp [Array.getElem?_setIfInBounds, Ne.symm hq]
    obtain ⟨t, a1, b1⟩ := hkk u hu _ _ ls hL (hP.set (show (H.setIfInBounds (B + b) _)[B + b]? = some _ by simp [Array.getElem?_setIfInBounds, hlt]; rfl) oq) (by simp; exact hz) ⟨by simp; exact hS.1, fun q g1 g2 => by
        rw [oq q (fun e => g2 (by rw [e]; exact Nat.le_add_right B b))]
        exact hS.2.1 q g1 g2, fun q hq => by
        rcases List.mem_append.mp hq with h | h
        · exact hS.2.2 q h
        · obtain ⟨i, -, rfl⟩ := List.mem_map.mp h
          exact Nat.le_add_right B b⟩ _ hheap X'
    exact ⟨t, step t a1, b1⟩)
end ZR
/-! contracts, ends, calls -/
abbrev zR (k mc ms : Nat) : Room := { frames := k, cells := mc, slots := ms, locals := 64 * k }
def zQc (B : Nat) (D : va_G) (cA : Nat → ClassId) (v : Option Value) (h' : zH) (mc : Nat) : Array Value → State → Outcome → State → Prop := fun _ st oc t => oc = .returned v ∧ zP B D cA h' t.heap ∧ st.heap.size + mc ≤ t.heap.size ∧ va_F (fun q => B ≤ q) st t
def zPc (B : Nat) (D : va_G) (cA : Nat → ClassId) (h : zH) (sz : Option Nat) (av : List Value) : Array Value → State → Prop := va_Pc av (fun U => zSt B D cA h U ∧ ∀ n, sz = some n → U.heap.size = B + n)
def zM (l : Launch) (B : Nat) (D : va_G) (cA : Nat → ClassId) (y : MethodName) (cc : ByteArray) (maxL : Nat) (ret : Option FieldType) (k mc ms : Nat) (sz : Option Nat) (av : List Value) (h : zH) (v : Option Value) (h' : zH) : Prop :=
  Met l y (Cond.code y cc maxL ret :: zWs) (zR k mc ms) (zPc B D cA h sz av) (zQc B D cA v h' mc) mc ms (fun q => B ≤ q)
def zEnd (B : Nat) (Z : zC) {α : Type} (out : α → Option Value × zH) (mc ms : Nat) (u : α) : State → Prop := MQ Z.2.1.2.2.1 (zQc B Z.2.2.1 Z.2.2.2.1 (out u).1 (out u).2 mc) Z.2.1.2.1 Z.1.2.2.2.2 mc ms (fun q => B ≤ q)
theorem zgood : ∀ w ∈ zWs, (w.onTables && w.keeps) = true ∨ ∃ ty, w = .arrayClass ty := fun w hw => good_of_word (List.all_eq_true.mp (show zWs.all goodWord = true by decide +kernel) w hw)
theorem zgoodIn {y : MethodName} {bytes : ByteArray} {maxL : Nat} {ret : Option FieldType} (hc : Cond.code y bytes maxL ret ∈ zWs) : ∀ w ∈ (Cond.code y bytes maxL ret :: zWs), w ∈ zWs ∧ ((w.onTables && w.keeps) = true ∨ ∃ ty, w = .arrayClass ty) := fun w hw => (List.mem_cons.mp hw).elim (fun e => by rw [e]; exact ⟨hc, zgood _ hc⟩) (fun e => ⟨e, zgood w e⟩)
theorem zN.warm {s U : State} (hW : s.WarmedH U.vm) (hN : zN s) : zN U := by
  obtain ⟨⟨a1, a2, a3, a4⟩, ⟨b1, b2, b3, b4, b5, b6⟩, ⟨c1, c2, c3⟩, d1, d2, d3⟩ := hN
  exact ⟨⟨va_Nw.warmM hW a1, va_Nw.warmM hW a2, va_Nw.warmM hW a3, va_Nw.warmM hW a4⟩, ⟨va_Nw.warmC hW b1, va_Nw.warmC hW b2, va_Nw.warmC hW b3, va_Nw.warmD hW b4, va_Nw.warmD hW b5, va_Nw.warmD hW b6⟩, ⟨va_Nc.moved hW.alike c1, va_Nc.moved hW.alike c2, va_Nc.moved hW.alike c3⟩, va_AO.moved hW.alike d1, va_AO.moved hW.alike d2, zAOA.moved hW.alike d3⟩
theorem zN.same {U : State} {g : JFrame} {mk : MethodId} {a : Array Value} (hN : zN U) : zN (U.calling g mk a) := by
  obtain ⟨⟨a1, a2, a3, a4⟩, ⟨b1, b2, b3, b4, b5, b6⟩, ⟨c1, c2, c3⟩, d1, d2, d3⟩ := hN
  have e : U.vm.Alike (U.calling g mk a).vm := Vm.Alike.refl U.vm
  exact ⟨⟨va_Nw.same rfl rfl a1, va_Nw.same rfl rfl a2, va_Nw.same rfl rfl a3, va_Nw.same rfl rfl a4⟩, ⟨va_Nw.same rfl rfl b1, va_Nw.same rfl rfl b2, va_Nw.same rfl rfl b3, va_Nw.same rfl rfl b4, va_Nw.same rfl rfl b5, va_Nw.same rfl rfl b6⟩, ⟨va_Nc.moved e c1, va_Nc.moved e c2, va_Nc.moved e c3⟩, va_AO.moved e d1, va_AO.moved e d2, zAOA.moved e d3⟩
theorem zSt_at {B : Nat} {Z : zC} {cc : ByteArray} {own : String} {R : Room} {nL : Nat} {h : zH} {H : Heap} {locs : List Loc} (C : zOk B Z cc own R nL) (hP : zP B Z.2.2.1 Z.2.2.2.1 h H) (hS : va_S (fun q => B ≤ q) Z.1.2.2.2.2.heap H locs) {U : State} (hU : U.heap = H) (hW : Z.1.2.2.2.2.WarmedH U.vm) : zSt B Z.2.2.1 Z.2.2.2.1 h U := by
  obtain ⟨-, -, -, -, hK, -, -, hB, hN, hX, -, -⟩ := C
  refine ⟨by rw [hU]; exact hP, va_K.moved hW.alike hK, by rw [hU]; exact Nat.le_trans hB hS.1, zN.warm hW hN, ?_⟩
  rw [hU]
  exact ⟨vx_Zq.moved hW.alike (hX.1.kept hS.2.1), vx_Zq.moved hW.alike (hX.2.kept hS.2.1)⟩
theorem zPc_blind {B : Nat} {D : va_G} {cA : Nat → ClassId} {h : zH} {sz : Option Nat} {av : List Value} : FrameBlind (zPc B D cA h sz av) := fun a U g mk q => by
  obtain ⟨e, ⟨q1, q2, q3, q4, q5⟩, q6⟩ := q
  exact ⟨e, ⟨q1, va_K.moved (u := U) (U := U.calling g mk a) (Vm.Alike.refl U.vm) q2, q3, zN.same q4, ⟨vx_Zq.moved (u := U) (U := U.calling g mk a) (Vm.Alike.refl U.vm) q5.1, vx_Zq.moved (u := U) (U := U.calling g mk a) (Vm.Alike.refl U.vm) q5.2⟩⟩, q6⟩
/-- what the Met of a method owes: a walk from its entry -/
theorem z_met {l : Launch} {B : Nat} {D : va_G} {cA : Nat → ClassId} {y : MethodName} {cc : ByteArray} {maxL : Nat} {ret : Option FieldType} {k mc ms : Nat} {sz : Option Nat} {av : List Value} {h : zH} {α : Type} {o : Option α} (out : α → Option Value × zH) {own : String} (hown0 : y.cls = own) (hy : plainName y.cls = true) (hn : Nat.ble (lg_sl av).length maxL = true)
    (walk : ∀ Z : zC, zOk B Z cc own (zR k mc ms) maxL → Z.2.1.2.2.2.1.sig.returnType = ret → Z.2.1.2.2.2.1.name = y.name → (∀ n, sz = some n → Z.1.2.2.2.2.heap.size = B + n) → zJ B Z (zEnd B Z out mc ms) o 0 (lv_args 0 av) [] h (0, 0, Z.1.2.2.2.2.heap.size)) :
    ∀ u, o = some u → zM l B D cA y cc maxL ret k mc ms sz av h (out u).1 (out u).2 := by
  intro u hu
  subst hown0
  refine Met.ofW (cc := cc) (maxL := maxL) (ret := ret) hy rfl ?_
  intro p e s m args below meth c s₁ Bd hml hv
  obtain ⟨rfl, ⟨hP, hK, hB, hN, hX⟩, hsz⟩ := hv
  have hts := atoms_spec (ws := Cond.code y cc maxL ret :: zWs) Bd.pre
  have hown : s.vm.findClass y.cls = some m.cls := findClass_of_methodNamed Bd.named
  have W1 := walk ((p, l, e, zR k mc ms, s), (m, av.toArray, below, meth, c), (D, cA, maxL)) ⟨Bd.exec, Bd.bytes, fun w hw => hts w (List.mem_cons_of_mem _ hw), hown, hK, rfl, hml, hB, hN, hX, Bd.notSynchronized, rfl⟩ Bd.returns (name_of_methodNamed Bd.named Bd.method).1 hsz u hu
  have hl := lv_entry av (n := maxL) (Nat.le_of_ble_eq_true hn)
  rw [lg_entry_eq]
  exact W1 s.heap [] _ hl hP (Nat.le_refl _) va_S.rf
def zmin (x y : Int32) : Int32 := if y < x then y else x
def zmax (x y : Int32) : Int32 := if x < y then y else x
section ZC
variable {B : Nat} {Z : zC} {α β γ : Type} {Q : α → State → Prop} {o : Option α} {pc : Nat} {lv lv' : List (Nat × Value)} {st rest : List Value} {h : zH} {z : Nat × Nat × Nat} {cc : ByteArray} {own : String} {R : Room} {nL : Nat}
theorem z_ret0 {out : α → Option Value × zH} {mc ms : Nat} {u : α} {v : Option Value} {H : Heap} {locs : List Loc} (hu : out u = (v, h)) (hP : zP B Z.2.2.1 Z.2.2.2.1 h H) (hz : Z.1.2.2.2.2.heap.size + mc ≤ H.size) (hS : va_S (fun q => B ≤ q) Z.1.2.2.2.2.heap H locs) : ∀ t : State, t.heap = H → Z.1.2.2.2.2.WarmedH t.vm → zQc B Z.2.2.1 Z.2.2.2.1 (out u).1 (out u).2 mc Z.2.1.2.1 Z.1.2.2.2.2 (.returned v) t := fun t ht _ => ⟨by rw [hu], by rw [hu, ht]; exact hP, by rw [ht]; exact hz, hS.F ht⟩
theorem z_iret (C : zOk B Z cc own R nL) {out : α → Option Value × zH} {mc ms : Nat} (hr : Z.2.1.2.2.2.1.sig.returnType = some .int) {u : α} {x : Int32} (hu : out u = (some (.int x), h)) (d : decode cc pc = .ok (.ireturn, 1)) : zJ B Z (zEnd B Z out mc ms) (some u) pc lv [.int x] h (mc, ms, Z.1.2.2.2.2.heap.size + mc) := by
  intro u' e H locs ls hL hP hz hS
  cases e
  exact W.iret (v := x) C.1 C.2.1 hr (z_ret0 (ms := ms) hu hP hz hS) hS.2.2 d C.2.2.2.2.2.2.2.2.2.2.1
theorem z_zret (C : zOk B Z cc own R nL) {out : α → Option Value × zH} {mc ms : Nat} (hr : Z.2.1.2.2.2.1.sig.returnType = some .boolean) {u : α} {x : Int32} (hx : x = 0 ∨ x = 1) (hu : out u = (some (.int x), h)) (d : decode cc pc = .ok (.ireturn, 1)) : zJ B Z (zEnd B Z out mc ms) (some u) pc lv [.int x] h (mc, ms, Z.1.2.2.2.2.heap.size + mc) := by
  intro u' e H locs ls hL hP hz hS
  cases e
  exact W.zret (v := x) C.1 C.2.1 hr (by rcases hx with rfl | rfl <;> rfl) (z_ret0 (ms := ms) hu hP hz hS) hS.2.2 d C.2.2.2.2.2.2.2.2.2.2.1
theorem z_vret (C : zOk B Z cc own R nL) {out : α → Option Value × zH} {mc ms : Nat} (hr : Z.2.1.2.2.2.1.sig.returnType = none) {u : α} (hu : out u = (none, h)) (d : decode cc pc = .ok (.return_, 1)) : zJ B Z (zEnd B Z out mc ms) (some u) pc lv [] h (mc, ms, Z.1.2.2.2.2.heap.size + mc) := by
  intro u' e H locs ls hL hP hz hS
  cases e
  exact W.vret C.1 C.2.1 hr (z_ret0 (ms := ms) hu hP hz hS) hS.2.2 d C.2.2.2.2.2.2.2.2.2.2.1
theorem z_lret (C : zOk B Z cc own R nL) {out : α → Option Value × zH} {mc ms : Nat} (hr : Z.2.1.2.2.2.1.sig.returnType = some .long) {u : α} {x : Int64} (hu : out u = (some (.long x), h)) (d : decode cc pc = .ok (.lreturn, 1)) : zJ B Z (zEnd B Z out mc ms) (some u) pc lv [.long x] h (mc, ms, Z.1.2.2.2.2.heap.size + mc) := by
  intro u' e H locs ls hL hP hz hS
  cases e
  exact W.lret (v := x) C.1 C.2.1 hr (z_ret0 (ms := ms) hu hP hz hS) hS.2.2 d C.2.2.2.2.2.2.2.2.2.2.1
theorem z_dret (C : zOk B Z cc own R nL) {out : α → Option Value × zH} {mc ms : Nat} (hr : Z.2.1.2.2.2.1.sig.returnType = some .double) {u : α} {x : UInt64} (hu : out u = (some (.double x), h)) (d : decode cc pc = .ok (.dreturn, 1)) : zJ B Z (zEnd B Z out mc ms) (some u) pc lv [.double x] h (mc, ms, Z.1.2.2.2.2.heap.size + mc) := by
  intro u' e H locs ls hL hP hz hS
  cases e
  exact W.dret (v := x) C.1 C.2.1 hr (z_ret0 (ms := ms) hu hP hz hS) hS.2.2 d C.2.2.2.2.2.2.2.2.2.2.1
theorem z_min {k mc ms : Nat} (C : zOk B Z cc own (zR k mc ms) nL) (rest : List Value) {index : Nat} {x y : Int32} (hst : st = rest) (w1 : Cond.methodLink own index Lib.Math.min.name ∈ zWs) (w2 : Cond.static Lib.Math.min.name ∈ zWs) (w3 : Cond.initialized "java/lang/Math" ∈ zWs) (w4 : Cond.code Lib.Math.min.name Lib.Math.min.code 2 (some .int) ∈ zWs) (hk : Nat.ble 1 k = true) (hrm : Nat.ble ((rest.map fun v => v.category).sum + 13) (64 * k) = true) (hroom : z.1 ≤ mc ∧ z.2.1 ≤ ms) (d : decode cc pc = .ok (.invokestatic index, 3)) (kk : zJ B Z Q o (pc + 3) lv (.int (zmin x y) :: st) h z) : zJ B Z Q o pc lv (.int y :: .int x :: st) h z := fun u hu H locs ls hL hP hz hS => by
  obtain ⟨hx1, hx2, hts, hown, hK, hR, hml, hB, hN, hX, hlk, hnL⟩ := id C
  subst hst
  exact va_mmin hx1 hx2 (by rw [hml, hL.1]) hown (hts _ w1) (hts _ w2) (hts _ w3) (hts _ w4) (by rw [hR]; exact Nat.le_of_ble_eq_true hk) (by rw [hR]; exact Nat.le_of_ble_eq_true hrm) (by rw [hR]; exact hroom.1) (by rw [hR]; exact hroom.2) d (kk u hu H locs ls hL hP hz hS)
theorem z_max {k mc ms : Nat} (C : zOk B Z cc own (zR k mc ms) nL) (rest : List Value) {index : Nat} {x y : Int32} (hst : st = rest) (w1 : Cond.methodLink own index Lib.Math.max.name ∈ zWs) (w2 : Cond.static Lib.Math.max.name ∈ zWs) (w3 : Cond.initialized "java/lang/Math" ∈ zWs) (w4 : Cond.code Lib.Math.max.name Lib.Math.max.code 2 (some .int) ∈ zWs) (hk : Nat.ble 1 k = true) (hrm : Nat.ble ((rest.map fun v => v.category).sum + 13) (64 * k) = true) (hroom : z.1 ≤ mc ∧ z.2.1 ≤ ms) (d : decode cc pc = .ok (.invokestatic index, 3)) (kk : zJ B Z Q o (pc + 3) lv (.int (zmax x y) :: st) h z) : zJ B Z Q o pc lv (.int y :: .int x :: st) h z := fun u hu H locs ls hL hP hz hS => by
  obtain ⟨hx1, hx2, hts, hown, hK, hR, hml, hB, hN, hX, hlk, hnL⟩ := id C
  subst hst
  exact va_mmax hx1 hx2 (by rw [hml, hL.1]) hown (hts _ w1) (hts _ w2) (hts _ w3) (hts _ w4) (by rw [hR]; exact Nat.le_of_ble_eq_true hk) (by rw [hR]; exact Nat.le_of_ble_eq_true hrm) (by rw [hR]; exact hroom.1) (by rw [hR]; exact hroom.2) d (kk u hu H locs ls hL hP hz hS)
/-- behind a call -/
theorem z_back {Qs : State → Prop} {mc' ms' : Nat} {v : Option Value} {h' : zH} {a : Array Value} {st0 : List Value} {z : Nat × Nat × Nat}
    (hr : ∀ (H : Heap) (locs : List Loc) (ls : Array Slot), lv_has ls Z.2.2.2.2 lv → zP B Z.2.2.1 Z.2.2.2.1 h H → z.2.2 ≤ H.size → va_S (fun q => B ≤ q) Z.1.2.2.2.2.heap H locs → va_Run Z.1.1 Z.1.2.1 Z.1.2.2.1 Z.1.2.2.2.1 Z.1.2.2.2.2 Z.2.1.1 Z.2.1.2.1 Z.2.1.2.2.1 Z.2.1.2.2.2.1 Z.2.1.2.2.2.2 H locs z.1 z.2.1 mc' ms' (F0 Z.2.1.1 pc ls st0) rest (zQc B Z.2.2.1 Z.2.2.2.1 v h' mc' a) (fun q => B ≤ q))
    (kk : zW B Z Qs (pc + 3) lv (v.toList ++ rest) h' (z.1 + mc', z.2.1 + ms', z.2.2 + mc')) : zW B Z Qs pc lv st0 h z := by
  intro H locs ls hL hP hz hS T hT X
  obtain ⟨w, st₀, t, T', L, h0, X', hF, e1, e2, ⟨hv, hp, hsz, hf⟩, stp⟩ := hr H locs ls hL hP hz hS T hT X
  cases hv
  obtain ⟨f1, f2⟩ := hf
  rw [h0] at f1 f2 hsz
  obtain ⟨t2, a1, b1⟩ := kk T'.heap (locs ++ L) ls hL (by rw [e1]; exact hp) (by rw [e1]; exact Nat.le_trans (Nat.add_le_add_right hz mc') hsz)
    ⟨Nat.le_trans hS.1 (by rw [e1]; exact f1), fun q h1 h2 => by rw [e1, f2 q (Nat.lt_of_lt_of_le h1 hS.1) h2]; exact hS.2.1 q h1 h2, fun q hq => by
      rcases List.mem_append.mp hq with h | h
      · exact hS.2.2 q h
      · exact hF q h⟩ T' rfl X'
  exact ⟨t2, stp t2 a1, b1⟩
/-- a method's name, and how many arguments it has -/
def zNm (y : MethodName) (n : Nat) : Prop := (y.cls ≠ "java/lang/invoke/MethodHandle" ∧ y.cls ≠ "java/lang/invoke/VarHandle") ∧ (parseMethodDescriptor y.desc).map (fun d => d.parameters.length) = some n
theorem zNm.len {y : MethodName} {n : Nat} (h : zNm y n) : ∀ sig, parseMethodDescriptor y.desc = some sig → n = sig.parameters.length := fun sig e => by
  have h2 := h.2
  rw [e] at h2
  exact (Option.some.inj h2).symm
theorem z_callV {y : MethodName} {bytes : ByteArray} {maxL index n b ci N k' mc' ms' k mc ms : Nat} {ret : Option FieldType} {Cn : String} {T : u_T} {ty : Nat → FieldType} {As fs st0 : List Value} {v : Option Value} {h' : zH} {sz : Option Nat} {Qs : State → Prop} {z : Nat × Nat × Nat} (C : zOk B Z cc own (zR k mc ms) nL) (hM : zM Z.1.2.1 B Z.2.2.1 Z.2.2.2.1 y bytes maxL ret k' mc' ms' sz (.ref (B + b) :: As) h v h') (hn : zNm y n) (hk : Nat.ble (k' + 1) k = true) (hx : Nat.ble (8 + (maxL + 11) + 64 * k') (64 * k) = true) (hroom : z.1 + mc' ≤ mc ∧ z.2.1 + ms' ≤ ms) (hsz : ∀ n, sz = some n → ∀ (H : Heap) (locs : List Loc) (ls : Array Slot), lv_has ls Z.2.2.2.2 lv → zP B Z.2.2.1 Z.2.2.2.1 h H → va_S (fun q => B ≤ q) Z.1.2.2.2.2.heap H locs → H.size = B + n)
    (hrc : zO h b ci = some fs) (hci : zCl ci Cn T N ty) (hy : Cn = y.cls) (w1 : Cond.methodLink own index y ∈ zWs) (w2 : Cond.instanceMethod y ∈ zWs) (w3 : Cond.selects y.cls y y ∈ zWs) (w4 : Cond.initialized y.cls ∈ zWs) (w5 : Cond.code y bytes maxL ret ∈ zWs) (hlen : As.length = n) (hst : st0 = As.reverse ++ .ref (B + b) :: rest) (hrm : Nat.ble (rest.map fun v => v.category).sum 8 = true) (d : decode cc pc = .ok (.invokevirtual index, 3))
    (kk : zW B Z Qs (pc + 3) lv (v.toList ++ rest) h' (z.1 + mc', z.2.1 + ms', z.2.2 + mc')) : zW B Z Qs pc lv st0 h z := by
  refine z_back (rest := rest) (mc' := mc') (ms' := ms') (a := (Value.ref (B + b) :: As).toArray) (fun H locs ls hL hP hzz hS => ?_) kk
  obtain ⟨hx1, hx2, hts, hown, hK, hR, hml, hB, hN, hX, hlk, hnL⟩ := id C
  subst hy
  refine va_runV (own := own) (C := y.cls) (index := index) (bytes := bytes) (maxL := maxL) (ret := ret) (n := n) (As := As) (b := B + b) ⟨hx1, hx2, hml, hown, hts⟩ hM ⟨⟨rfl, rfl, by rw [hR]; exact Nat.le_of_ble_eq_true hk, by rw [hR]; exact Nat.le_of_ble_eq_true hx, pay_in hts (zgoodIn w5), List.mem_cons_self, hts _ w5, hts _ w4, hn.1, hn.len, hts _ w1⟩, hts _ w2, hts _ w3⟩ ⟨zPc_blind, ?_, fun U hU hW => ⟨rfl, zSt_at C hP hS hU hW, fun n hn => by rw [hU]; exact hsz n hn H locs ls hL hP hS⟩⟩ rfl hlen hL.1 hst (lv_room (Nat.le_of_ble_eq_true hrm)) d (by rw [hR]; exact hroom)
  exact va_recv hK (hP.one (zO_of hrc)) (ci := ci) (q0 := 0) hci.1 rfl
theorem z_callS {y : MethodName} {bytes : ByteArray} {maxL index n k' mc' ms' k mc ms : Nat} {ret : Option FieldType} {As st0 : List Value} {v : Option Value} {h' : zH} {sz : Option Nat} {Qs : State → Prop} {z : Nat × Nat × Nat} (C : zOk B Z cc own (zR k mc ms) nL) (hM : zM Z.1.2.1 B Z.2.2.1 Z.2.2.2.1 y bytes maxL ret k' mc' ms' sz As h v h') (hn : zNm y n) (hk : Nat.ble (k' + 1) k = true) (hx : Nat.ble (8 + (maxL + 11) + 64 * k') (64 * k) = true) (hroom : z.1 + mc' ≤ mc ∧ z.2.1 + ms' ≤ ms) (hsz : ∀ n, sz = some n → ∀ (H : Heap) (locs : List Loc) (ls : Array Slot), lv_has ls Z.2.2.2.2 lv → zP B Z.2.2.1 Z.2.2.2.1 h H → va_S (fun q => B ≤ q) Z.1.2.2.2.2.heap H locs → H.size = B + n)
    (w1 : Cond.methodLink own index y ∈ zWs) (w2 : Cond.static y ∈ zWs) (w4 : Cond.initialized y.cls ∈ zWs) (w5 : Cond.code y bytes maxL ret ∈ zWs) (hlen : As.length = n) (hst : st0 = As.reverse ++ rest) (hrm : Nat.ble (rest.map fun v => v.category).sum 8 = true) (d : decode cc pc = .ok (.invokestatic index, 3))
    (kk : zW B Z Qs (pc + 3) lv (v.toList ++ rest) h' (z.1 + mc', z.2.1 + ms', z.2.2 + mc')) : zW B Z Qs pc lv st0 h z := by
  refine z_back (rest := rest) (mc' := mc') (ms' := ms') (a := As.toArray) (fun H locs ls hL hP hzz hS => ?_) kk
  obtain ⟨hx1, hx2, hts, hown, hK, hR, hml, hB, hN, hX, hlk, hnL⟩ := id C
  exact va_runS (own := own) (index := index) (bytes := bytes) (maxL := maxL) (ret := ret) (n := n) (As := As) ⟨hx1, hx2, hml, hown, hts⟩ hM ⟨⟨rfl, rfl, by rw [hR]; exact Nat.le_of_ble_eq_true hk, by rw [hR]; exact Nat.le_of_ble_eq_true hx, pay_in hts (zgoodIn w5), List.mem_cons_self, hts _ w5, hts _ w4, hn.1, hn.len, hts _ w1⟩, hts _ w2⟩ ⟨zPc_blind, fun U hU hW => ⟨rfl, zSt_at C hP hS hU hW, fun n hn => by rw [hU]; exact hsz n hn H locs ls hL hP hS⟩⟩ rfl hlen hL.1 hst (lv_room (Nat.le_of_ble_eq_true hrm)) d (by rw [hR]; exact hroom)
/-- a nest mate's static method -/
theorem z_callN {y : MethodName} {host : String} {bytes : ByteArray} {maxL index n k' mc' ms' k mc ms : Nat} {ret : Option FieldType} {As st0 : List Value} {v : Option Value} {h' : zH} {sz : Option Nat} {Qs : State → Prop} {z : Nat × Nat × Nat} (C : zOk B Z cc own (zR k mc ms) nL) (hM : zM Z.1.2.1 B Z.2.2.1 Z.2.2.2.1 y bytes maxL ret k' mc' ms' sz As h v h') (hn : zNm y n) (hk : Nat.ble (k' + 1) k = true) (hx : Nat.ble (8 + (maxL + 11) + 64 * k') (64 * k) = true) (hroom : z.1 + mc' ≤ mc ∧ z.2.1 + ms' ≤ ms) (hsz : ∀ n, sz = some n → ∀ (H : Heap) (locs : List Loc) (ls : Array Slot), lv_has ls Z.2.2.2.2 lv → zP B Z.2.2.1 Z.2.2.2.1 h H → va_S (fun q => B ≤ q) Z.1.2.2.2.2.heap H locs → H.size = B + n)
    (w1 : va_Nw (.methodLinkNest own index y host) Z.1.2.2.2.2) (w2 : Cond.static y ∈ zWs) (w4 : Cond.initialized y.cls ∈ zWs) (w5 : Cond.code y bytes maxL ret ∈ zWs) (hlen : As.length = n) (hst : st0 = As.reverse ++ rest) (hrm : Nat.ble (rest.map fun v => v.category).sum 8 = true) (d : decode cc pc = .ok (.invokestatic index, 3))
    (kk : zW B Z Qs (pc + 3) lv (v.toList ++ rest) h' (z.1 + mc', z.2.1 + ms', z.2.2 + mc')) : zW B Z Qs pc lv st0 h z := by
  refine z_back (rest := rest) (mc' := mc') (ms' := ms') (a := As.toArray) (fun H locs ls hL hP hzz hS => ?_) kk
  obtain ⟨hx1, hx2, hts, hown, hK, hR, hml, hB, hN, hX, hlk, hnL⟩ := id C
  exact va_runSN (own := own) (host := host) (index := index) (bytes := bytes) (maxL := maxL) (ret := ret) (n := n) (As := As) ⟨hx1, hx2, hml, hown, hts⟩ hM ⟨⟨⟨rfl, rfl, by rw [hR]; exact Nat.le_of_ble_eq_true hk, by rw [hR]; exact Nat.le_of_ble_eq_true hx, pay_in hts (zgoodIn w5), List.mem_cons_self⟩, hts _ w5, hts _ w4, hn.1, hn.len, va_Nw.use rfl w1⟩, hts _ w2, trivial⟩ ⟨zPc_blind, fun U hU hW => ⟨rfl, zSt_at C hP hS hU hW, fun n hn => by rw [hU]; exact hsz n hn H locs ls hL hP hS⟩⟩ rfl hlen hL.1 hst (lv_room (Nat.le_of_ble_eq_true hrm)) d (by rw [hR]; exact hroom)

theorem z_cvV {y : MethodName} {bytes : ByteArray} {maxL index n b ci N k' k mc ms : Nat} {ret : Option FieldType} {Cn : String} {T : u_T} {ty : Nat → FieldType} {As : List Value} {f : Option (zH)} {F : zH → Option α} (C : zOk B Z cc own (zR k mc ms) nL) (rest : List Value) (hM : ∀ u, f = some u → zM Z.1.2.1 B Z.2.2.1 Z.2.2.2.1 y bytes maxL ret k' 0 0 none (.ref (B + b) :: As) h ((fun h1 => (none, h1) : zH → Option Value × zH) u).1 ((fun h1 => (none, h1) : zH → Option Value × zH) u).2) (hn : zNm y n) (hk : Nat.ble (k' + 1) k = true) (hx : Nat.ble (8 + (maxL + 11) + 64 * k') (64 * k) = true) (hroom : z.1 ≤ mc ∧ z.2.1 ≤ ms)
    (hci : zCl ci Cn T N ty) (hy : Cn = y.cls) (w1 : Cond.methodLink own index y ∈ zWs) (w2 : Cond.instanceMethod y ∈ zWs) (w3 : Cond.selects y.cls y y ∈ zWs) (w4 : Cond.initialized y.cls ∈ zWs) (w5 : Cond.code y bytes maxL ret ∈ zWs) (hlen : As.length = n) (hst : st = As.reverse ++ .ref (B + b) :: rest) (hrm : Nat.ble (rest.map fun v => v.category).sum 8 = true) (d : decode cc pc = .ok (.invokevirtual index, 3)) (kk : ∀ (h1 : zH), zJ B Z Q (F h1) (pc + 3) lv (rest) h1 z) : zJ B Z Q (zrc h b ci (f.bind F)) pc lv st h z :=
  z_rc (fun fs hrc => z_bind (fun u hu u2 hu2 => z_callV (rest := rest) (st0 := st) (v := none) C (hM u hu) hn hk hx hroom (fun _ q => nomatch q) hrc hci hy w1 w2 w3 w4 w5 hlen hst hrm d (kk u u2 hu2)))
theorem z_cvI {y : MethodName} {bytes : ByteArray} {maxL index n b ci N k' k mc ms : Nat} {ret : Option FieldType} {Cn : String} {T : u_T} {ty : Nat → FieldType} {As : List Value} {f : Option (Int32 × zH)} {F : Int32 → zH → Option α} (C : zOk B Z cc own (zR k mc ms) nL) (rest : List Value) (hM : ∀ u, f = some u → zM Z.1.2.1 B Z.2.2.1 Z.2.2.2.1 y bytes maxL ret k' 0 0 none (.ref (B + b) :: As) h ((fun u => (some (.int u.1), u.2) : Int32 × zH → Option Value × zH) u).1 ((fun u => (some (.int u.1), u.2) : Int32 × zH → Option Value × zH) u).2) (hn : zNm y n) (hk : Nat.ble (k' + 1) k = true) (hx : Nat.ble (8 + (maxL + 11) + 64 * k') (64 * k) = true) (hroom : z.1 ≤ mc ∧ z.2.1 ≤ ms)
    (hci : zCl ci Cn T N ty) (hy : Cn = y.cls) (w1 : Cond.methodLink own index y ∈ zWs) (w2 : Cond.instanceMethod y ∈ zWs) (w3 : Cond.selects y.cls y y ∈ zWs) (w4 : Cond.initialized y.cls ∈ zWs) (w5 : Cond.code y bytes maxL ret ∈ zWs) (hlen : As.length = n) (hst : st = As.reverse ++ .ref (B + b) :: rest) (hrm : Nat.ble (rest.map fun v => v.category).sum 8 = true) (d : decode cc pc = .ok (.invokevirtual index, 3)) (kk : ∀ (r : Int32) (h1 : zH), zJ B Z Q (F r h1) (pc + 3) lv (.int r :: rest) h1 z) : zJ B Z Q (zrc h b ci (zb2 f F)) pc lv st h z :=
  z_rc (fun fs hrc => z_bind (fun u hu u2 hu2 => z_callV (rest := rest) (st0 := st) (v := some (.int u.1)) C (hM u hu) hn hk hx hroom (fun _ q => nomatch q) hrc hci hy w1 w2 w3 w4 w5 hlen hst hrm d (kk u.1 u.2 u2 hu2)))
theorem z_cvL {y : MethodName} {bytes : ByteArray} {maxL index n b ci N k' k mc ms : Nat} {ret : Option FieldType} {Cn : String} {T : u_T} {ty : Nat → FieldType} {As : List Value} {f : Option (Int64 × zH)} {F : Int64 → zH → Option α} (C : zOk B Z cc own (zR k mc ms) nL) (rest : List Value) (hM : ∀ u, f = some u → zM Z.1.2.1 B Z.2.2.1 Z.2.2.2.1 y bytes maxL ret k' 0 0 none (.ref (B + b) :: As) h ((fun u => (some (.long u.1), u.2) : Int64 × zH → Option Value × zH) u).1 ((fun u => (some (.long u.1), u.2) : Int64 × zH → Option Value × zH) u).2) (hn : zNm y n) (hk : Nat.ble (k' + 1) k = true) (hx : Nat.ble (8 + (maxL + 11) + 64 * k') (64 * k) = true) (hroom : z.1 ≤ mc ∧ z.2.1 ≤ ms)
    (hci : zCl ci Cn T N ty) (hy : Cn = y.cls) (w1 : Cond.methodLink own index y ∈ zWs) (w2 : Cond.instanceMethod y ∈ zWs) (w3 : Cond.selects y.cls y y ∈ zWs) (w4 : Cond.initialized y.cls ∈ zWs) (w5 : Cond.code y bytes maxL ret ∈ zWs) (hlen : As.length = n) (hst : st = As.reverse ++ .ref (B + b) :: rest) (hrm : Nat.ble (rest.map fun v => v.category).sum 8 = true) (d : decode cc pc = .ok (.invokevirtual index, 3)) (kk : ∀ (r : Int64) (h1 : zH), zJ B Z Q (F r h1) (pc + 3) lv (.long r :: rest) h1 z) : zJ B Z Q (zrc h b ci (zb2 f F)) pc lv st h z :=
  z_rc (fun fs hrc => z_bind (fun u hu u2 hu2 => z_callV (rest := rest) (st0 := st) (v := some (.long u.1)) C (hM u hu) hn hk hx hroom (fun _ q => nomatch q) hrc hci hy w1 w2 w3 w4 w5 hlen hst hrm d (kk u.1 u.2 u2 hu2)))
theorem z_cvE {y : MethodName} {bytes : ByteArray} {maxL index n b ci N k' k mc ms : Nat} {ret : Option FieldType} {Cn : String} {T : u_T} {ty : Nat → FieldType} {As : List Value} {f : Option (UInt64 × zH)} {F : UInt64 → zH → Option α} (C : zOk B Z cc own (zR k mc ms) nL) (rest : List Value) (hM : ∀ u, f = some u → zM Z.1.2.1 B Z.2.2.1 Z.2.2.2.1 y bytes maxL ret k' 0 0 none (.ref (B + b) :: As) h ((fun u => (some (.double u.1), u.2) : UInt64 × zH → Option Value × zH) u).1 ((fun u => (some (.double u.1), u.2) : UInt64 × zH → Option Value × zH) u).2) (hn : zNm y n) (hk : Nat.ble (k' + 1) k = true) (hx : Nat.ble (8 + (maxL + 11) + 64 * k') (64 * k) = true) (hroom : z.1 ≤ mc ∧ z.2.1 ≤ ms)
    (hci : zCl ci Cn T N ty) (hy : Cn = y.cls) (w1 : Cond.methodLink own index y ∈ zWs) (w2 : Cond.instanceMethod y ∈ zWs) (w3 : Cond.selects y.cls y y ∈ zWs) (w4 : Cond.initialized y.cls ∈ zWs) (w5 : Cond.code y bytes maxL ret ∈ zWs) (hlen : As.length = n) (hst : st = As.reverse ++ .ref (B + b) :: rest) (hrm : Nat.ble (rest.map fun v => v.category).sum 8 = true) (d : decode cc pc = .ok (.invokevirtual index, 3)) (kk : ∀ (r : UInt64) (h1 : zH), zJ B Z Q (F r h1) (pc + 3) lv (.double r :: rest) h1 z) : zJ B Z Q (zrc h b ci (zb2 f F)) pc lv st h z :=
  z_rc (fun fs hrc => z_bind (fun u hu u2 hu2 => z_callV (rest := rest) (st0 := st) (v := some (.double u.1)) C (hM u hu) hn hk hx hroom (fun _ q => nomatch q) hrc hci hy w1 w2 w3 w4 w5 hlen hst hrm d (kk u.1 u.2 u2 hu2)))
theorem z_cvR {y : MethodName} {bytes : ByteArray} {maxL index n b ci N k' k mc ms : Nat} {ret : Option FieldType} {Cn : String} {T : u_T} {ty : Nat → FieldType} {As : List Value} {f : Option (Int32)} {F : Int32 → Option α} (C : zOk B Z cc own (zR k mc ms) nL) (rest : List Value) (hM : ∀ u, f = some u → zM Z.1.2.1 B Z.2.2.1 Z.2.2.2.1 y bytes maxL ret k' 0 0 none (.ref (B + b) :: As) h ((fun r => (some (.int r), h) : Int32 → Option Value × zH) u).1 ((fun r => (some (.int r), h) : Int32 → Option Value × zH) u).2) (hn : zNm y n) (hk : Nat.ble (k' + 1) k = true) (hx : Nat.ble (8 + (maxL + 11) + 64 * k') (64 * k) = true) (hroom : z.1 ≤ mc ∧ z.2.1 ≤ ms)
    (hci : zCl ci Cn T N ty) (hy : Cn = y.cls) (w1 : Cond.methodLink own index y ∈ zWs) (w2 : Cond.instanceMethod y ∈ zWs) (w3 : Cond.selects y.cls y y ∈ zWs) (w4 : Cond.initialized y.cls ∈ zWs) (w5 : Cond.code y bytes maxL ret ∈ zWs) (hlen : As.length = n) (hst : st = As.reverse ++ .ref (B + b) :: rest) (hrm : Nat.ble (rest.map fun v => v.category).sum 8 = true) (d : decode cc pc = .ok (.invokevirtual index, 3)) (kk : ∀ (r : Int32), zJ B Z Q (F r) (pc + 3) lv (.int r :: rest) h z) : zJ B Z Q (zrc h b ci (f.bind F)) pc lv st h z :=
  z_rc (fun fs hrc => z_bind (fun u hu u2 hu2 => z_callV (rest := rest) (st0 := st) (v := some (.int u)) C (hM u hu) hn hk hx hroom (fun _ q => nomatch q) hrc hci hy w1 w2 w3 w4 w5 hlen hst hrm d (kk u u2 hu2)))
theorem z_cvJ {y : MethodName} {bytes : ByteArray} {maxL index n b ci N k' k mc ms : Nat} {ret : Option FieldType} {Cn : String} {T : u_T} {ty : Nat → FieldType} {As : List Value} {f : Option (Int64)} {F : Int64 → Option α} (C : zOk B Z cc own (zR k mc ms) nL) (rest : List Value) (hM : ∀ u, f = some u → zM Z.1.2.1 B Z.2.2.1 Z.2.2.2.1 y bytes maxL ret k' 0 0 none (.ref (B + b) :: As) h ((fun r => (some (.long r), h) : Int64 → Option Value × zH) u).1 ((fun r => (some (.long r), h) : Int64 → Option Value × zH) u).2) (hn : zNm y n) (hk : Nat.ble (k' + 1) k = true) (hx : Nat.ble (8 + (maxL + 11) + 64 * k') (64 * k) = true) (hroom : z.1 ≤ mc ∧ z.2.1 ≤ ms)
    (hci : zCl ci Cn T N ty) (hy : Cn = y.cls) (w1 : Cond.methodLink own index y ∈ zWs) (w2 : Cond.instanceMethod y ∈ zWs) (w3 : Cond.selects y.cls y y ∈ zWs) (w4 : Cond.initialized y.cls ∈ zWs) (w5 : Cond.code y bytes maxL ret ∈ zWs) (hlen : As.length = n) (hst : st = As.reverse ++ .ref (B + b) :: rest) (hrm : Nat.ble (rest.map fun v => v.category).sum 8 = true) (d : decode cc pc = .ok (.invokevirtual index, 3)) (kk : ∀ (r : Int64), zJ B Z Q (F r) (pc + 3) lv (.long r :: rest) h z) : zJ B Z Q (zrc h b ci (f.bind F)) pc lv st h z :=
  z_rc (fun fs hrc => z_bind (fun u hu u2 hu2 => z_callV (rest := rest) (st0 := st) (v := some (.long u)) C (hM u hu) hn hk hx hroom (fun _ q => nomatch q) hrc hci hy w1 w2 w3 w4 w5 hlen hst hrm d (kk u u2 hu2)))
theorem z_cvD {y : MethodName} {bytes : ByteArray} {maxL index n b ci N k' k mc ms : Nat} {ret : Option FieldType} {Cn : String} {T : u_T} {ty : Nat → FieldType} {As : List Value} {f : Option (UInt64)} {F : UInt64 → Option α} (C : zOk B Z cc own (zR k mc ms) nL) (rest : List Value) (hM : ∀ u, f = some u → zM Z.1.2.1 B Z.2.2.1 Z.2.2.2.1 y bytes maxL ret k' 0 0 none (.ref (B + b) :: As) h ((fun r => (some (.double r), h) : UInt64 → Option Value × zH) u).1 ((fun r => (some (.double r), h) : UInt64 → Option Value × zH) u).2) (hn : zNm y n) (hk : Nat.ble (k' + 1) k = true) (hx : Nat.ble (8 + (maxL + 11) + 64 * k') (64 * k) = true) (hroom : z.1 ≤ mc ∧ z.2.1 ≤ ms)
    (hci : zCl ci Cn T N ty) (hy : Cn = y.cls) (w1 : Cond.methodLink own index y ∈ zWs) (w2 : Cond.instanceMethod y ∈ zWs) (w3 : Cond.selects y.cls y y ∈ zWs) (w4 : Cond.initialized y.cls ∈ zWs) (w5 : Cond.code y bytes maxL ret ∈ zWs) (hlen : As.length = n) (hst : st = As.reverse ++ .ref (B + b) :: rest) (hrm : Nat.ble (rest.map fun v => v.category).sum 8 = true) (d : decode cc pc = .ok (.invokevirtual index, 3)) (kk : ∀ (r : UInt64), zJ B Z Q (F r) (pc + 3) lv (.double r :: rest) h z) : zJ B Z Q (zrc h b ci (f.bind F)) pc lv st h z :=
  z_rc (fun fs hrc => z_bind (fun u hu u2 hu2 => z_callV (rest := rest) (st0 := st) (v := some (.double u)) C (hM u hu) hn hk hx hroom (fun _ q => nomatch q) hrc hci hy w1 w2 w3 w4 w5 hlen hst hrm d (kk u u2 hu2)))
theorem z_csV {y : MethodName} {bytes : ByteArray} {maxL index n k' k mc ms : Nat} {ret : Option FieldType} {As : List Value} {f : Option (zH)} {F : zH → Option α} (C : zOk B Z cc own (zR k mc ms) nL) (rest : List Value) (hM : ∀ u, f = some u → zM Z.1.2.1 B Z.2.2.1 Z.2.2.2.1 y bytes maxL ret k' 0 0 none (As) h ((fun h1 => (none, h1) : zH → Option Value × zH) u).1 ((fun h1 => (none, h1) : zH → Option Value × zH) u).2) (hn : zNm y n) (hk : Nat.ble (k' + 1) k = true) (hx : Nat.ble (8 + (maxL + 11) + 64 * k') (64 * k) = true) (hroom : z.1 ≤ mc ∧ z.2.1 ≤ ms)
    (w1 : Cond.methodLink own index y ∈ zWs) (w2 : Cond.static y ∈ zWs) (w4 : Cond.initialized y.cls ∈ zWs) (w5 : Cond.code y bytes maxL ret ∈ zWs) (hlen : As.length = n) (hst : st = As.reverse ++ rest) (hrm : Nat.ble (rest.map fun v => v.category).sum 8 = true) (d : decode cc pc = .ok (.invokestatic index, 3)) (kk : ∀ (h1 : zH), zJ B Z Q (F h1) (pc + 3) lv (rest) h1 z) : zJ B Z Q (f.bind F) pc lv st h z :=
  z_bind (fun u hu u2 hu2 => z_callS (rest := rest) (st0 := st) (v := none) C (hM u hu) hn hk hx hroom (fun _ q => nomatch q) w1 w2 w4 w5 hlen hst hrm d (kk u u2 hu2))
theorem z_csI {y : MethodName} {bytes : ByteArray} {maxL index n k' k mc ms : Nat} {ret : Option FieldType} {As : List Value} {f : Option (Int32 × zH)} {F : Int32 → zH → Option α} (C : zOk B Z cc own (zR k mc ms) nL) (rest : List Value) (hM : ∀ u, f = some u → zM Z.1.2.1 B Z.2.2.1 Z.2.2.2.1 y bytes maxL ret k' 0 0 none (As) h ((fun u => (some (.int u.1), u.2) : Int32 × zH → Option Value × zH) u).1 ((fun u => (some (.int u.1), u.2) : Int32 × zH → Option Value × zH) u).2) (hn : zNm y n) (hk : Nat.ble (k' + 1) k = true) (hx : Nat.ble (8 + (maxL + 11) + 64 * k') (64 * k) = true) (hroom : z.1 ≤ mc ∧ z.2.1 ≤ ms)
    (w1 : Cond.methodLink own index y ∈ zWs) (w2 : Cond.static y ∈ zWs) (w4 : Cond.initialized y.cls ∈ zWs) (w5 : Cond.code y bytes maxL ret ∈ zWs) (hlen : As.length = n) (hst : st = As.reverse ++ rest) (hrm : Nat.ble (rest.map fun v => v.category).sum 8 = true) (d : decode cc pc = .ok (.invokestatic index, 3)) (kk : ∀ (r : Int32) (h1 : zH), zJ B Z Q (F r h1) (pc + 3) lv (.int r :: rest) h1 z) : zJ B Z Q (zb2 f F) pc lv st h z :=
  z_bind (fun u hu u2 hu2 => z_callS (rest := rest) (st0 := st) (v := some (.int u.1)) C (hM u hu) hn hk hx hroom (fun _ q => nomatch q) w1 w2 w4 w5 hlen hst hrm d (kk u.1 u.2 u2 hu2))
theorem z_csL {y : MethodName} {bytes : ByteArray} {maxL index n k' k mc ms : Nat} {ret : Option FieldType} {As : List Value} {f : Option (Int64 × zH)} {F : Int64 → zH → Option α} (C : zOk B Z cc own (zR k mc ms) nL) (rest : List Value) (hM : ∀ u, f = some u → zM Z.1.2.1 B Z.2.2.1 Z.2.2.2.1 y bytes maxL ret k' 0 0 none (As) h ((fun u => (some (.long u.1), u.2) : Int64 × zH → Option Value × zH) u).1 ((fun u => (some (.long u.1), u.2) : Int64 × zH → Option Value × zH) u).2) (hn : zNm y n) (hk : Nat.ble (k' + 1) k = true) (hx : Nat.ble (8 + (maxL + 11) + 64 * k') (64 * k) = true) (hroom : z.1 ≤ mc ∧ z.2.1 ≤ ms)
    (w1 : Cond.methodLink own index y ∈ zWs) (w2 : Cond.static y ∈ zWs) (w4 : Cond.initialized y.cls ∈ zWs) (w5 : Cond.code y bytes maxL ret ∈ zWs) (hlen : As.length = n) (hst : st = As.reverse ++ rest) (hrm : Nat.ble (rest.map fun v => v.category).sum 8 = true) (d : decode cc pc = .ok (.invokestatic index, 3)) (kk : ∀ (r : Int64) (h1 : zH), zJ B Z Q (F r h1) (pc + 3) lv (.long r :: rest) h1 z) : zJ B Z Q (zb2 f F) pc lv st h z :=
  z_bind (fun u hu u2 hu2 => z_callS (rest := rest) (st0 := st) (v := some (.long u.1)) C (hM u hu) hn hk hx hroom (fun _ q => nomatch q) w1 w2 w4 w5 hlen hst hrm d (kk u.1 u.2 u2 hu2))
theorem z_csE {y : MethodName} {bytes : ByteArray} {maxL index n k' k mc ms : Nat} {ret : Option FieldType} {As : List Value} {f : Option (UInt64 × zH)} {F : UInt64 → zH → Option α} (C : zOk B Z cc own (zR k mc ms) nL) (rest : List Value) (hM : ∀ u, f = some u → zM Z.1.2.1 B Z.2.2.1 Z.2.2.2.1 y bytes maxL ret k' 0 0 none (As) h ((fun u => (some (.double u.1), u.2) : UInt64 × zH → Option Value × zH) u).1 ((fun u => (some (.double u.1), u.2) : UInt64 × zH → Option Value × zH) u).2) (hn : zNm y n) (hk : Nat.ble (k' + 1) k = true) (hx : Nat.ble (8 + (maxL + 11) + 64 * k') (64 * k) = true) (hroom : z.1 ≤ mc ∧ z.2.1 ≤ ms)
    (w1 : Cond.methodLink own index y ∈ zWs) (w2 : Cond.static y ∈ zWs) (w4 : Cond.initialized y.cls ∈ zWs) (w5 : Cond.code y bytes maxL ret ∈ zWs) (hlen : As.length = n) (hst : st = As.reverse ++ rest) (hrm : Nat.ble (rest.map fun v => v.category).sum 8 = true) (d : decode cc pc = .ok (.invokestatic index, 3)) (kk : ∀ (r : UInt64) (h1 : zH), zJ B Z Q (F r h1) (pc + 3) lv (.double r :: rest) h1 z) : zJ B Z Q (zb2 f F) pc lv st h z :=
  z_bind (fun u hu u2 hu2 => z_callS (rest := rest) (st0 := st) (v := some (.double u.1)) C (hM u hu) hn hk hx hroom (fun _ q => nomatch q) w1 w2 w4 w5 hlen hst hrm d (kk u.1 u.2 u2 hu2))
theorem z_csR {y : MethodName} {bytes : ByteArray} {maxL index n k' k mc ms : Nat} {ret : Option FieldType} {As : List Value} {f : Option (Int32)} {F : Int32 → Option α} (C : zOk B Z cc own (zR k mc ms) nL) (rest : List Value) (hM : ∀ u, f = some u → zM Z.1.2.1 B Z.2.2.1 Z.2.2.2.1 y bytes maxL ret k' 0 0 none (As) h ((fun r => (some (.int r), h) : Int32 → Option Value × zH) u).1 ((fun r => (some (.int r), h) : Int32 → Option Value × zH) u).2) (hn : zNm y n) (hk : Nat.ble (k' + 1) k = true) (hx : Nat.ble (8 + (maxL + 11) + 64 * k') (64 * k) = true) (hroom : z.1 ≤ mc ∧ z.2.1 ≤ ms)
    (w1 : Cond.methodLink own index y ∈ zWs) (w2 : Cond.static y ∈ zWs) (w4 : Cond.initialized y.cls ∈ zWs) (w5 : Cond.code y bytes maxL ret ∈ zWs) (hlen : As.length = n) (hst : st = As.reverse ++ rest) (hrm : Nat.ble (rest.map fun v => v.category).sum 8 = true) (d : decode cc pc = .ok (.invokestatic index, 3)) (kk : ∀ (r : Int32), zJ B Z Q (F r) (pc + 3) lv (.int r :: rest) h z) : zJ B Z Q (f.bind F) pc lv st h z :=
  z_bind (fun u hu u2 hu2 => z_callS (rest := rest) (st0 := st) (v := some (.int u)) C (hM u hu) hn hk hx hroom (fun _ q => nomatch q) w1 w2 w4 w5 hlen hst hrm d (kk u u2 hu2))
theorem z_csJ {y : MethodName} {bytes : ByteArray} {maxL index n k' k mc ms : Nat} {ret : Option FieldType} {As : List Value} {f : Option (Int64)} {F : Int64 → Option α} (C : zOk B Z cc own (zR k mc ms) nL) (rest : List Value) (hM : ∀ u, f = some u → zM Z.1.2.1 B Z.2.2.1 Z.2.2.2.1 y bytes maxL ret k' 0 0 none (As) h ((fun r => (some (.long r), h) : Int64 → Option Value × zH) u).1 ((fun r => (some (.long r), h) : Int64 → Option Value × zH) u).2) (hn : zNm y n) (hk : Nat.ble (k' + 1) k = true) (hx : Nat.ble (8 + (maxL + 11) + 64 * k') (64 * k) = true) (hroom : z.1 ≤ mc ∧ z.2.1 ≤ ms)
    (w1 : Cond.methodLink own index y ∈ zWs) (w2 : Cond.static y ∈ zWs) (w4 : Cond.initialized y.cls ∈ zWs) (w5 : Cond.code y bytes maxL ret ∈ zWs) (hlen : As.length = n) (hst : st = As.reverse ++ rest) (hrm : Nat.ble (rest.map fun v => v.category).sum 8 = true) (d : decode cc pc = .ok (.invokestatic index, 3)) (kk : ∀ (r : Int64), zJ B Z Q (F r) (pc + 3) lv (.long r :: rest) h z) : zJ B Z Q (f.bind F) pc lv st h z :=
  z_bind (fun u hu u2 hu2 => z_callS (rest := rest) (st0 := st) (v := some (.long u)) C (hM u hu) hn hk hx hroom (fun _ q => nomatch q) w1 w2 w4 w5 hlen hst hrm d (kk u u2 hu2))
theorem z_csD {y : MethodName} {bytes : ByteArray} {maxL index n k' k mc ms : Nat} {ret : Option FieldType} {As : List Value} {f : Option (UInt64)} {F : UInt64 → Option α} (C : zOk B Z cc own (zR k mc ms) nL) (rest : List Value) (hM : ∀ u, f = some u → zM Z.1.2.1 B Z.2.2.1 Z.2.2.2.1 y bytes maxL ret k' 0 0 none (As) h ((fun r => (some (.double r), h) : UInt64 → Option Value × zH) u).1 ((fun r => (some (.double r), h) : UInt64 → Option Value × zH) u).2) (hn : zNm y n) (hk : Nat.ble (k' + 1) k = true) (hx : Nat.ble (8 + (maxL + 11) + 64 * k') (64 * k) = true) (hroom : z.1 ≤ mc ∧ z.2.1 ≤ ms)
    (w1 : Cond.methodLink own index y ∈ zWs) (w2 : Cond.static y ∈ zWs) (w4 : Cond.initialized y.cls ∈ zWs) (w5 : Cond.code y bytes maxL ret ∈ zWs) (hlen : As.length = n) (hst : st = As.reverse ++ rest) (hrm : Nat.ble (rest.map fun v => v.category).sum 8 = true) (d : decode cc pc = .ok (.invokestatic index, 3)) (kk : ∀ (r : UInt64), zJ B Z Q (F r) (pc + 3) lv (.double r :: rest) h z) : zJ B Z Q (f.bind F) pc lv st h z :=
  z_bind (fun u hu u2 hu2 => z_callS (rest := rest) (st0 := st) (v := some (.double u)) C (hM u hu) hn hk hx hroom (fun _ q => nomatch q) w1 w2 w4 w5 hlen hst hrm d (kk u u2 hu2))
theorem z_cnV {y : MethodName} {bytes : ByteArray} {maxL index n k' k mc ms : Nat} {ret : Option FieldType} {host : String} {As : List Value} {f : Option (zH)} {F : zH → Option α} (C : zOk B Z cc own (zR k mc ms) nL) (rest : List Value) (hM : ∀ u, f = some u → zM Z.1.2.1 B Z.2.2.1 Z.2.2.2.1 y bytes maxL ret k' 0 0 none (As) h ((fun h1 => (none, h1) : zH → Option Value × zH) u).1 ((fun h1 => (none, h1) : zH → Option Value × zH) u).2) (hn : zNm y n) (hk : Nat.ble (k' + 1) k = true) (hx : Nat.ble (8 + (maxL + 11) + 64 * k') (64 * k) = true) (hroom : z.1 ≤ mc ∧ z.2.1 ≤ ms)
    (w1 : va_Nw (.methodLinkNest own index y host) Z.1.2.2.2.2) (w2 : Cond.static y ∈ zWs) (w4 : Cond.initialized y.cls ∈ zWs) (w5 : Cond.code y bytes maxL ret ∈ zWs) (hlen : As.length = n) (hst : st = As.reverse ++ rest) (hrm : Nat.ble (rest.map fun v => v.category).sum 8 = true) (d : decode cc pc = .ok (.invokestatic index, 3)) (kk : ∀ (h1 : zH), zJ B Z Q (F h1) (pc + 3) lv (rest) h1 z) : zJ B Z Q (f.bind F) pc lv st h z :=
  z_bind (fun u hu u2 hu2 => z_callN (rest := rest) (st0 := st) (v := none) C (hM u hu) hn hk hx hroom (fun _ q => nomatch q) w1 w2 w4 w5 hlen hst hrm d (kk u u2 hu2))
theorem z_cnI {y : MethodName} {bytes : ByteArray} {maxL index n k' k mc ms : Nat} {ret : Option FieldType} {host : String} {As : List Value} {f : Option (Int32 × zH)} {F : Int32 → zH → Option α} (C : zOk B Z cc own (zR k mc ms) nL) (rest : List Value) (hM : ∀ u, f = some u → zM Z.1.2.1 B Z.2.2.1 Z.2.2.2.1 y bytes maxL ret k' 0 0 none (As) h ((fun u => (some (.int u.1), u.2) : Int32 × zH → Option Value × zH) u).1 ((fun u => (some (.int u.1), u.2) : Int32 × zH → Option Value × zH) u).2) (hn : zNm y n) (hk : Nat.ble (k' + 1) k = true) (hx : Nat.ble (8 + (maxL + 11) + 64 * k') (64 * k) = true) (hroom : z.1 ≤ mc ∧ z.2.1 ≤ ms)
    (w1 : va_Nw (.methodLinkNest own index y host) Z.1.2.2.2.2) (w2 : Cond.static y ∈ zWs) (w4 : Cond.initialized y.cls ∈ zWs) (w5 : Cond.code y bytes maxL ret ∈ zWs) (hlen : As.length = n) (hst : st = As.reverse ++ rest) (hrm : Nat.ble (rest.map fun v => v.category).sum 8 = true) (d : decode cc pc = .ok (.invokestatic index, 3)) (kk : ∀ (r : Int32) (h1 : zH), zJ B Z Q (F r h1) (pc + 3) lv (.int r :: rest) h1 z) : zJ B Z Q (zb2 f F) pc lv st h z :=
  z_bind (fun u hu u2 hu2 => z_callN (rest := rest) (st0 := st) (v := some (.int u.1)) C (hM u hu) hn hk hx hroom (fun _ q => nomatch q) w1 w2 w4 w5 hlen hst hrm d (kk u.1 u.2 u2 hu2))
theorem z_cnL {y : MethodName} {bytes : ByteArray} {maxL index n k' k mc ms : Nat} {ret : Option FieldType} {host : String} {As : List Value} {f : Option (Int64 × zH)} {F : Int64 → zH → Option α} (C : zOk B Z cc own (zR k mc ms) nL) (rest : List Value) (hM : ∀ u, f = some u → zM Z.1.2.1 B Z.2.2.1 Z.2.2.2.1 y bytes maxL ret k' 0 0 none (As) h ((fun u => (some (.long u.1), u.2) : Int64 × zH → Option Value × zH) u).1 ((fun u => (some (.long u.1), u.2) : Int64 × zH → Option Value × zH) u).2) (hn : zNm y n) (hk : Nat.ble (k' + 1) k = true) (hx : Nat.ble (8 + (maxL + 11) + 64 * k') (64 * k) = true) (hroom : z.1 ≤ mc ∧ z.2.1 ≤ ms)
    (w1 : va_Nw (.methodLinkNest own index y host) Z.1.2.2.2.2) (w2 : Cond.static y ∈ zWs) (w4 : Cond.initialized y.cls ∈ zWs) (w5 : Cond.code y bytes maxL ret ∈ zWs) (hlen : As.length = n) (hst : st = As.reverse ++ rest) (hrm : Nat.ble (rest.map fun v => v.category).sum 8 = true) (d : decode cc pc = .ok (.invokestatic index, 3)) (kk : ∀ (r : Int64) (h1 : zH), zJ B Z Q (F r h1) (pc + 3) lv (.long r :: rest) h1 z) : zJ B Z Q (zb2 f F) pc lv st h z :=
  z_bind (fun u hu u2 hu2 => z_callN (rest := rest) (st0 := st) (v := some (.long u.1)) C (hM u hu) hn hk hx hroom (fun _ q => nomatch q) w1 w2 w4 w5 hlen hst hrm d (kk u.1 u.2 u2 hu2))
theorem z_cnE {y : MethodName} {bytes : ByteArray} {maxL index n k' k mc ms : Nat} {ret : Option FieldType} {host : String} {As : List Value} {f : Option (UInt64 × zH)} {F : UInt64 → zH → Option α} (C : zOk B Z cc own (zR k mc ms) nL) (rest : List Value) (hM : ∀ u, f = some u → zM Z.1.2.1 B Z.2.2.1 Z.2.2.2.1 y bytes maxL ret k' 0 0 none (As) h ((fun u => (some (.double u.1), u.2) : UInt64 × zH → Option Value × zH) u).1 ((fun u => (some (.double u.1), u.2) : UInt64 × zH → Option Value × zH) u).2) (hn : zNm y n) (hk : Nat.ble (k' + 1) k = true) (hx : Nat.ble (8 + (maxL + 11) + 64 * k') (64 * k) = true) (hroom : z.1 ≤ mc ∧ z.2.1 ≤ ms)
    (w1 : va_Nw (.methodLinkNest own index y host) Z.1.2.2.2.2) (w2 : Cond.static y ∈ zWs) (w4 : Cond.initialized y.cls ∈ zWs) (w5 : Cond.code y bytes maxL ret ∈ zWs) (hlen : As.length = n) (hst : st = As.reverse ++ rest) (hrm : Nat.ble (rest.map fun v => v.category).sum 8 = true) (d : decode cc pc = .ok (.invokestatic index, 3)) (kk : ∀ (r : UInt64) (h1 : zH), zJ B Z Q (F r h1) (pc + 3) lv (.double r :: rest) h1 z) : zJ B Z Q (zb2 f F) pc lv st h z :=
  z_bind (fun u hu u2 hu2 => z_callN (rest := rest) (st0 := st) (v := some (.double u.1)) C (hM u hu) hn hk hx hroom (fun _ q => nomatch q) w1 w2 w4 w5 hlen hst hrm d (kk u.1 u.2 u2 hu2))
theorem z_cnR {y : MethodName} {bytes : ByteArray} {maxL index n k' k mc ms : Nat} {ret : Option FieldType} {host : String} {As : List Value} {f : Option (Int32)} {F : Int32 → Option α} (C : zOk B Z cc own (zR k mc ms) nL) (rest : List Value) (hM : ∀ u, f = some u → zM Z.1.2.1 B Z.2.2.1 Z.2.2.2.1 y bytes maxL ret k' 0 0 none (As) h ((fun r => (some (.int r), h) : Int32 → Option Value × zH) u).1 ((fun r => (some (.int r), h) : Int32 → Option Value × zH) u).2) (hn : zNm y n) (hk : Nat.ble (k' + 1) k = true) (hx : Nat.ble (8 + (maxL + 11) + 64 * k') (64 * k) = true) (hroom : z.1 ≤ mc ∧ z.2.1 ≤ ms)
    (w1 : va_Nw (.methodLinkNest own index y host) Z.1.2.2.2.2) (w2 : Cond.static y ∈ zWs) (w4 : Cond.initialized y.cls ∈ zWs) (w5 : Cond.code y bytes maxL ret ∈ zWs) (hlen : As.length = n) (hst : st = As.reverse ++ rest) (hrm : Nat.ble (rest.map fun v => v.category).sum 8 = true) (d : decode cc pc = .ok (.invokestatic index, 3)) (kk : ∀ (r : Int32), zJ B Z Q (F r) (pc + 3) lv (.int r :: rest) h z) : zJ B Z Q (f.bind F) pc lv st h z :=
  z_bind (fun u hu u2 hu2 => z_callN (rest := rest) (st0 := st) (v := some (.int u)) C (hM u hu) hn hk hx hroom (fun _ q => nomatch q) w1 w2 w4 w5 hlen hst hrm d (kk u u2 hu2))
theorem z_cnJ {y : MethodName} {bytes : ByteArray} {maxL index n k' k mc ms : Nat} {ret : Option FieldType} {host : String} {As : List Value} {f : Option (Int64)} {F : Int64 → Option α} (C : zOk B Z cc own (zR k mc ms) nL) (rest : List Value) (hM : ∀ u, f = some u → zM Z.1.2.1 B Z.2.2.1 Z.2.2.2.1 y bytes maxL ret k' 0 0 none (As) h ((fun r => (some (.long r), h) : Int64 → Option Value × zH) u).1 ((fun r => (some (.long r), h) : Int64 → Option Value × zH) u).2) (hn : zNm y n) (hk : Nat.ble (k' + 1) k = true) (hx : Nat.ble (8 + (maxL + 11) + 64 * k') (64 * k) = true) (hroom : z.1 ≤ mc ∧ z.2.1 ≤ ms)
    (w1 : va_Nw (.methodLinkNest own index y host) Z.1.2.2.2.2) (w2 : Cond.static y ∈ zWs) (w4 : Cond.initialized y.cls ∈ zWs) (w5 : Cond.code y bytes maxL ret ∈ zWs) (hlen : As.length = n) (hst : st = As.reverse ++ rest) (hrm : Nat.ble (rest.map fun v => v.category).sum 8 = true) (d : decode cc pc = .ok (.invokestatic index, 3)) (kk : ∀ (r : Int64), zJ B Z Q (F r) (pc + 3) lv (.long r :: rest) h z) : zJ B Z Q (f.bind F) pc lv st h z :=
  z_bind (fun u hu u2 hu2 => z_callN (rest := rest) (st0 := st) (v := some (.long u)) C (hM u hu) hn hk hx hroom (fun _ q => nomatch q) w1 w2 w4 w5 hlen hst hrm d (kk u u2 hu2))
theorem z_cnD {y : MethodName} {bytes : ByteArray} {maxL index n k' k mc ms : Nat} {ret : Option FieldType} {host : String} {As : List Value} {f : Option (UInt64)} {F : UInt64 → Option α} (C : zOk B Z cc own (zR k mc ms) nL) (rest : List Value) (hM : ∀ u, f = some u → zM Z.1.2.1 B Z.2.2.1 Z.2.2.2.1 y bytes maxL ret k' 0 0 none (As) h ((fun r => (some (.double r), h) : UInt64 → Option Value × zH) u).1 ((fun r => (some (.double r), h) : UInt64 → Option Value × zH) u).2) (hn : zNm y n) (hk : Nat.ble (k' + 1) k = true) (hx : Nat.ble (8 + (maxL + 11) + 64 * k') (64 * k) = true) (hroom : z.1 ≤ mc ∧ z.2.1 ≤ ms)
    (w1 : va_Nw (.methodLinkNest own index y host) Z.1.2.2.2.2) (w2 : Cond.static y ∈ zWs) (w4 : Cond.initialized y.cls ∈ zWs) (w5 : Cond.code y bytes maxL ret ∈ zWs) (hlen : As.length = n) (hst : st = As.reverse ++ rest) (hrm : Nat.ble (rest.map fun v => v.category).sum 8 = true) (d : decode cc pc = .ok (.invokestatic index, 3)) (kk : ∀ (r : UInt64), zJ B Z Q (F r) (pc + 3) lv (.double r :: rest) h z) : zJ B Z Q (f.bind F) pc lv st h z :=
  z_bind (fun u hu u2 hu2 => z_callN (rest := rest) (st0 := st) (v := some (.double u)) C (hM u hu) hn hk hx hroom (fun _ q => nomatch q) w1 w2 w4 w5 hlen hst hrm d (kk u u2 hu2))
end ZC
