/-! ROUTES: rows of towns, the last one first; what they bring; the best one -/
def lev (g : Row) (a b : Nat) : Nat := (g (62 + 8 * a + b)).toNatClampNeg
def wo (g : Row) (t : Nat) : Nat := (g (126 + t)).toNatClampNeg
theorem nn_big {k : Nat} (h : k < 2147483648) : (Int32.ofNat k).toNatClampNeg = k := by
  rw [Int32.toNatClampNeg, Int32.toInt_ofNat_of_lt h]
  rfl
theorem lev_eq {g : Row} (hL : LandW g) {a b : Nat} (ha : a < 8) (hb : b < 8) : g (62 + 8 * a + b) = Int32.ofNat (lev g a b) ∧ lev g a b ≤ 2 := by
  obtain ⟨l, h1, h2⟩ := hL.2.1 a b ha hb
  unfold lev
  rw [h2, nn_big (by omega)]
  exact ⟨rfl, h1⟩
theorem wo_eq {g : Row} (hL : LandW g) {t : Nat} (ht : t < 8) : g (126 + t) = Int32.ofNat (wo g t) ∧ wo g t ≤ 90 := by
  obtain ⟨l, h1, h2⟩ := hL.2.2.2 t ht
  unfold wo
  rw [h2, nn_big (by omega)]
  exact ⟨rfl, h1⟩
theorem lev_sym {g : Row} (hL : LandW g) {a b : Nat} (ha : a < 8) (hb : b < 8) : lev g a b = lev g b a := by
  unfold lev
  rw [hL.1 a b ha hb]
theorem lev_dia {g : Row} (hL : LandW g) {a : Nat} (ha : a < 8) : lev g a a = 0 := by
  unfold lev
  rw [hL.2.2.1 a ha]
  rfl
theorem lev_pos {g : Row} (hL : LandW g) {a b : Nat} (ha : a < 8) (hb : b < 8) : (g (62 + 8 * a + b) ≤ 0) = (lev g a b = 0) := by
  rw [(lev_eq hL ha hb).1, show (0 : Int32) = Int32.ofNat 0 from rfl, i32_le_b (by have := (lev_eq hL ha hb).2; omega) (by omega)]
  exact propext ⟨fun h => by omega, fun h => by omega⟩
/-- the bonus of a track between the towns u and t -/
def bo (g : Row) (u t : Nat) : Nat := if lev g u t = 2 then 5 else 0
theorem bo_le {g : Row} {u t : Nat} : bo g u t ≤ 5 := by
  unfold bo
  split <;> omega
theorem bo_sym {g : Row} (hL : LandW g) {u t : Nat} (hu : u < 8) (ht : t < 8) : bo g u t = bo g t u := by
  unfold bo
  rw [lev_sym hL hu ht]
def rGood (g : Row) : List Nat → Prop
  | [] => True
  | t :: P => t < 8 ∧ t ∉ P ∧ (∀ u, P.head? = some u → 0 < lev g u t) ∧ rGood g P
def hdB (g : Row) (P : List Nat) (t : Nat) : Nat := match P.head? with
  | none => 0
  | some u => bo g u t
def rInc (g : Row) : List Nat → Nat
  | [] => 0
  | t :: P => rInc g P + hdB g P t + wo g t
theorem hdB_le {g : Row} {P : List Nat} {t : Nat} : hdB g P t ≤ 5 := by
  unfold hdB
  split
  · omega
  · exact bo_le
theorem rGood_lt {g : Row} : ∀ {P : List Nat}, rGood g P → ∀ t, t ∈ P → t < 8
  | [], _, _, h => nomatch h
  | u :: P, hg, t, h => (List.mem_cons.mp h).elim (fun e => by rw [e]; exact hg.1) (fun e => rGood_lt hg.2.2.2 t e)
theorem rInc_le {g : Row} (hL : LandW g) : ∀ {P : List Nat}, rGood g P → rInc g P ≤ 95 * P.length
  | [], _ => Nat.le_refl _
  | t :: P, hg => by
    have h1 := rInc_le hL hg.2.2.2
    have h2 := (wo_eq hL hg.1).2
    have h3 := hdB_le (g := g) (P := P) (t := t)
    show rInc g P + hdB g P t + wo g t ≤ 95 * (P.length + 1)
    omega
theorem rGood_suf {g : Row} : ∀ {Q P : List Nat}, rGood g (Q ++ P) → rGood g P
  | [], _, h => h
  | _ :: Q, _, h => rGood_suf (Q := Q) h.2.2.2
theorem kids_iff {g : Row} {t : Nat} {f : Nat → Int32 → List (List Nat × Int32)} {P : List Nat} {inc : Int32} {k : Nat} {v : List Nat × Int32} : v ∈ kidsOf g t f P inc k ↔ ¬ g (62 + 8 * t + k) ≤ 0 ∧ k ∉ P ∧ v ∈ f k (inc + (if g (62 + 8 * t + k) = 2 then 5 else 0)) := by
  refine ⟨mem_kids, fun h => ?_⟩
  unfold kidsOf
  rw [if_neg h.1, if_neg h.2.1]
  exact h.2.2
theorem bo_i32 {g : Row} (hL : LandW g) {t k : Nat} (ht : t < 8) (hk : k < 8) : (if g (62 + 8 * t + k) = 2 then (5 : Int32) else 0) = Int32.ofNat (bo g t k) := by
  have h1 := lev_eq hL ht hk
  unfold bo
  by_cases q : lev g t k = 2
  · rw [if_pos (by rw [h1.1, q]; rfl), if_pos q]
    rfl
  · rw [if_neg (show ¬ g (62 + 8 * t + k) = 2 from fun w => q (ofNat_inj (by omega) (show 2 < 2147483648 by omega) (h1.1.symm.trans w))), if_neg q]
    rfl
theorem nodes_iff {g : Row} (hL : LandW g) : ∀ (left t : Nat) (P : List Nat), rGood g (t :: P) → ∀ v : List Nat × Int32, v ∈ nodes g left t P (Int32.ofNat (rInc g P + hdB g P t)) ↔ ∃ Q, v.1 = Q ++ t :: P ∧ Q.length ≤ left ∧ rGood g v.1 ∧ v.2 = Int32.ofNat (rInc g v.1) := by
  intro left
  induction left with
  | zero =>
    intro t P hg v
    unfold nodes
    rw [List.mem_singleton, (wo_eq hL hg.1).1, i32_addn]
    constructor
    · intro h
      subst h
      exact ⟨[], rfl, Nat.le_refl _, hg, rfl⟩
    · rintro ⟨Q, h1, h2, h3, h4⟩
      have hQ : Q = [] := List.length_eq_zero_iff.mp (by omega)
      subst hQ
      rw [List.nil_append] at h1
      rw [h1] at h4
      exact Prod.ext h1 h4
  | succ left ih =>
    intro t P hg v
    unfold nodes
    rw [List.mem_cons, List.mem_flatMap, (wo_eq hL hg.1).1, i32_addn]
    have e0 : rInc g P + hdB g P t + wo g t = rInc g (t :: P) := rfl
    rw [e0]
    constructor
    · rintro (h | ⟨k, hk, h⟩)
      · subst h
        exact ⟨[], rfl, Nat.zero_le _, hg, rfl⟩
      · have hk8 : k < 8 := List.mem_range.mp hk
        obtain ⟨h1, h2, h3⟩ := kids_iff.mp h
        rw [bo_i32 hL hg.1 hk8, i32_addn] at h3
        rw [lev_pos hL hg.1 hk8] at h1
        have hg2 : rGood g (k :: t :: P) := ⟨hk8, h2, fun u hu => by cases hu; omega, hg⟩
        obtain ⟨Q, q1, q2, q3, q4⟩ := (ih k (t :: P) hg2 v).mp h3
        exact ⟨Q ++ [k], by rw [q1]; simp, by simp; omega, q3, q4⟩
    · rintro ⟨Q, h1, h2, h3, h4⟩
      rcases List.eq_nil_or_concat Q with hQ | ⟨Q', k, hQ⟩
      · left
        subst hQ
        rw [List.nil_append] at h1
        rw [h1] at h4
        exact Prod.ext h1 h4
      · right
        subst hQ
        have h5 : v.1 = Q' ++ k :: t :: P := by rw [h1]; simp
        have hg2 : rGood g (k :: t :: P) := rGood_suf (Q := Q') (by rw [← h5]; exact h3)
        refine ⟨k, List.mem_range.mpr hg2.1, kids_iff.mpr ⟨?_, hg2.2.1, ?_⟩⟩
        · rw [lev_pos hL hg.1 hg2.1]
          have := hg2.2.2.1 t rfl
          omega
        · rw [bo_i32 hL hg.1 hg2.1, i32_addn]
          exact (ih k (t :: P) hg2 v).mpr ⟨Q', h5, by simp at h2; omega, h3, h4⟩
theorem nodes0_iff {g : Row} (hL : LandW g) {left t : Nat} (ht : t < 8) (v : List Nat × Int32) : v ∈ nodes g left t [] 0 ↔ ∃ Q, v.1 = Q ++ [t] ∧ Q.length ≤ left ∧ rGood g v.1 ∧ v.2 = Int32.ofNat (rInc g v.1) :=
  nodes_iff hL left t [] ⟨ht, List.not_mem_nil, (fun _ h => nomatch h), trivial⟩ v
/-! the fold that keeps the first of the greatest -/
theorem fold_keep {home : Nat} : ∀ (l : List (List Nat × Int32)) (s : List Nat × Int32), (l.foldl (keepS home) s = s ∨ (l.foldl (keepS home) s ∈ l ∧ home ∈ (l.foldl (keepS home) s).1 ∧ 1 < (l.foldl (keepS home) s).1.length ∧ s.2 < (l.foldl (keepS home) s).2)) ∧ s.2 ≤ (l.foldl (keepS home) s).2 ∧ ∀ v ∈ l, home ∈ v.1 → 1 < v.1.length → v.2 ≤ (l.foldl (keepS home) s).2 := by
  intro l
  induction l with
  | nil => exact fun s => ⟨Or.inl rfl, Int32.le_refl _, fun v h => nomatch h⟩
  | cons x l ih =>
    intro s
    rw [List.foldl_cons]
    obtain ⟨h1, h2, h3⟩ := ih (keepS home s x)
    generalize l.foldl (keepS home) (keepS home s x) = r at h1 h2 h3
    unfold keepS at h1 h2
    by_cases hc : home ∈ x.1 ∧ 1 < x.1.length ∧ s.2 < x.2
    · rw [if_pos hc] at h1 h2
      have hsx := hc.2.2
      have hsr : s.2 < r.2 := by rw [Int32.lt_iff_toInt_lt] at hsx ⊢; rw [Int32.le_iff_toInt_le] at h2; omega
      refine ⟨Or.inr ⟨?_, ?_, ?_, hsr⟩, Int32.le_of_lt hsr, fun v hv a b => ?_⟩
      · rcases h1 with h | h
        · rw [h]; exact List.mem_cons_self
        · exact List.mem_cons_of_mem _ h.1
      · rcases h1 with h | h
        · rw [h]; exact hc.1
        · exact h.2.1
      · rcases h1 with h | h
        · rw [h]; exact hc.2.1
        · exact h.2.2.1
      · rcases List.mem_cons.mp hv with e | e
        · rw [e]; exact h2
        · exact h3 v e a b
    · rw [if_neg hc] at h1 h2
      refine ⟨?_, h2, fun v hv a b => ?_⟩
      · rcases h1 with h | h
        · exact Or.inl h
        · exact Or.inr ⟨List.mem_cons_of_mem _ h.1, h.2⟩
      · rcases List.mem_cons.mp hv with e | e
        · have h4 : x.2 ≤ s.2 := by
            rw [← e] at hc ⊢
            have h5 : ¬ s.2 < v.2 := fun q => hc ⟨a, b, q⟩
            rw [Int32.lt_iff_toInt_lt] at h5
            rw [Int32.le_iff_toInt_le]
            omega
          rw [e]
          exact Int32.le_trans h4 h2
        · exact h3 v e a b
def Cand (g : Row) (home S : Nat) (P : List Nat) : Prop := rGood g P ∧ P.length ≤ S ∧ 1 < P.length ∧ home ∈ P
/-! turning a row round -/
theorem hdB_cons {g : Row} {u t : Nat} {P : List Nat} : hdB g (u :: P) t = bo g u t := rfl
theorem rInc_snoc {g : Row} {t : Nat} : ∀ (P : List Nat) (u : Nat), rInc g (P ++ [u, t]) = rInc g (P ++ [u]) + bo g t u + wo g t
  | [], u => by
    show 0 + 0 + wo g t + bo g t u + wo g u = 0 + 0 + wo g u + bo g t u + wo g t
    omega
  | x :: P, u => by
    have ih := rInc_snoc (g := g) (t := t) P u
    have h1 : hdB g (P ++ [u, t]) x = hdB g (P ++ [u]) x := by
      cases P <;> rfl
    show rInc g (P ++ [u, t]) + hdB g (P ++ [u, t]) x + wo g x = rInc g (P ++ [u]) + hdB g (P ++ [u]) x + wo g x + bo g t u + wo g t
    rw [ih, h1]
    omega
theorem rInc_rev {g : Row} (hL : LandW g) : ∀ {P : List Nat}, rGood g P → rInc g P.reverse = rInc g P
  | [], _ => rfl
  | [t], _ => rfl
  | t :: u :: P, hg => by
    have ih := rInc_rev hL hg.2.2.2
    rw [List.reverse_cons] at ih
    rw [List.reverse_cons, List.reverse_cons, List.append_assoc, show [u] ++ [t] = [u, t] from rfl, rInc_snoc, ih, bo_sym hL hg.1 hg.2.2.2.1]
    rfl
theorem rGood_snoc {g : Row} {t : Nat} (ht : t < 8) : ∀ (P : List Nat) (u : Nat), rGood g (P ++ [u]) → t ∉ P ++ [u] → 0 < lev g t u → rGood g (P ++ [u, t])
  | [], u, hg, hn, hl => ⟨hg.1, fun h => by rcases List.mem_cons.mp h with e | e; exact hn (by rw [e]; exact List.mem_cons_self); exact (nomatch e), (fun w hw => by cases hw; exact hl), ht, List.not_mem_nil, (fun _ h => nomatch h), trivial⟩
  | x :: P, u, hg, hn, hl => by
    have hxt : x ≠ t := fun e => hn (by rw [e]; exact List.mem_cons_self)
    refine ⟨hg.1, fun h => ?_, fun w hw => ?_, rGood_snoc ht P u hg.2.2.2 (fun h => hn (List.mem_cons_of_mem _ h)) hl⟩
    · rcases List.mem_append.mp h with e | e
      · exact hg.2.1 (List.mem_append.mpr (Or.inl e))
      · rcases List.mem_cons.mp e with e | e
        · exact hg.2.1 (List.mem_append.mpr (Or.inr (by rw [e]; exact List.mem_cons_self)))
        · rcases List.mem_cons.mp e with e | e
          · exact hxt e
          · exact nomatch e
    · refine hg.2.2.1 w ?_
      cases P with
      | nil => exact hw
      | cons y P => exact hw
theorem rGood_rev {g : Row} (hL : LandW g) : ∀ {P : List Nat}, rGood g P → rGood g P.reverse
  | [], _ => trivial
  | [t], h => h
  | t :: u :: P, hg => by
    have ih := rGood_rev hL hg.2.2.2
    rw [List.reverse_cons] at ih
    rw [List.reverse_cons, List.reverse_cons, List.append_assoc, show [u] ++ [t] = [u, t] from rfl]
    refine rGood_snoc hg.1 _ _ ih (fun h => hg.2.1 ?_) ?_
    · rw [← List.reverse_cons] at h
      exact List.mem_reverse.mp h
    · rw [lev_sym hL hg.1 hg.2.2.2.1]
      exact hg.2.2.1 u rfl
theorem Cand_rev {g : Row} (hL : LandW g) {home S : Nat} {P : List Nat} (h : Cand g home S P) : Cand g home S P.reverse := ⟨rGood_rev hL h.1, by rw [List.length_reverse]; exact h.2.1, by rw [List.length_reverse]; exact h.2.2.1, List.mem_reverse.mpr h.2.2.2⟩
theorem neg_lt_nat {k : Nat} (h : k < 2147483648) : (-1 : Int32) < Int32.ofNat k := by
  rw [Int32.lt_iff_toInt_lt, Int32.toInt_ofNat_of_lt h]
  have : (-1 : Int32).toInt = -1 := by decide
  omega
/-- the best row: none, or one that brings most, and whose ends stand in order -/
theorem best_spec {g : Row} (hL : LandW g) {home S : Nat} (h1 : 1 ≤ S) (h5 : S ≤ 5) : (bestOf g home (S - 1) = ([], -1) ∧ ∀ P, ¬ Cand g home S P) ∨ (Cand g home S (bestOf g home (S - 1)).1 ∧ (bestOf g home (S - 1)).2 = Int32.ofNat (rInc g (bestOf g home (S - 1)).1) ∧ (∀ P, Cand g home S P → rInc g P ≤ rInc g (bestOf g home (S - 1)).1) ∧ ∀ Q a b, (bestOf g home (S - 1)).1 = a :: Q → (bestOf g home (S - 1)).1.getLast? = some b → b ≤ a) := by
  have hmem : ∀ v : List Nat × Int32, v ∈ (List.range 8).flatMap (fun t => nodes g (S - 1) t [] 0) ↔ v.1 ≠ [] ∧ v.1.length ≤ S ∧ rGood g v.1 ∧ v.2 = Int32.ofNat (rInc g v.1) := by
    intro v
    rw [List.mem_flatMap]
    constructor
    · rintro ⟨t, ht, h⟩
      obtain ⟨Q, q1, q2, q3, q4⟩ := (nodes0_iff hL (List.mem_range.mp ht) v).mp h
      exact ⟨by rw [q1]; simp, by rw [q1]; simp; omega, q3, q4⟩
    · rintro ⟨n1, n2, n3, n4⟩
      rcases List.eq_nil_or_concat v.1 with e | ⟨Q, t, e⟩
      · exact absurd e n1
      · have ht : t < 8 := rGood_lt n3 t (by rw [e]; simp)
        exact ⟨t, List.mem_range.mpr ht, (nodes0_iff hL ht v).mpr ⟨Q, by rw [e]; simp, by rw [e] at n2; simp at n2; omega, n3, n4⟩⟩
  have hcand : ∀ P, Cand g home S P → (P, Int32.ofNat (rInc g P)) ∈ (List.range 8).flatMap (fun t => nodes g (S - 1) t [] 0) := fun P hP => (hmem _).mpr ⟨fun e => by have := hP.2.2.1; rw [show P = [] from e] at this; exact absurd this (by simp), hP.2.1, hP.1, rfl⟩
  obtain ⟨k1, k2, k3⟩ := fold_keep (home := home) ((List.range 8).flatMap (fun t => nodes g (S - 1) t [] 0)) ([], -1)
  have hlt : ∀ P, Cand g home S P → rInc g P < 2147483648 := fun P hP => by
    have := rInc_le hL hP.1
    have := hP.2.1
    omega
  rcases k1 with e | ⟨m1, m2, m3, m4⟩
  · left
    refine ⟨e, fun P hP => ?_⟩
    have h := k3 _ (hcand P hP) hP.2.2.2 hP.2.2.1
    rw [e] at h
    have h9 := neg_lt_nat (hlt P hP)
    rw [Int32.lt_iff_toInt_lt] at h9
    rw [Int32.le_iff_toInt_le] at h
    exact absurd h (by show ¬ (Int32.ofNat (rInc g P)).toInt ≤ (-1 : Int32).toInt; omega)
  · right
    obtain ⟨n1, n2, n3, n4⟩ := (hmem _).mp m1
    have hC : Cand g home S (bestOf g home (S - 1)).1 := ⟨n3, n2, m3, m2⟩
    have hmax : ∀ P, Cand g home S P → rInc g P ≤ rInc g (bestOf g home (S - 1)).1 := fun P hP => by
      have h : (Int32.ofNat (rInc g P)) ≤ (bestOf g home (S - 1)).2 := k3 _ (hcand P hP) hP.2.2.2 hP.2.2.1
      rw [show (bestOf g home (S - 1)).2 = Int32.ofNat (rInc g (bestOf g home (S - 1)).1) from n4, i32_le_b (hlt P hP) (hlt _ hC)] at h
      exact h
    refine ⟨hC, n4, hmax, fun Q a b ha hb => ?_⟩
    rcases Nat.lt_or_ge a b with hab | hab
    · exfalso
      have ha8 : a < 8 := rGood_lt n3 a (by show a ∈ (bestOf g home (S - 1)).1; rw [ha]; exact List.mem_cons_self)
      -- the list up to block a
      have hsplit : List.range 8 = List.range (a + 1) ++ (List.range (7 - a)).map (fun i => a + 1 + i) := by
        have := List.range_add (n := a + 1) (m := 7 - a)
        rw [show a + 1 + (7 - a) = 8 by omega] at this
        rw [this]
      have hfold : bestOf g home (S - 1) = (((List.range (7 - a)).map (fun i => a + 1 + i)).flatMap (fun t => nodes g (S - 1) t [] 0)).foldl (keepS home) (((List.range (a + 1)).flatMap (fun t => nodes g (S - 1) t [] 0)).foldl (keepS home) ([], -1)) := by
        unfold bestOf
        rw [hsplit, List.flatMap_append, List.foldl_append]
      obtain ⟨f1, f2, f3⟩ := fold_keep (home := home) ((List.range (a + 1)).flatMap (fun t => nodes g (S - 1) t [] 0)) ([], -1)
      obtain ⟨s1, s2, s3⟩ := fold_keep (home := home) (((List.range (7 - a)).map (fun i => a + 1 + i)).flatMap (fun t => nodes g (S - 1) t [] 0)) (((List.range (a + 1)).flatMap (fun t => nodes g (S - 1) t [] 0)).foldl (keepS home) ([], -1))
      rw [← hfold] at s1 s2
      generalize ((List.range (a + 1)).flatMap (fun t => nodes g (S - 1) t [] 0)).foldl (keepS home) ([], -1) = r1 at f1 f2 f3 s1 s2
      have hR := Cand_rev hL hC
      have hrmem : ((bestOf g home (S - 1)).1.reverse, Int32.ofNat (rInc g (bestOf g home (S - 1)).1.reverse)) ∈ (List.range (a + 1)).flatMap (fun t => nodes g (S - 1) t [] 0) := by
        rw [List.mem_flatMap]
        refine ⟨a, List.mem_range.mpr (by omega), (nodes0_iff hL ha8 _).mpr ⟨Q.reverse, ?_, ?_, hR.1, rfl⟩⟩
        · show (bestOf g home (S - 1)).1.reverse = _
          rw [ha, List.reverse_cons]
        · have := hC.2.1
          rw [ha] at this
          rw [List.length_reverse]
          simp at this
          omega
      have h7 := f3 _ hrmem hR.2.2.2 hR.2.2.1
      rw [show ((bestOf g home (S - 1)).1.reverse, Int32.ofNat (rInc g (bestOf g home (S - 1)).1.reverse)).2 = Int32.ofNat (rInc g (bestOf g home (S - 1)).1.reverse) from rfl, rInc_rev hL hC.1, ← show (bestOf g home (S - 1)).2 = Int32.ofNat (rInc g (bestOf g home (S - 1)).1) from n4] at h7
      rcases s1 with e | ⟨_, _, _, e⟩
      · -- it is kept from the first blocks: then its first town is at most a
        rcases f1 with e2 | ⟨e2, _⟩
        · have e3 : (bestOf g home (S - 1)).2 = -1 := by rw [e, e2]
          have m5 : (-1 : Int32) < (bestOf g home (S - 1)).2 := m4
          rw [e3] at m5
          exact absurd m5 (by decide)
        · rw [← e, List.mem_flatMap] at e2
          obtain ⟨t, ht, e2⟩ := e2
          have ht8 : t < a + 1 := List.mem_range.mp ht
          obtain ⟨Q2, w1, _⟩ := (nodes0_iff hL (by omega) _).mp e2
          rw [w1] at hb
          simp at hb
          omega
      · rw [Int32.lt_iff_toInt_lt] at e
        rw [Int32.le_iff_toInt_le] at h7

        omega
    · exact hab
