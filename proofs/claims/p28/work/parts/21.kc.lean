abbrev edge (g : Row) (a b : Nat) : Prop := ¬ g (62 + 8 * a + b) ≤ 0
def lvl (g : Row) (home : Nat) : Nat → Nat → Nat
  | 0, b => if b = home then 0 else 8
  | r + 1, b => (if lvl g home r b = 8 ∧ ∃ a, a < 8 ∧ lvl g home r a = r ∧ edge g a b then (r + 1) else (lvl g home r b))
theorem lvl_0 {g : Row} {home b : Nat} : lvl g home 0 b = if b = home then 0 else 8 := by unfold lvl; rfl
theorem lvl_s {g : Row} {home r b : Nat} : lvl g home (r + 1) b = if lvl g home r b = 8 ∧ ∃ a, a < 8 ∧ lvl g home r a = r ∧ edge g a b then r + 1 else lvl g home r b := by
  conv => lhs; unfold lvl
theorem lvl_le {g : Row} {home : Nat} : ∀ r b, lvl g home r b ≤ r ∨ lvl g home r b = 8
  | 0, b => by
    rw [lvl_0]
    split
    · exact Or.inl (Nat.le_refl 0)
    · exact Or.inr rfl
  | r + 1, b => by
    rw [lvl_s]
    split
    · exact Or.inl (Nat.le_refl _)
    · rcases lvl_le (g := g) (home := home) r b with e | e
      · exact Or.inl (by omega)
      · exact Or.inr e
theorem lvl_stay {g : Row} {home r b : Nat} (h : lvl g home r b ≠ 8) : ∀ m, lvl g home (r + m) b = lvl g home r b
  | 0 => rfl
  | m + 1 => by
    show lvl g home ((r + m) + 1) b = lvl g home r b
    rw [lvl_s]
    rw [if_neg (fun c => h ((lvl_stay h m) ▸ c.1)), lvl_stay h m]
theorem lvl_late {g : Row} {home r b : Nat} (h : lvl g home r b = 8) : ∀ m, lvl g home (r + m) b = 8 ∨ r < lvl g home (r + m) b
  | 0 => Or.inl h
  | m + 1 => by
    show lvl g home ((r + m) + 1) b = 8 ∨ r < lvl g home ((r + m) + 1) b
    rw [lvl_s]
    split
    · exact Or.inr (by omega)
    · exact lvl_late h m
theorem lvl_at {g : Row} {home k b m : Nat} (h : lvl g home m b = k) (hk : k < 8) (hm : k ≤ m) : lvl g home k b = k := by
  obtain ⟨i, rfl⟩ : ∃ i, m = k + i := ⟨m - k, by omega⟩
  rcases Nat.decEq (lvl g home k b) 8 with e | e
  · rw [lvl_stay e i] at h
    exact h
  · rcases lvl_late e i with q | q <;> omega
theorem lvl_next {g : Row} {home k a b : Nat} (ha : a < 8) (h : lvl g home k a = k) (he : edge g a b) : lvl g home (k + 1) b ≤ k + 1 := by
  rw [lvl_s]
  split
  · exact Nat.le_refl _
  · rename_i c
    rcases lvl_le (g := g) (home := home) k b with e | e
    · omega
    · exact absurd ⟨e, a, ha, h, he⟩ c
theorem lvl_edge {g : Row} {home a b : Nat} (ha : a < 8) (he : edge g a b) : lvl g home 7 b ≤ lvl g home 7 a + 1 := by
  have l8 : ∀ x, lvl g home 7 x ≤ 8 := fun x => by rcases lvl_le (g := g) (home := home) 7 x with e | e <;> omega
  rcases Nat.lt_or_ge (lvl g home 7 a) 7 with h | h
  · have e := lvl_at (m := 7) (k := lvl g home 7 a) rfl (by omega) (by omega)
    have e2 := lvl_next ha e he
    obtain ⟨m, hm⟩ : ∃ m, 7 = (lvl g home 7 a + 1) + m := ⟨7 - (lvl g home 7 a + 1), by omega⟩
    have e3 := lvl_stay (g := g) (home := home) (r := lvl g home 7 a + 1) (b := b) (by omega) m
    rw [← hm] at e3
    omega
  · have := l8 b
    omega
theorem lvl_home {g : Row} {home : Nat} (m : Nat) : lvl g home m home = 0 := by
  have e : lvl g home 0 home = 0 := by rw [lvl_0, if_pos rfl]
  have := lvl_stay (g := g) (home := home) (r := 0) (b := home) (by omega) m
  rw [Nat.zero_add] at this
  rw [this, e]
theorem lvl_same {g : Row} {home r : Nat} (hr : r + 1 < 8) (h : ∀ b, b < 8 → lvl g home (r + 1) b = lvl g home r b) : ∀ m, r + m < 8 → ∀ b, b < 8 → lvl g home (r + m) b = lvl g home r b := by
  intro m
  induction m with
  | zero => intro _ b _; rfl
  | succ m ih =>
    intro hm b hb
    show lvl g home ((r + m) + 1) b = lvl g home r b
    rw [lvl_s]
    split
    · rename_i c
      obtain ⟨c1, a, ha, c2, c3⟩ := c
      rw [ih (by omega) a ha] at c2
      rcases lvl_le (g := g) (home := home) r a with e | e
      · have hm0 : m = 0 := by omega
        subst hm0
        have e2 := lvl_next (g := g) (home := home) ha (by omega) c3
        have e3 := h b hb
        have e4 : lvl g home r b = 8 := c1
        omega
      · omega
    · exact ih (by omega) b hb
theorem rMark_spec {g : Row} {t : Nat} {r : Int32} {q : Row} (hr : r ≠ 8) : (∀ j, (rMark g t r q).2 j = (if j < 8 ∧ edge g t j ∧ q j = 8 then r else (q j))) ∧ ((rMark g t r q).1 = 0 ↔ ∀ j, j < 8 → ¬ (edge g t j ∧ q j = 8)) := by
  have key := zseq_ok (N := 8) (P := fun k (s : Int32 × Row) => (∀ j, s.2 j = (if j < k ∧ edge g t j ∧ q j = 8 then r else (q j))) ∧ (s.1 = 0 ↔ ∀ j, j < k → ¬ (edge g t j ∧ q j = 8))) (step := markStep g t r) (s := (0, q)) ⟨fun j => (if_neg (fun c => by omega)).symm, ⟨fun _ j hj => by omega, fun _ => rfl⟩⟩ ?_ 8 (by omega)
  · exact key
  · intro k s hk hs
    obtain ⟨h1, h2⟩ := hs
    have hk0 : s.2 k = q k := by rw [h1 k, if_neg (fun c => by omega)]
    unfold markStep
    by_cases c1 : g (62 + 8 * t + k) ≤ 0
    · rw [if_pos c1]
      refine ⟨fun j => ?_, ?_⟩
      · rw [h1 j]
        by_cases c : j < k ∧ edge g t j ∧ q j = 8
        · rw [if_pos c, if_pos ⟨by omega, c.2⟩]
        · rw [if_neg c, if_neg (fun d => by
            rcases Nat.lt_or_ge j k with e | e
            · exact c ⟨e, d.2⟩
            · have : j = k := by omega
              subst this
              exact d.2.1 c1)]
      · rw [h2]
        refine ⟨fun d j hj => ?_, fun d j hj => d j (by omega)⟩
        rcases Nat.lt_or_ge j k with e | e
        · exact d j e
        · have : j = k := by omega
          subst this
          exact fun x => x.1 c1
    · rw [if_neg c1, hk0]
      by_cases c2 : q k = 8
      · rw [if_pos c2]
        refine ⟨fun j => ?_, ?_⟩
        · show upd s.2 k r j = _
          unfold upd
          by_cases e : j = k
          · rw [if_pos e, if_pos ⟨by omega, by rw [e]; exact c1, by rw [e]; exact c2⟩]
          · rw [if_neg e, h1 j]
            by_cases c : j < k ∧ edge g t j ∧ q j = 8
            · rw [if_pos c, if_pos ⟨by omega, c.2⟩]
            · rw [if_neg c, if_neg (fun d => c ⟨by omega, d.2⟩)]
        · refine ⟨fun d => absurd (show (1 : Int32) = 0 from d) (by decide), fun d => absurd ⟨c1, c2⟩ (d k (by omega))⟩
      · rw [if_neg c2]
        refine ⟨fun j => ?_, ?_⟩
        · rw [h1 j]
          by_cases c : j < k ∧ edge g t j ∧ q j = 8
          · rw [if_pos c, if_pos ⟨by omega, c.2⟩]
          · rw [if_neg c, if_neg (fun d => by
              rcases Nat.lt_or_ge j k with e | e
              · exact c ⟨e, d.2⟩
              · have : j = k := by omega
                subst this
                exact c2 d.2.2)]
        · rw [h2]
          refine ⟨fun d j hj => ?_, fun d j hj => d j (by omega)⟩
          rcases Nat.lt_or_ge j k with e | e
          · exact d j e
          · have : j = k := by omega
            subst this
            exact fun x => c2 x.2
theorem eq8 {a : Nat} (h : a < 600) : (Int32.ofNat a = 8) = (a = 8) := i32_eq_of (b := 8) h (by omega)
theorem rRound_spec {g : Row} {home r : Nat} {q : Row} (hr : r < 7) (hq : ∀ k, k < 8 → q k = Int32.ofNat (lvl g home r k)) : (∀ k, k < 8 → (rRound g (Int32.ofNat (r + 1)) q).2 k = Int32.ofNat (lvl g home (r + 1) k)) ∧ (∀ k, 8 ≤ k → (rRound g (Int32.ofNat (r + 1)) q).2 k = q k) ∧ ((rRound g (Int32.ofNat (r + 1)) q).1 = 0 → ∀ b, b < 8 → lvl g home (r + 1) b = lvl g home r b) := by
  have l8 : ∀ x, lvl g home r x < 600 := fun x => by rcases lvl_le (g := g) (home := home) r x with e | e <;> omega
  have hr8 : Int32.ofNat (r + 1) ≠ 8 := by
    intro c
    rw [eq8 (by omega)] at c
    omega
  have key := zseq_ok (N := 8) (P := fun t (s : Int32 × Row) => (∀ j, j < 8 → s.2 j = Int32.ofNat ((if lvl g home r j = 8 ∧ ∃ a, a < t ∧ lvl g home r a = r ∧ edge g a j then (r + 1) else (lvl g home r j)))) ∧ (∀ k, 8 ≤ k → s.2 k = q k) ∧ (s.1 = 0 → ∀ j, j < 8 → ¬ (lvl g home r j = 8 ∧ ∃ a, a < t ∧ lvl g home r a = r ∧ edge g a j))) (step := roundStep g (Int32.ofNat (r + 1))) (s := (0, q)) ⟨fun j hj => by rw [if_neg (fun c => by obtain ⟨_, a, ha, _⟩ := c; omega)]; exact hq j hj, fun _ _ => rfl, fun _ j hj c => by obtain ⟨_, a, ha, _⟩ := c; omega⟩ ?_ 8 (by omega)
  · unfold rRound
    refine ⟨fun k hk => ?_, key.2.1, fun h0 b hb => ?_⟩
    · rw [lvl_s]
      exact key.1 k hk
    · rw [lvl_s]
      exact if_neg (key.2.2 h0 b hb)
  · intro t s ht hs
    obtain ⟨h1, h2, h3⟩ := hs
    have hcond : (s.2 t = Int32.ofNat (r + 1) - 1) = (lvl g home r t = r) := by
      rw [show (1 : Int32) = Int32.ofNat 1 from rfl, i32_subm (by omega), h1 t ht]
      refine propext ?_
      split
      · rename_i c
        rw [i32_eq_of (by omega) (by omega)]
        refine ⟨fun d => by omega, fun d => by omega⟩
      · rw [i32_eq_of (l8 t) (by omega)]
        exact ⟨fun d => by omega, fun d => by omega⟩
    unfold roundStep
    simp only [hcond]
    by_cases c : lvl g home r t = r
    · rw [if_pos c]
      have mk := rMark_spec (g := g) (t := t) (q := s.2) hr8
      have e8 : ∀ j, j < 8 → (s.2 j = 8 ↔ lvl g home r j = 8 ∧ ¬ ∃ a, a < t ∧ lvl g home r a = r ∧ edge g a j) := by
        intro j hj
        rw [h1 j hj]
        split
        · rename_i d
          rw [eq8 (by omega)]
          refine ⟨fun x => by omega, fun x => absurd d.2 x.2⟩
        · rename_i d
          rw [eq8 (l8 j)]
          exact ⟨fun x => ⟨x, fun y => d ⟨x, y⟩⟩, fun x => x.1⟩
      refine ⟨fun j hj => ?_, fun k hk => ?_, fun h0 j hj d => ?_⟩
      · show (rMark g t _ s.2).2 j = _
        rw [mk.1 j]
        by_cases d : j < 8 ∧ edge g t j ∧ s.2 j = 8
        · rw [if_pos d, if_pos ⟨((e8 j hj).mp d.2.2).1, t, by omega, c, d.2.1⟩]
        · rw [if_neg d, h1 j hj]
          by_cases f : lvl g home r j = 8 ∧ ∃ a, a < t ∧ lvl g home r a = r ∧ edge g a j
          · obtain ⟨f1, a, f2, f3⟩ := f
            rw [if_pos ⟨f1, a, f2, f3⟩, if_pos ⟨f1, a, by omega, f3⟩]
          · rw [if_neg f, if_neg]
            rintro ⟨f1, a, f2, f3, f4⟩
            by_cases ha : a < t
            · exact f ⟨f1, a, ha, f3, f4⟩
            · have : a = t := by omega
              subst this
              exact d ⟨hj, f4, (e8 j hj).mpr ⟨f1, fun x => f ⟨f1, x⟩⟩⟩
      · show (rMark g t _ s.2).2 k = _
        rw [mk.1 k, if_neg (fun d => by omega)]
        exact h2 k hk
      · obtain ⟨f1, a, f2, f3, f4⟩ := d
        have h0' : (if (rMark g t (Int32.ofNat (r + 1)) s.2).1 = 0 then s.1 else 1) = (0 : Int32) := h0
        by_cases z : (rMark g t (Int32.ofNat (r + 1)) s.2).1 = 0
        · rw [if_pos z] at h0'
          have n1 := h3 h0' j hj
          by_cases ha : a < t
          · exact n1 ⟨f1, a, ha, f3, f4⟩
          · have : a = t := by omega
            subst this
            exact mk.2.mp z j hj ⟨f4, (e8 j hj).mpr ⟨f1, fun x => n1 ⟨f1, x⟩⟩⟩
        · rw [if_neg z] at h0'
          exact absurd h0' (by decide)
    · rw [if_neg c]
      refine ⟨fun j hj => ?_, h2, fun h0 j hj d => ?_⟩
      · rw [h1 j hj]
        by_cases f : lvl g home r j = 8 ∧ ∃ a, a < t ∧ lvl g home r a = r ∧ edge g a j
        · obtain ⟨f1, a, f2, f3⟩ := f
          rw [if_pos ⟨f1, a, f2, f3⟩, if_pos ⟨f1, a, by omega, f3⟩]
        · rw [if_neg f, if_neg]
          rintro ⟨f1, a, f2, f3, f4⟩
          by_cases ha : a < t
          · exact f ⟨f1, a, ha, f3, f4⟩
          · have : a = t := by omega
            subst this
            exact c f3
      · obtain ⟨f1, a, f2, f3, f4⟩ := d
        by_cases ha : a < t
        · exact h3 h0 j hj ⟨f1, a, ha, f3, f4⟩
        · have : a = t := by omega
          subst this
          exact c f3
theorem measIt_spec {g : Row} {home : Nat} : ∀ (j r : Nat) (q : Row), r + 1 + j = 8 → (∀ k, k < 8 → q k = Int32.ofNat (lvl g home r k)) → (∀ k, k < 8 → measIt g j (r + 1) q k = Int32.ofNat (lvl g home 7 k)) ∧ ∀ k, 8 ≤ k → measIt g j (r + 1) q k = q k := by
  intro j
  induction j with
  | zero =>
    intro r q hr hq
    have : r = 7 := by omega
    subst this
    exact ⟨hq, fun _ _ => rfl⟩
  | succ j ih =>
    intro r q hr hq
    have h := rRound_spec (g := g) (home := home) (r := r) (by omega) hq
    unfold measIt
    split
    · rename_i c
      refine ⟨fun k hk => ?_, h.2.1⟩
      rw [h.1 k hk]
      have e := lvl_same (g := g) (home := home) (r := r) (by omega) (h.2.2 c) (7 - r) (by omega) k hk
      rw [show r + (7 - r) = 7 by omega] at e
      rw [h.2.2 c k hk, e]
    · have h' := ih (r + 1) _ (by omega) h.1
      exact ⟨h'.1, fun k hk => by rw [h'.2 k hk, h.2.1 k hk]⟩
theorem rFill_at {x : Nat → Nat} {v : Int32} {N : Nat} {g : Row} {i : Nat} (hi : ∃ k, k < N ∧ x k = i) : rFill x v N g i = v := by
  unfold rFill
  have key := zseq_ok (N := N) (P := fun k (q : Row) => (∃ j, j < k ∧ x j = i) → q i = v) (step := fun k g => upd g (x k) v) (s := g) (fun c => by obtain ⟨j, hj, _⟩ := c; omega) ?_ N (Nat.le_refl N)
  · exact key hi
  · intro k q hk hq c
    show upd q (x k) v i = v
    unfold upd
    by_cases e : i = x k
    · rw [if_pos e]
    · rw [if_neg e]
      obtain ⟨j, hj, hx⟩ := c
      refine hq ⟨j, ?_, hx⟩
      rcases Nat.lt_or_ge j k with f | f
      · exact f
      · have : j = k := by omega
        subst this
        exact absurd hx.symm e
theorem rMeasure_spec {g : Row} {home : Nat} {q : Row} (hh : home < 8) : (∀ k, k < 8 → rMeasure g home q k = Int32.ofNat (lvl g home 7 k)) ∧ ∀ k, 8 ≤ k → rMeasure g home q k = q k := by
  unfold rMeasure
  have h := measIt_spec (g := g) (home := home) 7 0 (upd (rFill (fun k => k) 8 8 q) home 0) (by omega) ?_
  · refine ⟨h.1, fun k hk => ?_⟩
    rw [h.2 k hk, upd_ne (by omega), rFill_ne (fun j hj => by omega)]
  · intro k hk
    unfold upd
    by_cases e : k = home
    · rw [if_pos e, e, lvl_home]; rfl
    · rw [if_neg e, rFill_at ⟨k, hk, rfl⟩]
      rw [lvl_0, if_neg e]; rfl
def SymL (g : Row) : Prop := ∀ a b, a < 8 → b < 8 → g (62 + 8 * a + b) = g (62 + 8 * b + a)
def rFind0 (g : Row) (home S : Nat) (q : Row) : Row := upd (upd (upd (upd (rMeasure g home q) 18 (bitOf home)) 19 (Int32.ofNat S)) 20 0) 21 (-1)
def rFind (g : Row) (home S : Nat) (q : Row) : Row := zseq (fun t q => growR g S (bitOf home) (S - 1) t 0 0 q) (rFind0 g home S q) 8
theorem zmin5 {S : Nat} (h : S ≤ 5) : zmin (Int32.ofNat S) 5 = Int32.ofNat S := by
  unfold zmin
  refine if_neg ?_
  have e : ((5 : Int32) < Int32.ofNat S) = (5 < S) := i32_lt_of (a := 5) (by omega) (by omega)
  rw [e]
  omega
theorem rFind_1819 {g : Row} {home S : Nat} {q : Row} (h1 : 1 ≤ S) (h5 : S ≤ 5) : ∀ k, zseq (fun t q => growR g S (bitOf home) (S - 1) t 0 0 q) (rFind0 g home S q) k 18 = bitOf home ∧ zseq (fun t q => growR g S (bitOf home) (S - 1) t 0 0 q) (rFind0 g home S q) k 19 = Int32.ofNat S := by
  refine fun k => zseq_inv (P := fun q : Row => q 18 = bitOf home ∧ q 19 = Int32.ofNat S) ?_ (fun k s hs => ?_) k
  · unfold rFind0
    exact ⟨by rw [upd_ne (by omega), upd_ne (by omega), upd_ne (by omega), upd_eq], by rw [upd_ne (by omega), upd_ne (by omega), upd_eq]⟩
  · show growR _ _ _ _ _ _ _ s 18 = _ ∧ growR _ _ _ _ _ _ _ s 19 = _
    rw [growR_ne h5 (by omega) _ _ _ _ _ (by omega), growR_ne h5 (by omega) _ _ _ _ _ (by omega)]
    exact hs
theorem p_find {n : Nat} {h : zH} {b home S : Nat} {g q : Row} {l : Value} (hn : 600 ≤ n) (hb5 : 5 ≤ b) (hh : home < 8) (h1 : 1 ≤ S) (h5 : S ≤ 5) : f_X3_find n 1 (b + 1) (Int32.ofNat home) (Int32.ofNat S) (put (sput h l q) b g) = some (put (sput h (.ref (b + 1)) (rFind g home S q)) b g) := by
  rw [e_X3_find]
  simp only [sgK hb5, p_measure hn hb5 hh, ssR_3 hb5, ssI_4 hb5, ssI_5 hb5, ssI_6 hb5, ssI_7 hb5, zmin5 h5, Option.bind_some]
  unfold L_X3_find_40 rFind
  refine zfor2 8 (fun k => Int32.ofNat k) (fun k => put (sput h (.ref (b + 1)) (zseq (fun t q => growR g S (bitOf home) (S - 1) t 0 0 q) (rFind0 g home S q) k)) b g) (fun k hk rec => ?_) (fun rec => ?_) (by omega)
  · have gr := p_grow (h := h) (g := g) hn hb5 h5 (S - 1) 7 k 0 0 _ (by omega) (by omega) hk (rFind_1819 (g := g) (home := home) (q := q) h1 h5 k).1 (rFind_1819 (g := g) (home := home) (q := q) h1 h5 k).2
    rw [show S - (S - 1) - 1 = 0 by omega, show Int32.ofNat 0 = 0 from rfl] at gr
    simp only [zlet, if_neg (of_eq_false (ge8 hk)), gr, Option.bind_some, i32_succ]
    rfl
  · rw [if_pos (by decide)]
theorem find_spec {g : Row} {home S : Nat} {q : Row} (hs : SymL g) (hh : home < 8) (h1 : 1 ≤ S) (h5 : S ≤ 5) : bestRel (rFind g home S q) (bestOf g home (S - 1)) := by
  unfold rFind bestOf
  have hL : ∀ a b, a < 8 → b < 8 → ¬ g (62 + 8 * a + b) ≤ 0 → lvl g home 7 a ≤ lvl g home 7 b + 1 := fun a b ha hb he => lvl_edge hb (by show ¬ g (62 + 8 * b + a) ≤ 0; rw [hs b a hb ha]; exact he)
  have h8 : ∀ a, a < 8 → lvl g home 7 a ≤ 8 := fun a _ => by rcases lvl_le (g := g) (home := home) 7 a with e | e <;> omega
  have key := zseq_ok (N := 8) (P := fun k q' => bestRel q' (((List.range k).flatMap (fun t => nodes g (S - 1) t [] 0)).foldl (keepS home) ([], -1)) ∧ ∀ k, k < 8 → q' k = Int32.ofNat (lvl g home 7 k)) (step := fun t q => growR g S (bitOf home) (S - 1) t 0 0 q) (s := rFind0 g home S q) ?_ ?_ 8 (by omega)
  · exact key.1
  · refine ⟨⟨?_, ?_, ?_, fun i hi => ?_⟩, fun k hk => ?_⟩
    · unfold rFind0
      rw [upd_ne (by omega), upd_eq]
      rfl
    · unfold rFind0
      rw [upd_eq]
      rfl
    · exact Nat.zero_le 5
    · exact absurd hi (Nat.not_lt_zero i)
    · unfold rFind0
      rw [upd_ne (by omega), upd_ne (by omega), upd_ne (by omega), upd_ne (by omega), (rMeasure_spec hh).1 k hk]
  · intro k q' hk hI
    have r := growR_spec h5 hh (lvl_home 7) hL h8 (S - 1) k [] 0 0 q' _ (by omega) (show 0 = S - (S - 1) - 1 by omega) hk usedOk_nil (fun i hi => absurd hi (Nat.not_lt_zero i)) hI.1 hI.2
    rw [List.range_succ, List.flatMap_append, List.foldl_append, List.flatMap_singleton]
    exact ⟨r.1, fun j hj => by rw [growR_ne h5 (by omega) _ _ _ _ _ (by omega), hI.2 j hj]⟩
def incS (g : Row) (home S : Nat) : Int32 := zmax (bestOf g home (S - 1)).2 0
def Cur (h : zH) (b : Nat) (g : Row) (H : zH) : Prop := ∃ l q, H = put (sput h l q) b g
def CoOk (g : Row) (c home S : Nat) : Prop := g (35 + 7 * c) = Int32.ofNat home ∧ g (38 + 7 * c) = Int32.ofNat S ∧ home < 8 ∧ 1 ≤ S ∧ S ≤ 5
theorem p_incomeOf {n : Nat} {h H : zH} {b c home S : Nat} {g : Row} (hn : 600 ≤ n) (hb5 : 5 ≤ b) (hc : c < 4) (hs : SymL g) (ho : CoOk g c home S) (hH : Cur h b g H) : ∃ H', f_X1_incomeOf n b (b + 15 + 2 * c) H = some (incS g home S, H') ∧ Cur h b g H' := by
  obtain ⟨l, q, rfl⟩ := hH
  obtain ⟨e1, e2, hh, h1, h5⟩ := ho
  refine ⟨put (sput h (.ref (b + 1)) (rFind g home S q)) b g, ?_, ⟨_, _, rfl⟩⟩
  unfold f_X1_incomeOf incS
  simp only [gR_0, gR_1, gC_2 hc, gC_5 hc, e1, e2, sgK hb5, p_find hn hb5 hh h1 h5, p_income hb5, Option.bind_some, (find_spec hs hh h1 h5).2.1]
def rLev (g : Row) (a b : Nat) (v : Int32) : Row := upd (upd g (62 + 8 * a + b) v) (62 + 8 * b + a) v
theorem rLev_ne {g : Row} {a b i : Nat} {v : Int32} (ha : a < 8) (hb : b < 8) (h : i < 62 ∨ 126 ≤ i) : rLev g a b v i = g i := by
  unfold rLev
  rw [upd_ne (by omega), upd_ne (by omega)]
theorem p_setLevel {n : Nat} {h : zH} {b : Nat} {g : Row} {x y v : Int32} (hx : vp_in x 8) (hy : vp_in y 8) : f_X2_setLevel n (b + 1) x y v (put h b g) = some (put h b (rLev g x.toNatClampNeg y.toNatClampNeg v)) := by
  have hx8 := vp_lt hx
  have hy8 := vp_lt hy
  unfold f_X2_setLevel rLev
  simp only [gL_1, gA_r hx, gA_r hy, sA_l hx8 hy, sA_l hy8 hx, Option.bind_some]
theorem rLev_back {g : Row} {a b : Nat} {v : Int32} (hs : SymL g) (ha : a < 8) (hb : b < 8) : rLev (rLev g a b v) a b (g (62 + 8 * a + b)) = g := by
  funext i
  unfold rLev
  simp only [upd]
  split
  · rename_i e
    rw [e, hs a b ha hb]
  · split
    · rename_i e
      rw [e]
    · rfl
theorem rLev_sym {g : Row} {a b : Nat} {v : Int32} (hs : SymL g) (ha : a < 8) (hb : b < 8) : SymL (rLev g a b v) := by
  intro x y hx hy
  unfold rLev
  simp only [upd]
  by_cases c1 : 62 + 8 * x + y = 62 + 8 * b + a
  · rw [if_pos c1]
    by_cases c2 : 62 + 8 * y + x = 62 + 8 * b + a
    · rw [if_pos c2]
    · rw [if_neg c2, if_pos (by omega)]
  · rw [if_neg c1]
    by_cases c3 : 62 + 8 * x + y = 62 + 8 * a + b
    · rw [if_pos c3, if_pos (by omega)]
    · rw [if_neg c3, if_neg (by omega), if_neg (by omega), hs x y hx hy]
theorem rLev_co {g : Row} {a b c home S : Nat} {v : Int32} (ha : a < 8) (hb : b < 8) (hc : c < 4) (ho : CoOk g c home S) : CoOk (rLev g a b v) c home S := by
  unfold CoOk
  rw [rLev_ne ha hb (by omega), rLev_ne ha hb (by omega)]
  exact ho
def incUp (g : Row) (home S x y : Nat) : Int32 := incS (rLev g x y (g (62 + 8 * x + y) + 1)) home S
theorem p_incomeIfRaised {n : Nat} {h H : zH} {b c home S : Nat} {g : Row} {x y : Int32} (hn : 600 ≤ n) (hb5 : 5 ≤ b) (hc : c < 4) (hs : SymL g) (ho : CoOk g c home S) (hx : vp_in x 8) (hy : vp_in y 8) (hH : Cur h b g H) : ∃ H', f_X1_incomeIfRaised n b (b + 15 + 2 * c) x y H = some (incUp g home S x.toNatClampNeg y.toNatClampNeg, H') ∧ Cur h b g H' := by
  obtain ⟨l, q, rfl⟩ := hH
  have hx8 := vp_lt hx
  have hy8 := vp_lt hy
  obtain ⟨H1, e1, l1, q1, rfl⟩ := p_incomeOf (n := n) (H := put (sput h l q) b (rLev g x.toNatClampNeg y.toNatClampNeg (g (62 + 8 * x.toNatClampNeg + y.toNatClampNeg) + 1))) hn hb5 hc (rLev_sym hs hx8 hy8) (rLev_co hx8 hy8 hc ho) ⟨_, _, rfl⟩
  refine ⟨put (sput h l1 q1) b g, ?_, ⟨_, _, rfl⟩⟩
  unfold f_X1_incomeIfRaised incUp
  simp only [zb2, gR_1, gL_1, gA_r hx, gA_l hx8 hy, gK_0, gK_1, p_setLevel hx hy, e1, rLev_back hs hx8 hy8, Option.bind_some]
theorem vp_ex {x : Int32} {k : Nat} (h : vp_in x k) : ∃ i, i < k ∧ x = Int32.ofNat i := by
  refine ⟨x.toNatClampNeg, vp_lt h, ?_⟩
  have h0 : ¬ x < 0 := fun c => h (Or.inl c)
  rw [← Int32.toInt_inj]
  have hx := x.toInt_lt
  have hl : 0 ≤ x.toInt := by
    rw [Int32.lt_iff_toInt_lt] at h0
    have : (0 : Int32).toInt = 0 := rfl
    omega
  have ht : ((x.toNatClampNeg : Nat) : Int) = x.toInt := by
    show ((x.toInt.toNat : Nat) : Int) = _
    omega
  rw [Int32.toInt_ofNat_of_lt (by omega)]
  exact ht.symm
theorem vp_no {x : Int32} {k : Nat} (hk : k < 600) (h : ¬ vp_in x k) : x < 0 ∨ Int32.ofNat k ≤ x := by
  by_cases h0 : x < 0
  · exact Or.inl h0
  · refine Or.inr ?_
    rw [Int32.le_iff_toInt_le, Int32.toInt_ofNat_of_lt (by omega)]
    have h1 : k ≤ x.toNatClampNeg := Decidable.byContradiction fun c => h (fun d => by rcases d with d | d; exact h0 d; exact c d)
    have h2 : x.toNatClampNeg = x.toInt.toNat := rfl
    rw [Int32.lt_iff_toInt_lt] at h0
    have h3 : (0 : Int32).toInt = 0 := rfl
    omega
theorem town_y {n : Nat} {x : Int32} {h : zH} (hx : vp_in x 8) : f_X5_isTown n x h = some 1 := by
  obtain ⟨i, hi, rfl⟩ := vp_ex hx
  unfold f_X5_isTown
  simp only [zlet]
  rw [if_neg (fun c => hx (Or.inl c)), if_neg (of_eq_false (ge8 hi))]
theorem town_n {n : Nat} {x : Int32} {h : zH} (hx : ¬ vp_in x 8) : f_X5_isTown n x h = some 0 := by
  unfold f_X5_isTown
  simp only [zlet]
  rcases vp_no (by omega) hx with c | c
  · rw [if_pos c]
  · have c' : (8 : Int32) ≤ x := c
    rw [if_pos c']
    split <;> rfl
theorem company_y {n : Nat} {x : Int32} {h : zH} (hx : vp_in x 4) : f_X5_isCompany n x h = some 1 := by
  obtain ⟨i, hi, rfl⟩ := vp_ex hx
  unfold f_X5_isCompany
  simp only [zlet]
  rw [if_neg (fun c => hx (Or.inl c)), if_neg (of_eq_false (ge4 hi))]
theorem company_n {n : Nat} {x : Int32} {h : zH} (hx : ¬ vp_in x 4) : f_X5_isCompany n x h = some 0 := by
  unfold f_X5_isCompany
  simp only [zlet]
  rcases vp_no (by omega) hx with c | c
  · rw [if_pos c]
  · have c' : (4 : Int32) ≤ x := c
    rw [if_pos c']
    split <;> rfl
def layN (g : Row) (c home i j : Nat) : Prop := i ≠ j ∧ ¬ 2 ≤ g (62 + 8 * i + j) ∧ 20 * (g (62 + 8 * i + j) + 1) ≤ g (36 + 7 * c) ∧ (lvl g home 7 i ≠ 8 ∨ lvl g home 7 j ≠ 8)
def layB (g : Row) (c home i j : Nat) : Bool := decide (i ≠ j ∧ ¬ 2 ≤ g (62 + 8 * i + j) ∧ 20 * (g (62 + 8 * i + j) + 1) ≤ g (36 + 7 * c) ∧ (lvl g home 7 i ≠ 8 ∨ lvl g home 7 j ≠ 8))
theorem layB_iff {g : Row} {c home i j : Nat} : layB g c home i j = true ↔ layN g c home i j := by
  unfold layB layN
  exact decide_eq_true_iff
def layI (g : Row) (c home : Nat) (x y : Int32) : Prop := vp_in x 8 ∧ vp_in y 8 ∧ layN g c home x.toNatClampNeg y.toNatClampNeg
theorem lvl_ge8 {g : Row} {home i : Nat} : ((8 : Int32) ≤ Int32.ofNat (lvl g home 7 i)) = (lvl g home 7 i = 8) := by
  have l8 : lvl g home 7 i ≤ 8 := by rcases lvl_le (g := g) (home := home) 7 i with e | e <;> omega
  have e : ((8 : Int32) ≤ Int32.ofNat (lvl g home 7 i)) = (8 ≤ lvl g home 7 i) := i32_le_of (a := 8) (by omega) (by omega)
  rw [e]
  exact propext (by omega)
theorem p_canLay {n : Nat} {h H : zH} {b c home S : Nat} {g : Row} {x y : Int32} (hn : 600 ≤ n) (hb5 : 5 ≤ b) (hc : c < 4) (ho : CoOk g c home S) (hH : Cur h b g H) : ∃ H' r, f_X1_canLay n b (b + 15 + 2 * c) x y H = some (r, H') ∧ Cur h b g H' ∧ (r = 1 ∧ layI g c home x y ∨ r = 0 ∧ ¬ layI g c home x y) := by
  unfold f_X1_canLay layI
  by_cases hx : vp_in x 8
  · simp only [town_y hx, Option.bind_some, if_neg (show ¬ (1 : Int32) = 0 by decide)]
    by_cases hy : vp_in y 8
    · simp only [town_y hy, Option.bind_some, if_neg (show ¬ (1 : Int32) = 0 by decide)]
      obtain ⟨i, hi, rfl⟩ := vp_ex hx
      obtain ⟨j, hj, rfl⟩ := vp_ex hy
      simp only [nn_of (show i < 600 by omega), nn_of (show j < 600 by omega), i32_eq_of (show i < 600 by omega) (show j < 600 by omega)]
      unfold layN
      by_cases h1 : i = j
      · rw [if_pos h1]
        exact ⟨H, 0, rfl, hH, Or.inr ⟨rfl, fun c => c.2.2.1 h1⟩⟩
      · rw [if_neg h1]
        obtain ⟨l, q, rfl⟩ := hH
        simp only [gR_1, gL_1, gA_r hx, nn_of (show i < 600 by omega), gA_l hi hy, nn_of (show j < 600 by omega), Option.bind_some]
        by_cases h2 : 2 ≤ g (62 + 8 * i + j)
        · rw [if_pos h2]
          exact ⟨_, 0, rfl, ⟨_, _, rfl⟩, Or.inr ⟨rfl, fun c => c.2.2.2.1 h2⟩⟩
        · rw [if_neg h2]
          simp only [gC_3 hc, Option.bind_some]
          by_cases h3 : 20 * (g (62 + 8 * i + j) + 1) ≤ g (36 + 7 * c)
          · rw [if_pos h3]
            have hm := rMeasure_spec (g := g) (home := home) (q := q) ho.2.2.1
            simp only [zlet, gR_0, gR_1, gC_2 hc, ho.1, sgK hb5, p_measure hn hb5 ho.2.2.1, p_reached hb5 hx, p_reached hb5 hy, nn_of (show i < 600 by omega), nn_of (show j < 600 by omega), hm.1 i hi, hm.1 j hj, lvl_ge8, Option.bind_some]
            by_cases h4 : lvl g home 7 i = 8
            · simp only [if_pos h4, if_true]
              by_cases h5 : lvl g home 7 j = 8
              · simp only [if_pos h5, if_true]
                exact ⟨_, 0, rfl, ⟨_, _, rfl⟩, Or.inr ⟨rfl, fun c => by rcases c.2.2.2.2.2 with d | d; exact d h4; exact d h5⟩⟩
              · simp only [if_neg h5, if_neg (show ¬ (1 : Int32) = 0 by decide)]
                exact ⟨_, 1, rfl, ⟨_, _, rfl⟩, Or.inl ⟨rfl, hx, hy, h1, h2, h3, Or.inr h5⟩⟩
            · simp only [if_neg h4, if_neg (show ¬ (1 : Int32) = 0 by decide)]
              exact ⟨_, 1, rfl, ⟨_, _, rfl⟩, Or.inl ⟨rfl, hx, hy, h1, h2, h3, Or.inl h4⟩⟩
          · rw [if_neg h3]
            exact ⟨_, 0, rfl, ⟨_, _, rfl⟩, Or.inr ⟨rfl, fun c => h3 c.2.2.2.2.1⟩⟩
    · simp only [town_n hy, Option.bind_some, if_true]
      exact ⟨H, 0, rfl, hH, Or.inr ⟨rfl, fun c => hy c.2.1⟩⟩
  · simp only [town_n hx, Option.bind_some, if_true]
    exact ⟨H, 0, rfl, hH, Or.inr ⟨rfl, fun c => hx c.1⟩⟩
theorem pres_ok {f : Row} {its : Int32} (h : its = -1 ∨ vp_in its 4) : pres f its = -1 ∨ vp_in (pres f its) 4 := by
  unfold pres
  refine zseq_lt (N := 4) (P := fun s : Int32 × Int32 => s.2 = -1 ∨ vp_in s.2 4) ?_ (fun k s hk hs => ?_) 4 (by omega)
  · show (if _ then (-1 : Int32) else its) = -1 ∨ vp_in (if _ then (-1 : Int32) else its) 4
    split <;> split <;> first | exact Or.inl rfl | exact h
  · unfold pst
    split
    · exact hs
    · exact Or.inr (in_of hk (by omega))
def PresAll (g : Row) : Prop := ∀ c, c < 4 → PresOk g c
theorem rPay_pa {g : Row} {p : Nat} {x : Int32} (hp : p < 4) (h : PresAll g) : PresAll (rPay g p x) := by
  intro c hc
  unfold PresOk
  rw [rPay_ne (by omega) (by omega)]
  exact h c hc
theorem rPres_pa {g : Row} {c : Nat} (h : PresAll g) : PresAll (rPres g c) := by
  intro d hd
  unfold PresOk rPres
  by_cases e : d = c
  · subst e
    rw [upd_eq]
    exact pres_ok (h d hd)
  · rw [upd_ne (by omega)]
    exact h d hd
theorem rSell_pa {g : Row} {p c : Nat} {s : Int32} (hp : p < 4) (hc : c < 4) (h : PresAll g) : PresAll (rSell g p c s) := by
  unfold rSell
  refine rPres_pa fun d hd => ?_
  unfold PresOk
  rw [rFall_ne (by omega), upd_ne (by omega), rPay_ne (by omega) (by omega)]
  exact h d hd
def chStep (g : Row) (p k : Nat) (s : Int32) : Int32 := if g (34 + 7 * k) = 0 then s else if g (18 + 4 * p + k) ≤ 0 then s else if s = -1 then Int32.ofNat k else if g (37 + 7 * s.toNatClampNeg) ≤ g (37 + 7 * k) then s else Int32.ofNat k
def chp (g : Row) (p : Nat) : Int32 := zseq (chStep g p) (-1) 4
theorem chp_ok' {g : Row} {p : Nat} : ∀ k, k ≤ 4 → zseq (chStep g p) (-1) k = -1 ∨ vp_in (zseq (chStep g p) (-1) k) 4 := by
  refine zseq_lt (N := 4) (P := fun s : Int32 => s = -1 ∨ vp_in s 4) (Or.inl rfl) (fun k s hk hs => ?_)
  unfold chStep
  split
  · exact hs
  · split
    · exact hs
    · split
      · exact Or.inr (in_of hk (by omega))
      · split
        · exact hs
        · exact Or.inr (in_of hk (by omega))
theorem chp_ok {g : Row} {p : Nat} : chp g p = -1 ∨ vp_in (chp g p) 4 := chp_ok' 4 (by omega)
theorem p_cheapestHeld {n : Nat} {h : zH} {b : Nat} {g : Row} {p : Int32} (hn : 600 ≤ n) (hp : vp_in p 4) : f_X1_cheapestHeld n b p (put h b g) = some (chp g p.toNatClampNeg) := by
  rw [e_X1_cheapestHeld]
  unfold L_X1_cheapestHeld_4 chp
  refine zfor2 4 (fun k => zseq (chStep g p.toNatClampNeg) (-1) k) (fun k => Int32.ofNat k) (fun k hk rec => ?_) (fun rec => ?_) (by omega)
  · rw [show zseq (chStep g p.toNatClampNeg) (-1) (k + 1) = chStep g p.toNatClampNeg k (zseq (chStep g p.toNatClampNeg) (-1) k) from rfl]
    have hs := chp_ok' (g := g) (p := p.toNatClampNeg) k (by omega)
    generalize zseq (chStep g p.toNatClampNeg) (-1) k = s at hs ⊢
    simp only [zlet, if_neg (of_eq_false (ge4 hk)), gR_2, gA_c (in_of hk (by omega)), gC_1 hk, gC_0 hk, gC_4 hk, gA_h hk hp, Option.bind_some, nn_of (show k < 600 by omega), i32_succ]
    unfold chStep
    split
    · rfl
    · split
      · rfl
      · split
        · rfl
        · rename_i h1
          have hs4 := hs.resolve_left h1
          simp only [gA_c hs4, gC_4 (vp_lt hs4), Option.bind_some]
          split <;> rfl
  · rw [if_pos (by decide)]
def rRest (p : Nat) (due : Int32) : Nat → Row → Row
  | 0, g => g
  | j + 1, g => if due ≤ g (14 + p) then g else if chp g p = -1 then g else rRest p due j (rSell g p (chp g p).toNatClampNeg 1)
theorem p_payRest {n : Nat} {h : zH} {b : Nat} {g : Row} {p due : Int32} (hn : 600 ≤ n) (hp : vp_in p 4) (ha : PresAll g) : f_X1_payRest n b p due (put h b g) = some (zmin due (rRest p.toNatClampNeg due 40 g (14 + p.toNatClampNeg)), put h b (rPay (rRest p.toNatClampNeg due 40 g) p.toNatClampNeg (zmin due (rRest p.toNatClampNeg due 40 g (14 + p.toNatClampNeg))))) := by
  rw [e_X1_payRest]
  unfold L_X1_payRest_2
  have hp4 := vp_lt hp
  refine zind2 (fun j a1 a2 r => ∃ k g, k + j = 40 ∧ a1 = Int32.ofNat k ∧ a2 = put h b g ∧ PresAll g ∧ r = some (zmin due (rRest p.toNatClampNeg due j g (14 + p.toNatClampNeg)), put h b (rPay (rRest p.toNatClampNeg due j g) p.toNatClampNeg (zmin due (rRest p.toNatClampNeg due j g (14 + p.toNatClampNeg)))))) ?_ n 40 _ _ _ ⟨0, g, rfl, rfl, rfl, ha, rfl⟩ (by omega)
  intro j a1 a2 r hP
  obtain ⟨k, g, hk, rfl, rfl, ha, rfl⟩ := hP
  cases j with
  | zero =>
    refine Or.inl fun rec => ?_
    have c40 : (40 : Int32) ≤ Int32.ofNat k := by rw [show k = 40 by omega]; decide
    simp only [zlet, if_pos c40, gR_3, gA_m hp, gK_0, p_playerPays hp, Option.bind_some]
    rfl
  | succ j =>
    have c40 : ¬ (40 : Int32) ≤ Int32.ofNat k := i32_ge (N := 40) (by omega) (by omega)
    by_cases c1 : due ≤ g (14 + p.toNatClampNeg)
    · refine Or.inl fun rec => ?_
      unfold rRest
      simp only [zlet, if_neg c40, gR_3, gA_m hp, gK_0, p_playerPays hp, Option.bind_some, if_pos c1]
    · rcases chp_ok (g := g) (p := p.toNatClampNeg) with c2 | c2
      · refine Or.inl fun rec => ?_
        unfold rRest
        simp only [zlet, if_neg c40, gR_3, gA_m hp, gK_0, p_playerPays hp, Option.bind_some, if_neg c1, p_cheapestHeld hn hp, if_pos c2]
      · have c3 : ¬ chp g p.toNatClampNeg = -1 := by
          intro q
          rw [q] at c2
          exact c2 (Or.inl (by decide))
        refine Or.inr ⟨j, Int32.ofNat (k + 1), put h b (rSell g p.toNatClampNeg (chp g p.toNatClampNeg).toNatClampNeg 1), by omega, ⟨k + 1, _, by omega, rfl, rfl, rSell_pa hp4 (vp_lt c2) ha, ?_⟩, fun rec => ?_⟩
        · conv => lhs; unfold rRest
          simp only [if_neg c1, if_neg c3]
        · simp only [zlet, if_neg c40, gR_3, gA_m hp, gK_0, Option.bind_some, if_neg c1, p_cheapestHeld hn hp, if_neg c3, p_sellShares hn hp c2 (ha _ (vp_lt c2)), i32_succ]
def rShut (g : Row) (c : Nat) : Row := upd (rClose (rCPay g c (g (36 + 7 * c))) c) 7 (rClose (rCPay g c (g (36 + 7 * c))) c 7 + 1)
def rUpkeep (g : Row) (c : Nat) : Row :=
  let own := zmin (5 * g (38 + 7 * c)) (g (36 + 7 * c))
  let g1 := rCPay g c own
  let due := 5 * g (38 + 7 * c) - own
  if due ≤ 0 then g1 else if g1 (39 + 7 * c) = -1 then rShut g1 c else
    let p := (g1 (39 + 7 * c)).toNatClampNeg
    let g2 := rRest p due 40 g1
    let x := zmin due (g2 (14 + p))
    if due - x ≤ 0 then rPay g2 p x else rShut (rPay g2 p x) c
theorem rCPay_pa {g : Row} {c : Nat} {x : Int32} (hc : c < 4) (h : PresAll g) : PresAll (rCPay g c x) := by
  intro d hd
  unfold PresOk
  rw [rCPay_ne (by omega) (by omega)]
  exact h d hd
theorem p_payUpkeep {n : Nat} {h : zH} {b c : Nat} {g : Row} (hn : 600 ≤ n) (hc : c < 4) (ha : PresAll g) : f_X1_payUpkeep n b (b + 15 + 2 * c) (put h b g) = some (put h b (rUpkeep g c)) := by
  unfold f_X1_payUpkeep rUpkeep
  have shut : ∀ g, ((zgI (put h b g) (b + 15 + 2 * c) 0 3).bind fun (v63 : Int32) => zrc (put h b g) b 1 <| (f_X1_companyPays n b (b + 15 + 2 * c) v63 (put h b g)).bind fun (h66 : zH) => zrc h66 (b + 15 + 2 * c) 0 <| (f_X0_close n (b + 15 + 2 * c) h66).bind fun (h70 : zH) => (zgI h70 b 1 14).bind fun (v75 : Int32) => (zp h70 b 1 14 (.int (v75 + (1 : Int32)))).bind fun (h80 : zH) => some h80) = some (put h b (rShut g c)) := by
    intro g
    unfold rShut
    simp only [gC_3 hc, gK_0, gK_2 hc, p_companyPays hc, p_close hn hc, gI_14, sI_14, Option.bind_some]
  simp only [gC_5 hc, gC_3 hc, gK_0, p_companyPays hc, zlet, zb2, Option.bind_some]
  split
  · rfl
  · simp only [gC_6 hc, Option.bind_some]
    split
    · rename_i h1 h2
      unfold rShut
      simp only [gK_2 hc, p_close hn hc, gI_14, sI_14, Option.bind_some]
    · rename_i h1 h2
      have ha1 := rCPay_pa (c := c) (x := zmin (5 * g (38 + 7 * c)) (g (36 + 7 * c))) hc ha
      have hp := (ha1 c hc).resolve_left h2
      simp only [p_payRest hn hp ha1, Option.bind_some]
      split
      · rfl
      · exact shut _
def rOut (g : Row) (m c : Nat) (x : Int32) : Row := zseq (fun p g => rPay g p (-(g (18 + 4 * p + c) * (x / 10)))) g m
def rPaid (g : Row) (m c : Nat) (x : Int32) : Row := if x ≤ 0 then rFall (rOut g m c x) c else rRise (rOut g m c x) c
theorem p_payOut {n : Nat} {h : zH} {b m c : Nat} {g : Row} {x : Int32} (hn : 600 ≤ n) (hc : c < 4) (hm : g 0 = Int32.ofNat m) (hm4 : m ≤ 4) : f_X1_payOut n b (b + 15 + 2 * c) x (put h b g) = some (put h b (rPaid g m c x)) := by
  rw [e_X1_payOut]
  unfold L_X1_payOut_2 rPaid rOut
  have h0 : ∀ k, k ≤ m → zseq (fun p g => rPay g p (-(g (18 + 4 * p + c) * (x / 10)))) g k 0 = Int32.ofNat m := fun k hk => zseq_lt (P := fun r : Row => r 0 = Int32.ofNat m) (N := m) hm (fun k s hk hs => by show rPay s k _ 0 = _; rw [rPay_ne (by omega) (by omega), hs]) k hk
  refine zfor2 m (fun k => Int32.ofNat k) (fun k => put h b (zseq (fun p g => rPay g p (-(g (18 + 4 * p + c) * (x / 10)))) g k)) (fun k hk rec => ?_) (fun rec => ?_) (by omega)
  · have hk4 : vp_in (Int32.ofNat k) 4 := in_of (by omega) (by omega)
    simp only [gI_8, h0 k (by omega), if_neg (i32_ge hk (by omega)), gC_0 hc, gA_h hc hk4, gK_0, p_playerPays hk4, nn_of (show k < 600 by omega), zlet, Option.bind_some, i32_succ]
    rfl
  · simp only [gI_8, h0 m (by omega), if_pos (Int32.le_refl _), gK_2 hc, p_fall hc, p_rise hc, Option.bind_some]
    split <;> rfl
theorem rRise_ne {g : Row} {c i : Nat} (h1 : i ≠ 37 + 7 * c) : rRise g c i = g i := by
  unfold rRise
  split
  · rfl
  · exact upd_ne h1
theorem Cur_mk {h H : zH} {b : Nat} {g : Row} (hH : Cur h b g H) : ∃ h', H = put h' b g ∧ ∀ g', Cur h b g' (put h' b g') := by
  obtain ⟨l, q, rfl⟩ := hH
  exact ⟨sput h l q, rfl, fun g' => ⟨l, q, rfl⟩⟩
def rTrack (g : Row) (c i j : Nat) : Row := rCPay (rLev g i j (g (62 + 8 * i + j) + 1)) c (20 * (g (62 + 8 * i + j) + 1))
def rEarn (g : Row) (m c : Nat) (x : Int32) (pays : Bool) : Row :=
  let g1 := upd g (40 + 7 * c) x
  let g2 := if pays then rPaid g1 m c x else rFall (rCPay g1 c (-x)) c
  let g3 := upd (rUpkeep g2 c) 8 0
  rOver (upd g3 4 (g3 4 + 1))
theorem rLev_at {g : Row} {i j : Nat} {v : Int32} : rLev g i j v (62 + 8 * i + j) = v := by
  unfold rLev
  simp only [upd]
  split
  · rfl
  · exact if_pos trivial
theorem p_earn {n : Nat} {h H : zH} {b c m home S : Nat} {g : Row} {p2 : Int32} (hn : 600 ≤ n) (hb5 : 5 ≤ b) (hc : c < 4) (hs : SymL g) (ho : CoOk g c home S) (ha : PresAll g) (hm : g 0 = Int32.ofNat m) (hm4 : m ≤ 4) (hH : Cur h b g H) : ∃ H', (zrc H b 1 <| zb2 (f_X1_incomeOf n b (b + 15 + 2 * c) H) fun (r78 : Int32) (h78 : zH) => (zp h78 (b + 15 + 2 * c) 0 7 (.int r78)).bind fun (h87 : zH) => zlet (fun (h119 : zH) => zrc h119 b 1 <| (f_X1_payUpkeep n b (b + 15 + 2 * c) h119).bind fun (h122 : zH) => (zp h122 b 1 7 (.int (0 : Int32))).bind fun (h127 : zH) => (zgI h127 b 1 6).bind fun (v132 : Int32) => (zp h127 b 1 6 (.int (v132 + (1 : Int32)))).bind fun (h137 : zH) => zrc h137 b 1 <| (f_X1_endOperatingIfOver n b h137).bind fun (h141 : zH) => some (r78, h141)) fun K119 => if p2 = 0 then (zrc h87 b 1 <| (f_X1_companyPays n b (b + 15 + 2 * c) (-r78) h87).bind fun (h111 : zH) => zrc h111 (b + 15 + 2 * c) 0 <| (f_X0_fall n (b + 15 + 2 * c) h111).bind fun (h116 : zH) => K119 h116) else (zrc h87 b 1 <| (f_X1_payOut n b (b + 15 + 2 * c) r78 h87).bind fun (h99 : zH) => K119 h99)) = some (incS g home S, H') ∧ Cur h b (rEarn g m c (incS g home S) (decide (p2 ≠ 0))) H' := by
  obtain ⟨H1, e1, hC1⟩ := p_incomeOf hn hb5 hc hs ho hH
  have hK : ∀ {o : Option (Int32 × zH)}, zrc H b 1 o = o := by
    intro o
    obtain ⟨h', rfl, _⟩ := Cur_mk hH
    exact gK_0
  obtain ⟨h', rfl, hCu⟩ := Cur_mk hC1
  refine ⟨_, ?_, hCu _⟩
  rw [hK, e1]
  have hm' : ∀ x, upd g (40 + 7 * c) x 0 = Int32.ofNat m := fun x => by rw [upd_ne (by omega), hm]
  have ha' : ∀ x, PresAll (upd g (40 + 7 * c) x) := by
    intro x d hd
    unfold PresOk
    rw [upd_ne (by omega)]
    exact ha d hd
  have hpd : ∀ x, PresAll (rPaid (upd g (40 + 7 * c) x) m c x) := by
    intro x d hd
    unfold PresOk rPaid rOut
    have : ∀ k, k ≤ m → zseq (fun p g => rPay g p (-(g (18 + 4 * p + c) * (x / 10)))) (upd g (40 + 7 * c) x) k (39 + 7 * d) = upd g (40 + 7 * c) x (39 + 7 * d) := fun k hk => zseq_lt (P := fun r : Row => r (39 + 7 * d) = upd g (40 + 7 * c) x (39 + 7 * d)) (N := m) rfl (fun k s hk hs => by show rPay s k _ (39 + 7 * d) = _; rw [rPay_ne (by omega) (by omega), hs]) k hk
    have h2 := ha' x d hd
    unfold PresOk at h2
    split
    · rw [rFall_ne (by omega), this m (by omega)]
      exact h2
    · rw [rRise_ne (by omega), this m (by omega)]
      exact h2
  have hpf : ∀ x, PresAll (rFall (rCPay (upd g (40 + 7 * c) x) c (-x)) c) := by
    intro x d hd
    unfold PresOk
    rw [rFall_ne (by omega)]
    exact rCPay_pa hc (ha' x) d hd
  by_cases h2 : p2 = 0
  · simp only [zb2, zlet, Option.bind_some, sC_7 hc, if_pos h2, gK_0, gK_2 hc, p_companyPays hc, p_fall hc, p_payUpkeep hn hc (hpf _), sI_7, gI_6, sI_6, p_endOperatingIfOver]
    unfold rEarn
    rw [show decide (p2 ≠ 0) = false from decide_eq_false (not_not_intro h2)]
    rfl
  · simp only [zb2, zlet, Option.bind_some, sC_7 hc, if_neg h2, gK_0, gK_2 hc, p_payOut hn hc (hm' _) hm4, p_payUpkeep hn hc (hpd _), sI_7, gI_6, sI_6, p_endOperatingIfOver]
    unfold rEarn
    rw [show decide (p2 ≠ 0) = true from decide_eq_true h2]
    rfl
theorem p_operateNext0 {n : Nat} {h H : zH} {b c m home S : Nat} {g : Row} {p2 : Int32} (hn : 600 ≤ n) (hb5 : 5 ≤ b) (hc : c < 4) (hs : SymL g) (ho : CoOk g c home S) (ha : PresAll g) (hm : g 0 = Int32.ofNat m) (hm4 : m ≤ 4) (hno : NextOk g) (hnc : nextC g = Int32.ofNat c) (hH : Cur h b g H) : ∃ H', f_X1_operateNext n b (-1) (-1) p2 H = some (incS g home S, H') ∧ Cur h b (rEarn g m c (incS g home S) (decide (p2 ≠ 0))) H' := by
  obtain ⟨H1, e1, hC1⟩ := p_earn (p2 := p2) hn hb5 hc hs ho ha hm hm4 hH
  refine ⟨H1, ?_, hC1⟩
  have hne : ¬ Int32.ofNat c = -1 := by
    intro q
    have := in_of hc (show 4 < 600 by omega)
    rw [q] at this
    exact this (Or.inl (by decide))
  obtain ⟨h', rfl, _⟩ := Cur_mk hH
  unfold f_X1_operateNext
  simp only [gK_0, p_nextCompany hno.1, hnc, gR_2, gA_c (in_of hc (show 4 < 600 by omega)), nn_of (show c < 600 by omega), Option.bind_some, if_neg hne, if_true]
  rw [← e1]
  rfl
theorem p_operateNext1 {n : Nat} {h H : zH} {b c m home S i j : Nat} {g : Row} {p2 : Int32} (hn : 600 ≤ n) (hb5 : 5 ≤ b) (hc : c < 4) (hi : i < 8) (hj : j < 8) (hs : SymL g) (ho : CoOk g c home S) (ha : PresAll g) (hm : g 0 = Int32.ofNat m) (hm4 : m ≤ 4) (hno : NextOk g) (hnc : nextC g = Int32.ofNat c) (hH : Cur h b g H) : ∃ H', f_X1_operateNext n b (Int32.ofNat i) (Int32.ofNat j) p2 H = some (incS (rTrack g c i j) home S, H') ∧ Cur h b (rEarn (rTrack g c i j) m c (incS (rTrack g c i j) home S) (decide (p2 ≠ 0))) H' := by
  obtain ⟨h', rfl, hCu⟩ := Cur_mk hH
  have hs1 : SymL (rTrack g c i j) := by
    intro x y hx hy
    unfold rTrack
    rw [rCPay_ne (by omega) (by omega), rCPay_ne (by omega) (by omega)]
    exact rLev_sym hs hi hj x y hx hy
  have ho1 : CoOk (rTrack g c i j) c home S := by
    unfold CoOk rTrack
    rw [rCPay_ne (by omega) (by omega), rCPay_ne (by omega) (by omega)]
    exact rLev_co hi hj hc ho
  have ha1 : PresAll (rTrack g c i j) := by
    refine rCPay_pa hc fun d hd => ?_
    unfold PresOk
    rw [rLev_ne hi hj (by omega)]
    exact ha d hd
  have hm1 : rTrack g c i j 0 = Int32.ofNat m := by
    unfold rTrack
    rw [rCPay_ne (by omega) (by omega), rLev_ne hi hj (by omega), hm]
  obtain ⟨H1, e1, hC1⟩ := p_earn (p2 := p2) hn hb5 hc hs1 ho1 ha1 hm1 hm4 (hCu (rTrack g c i j))
  refine ⟨H1, ?_, hC1⟩
  have hne : ∀ k, k < 600 → ¬ Int32.ofNat k = -1 := by
    intro k hk q
    have := in_of (n := k + 1) (show k < k + 1 by omega)
    rcases Nat.lt_or_ge (k + 1) 600 with h6 | h6
    · have := this h6
      rw [q] at this
      exact this (Or.inl (by decide))
    · rw [show k = 599 by omega] at q
      exact absurd q (by decide)
  have hi8 := in_of hi (show 8 < 600 by omega)
  have hj8 := in_of hj (show 8 < 600 by omega)
  unfold f_X1_operateNext
  simp only [gK_0, gK_1, p_nextCompany hno.1, hnc, gR_1, gR_2, gL_1, gA_r hi8, gA_l (vp_lt hi8) hj8, gA_c (in_of hc (show 4 < 600 by omega)), nn_of (show c < 600 by omega), nn_of (show i < 600 by omega), nn_of (show j < 600 by omega), gA_l hi hj8, p_setLevel hi8 hj8, p_companyPays hc, rLev_at, Option.bind_some, if_neg (hne c (by omega)), if_neg (hne i (by omega)), if_neg (hne j (by omega))]
  rw [← e1]
  rfl
def routeS (g : Row) (home S : Nat) (i : Int32) : Int32 := if i < 0 then -1 else if Int32.ofNat (bestOf g home (S - 1)).1.length ≤ i then -1 else Int32.ofNat ((bestOf g home (S - 1)).1.reverse.getD i.toNatClampNeg 0)
theorem p_routeTown {n : Nat} {h H : zH} {b c home S : Nat} {g : Row} {i : Int32} (hn : 600 ≤ n) (hb5 : 5 ≤ b) (hc : c < 4) (hs : SymL g) (ho : CoOk g c home S) (hop : g (34 + 7 * c) ≠ 0) (hH : Cur h b g H) : ∃ H', f_X1_routeTown n b (b + 15 + 2 * c) i H = some (routeS g home S i, H') ∧ Cur h b g H' := by
  obtain ⟨l, q, rfl⟩ := hH
  obtain ⟨e1, e2, hh, h1, h5⟩ := ho
  refine ⟨put (sput h (.ref (b + 1)) (rFind g home S q)) b g, ?_, ⟨_, _, rfl⟩⟩
  have fs := find_spec (q := q) hs hh h1 h5
  unfold f_X1_routeTown f_X3_routeTown routeS
  simp only [zlet, gC_1 hc, if_neg hop, gR_0, gR_1, gC_2 hc, gC_5 hc, e1, e2, sgK hb5, p_find hn hb5 hh h1 h5, sgI_6 hb5, sgR_2 hb5, fs.1, Option.bind_some]
  split
  · rfl
  · split
    · rfl
    · rename_i c1 c2
      have hi : vp_in i (bestOf g home (S - 1)).1.length := Classical.byContradiction fun d => by
        have f3 := fs.2.2.1
        rcases vp_no (by omega) d with d | d
        · exact c1 d
        · exact c2 d
      have hl := vp_lt hi
      have f3 := fs.2.2.1
      have hi5 : vp_in i 5 := by
        intro d
        rcases d with d | d
        · exact hi (Or.inl d)
        · omega
      simp only [sga_4 hb5 hi5, Option.bind_some, fs.2.2.2 _ hl]
theorem p_routeTown0 {n : Nat} {h H : zH} {b c : Nat} {g : Row} {i : Int32} (hc : c < 4) (hop : g (34 + 7 * c) = 0) (hH : Cur h b g H) : f_X1_routeTown n b (b + 15 + 2 * c) i H = some (-1, H) := by
  obtain ⟨h', rfl, _⟩ := Cur_mk hH
  unfold f_X1_routeTown
  simp only [gC_1 hc, if_pos hop, Option.bind_some]
def btStep (g : Row) (c home S k : Nat) (s : Int32 × Int32) : Int32 × Int32 := if k / 8 < k % 8 then (if (if layB g c home (k / 8) (k % 8) then incUp g home S (k / 8) (k % 8) else -1) ≤ s.2 then s else (10 * Int32.ofNat (k / 8) + Int32.ofNat (k % 8), if layB g c home (k / 8) (k % 8) then incUp g home S (k / 8) (k % 8) else -1)) else s
def btS (g : Row) (c home S : Nat) : Int32 := (zseq (btStep g c home S) (-1, -1) 64).1
theorem bt_skip {g : Row} {c home S a : Nat} {s : Int32 × Int32} : ∀ i, i ≤ a + 1 → a < 8 → zseq (btStep g c home S) s (8 * a + i) = zseq (btStep g c home S) s (8 * a)
  | 0, _, _ => rfl
  | i + 1, h, ha => by
    show btStep g c home S (8 * a + i) (zseq (btStep g c home S) s (8 * a + i)) = _
    unfold btStep
    rw [if_neg (by omega)]
    exact bt_skip i (by omega) ha
theorem layI_iff {g : Row} {c home i j : Nat} (hi : i < 8) (hj : j < 8) : layI g c home (Int32.ofNat i) (Int32.ofNat j) ↔ layB g c home i j = true := by
  unfold layI
  rw [nn_of (show i < 600 by omega), nn_of (show j < 600 by omega), layB_iff]
  exact ⟨fun h => h.2.2, fun h => ⟨in_of hi (by omega), in_of hj (by omega), h⟩⟩
theorem l_bestTrackOf_27 {n : Nat} {h H : zH} {b c home S a : Nat} {g : Row} {a1 a2 : Int32} (hn : 600 ≤ n) (hb5 : 5 ≤ b) (hc : c < 4) (hs : SymL g) (ho : CoOk g c home S) (ha : a < 8) (he : (a1, a2) = zseq (btStep g c home S) (-1, -1) (8 * a)) (hH : Cur h b g H) : ∃ o : (Int32 × Int32) × zH, (o.1 = zseq (btStep g c home S) (-1, -1) (8 * (a + 1)) ∧ Cur h b g o.2) ∧ ∀ rec, L_X1_bestTrackOf_27 n (Int32.ofNat a) rec b (b + 15 + 2 * c) a1 a2 (Int32.ofNat (a + 1)) H = rec o.1.1 o.1.2 (Int32.ofNat a + 1) o.2 := by
  unfold L_X1_bestTrackOf_27
  refine zrun4 (G := fun (rec : Int32 → Int32 → Int32 → zH → Option (Int32 × zH)) (o : (Int32 × Int32) × zH) => rec o.1.1 o.1.2 (Int32.ofNat a + 1) o.2) (Q := fun o => o.1 = zseq (btStep g c home S) (-1, -1) (8 * (a + 1)) ∧ Cur h b g o.2) (fun j a1 a2 a5 a4 => ∃ i, a < i ∧ i + j = 8 ∧ a5 = Int32.ofNat i ∧ (a1, a2) = zseq (btStep g c home S) (-1, -1) (8 * a + i) ∧ Cur h b g a4) ?_ n (7 - a) _ _ _ _ ⟨a + 1, by omega, by omega, rfl, by rw [he]; exact (bt_skip (a + 1) (Nat.le_refl _) ha).symm, hH⟩ (by omega)
  intro j a1 a2 a5 a4 hP
  obtain ⟨i, hi, hj, rfl, he, hC⟩ := hP
  cases j with
  | zero =>
    refine Or.inl ⟨((a1, a2), a4), ⟨?_, hC⟩, fun r rec => ?_⟩
    · show (a1, a2) = _
      rw [he]
      exact congrArg _ (by omega)
    · rw [show i = 8 by omega, if_pos (by decide)]
      rfl
  | succ j =>
    have hi8 : i < 8 := by omega
    obtain ⟨H1, r, e1, hC1, hr⟩ := p_canLay (n := n) (x := Int32.ofNat a) (y := Int32.ofNat i) hn hb5 hc ho hC
    rw [layI_iff ha hi8] at hr
    have hz : ∀ {β : Type} {o : Option β}, zrc a4 b 1 o = o := by
      intro β o
      obtain ⟨h', rfl, _⟩ := Cur_mk hC
      exact gK_0
    have hz1 : ∀ {β : Type} {o : Option β}, zrc H1 b 1 o = o := by
      intro β o
      obtain ⟨h', rfl, _⟩ := Cur_mk hC1
      exact gK_0
    have hst : zseq (btStep g c home S) (-1, -1) (8 * a + (i + 1)) = if (if layB g c home a i then incUp g home S a i else -1) ≤ a2 then (a1, a2) else (10 * Int32.ofNat a + Int32.ofNat i, if layB g c home a i then incUp g home S a i else -1) := by
      rw [show zseq (btStep g c home S) (-1, -1) (8 * a + (i + 1)) = btStep g c home S (8 * a + i) (zseq (btStep g c home S) (-1, -1) (8 * a + i)) from rfl, ← he]
      unfold btStep
      rw [if_pos (by omega), show (8 * a + i) / 8 = a by omega, show (8 * a + i) % 8 = i by omega]
    refine Or.inr ?_
    rcases hr with ⟨hr1, hr2⟩ | ⟨hr1, hr2⟩
    · obtain ⟨H2, e2, hC2⟩ := p_incomeIfRaised (n := n) (x := Int32.ofNat a) (y := Int32.ofNat i) hn hb5 hc hs ho (in_of ha (by omega)) (in_of hi8 (by omega)) hC1
      rw [nn_of (show a < 600 by omega), nn_of (show i < 600 by omega)] at e2
      rw [if_pos hr2] at hst
      refine ⟨j, (zseq (btStep g c home S) (-1, -1) (8 * a + (i + 1))).1, (zseq (btStep g c home S) (-1, -1) (8 * a + (i + 1))).2, Int32.ofNat (i + 1), H2, by omega, ⟨i + 1, by omega, by omega, rfl, rfl, hC2⟩, fun r rec => ?_⟩
      simp only [zlet, zb2, if_neg (of_eq_false (ge8 hi8)), hz, hz1, e1, e2, hr1, Option.bind_some, if_neg (show ¬ (1 : Int32) = 0 by decide), i32_succ]
      rw [hst]
      split <;> rfl
    · rw [if_neg hr2] at hst
      refine ⟨j, (zseq (btStep g c home S) (-1, -1) (8 * a + (i + 1))).1, (zseq (btStep g c home S) (-1, -1) (8 * a + (i + 1))).2, Int32.ofNat (i + 1), H1, by omega, ⟨i + 1, by omega, by omega, rfl, rfl, hC1⟩, fun r rec => ?_⟩
      simp only [zlet, zb2, if_neg (of_eq_false (ge8 hi8)), hz, e1, hr1, Option.bind_some, if_true, i32_succ]
      rw [hst]
      split <;> rfl
theorem p_bestTrackOf {n : Nat} {h H : zH} {b c home S : Nat} {g : Row} (hn : 600 ≤ n) (hb5 : 5 ≤ b) (hc : c < 4) (hs : SymL g) (ho : CoOk g c home S) (hop : g (34 + 7 * c) ≠ 0) (hH : Cur h b g H) : ∃ H', f_X1_bestTrackOf n b (b + 15 + 2 * c) H = some (btS g c home S, H') ∧ Cur h b g H' := by
  rw [e_X1_bestTrackOf]
  unfold L_X1_bestTrackOf_7
  refine zwh4 (Q := fun r => ∃ H', r = some (btS g c home S, H') ∧ Cur h b g H') (fun j a1 a2 a3 a4 => ∃ a, a + j = 8 ∧ a3 = Int32.ofNat a ∧ (a1, a2) = zseq (btStep g c home S) (-1, -1) (8 * a) ∧ Cur h b g a4) ?_ n 8 _ _ _ _ ⟨0, rfl, rfl, rfl, hH⟩ (by omega)
  intro j a1 a2 a3 a4 hP
  obtain ⟨a, hj, rfl, he, hC⟩ := hP
  cases j with
  | zero =>
    refine Or.inl fun rec => ⟨a4, ?_, hC⟩
    rw [show a = 8 by omega] at he ⊢
    rw [if_pos (by decide)]
    unfold btS
    rw [← he]
  | succ j =>
    have ha : a < 8 := by omega
    obtain ⟨o, hQ, hL⟩ := l_bestTrackOf_27 (n := n) hn hb5 hc hs ho ha he hC
    refine Or.inr ⟨j, o.1.1, o.1.2, Int32.ofNat (a + 1), o.2, by omega, ⟨a + 1, by omega, rfl, hQ.1, hQ.2⟩, fun rec => ?_⟩
    rw [if_neg (of_eq_false (ge8 ha))]
    obtain ⟨h', rfl, _⟩ := Cur_mk hC
    simp only [zlet, gC_1 hc, if_neg hop, Option.bind_some, i32_succ, hL]
def worthS (g : Row) (p : Nat) : Int32 := zseq (fun k s => s + g (18 + 4 * p + k) * (20 + 10 * g (37 + 7 * k))) (g (14 + p)) 4
theorem p_worthOf {n : Nat} {h : zH} {b : Nat} {g : Row} {p : Int32} (hn : 600 ≤ n) (hp : vp_in p 4) : f_X1_worthOf n b p (put h b g) = some (worthS g p.toNatClampNeg) := by
  rw [e_X1_worthOf]
  simp only [gR_3, gA_m hp, Option.bind_some]
  unfold L_X1_worthOf_9 worthS
  refine zfor2 4 (fun k => zseq (fun k s => s + g (18 + 4 * p.toNatClampNeg + k) * (20 + 10 * g (37 + 7 * k))) (g (14 + p.toNatClampNeg)) k) (fun k => Int32.ofNat k) (fun k hk rec => ?_) (fun rec => ?_) (by omega)
  · simp only [zlet, if_neg (of_eq_false (ge4 hk)), gR_2, gA_c (in_of hk (by omega)), gC_0 hk, gA_h hk hp, gK_2 hk, p_price hk, Option.bind_some, nn_of (show k < 600 by omega), i32_succ]
    rfl
  · rw [if_pos (by decide)]
def prStep (g : Row) (p : Int32) (k : Nat) (s : Int32) : Int32 := if g (39 + 7 * k) = p then s ||| bitOf k else s
def presS (g : Row) (p : Int32) : Int32 := zseq (prStep g p) 0 4
theorem p_presidenciesOf {n : Nat} {h : zH} {b : Nat} {g : Row} {p : Int32} (hn : 600 ≤ n) : f_X1_presidenciesOf n b p (put h b g) = some (presS g p) := by
  rw [e_X1_presidenciesOf]
  unfold L_X1_presidenciesOf_4 presS
  refine zfor2 4 (fun k => zseq (prStep g p) 0 k) (fun k => Int32.ofNat k) (fun k hk rec => ?_) (fun rec => ?_) (by omega)
  · simp only [zlet, if_neg (of_eq_false (ge4 hk)), gR_2, gA_c (in_of hk (by omega)), gC_6 hk, Option.bind_some, nn_of (show k < 600 by omega), i32_succ]
    rw [show zseq (prStep g p) 0 (k + 1) = prStep g p k (zseq (prStep g p) 0 k) from rfl]
    unfold prStep
    split <;> rfl
  · rw [if_pos (by decide)]
def openS (g : Row) : Int32 := zseq (fun k s => s + (if g (34 + 7 * k) = 0 then 0 else 1)) 0 4
theorem p_openCompanies {n : Nat} {h : zH} {b : Nat} {g : Row} (hn : 600 ≤ n) : f_X1_openCompanies n b (put h b g) = some (openS g) := by
  rw [e_X1_openCompanies]
  unfold L_X1_openCompanies_4 openS
  refine zfor2 4 (fun k => zseq (fun k s => s + (if g (34 + 7 * k) = 0 then 0 else 1)) 0 k) (fun k => Int32.ofNat k) (fun k hk rec => ?_) (fun rec => ?_) (by omega)
  · simp only [zlet, if_neg (of_eq_false (ge4 hk)), gR_2, gA_c (in_of hk (by omega)), gC_1 hk, Option.bind_some, nn_of (show k < 600 by omega), i32_succ]
    rw [show ∀ s : Int32, zseq (fun k s => s + (if g (34 + 7 * k) = 0 then 0 else 1)) s (k + 1) = zseq (fun k s => s + (if g (34 + 7 * k) = 0 then 0 else 1)) s k + (if g (34 + 7 * k) = 0 then 0 else 1) from fun _ => rfl]
    split <;> rfl
  · rw [if_pos (by decide)]
def unsoldS (g : Row) : Int32 := zseq (fun k s => s + (if g (34 + 7 * k) = 0 then 0 else bank (fun p => g (18 + 4 * p + k)))) 0 4
theorem p_unsoldShares {n : Nat} {h : zH} {b : Nat} {g : Row} (hn : 600 ≤ n) : f_X1_unsoldShares n b (put h b g) = some (unsoldS g) := by
  rw [e_X1_unsoldShares]
  unfold L_X1_unsoldShares_4 unsoldS
  refine zfor2 4 (fun k => zseq (fun k s => s + (if g (34 + 7 * k) = 0 then 0 else bank (fun p => g (18 + 4 * p + k)))) 0 k) (fun k => Int32.ofNat k) (fun k hk rec => ?_) (fun rec => ?_) (by omega)
  · simp only [zlet, if_neg (of_eq_false (ge4 hk)), gR_2, gA_c (in_of hk (by omega)), gC_1 hk, gK_2 hk, p_bankShares hn hk, Option.bind_some, nn_of (show k < 600 by omega), i32_succ]
    rw [show ∀ s : Int32, zseq (fun k s => s + (if g (34 + 7 * k) = 0 then 0 else bank (fun p => g (18 + 4 * p + k)))) s (k + 1) = zseq (fun k s => s + (if g (34 + 7 * k) = 0 then 0 else bank (fun p => g (18 + 4 * p + k)))) s k + (if g (34 + 7 * k) = 0 then 0 else bank (fun p => g (18 + 4 * p + k))) from fun _ => rfl]
    split <;> rfl
  · rw [if_pos (by decide)]
def trStep (g : Row) (k : Nat) (s : Int32) : Int32 := if k / 8 < k % 8 then s + (if g (62 + 8 * (k / 8) + k % 8) ≤ 0 then 0 else 1) else s
def tracksS (g : Row) : Int32 := zseq (trStep g) 0 64
theorem tr_skip {g : Row} {a : Nat} {s : Int32} : ∀ i, i ≤ a + 1 → a < 8 → zseq (trStep g) s (8 * a + i) = zseq (trStep g) s (8 * a)
  | 0, _, _ => rfl
  | i + 1, h, ha => by
    show trStep g (8 * a + i) (zseq (trStep g) s (8 * a + i)) = _
    unfold trStep
    rw [if_neg (by omega)]
    exact tr_skip i (by omega) ha
theorem p_tracks {n : Nat} {h : zH} {b : Nat} {g : Row} (hn : 600 ≤ n) : f_X2_tracks n (b + 1) (put h b g) = some (tracksS g) := by
  rw [e_X2_tracks]
  unfold L_X2_tracks_4
  refine zind2 (fun j a1 a2 r => ∃ a, a + j = 8 ∧ a2 = Int32.ofNat a ∧ a1 = zseq (trStep g) 0 (8 * a) ∧ r = some (tracksS g)) ?_ n 8 _ _ _ ⟨0, rfl, rfl, rfl, rfl⟩ (by omega)
  intro j a1 a2 r hP
  obtain ⟨a, hj, rfl, he, rfl⟩ := hP
  cases j with
  | zero =>
    refine Or.inl fun rec => ?_
    rw [show a = 8 by omega] at he ⊢
    rw [if_pos (by decide), he]
    rfl
  | succ j =>
    have ha : a < 8 := by omega
    have inner : ∀ rec : Int32 → Int32 → Option Int32, L_X2_tracks_14 n (Int32.ofNat a) rec (put h b g) (b + 1) a1 (Int32.ofNat (a + 1)) = rec (zseq (trStep g) 0 (8 * (a + 1))) (Int32.ofNat a + 1) := by
      intro rec
      unfold L_X2_tracks_14
      refine zind2 (fun j a1 a3 r => ∃ i, a < i ∧ i + j = 8 ∧ a3 = Int32.ofNat i ∧ a1 = zseq (trStep g) 0 (8 * a + i) ∧ r = rec (zseq (trStep g) 0 (8 * (a + 1))) (Int32.ofNat a + 1)) ?_ n (7 - a) _ _ _ ⟨a + 1, by omega, by omega, rfl, by rw [he]; exact (tr_skip (a + 1) (Nat.le_refl _) ha).symm, rfl⟩ (by omega)
      intro j a1 a3 r hP
      obtain ⟨i, hi, hj, rfl, he, rfl⟩ := hP
      cases j with
      | zero =>
        refine Or.inl fun rec' => ?_
        rw [show i = 8 by omega] at he ⊢
        rw [if_pos (by decide), he]
        rfl
      | succ j =>
        have hi8 : i < 8 := by omega
        have hst : zseq (trStep g) 0 (8 * a + (i + 1)) = a1 + (if g (62 + 8 * a + i) ≤ 0 then 0 else 1) := by
          rw [show zseq (trStep g) 0 (8 * a + (i + 1)) = trStep g (8 * a + i) (zseq (trStep g) 0 (8 * a + i)) from rfl, ← he]
          unfold trStep
          rw [if_pos (by omega), show (8 * a + i) / 8 = a by omega, show (8 * a + i) % 8 = i by omega]
        refine Or.inr ⟨j, zseq (trStep g) 0 (8 * a + (i + 1)), Int32.ofNat (i + 1), by omega, ⟨i + 1, by omega, by omega, rfl, rfl, rfl⟩, fun rec' => ?_⟩
        simp only [zlet, if_neg (of_eq_false (ge8 hi8)), gL_1, gA_r (in_of ha (by omega)), nn_of (show a < 600 by omega), gA_l ha (in_of hi8 (by omega)), nn_of (show i < 600 by omega), Option.bind_some, i32_succ]
        rw [hst]
        split <;> rfl
    refine Or.inr ⟨j, _, _, by omega, ⟨a + 1, by omega, rfl, rfl, rfl⟩, fun rec => ?_⟩
    rw [if_neg (of_eq_false (ge8 ha))]
    simp only [zlet, i32_succ, inner]
def numS (g : Row) (w : Int32) : Int32 := if w = 0 then g 0 else if w = 1 then g 1 else if w = 2 then g 2 else if w = 3 then (if g 3 = 0 then 0 else 1) else if w = 4 then nextC g else if w = 5 then g 5 else if w = 6 then g 6 else if w = 7 then tracksS g else if w = 8 then openS g else g 7
theorem p_number {n : Nat} {h : zH} {b : Nat} {g : Row} {w : Int32} (hn : 600 ≤ n) (ho : NextOk g) : f_X1_number n b w (put h b g) = some (numS g w) := by
  unfold f_X1_number numS
  simp only [gI_8, gI_9, gI_10, gI_11, gI_12, gI_13, gI_14, gK_0, gR_1, gK_1, p_nextCompany ho.1, p_tracks hn, p_openCompanies hn, Option.bind_some]
  repeat' split
  all_goals first | rfl | contradiction
def cnumS (g : Row) (c : Nat) (w : Int32) : Int32 := if w = 1 then g (35 + 7 * c) else if w = 2 then g (36 + 7 * c) else if w = 3 then 20 + 10 * g (37 + 7 * c) else if w = 4 then g (38 + 7 * c) else if w = 5 then g (39 + 7 * c) else if w = 6 then bank (fun p => g (18 + 4 * p + c)) else g (40 + 7 * c)
theorem p_cnumber {n : Nat} {h : zH} {b c : Nat} {g : Row} {w : Int32} (hn : 600 ≤ n) (hc : c < 4) : f_X0_number n (b + 15 + 2 * c) w (put h b g) = some (cnumS g c w) := by
  unfold f_X0_number cnumS
  simp only [gC_2 hc, gC_3 hc, gC_5 hc, gC_6 hc, gC_7 hc, gK_2 hc, p_price hc, p_bankShares hn hc, Option.bind_some]
  repeat' split
  all_goals first | rfl | contradiction
theorem p_canMerge {n : Nat} {h : zH} {b : Nat} {g : Row} {x y : Int32} (hn : 600 ≤ n) (hx : vp_in x 4) (hy : vp_in y 4) : f_X1_canMerge n b x y (put h b g) = some (if g 3 = 0 ∧ ¬ g (34 + 7 * x.toNatClampNeg) = 0 ∧ ¬ g (34 + 7 * y.toNatClampNeg) = 0 ∧ g (39 + 7 * x.toNatClampNeg) = g 1 ∧ g (39 + 7 * y.toNatClampNeg) = g 1 ∧ ¬ bank (fun p => g (18 + 4 * p + x.toNatClampNeg)) < exch (fun p => g (18 + 4 * p + y.toNatClampNeg)) then 1 else 0) := by
  have hx4 := vp_lt hx
  have hy4 := vp_lt hy
  unfold f_X1_canMerge
  simp only [zlet, gI_11, gR_2, gA_c hx, gA_c hy, gC_1 hx4, gC_1 hy4, gC_6 hx4, gC_6 hy4, gI_9, gK_2 hx4, gK_2 hy4, p_bankShares hn hx4, p_exchangedShares hn hy4, Option.bind_some]
  by_cases h1 : g 3 = 0
  · by_cases h2 : g (34 + 7 * x.toNatClampNeg) = 0
    · simp only [h1, h2, if_true, if_false, not_true, false_and, and_false]
    · by_cases h3 : g (34 + 7 * y.toNatClampNeg) = 0
      · simp only [h1, h2, h3, if_true, if_false, not_true, false_and, and_false]
      · by_cases h4 : g (39 + 7 * x.toNatClampNeg) = g 1
        · by_cases h5 : g (39 + 7 * y.toNatClampNeg) = g 1
          · by_cases h6 : bank (fun p => g (18 + 4 * p + x.toNatClampNeg)) < exch (fun p => g (18 + 4 * p + y.toNatClampNeg))
            · simp only [h1, h2, h3, h4, h5, h6, if_true, if_false, not_true, false_and, and_false]
            · simp only [h1, h2, h3, h4, h5, h6, if_true, if_false, not_true, not_false_iff, and_self]
          · simp only [h1, h2, h3, h4, h5, if_true, if_false, not_true, false_and, and_false]
        · simp only [h1, h2, h3, h4, if_true, if_false, not_true, false_and, and_false]
  · simp only [h1, if_false, false_and]
def rClear (g : Row) : Row := zseq (fun t g => rFill (fun i => 62 + 8 * t + i) 0 8 g) g 8
theorem p_clearTracks {n : Nat} {h : zH} {b : Nat} {g : Row} (hn : 600 ≤ n) : f_X2_clearTracks n (b + 1) (put h b g) = some (put h b (rClear g)) := by
  rw [e_X2_clearTracks]
  unfold L_X2_clearTracks_2 rClear
  refine zfor2 8 (fun k => Int32.ofNat k) (fun k => put h b (zseq (fun t g => rFill (fun i => 62 + 8 * t + i) 0 8 g) g k)) (fun k hk rec => ?_) (fun rec => ?_) (by omega)
  · simp only [zlet, if_neg (of_eq_false (ge8 hk)), gL_1, gA_r (in_of hk (by omega)), nn_of (show k < 600 by omega), p_fillLevel hn hk, Option.bind_some, i32_succ]
    rfl
  · rw [if_pos (by decide)]
def rReset0 (g : Row) : Row := zseq (fun k g => upd (rClose g k) (10 + k) 0) g 4
def rReset (g : Row) (m : Int32) : Row := upd (upd (upd (upd (upd (upd (upd (upd (upd (upd (rFill (fun p => 14 + p) 500 4 (rReset0 (rClear g))) 9 0) 4 0) 8 0) 0 m) 1 0) 2 0) 3 0) 5 0) 6 0) 7 0
theorem p_reset {n : Nat} {h : zH} {b : Nat} {g : Row} {m : Int32} (hn : 600 ≤ n) : f_X1_reset n b m (put h b g) = some (put h b (rReset g m)) := by
  rw [e_X1_reset]
  simp only [gR_1, gK_1, p_clearTracks hn, Option.bind_some]
  unfold L_X1_reset_9 rReset
  generalize rClear g = g
  refine zfor2 4 (fun k => Int32.ofNat k) (fun k => put h b (zseq (fun k g => upd (rClose g k) (10 + k) 0) g k)) (fun k hk rec => ?_) (fun rec => ?_) (by omega)
  · simp only [zlet, if_neg (of_eq_false (ge4 hk)), gR_2, gR_4, gA_c (in_of hk (by omega)), nn_of (show k < 600 by omega), gK_2 hk, p_close hn hk, sA_o (in_of hk (show 4 < 600 by omega)), Option.bind_some, i32_succ]
    rfl
  · rw [if_pos (by decide)]
    simp only [gR_3, p_fillCash hn, sI_5, sI_6, sI_7, sI_8, sI_9, sI_10, sI_11, sI_12, sI_13, sI_14, gK_0, Option.bind_some]
    rfl
theorem zgI_at {X Y : zH} {a ci k : Nat} (e : X a = Y a) : zgI X a ci k = zgI Y a ci k := by
  unfold zgI zO
  rw [e]
theorem zgR_at {X Y : zH} {a ci k : Nat} (e : X a = Y a) : zgR X a ci k = zgR Y a ci k := by
  unfold zgR zO
  rw [e]
theorem zar_at {X Y : zH} {a c : Nat} {i : Int32} (e : X a = Y a) : zar X a c i = zar Y a c i := by
  unfold zar zRA
  rw [e]
theorem zai_at {X Y : zH} {a : Nat} {i : Int32} (e : X a = Y a) : zai X a i = zai Y a i := by
  unfold zai zIA
  rw [e]
theorem zrc_at {β : Type} {X Y : zH} {a ci : Nat} {o : Option β} (e : X a = Y a) : zrc X a ci o = zrc Y a ci o := by
  unfold zrc zO
  rw [e]
theorem cgI_5 {h : zH} {b B : Nat} {g r : Row} (hd : b + 23 ≤ B ∨ B + 23 ≤ b) : zgI (put (put h b g) B r) b 1 5 = some (g 9) := (zgI_at (put_out (by omega))).trans gI_5
theorem cgI_6 {h : zH} {b B : Nat} {g r : Row} (hd : b + 23 ≤ B ∨ B + 23 ≤ b) : zgI (put (put h b g) B r) b 1 6 = some (g 4) := (zgI_at (put_out (by omega))).trans gI_6
theorem cgI_7 {h : zH} {b B : Nat} {g r : Row} (hd : b + 23 ≤ B ∨ B + 23 ≤ b) : zgI (put (put h b g) B r) b 1 7 = some (g 8) := (zgI_at (put_out (by omega))).trans gI_7
theorem cgI_8 {h : zH} {b B : Nat} {g r : Row} (hd : b + 23 ≤ B ∨ B + 23 ≤ b) : zgI (put (put h b g) B r) b 1 8 = some (g 0) := (zgI_at (put_out (by omega))).trans gI_8
theorem cgI_9 {h : zH} {b B : Nat} {g r : Row} (hd : b + 23 ≤ B ∨ B + 23 ≤ b) : zgI (put (put h b g) B r) b 1 9 = some (g 1) := (zgI_at (put_out (by omega))).trans gI_9
theorem cgI_10 {h : zH} {b B : Nat} {g r : Row} (hd : b + 23 ≤ B ∨ B + 23 ≤ b) : zgI (put (put h b g) B r) b 1 10 = some (g 2) := (zgI_at (put_out (by omega))).trans gI_10
theorem cgI_11 {h : zH} {b B : Nat} {g r : Row} (hd : b + 23 ≤ B ∨ B + 23 ≤ b) : zgI (put (put h b g) B r) b 1 11 = some (g 3) := (zgI_at (put_out (by omega))).trans gI_11
theorem cgI_12 {h : zH} {b B : Nat} {g r : Row} (hd : b + 23 ≤ B ∨ B + 23 ≤ b) : zgI (put (put h b g) B r) b 1 12 = some (g 5) := (zgI_at (put_out (by omega))).trans gI_12
theorem cgI_13 {h : zH} {b B : Nat} {g r : Row} (hd : b + 23 ≤ B ∨ B + 23 ≤ b) : zgI (put (put h b g) B r) b 1 13 = some (g 6) := (zgI_at (put_out (by omega))).trans gI_13
theorem cgI_14 {h : zH} {b B : Nat} {g r : Row} (hd : b + 23 ≤ B ∨ B + 23 ≤ b) : zgI (put (put h b g) B r) b 1 14 = some (g 7) := (zgI_at (put_out (by omega))).trans gI_14
theorem cgR_1 {h : zH} {b B : Nat} {g r : Row} (hd : b + 23 ≤ B ∨ B + 23 ≤ b) : zgR (put (put h b g) B r) b 1 1 = some (b + 1) := (zgR_at (put_out (by omega))).trans gR_1
theorem cgR_2 {h : zH} {b B : Nat} {g r : Row} (hd : b + 23 ≤ B ∨ B + 23 ≤ b) : zgR (put (put h b g) B r) b 1 2 = some (b + 12) := (zgR_at (put_out (by omega))).trans gR_2
theorem cgR_3 {h : zH} {b B : Nat} {g r : Row} (hd : b + 23 ≤ B ∨ B + 23 ≤ b) : zgR (put (put h b g) B r) b 1 3 = some (b + 13) := (zgR_at (put_out (by omega))).trans gR_3
theorem cgR_4 {h : zH} {b B : Nat} {g r : Row} (hd : b + 23 ≤ B ∨ B + 23 ≤ b) : zgR (put (put h b g) B r) b 1 4 = some (b + 14) := (zgR_at (put_out (by omega))).trans gR_4
theorem cgL_0 {h : zH} {b B : Nat} {g r : Row} (hd : b + 23 ≤ B ∨ B + 23 ≤ b) : zgR (put (put h b g) B r) (b + 1) 2 0 = some (b + 2) := (zgR_at (put_out (by omega))).trans gL_0
theorem cgL_1 {h : zH} {b B : Nat} {g r : Row} (hd : b + 23 ≤ B ∨ B + 23 ≤ b) : zgR (put (put h b g) B r) (b + 1) 2 1 = some (b + 3) := (zgR_at (put_out (by omega))).trans gL_1
theorem cgA_r {h : zH} {b B : Nat} {g r : Row} {i : Int32} (hd : b + 23 ≤ B ∨ B + 23 ≤ b) (hi : vp_in i 8) : zar (put (put h b g) B r) (b + 3) 2 i = some (b + 4 + i.toNatClampNeg) := (zar_at (put_out (by omega))).trans (gA_r hi)
theorem cgA_c {h : zH} {b B : Nat} {g r : Row} {i : Int32} (hd : b + 23 ≤ B ∨ B + 23 ≤ b) (hi : vp_in i 4) : zar (put (put h b g) B r) (b + 12) 3 i = some (b + 15 + 2 * i.toNatClampNeg) := (zar_at (put_out (by omega))).trans (gA_c hi)
theorem cgC_0 {h : zH} {b B : Nat} {g r : Row} {c : Nat} (hd : b + 23 ≤ B ∨ B + 23 ≤ b) (hc : c < 4) : zgR (put (put h b g) B r) (b + 15 + 2 * c) 0 0 = some (b + 16 + 2 * c) := (zgR_at (put_out (by omega))).trans (gC_0 hc)
theorem cgC_1 {h : zH} {b B : Nat} {g r : Row} {c : Nat} (hd : b + 23 ≤ B ∨ B + 23 ≤ b) (hc : c < 4) : zgI (put (put h b g) B r) (b + 15 + 2 * c) 0 1 = some (g (34 + 7 * c)) := (zgI_at (put_out (by omega))).trans (gC_1 hc)
theorem cgC_2 {h : zH} {b B : Nat} {g r : Row} {c : Nat} (hd : b + 23 ≤ B ∨ B + 23 ≤ b) (hc : c < 4) : zgI (put (put h b g) B r) (b + 15 + 2 * c) 0 2 = some (g (35 + 7 * c)) := (zgI_at (put_out (by omega))).trans (gC_2 hc)
theorem cgC_3 {h : zH} {b B : Nat} {g r : Row} {c : Nat} (hd : b + 23 ≤ B ∨ B + 23 ≤ b) (hc : c < 4) : zgI (put (put h b g) B r) (b + 15 + 2 * c) 0 3 = some (g (36 + 7 * c)) := (zgI_at (put_out (by omega))).trans (gC_3 hc)
theorem cgC_4 {h : zH} {b B : Nat} {g r : Row} {c : Nat} (hd : b + 23 ≤ B ∨ B + 23 ≤ b) (hc : c < 4) : zgI (put (put h b g) B r) (b + 15 + 2 * c) 0 4 = some (g (37 + 7 * c)) := (zgI_at (put_out (by omega))).trans (gC_4 hc)
theorem cgC_5 {h : zH} {b B : Nat} {g r : Row} {c : Nat} (hd : b + 23 ≤ B ∨ B + 23 ≤ b) (hc : c < 4) : zgI (put (put h b g) B r) (b + 15 + 2 * c) 0 5 = some (g (38 + 7 * c)) := (zgI_at (put_out (by omega))).trans (gC_5 hc)
theorem cgC_6 {h : zH} {b B : Nat} {g r : Row} {c : Nat} (hd : b + 23 ≤ B ∨ B + 23 ≤ b) (hc : c < 4) : zgI (put (put h b g) B r) (b + 15 + 2 * c) 0 6 = some (g (39 + 7 * c)) := (zgI_at (put_out (by omega))).trans (gC_6 hc)
theorem cgC_7 {h : zH} {b B : Nat} {g r : Row} {c : Nat} (hd : b + 23 ≤ B ∨ B + 23 ≤ b) (hc : c < 4) : zgI (put (put h b g) B r) (b + 15 + 2 * c) 0 7 = some (g (40 + 7 * c)) := (zgI_at (put_out (by omega))).trans (gC_7 hc)
theorem gcell_congr {b j : Nat} {g g' : Row} (hj : j < 23) (h : ∀ k, gsees j k → g k = g' k) : gcell b g j = gcell b g' j := by
  unfold gsees at h
  unfold gcell gobj cobj
  by_cases h0 : j = 0
  · simp only [if_pos h0] at h ⊢
    rw [h 0 (by omega), h 1 (by omega), h 2 (by omega), h 3 (by omega), h 4 (by omega), h 5 (by omega), h 6 (by omega), h 7 (by omega), h 8 (by omega), h 9 (by omega)]
  · simp only [if_neg h0] at h ⊢
    by_cases h1 : j = 1
    · simp only [if_pos h1]
    · simp only [if_neg h1]
      by_cases h2 : j = 2
      · simp only [if_pos h2] at h ⊢
        congr 5
        exact tr_congr fun i hi => h _ (by omega)
      · simp only [if_neg h2] at h ⊢
        by_cases h3 : j = 3
        · simp only [if_pos h3]
        · simp only [if_neg h3]
          by_cases h4 : j < 12
          · simp only [if_pos h4]
            simp only [if_neg (show ¬ (j = 1 ∨ j = 3 ∨ j = 12) by omega), if_pos h4] at h
            congr 5
            exact tr_congr fun i hi => h _ (by omega)
          · simp only [if_neg h4]
            by_cases h5 : j = 12
            · simp only [if_pos h5]
            · simp only [if_neg h5]
              simp only [if_neg (show ¬ (j = 1 ∨ j = 3 ∨ j = 12) by omega), if_neg h4] at h
              by_cases h6 : j = 13
              · simp only [if_pos h6] at h ⊢
                congr 5
                exact tr_congr fun i hi => h _ (by omega)
              · simp only [if_neg h6] at h ⊢
                by_cases h7 : j = 14
                · simp only [if_pos h7] at h ⊢
                  congr 5
                  exact tr_congr fun i hi => h _ (by omega)
                · simp only [if_neg h7] at h ⊢
                  by_cases h8 : (j - 15) % 2 = 0
                  · simp only [if_pos h8] at h ⊢
                    rw [h (34 + 7 * ((j - 15) / 2)) (by omega), h (35 + 7 * ((j - 15) / 2)) (by omega), h (36 + 7 * ((j - 15) / 2)) (by omega), h (37 + 7 * ((j - 15) / 2)) (by omega), h (38 + 7 * ((j - 15) / 2)) (by omega), h (39 + 7 * ((j - 15) / 2)) (by omega), h (40 + 7 * ((j - 15) / 2)) (by omega)]
                  · simp only [if_neg h8] at h ⊢
                    congr 5
                    exact tr_congr fun i hi => h _ (by omega)
theorem gsees_lt {j k : Nat} (hj : j < 23) (h : gsees j k) : k < 134 := by
  have := gsees_j hj h
  omega
theorem put_congr {h : zH} {b : Nat} {g g' : Row} (e : ∀ k, k < 134 → g k = g' k) : put h b g = put h b g' := by
  funext i
  unfold put
  by_cases h1 : b ≤ i ∧ i < b + 23
  · rw [if_pos h1, if_pos h1]
    exact gcell_congr (by omega) fun k hk => e k (gsees_lt (by omega) hk)
  · rw [if_neg h1, if_neg h1]
theorem put_self {X : zH} {b : Nat} {g : Row} (e : ∀ j, j < 23 → X (b + j) = gcell b g j) : put X b g = X := by
  funext i
  unfold put
  by_cases h1 : b ≤ i ∧ i < b + 23
  · rw [if_pos h1, ← e (i - b) (by omega)]
    exact congrArg X (by omega)
  · rw [if_neg h1]
theorem cp_cell {X : zH} {a d n : Nat} {f f1 : Row} {N : Int32} (h1 : X a = some (.inl (0, n, .inl (tr n f)))) (h2 : X d = some (.inl (0, n, .inl (tr n f1)))) (hN : N = Int32.ofNat n) (hn : n < 599) : zcp X a 0 d 0 N = some (zset X d (.inl (0, n, .inl (tr n f)))) := by
  subst hN
  unfold zcp
  rw [zIA_some h1, zIA_some h2]
  have e : (Int32.ofNat n).toNatClampNeg = n := nn_of (by omega)
  have e2 : ¬ Int32.ofNat n < 0 := fun q => in_of (k := n) (n := n + 1) (by omega) (by omega) (Or.inl q)
  simp only [e, nn0]
  rw [if_neg (by intro q; rcases q with q | q | q | q | q; exact absurd q (by decide); exact absurd q (by decide); exact e2 q; omega; omega)]
  congr 6
  funext k
  unfold va_cpy tr
  by_cases hk : k < n
  · rw [if_pos (by omega), if_pos hk]
    rw [if_pos (by omega)]
    exact congrArg f (by omega)
  · rw [if_neg (by omega), if_neg hk, if_neg hk]
def mix2 (P : Nat → Bool) (g r : Row) : Row := fun k => if P k then g k else r k
theorem mix2_set {h : zH} {B j n : Nat} {g r : Row} {P : Nat → Bool} {f : Row} (hj : j < 23) (hP : ∀ k, gsees j k → P k = true) (hN : ∀ j' k, j' < 23 → j' ≠ j → gsees j' k → P k = false) (hc : gcell B g j = some (.inl (0, n, .inl (tr n f)))) : zset (put h B r) (B + j) (.inl (0, n, .inl (tr n f))) = put h B (mix2 P g r) := by
  refine put_set hj ?_ (fun j' h1 h2 => gcell_congr h1 fun k hk => ?_)
  · rw [← hc]
    refine gcell_congr hj fun k hk => ?_
    unfold mix2
    rw [if_pos (hP k hk)]
  · unfold mix2
    rw [if_neg (by rw [hN j' k h1 h2 hk]; decide)]
theorem cpW {h : zH} {b B : Nat} {g r : Row} (hd : b + 23 ≤ B ∨ B + 23 ≤ b) : zcp (put (put h b g) B r) (b + 2) 0 (B + 2) 0 8 = some (put (put h b g) B (mix2 (fun k => decide (126 ≤ k ∧ k < 134)) g r)) := by
  rw [cp_cell (N := 8) (X := (put (put h b g) B r)) ((put_out (by omega)).trans put_2) put_2 rfl (by omega)]
  skip
  refine congrArg some (mix2_set (j := 2) (by omega) (fun k hk => ?_) (fun j' k h1 h2 hk => ?_) ?_)
  · have := gsees_j (by omega) hk
    exact decide_eq_true (by omega)
  · have := gsees_j h1 hk
    exact decide_eq_false (by omega)
  · exact (put_in (h := h) (b := B) (g := g) (j := 2) (by omega)).symm.trans (put_2)
theorem cpM {h : zH} {b B : Nat} {g r : Row} (hd : b + 23 ≤ B ∨ B + 23 ≤ b) : zcp (put (put h b g) B r) (b + 13) 0 (B + 13) 0 4 = some (put (put h b g) B (mix2 (fun k => decide (14 ≤ k ∧ k < 18)) g r)) := by
  rw [cp_cell (N := 4) (X := (put (put h b g) B r)) ((put_out (by omega)).trans put_13) put_13 rfl (by omega)]
  skip
  refine congrArg some (mix2_set (j := 13) (by omega) (fun k hk => ?_) (fun j' k h1 h2 hk => ?_) ?_)
  · have := gsees_j (by omega) hk
    exact decide_eq_true (by omega)
  · have := gsees_j h1 hk
    exact decide_eq_false (by omega)
  · exact (put_in (h := h) (b := B) (g := g) (j := 13) (by omega)).symm.trans (put_13)
theorem cpO {h : zH} {b B : Nat} {g r : Row} (hd : b + 23 ≤ B ∨ B + 23 ≤ b) : zcp (put (put h b g) B r) (b + 14) 0 (B + 14) 0 4 = some (put (put h b g) B (mix2 (fun k => decide (10 ≤ k ∧ k < 14)) g r)) := by
  rw [cp_cell (N := 4) (X := (put (put h b g) B r)) ((put_out (by omega)).trans put_14) put_14 rfl (by omega)]
  skip
  refine congrArg some (mix2_set (j := 14) (by omega) (fun k hk => ?_) (fun j' k h1 h2 hk => ?_) ?_)
  · have := gsees_j (by omega) hk
    exact decide_eq_true (by omega)
  · have := gsees_j h1 hk
    exact decide_eq_false (by omega)
  · exact (put_in (h := h) (b := B) (g := g) (j := 14) (by omega)).symm.trans (put_14)
theorem cpLv {h : zH} {b B : Nat} {g r : Row} {t : Nat} (hd : b + 23 ≤ B ∨ B + 23 ≤ b) (ht : t < 8) : zcp (put (put h b g) B r) (b + 4 + t) 0 (B + 4 + t) 0 8 = some (put (put h b g) B (mix2 (fun k => decide (62 + 8 * t ≤ k ∧ k < 70 + 8 * t)) g r)) := by
  rw [cp_cell (N := 8) (X := (put (put h b g) B r)) ((put_out (by omega)).trans (put_4 ht)) (put_4 ht) rfl (by omega)]
  rw [show B + 4 + t = B + (4 + t) by omega]
  refine congrArg some (mix2_set (j := 4 + t) (by omega) (fun k hk => ?_) (fun j' k h1 h2 hk => ?_) ?_)
  · have := gsees_j (by omega) hk
    exact decide_eq_true (by omega)
  · have := gsees_j h1 hk
    exact decide_eq_false (by omega)
  · exact (put_in (h := h) (b := B) (g := g) (j := 4 + t) (by omega)).symm.trans (by rw [show B + (4 + t) = B + 4 + t by omega]; exact put_4 ht)
theorem cpH {h : zH} {b B : Nat} {g r : Row} {c : Nat} (hd : b + 23 ≤ B ∨ B + 23 ≤ b) (hc : c < 4) : zcp (put (put h b g) B r) (b + 16 + 2 * c) 0 (B + 16 + 2 * c) 0 4 = some (put (put h b g) B (mix2 (fun k => decide (18 ≤ k ∧ k < 34 ∧ (k - 18) % 4 = c)) g r)) := by
  rw [cp_cell (N := 4) (X := (put (put h b g) B r)) ((put_out (by omega)).trans (put_16 hc)) (put_16 hc) rfl (by omega)]
  rw [show B + 16 + 2 * c = B + (16 + 2 * c) by omega]
  refine congrArg some (mix2_set (j := 16 + 2 * c) (by omega) (fun k hk => ?_) (fun j' k h1 h2 hk => ?_) ?_)
  · have := gsees_j (by omega) hk
    exact decide_eq_true (by omega)
  · have := gsees_j h1 hk
    exact decide_eq_false (by omega)
  · exact (put_in (h := h) (b := B) (g := g) (j := 16 + 2 * c) (by omega)).symm.trans (by rw [show B + (16 + 2 * c) = B + 16 + 2 * c by omega]; exact put_16 hc)
def lvCp (g : Row) (t : Nat) (r : Row) : Row := mix2 (fun k => decide (62 + 8 * t ≤ k ∧ k < 70 + 8 * t)) g r
def landCp (g r : Row) : Row := zseq (lvCp g) (mix2 (fun k => decide (126 ≤ k ∧ k < 134)) g r) 8
def coCp (g : Row) (c : Nat) (r : Row) : Row := upd (upd (upd (upd (upd (upd (upd (mix2 (fun k => decide (18 ≤ k ∧ k < 34 ∧ (k - 18) % 4 = c)) g r) (34 + 7 * c) (g (34 + 7 * c))) (35 + 7 * c) (g (35 + 7 * c))) (36 + 7 * c) (g (36 + 7 * c))) (37 + 7 * c) (g (37 + 7 * c))) (38 + 7 * c) (g (38 + 7 * c))) (39 + 7 * c) (g (39 + 7 * c))) (40 + 7 * c) (g (40 + 7 * c))
def gameCp (g r : Row) : Row := upd (upd (upd (upd (upd (upd (upd (upd (upd (upd (mix2 (fun k => decide (10 ≤ k ∧ k < 14)) g (mix2 (fun k => decide (14 ≤ k ∧ k < 18)) g (zseq (coCp g) (landCp g r) 4))) 9 (g 9)) 4 (g 4)) 8 (g 8)) 0 (g 0)) 1 (g 1)) 2 (g 2)) 3 (g 3)) 5 (g 5)) 6 (g 6)) 7 (g 7)
theorem mix2_cp {P : Nat → Bool} {T : Nat → Prop} {g r : Row} (h : ∀ k, T k → r k = g k) : ∀ k, T k ∨ P k = true → mix2 P g r k = g k := by
  intro k hk
  unfold mix2
  by_cases hP : P k = true
  · rw [if_pos hP]
  · rw [if_neg hP]
    exact h k (hk.resolve_right hP)
theorem upd_cp {j : Nat} {T : Nat → Prop} {g r : Row} (h : ∀ k, T k → r k = g k) : ∀ k, T k ∨ k = j → upd r j (g j) k = g k := by
  intro k hk
  unfold upd
  by_cases e : k = j
  · rw [if_pos e, e]
  · rw [if_neg e]
    exact h k (hk.resolve_right e)
theorem gameCp_eq {g r : Row} : ∀ k, k < 134 → gameCp g r k = g k := by
  have h1 : ∀ k, 126 ≤ k ∧ k < 134 → mix2 (fun k => decide (126 ≤ k ∧ k < 134)) g r k = g k := fun k hk => mix2_cp (T := fun _ => False) (fun _ c => c.elim) k (Or.inr (decide_eq_true hk))
  have h2 : ∀ k, 62 ≤ k ∧ k < 134 → landCp g r k = g k := by
    have key := zseq_ok (N := 8) (P := fun t (q : Row) => ∀ k, (126 ≤ k ∧ k < 134) ∨ (62 ≤ k ∧ k < 62 + 8 * t) → q k = g k) (step := lvCp g) (s := mix2 (fun k => decide (126 ≤ k ∧ k < 134)) g r) (fun k hk => h1 k (by omega)) (fun t q ht hq k hk => mix2_cp hq k (by
      by_cases e : (126 ≤ k ∧ k < 134) ∨ (62 ≤ k ∧ k < 62 + 8 * t)
      · exact Or.inl e
      · exact Or.inr (decide_eq_true (by omega)))) 8 (by omega)
    intro k hk
    exact key k (by omega)
  have h3 : ∀ k, 18 ≤ k ∧ k < 134 → zseq (coCp g) (landCp g r) 4 k = g k := by
    have key := zseq_ok (N := 4) (P := fun c (q : Row) => ∀ k, (62 ≤ k ∧ k < 134) ∨ (34 ≤ k ∧ k < 34 + 7 * c) ∨ (18 ≤ k ∧ k < 34 ∧ (k - 18) % 4 < c) → q k = g k) (step := coCp g) (s := landCp g r) (fun k hk => h2 k (by omega)) (fun c q hc hq k hk => by
      unfold coCp
      have a0 := mix2_cp (P := fun k => decide (18 ≤ k ∧ k < 34 ∧ (k - 18) % 4 = c)) hq
      refine upd_cp (upd_cp (upd_cp (upd_cp (upd_cp (upd_cp (upd_cp a0)))))) k ?_
      by_cases e1 : (62 ≤ k ∧ k < 134) ∨ (34 ≤ k ∧ k < 34 + 7 * c) ∨ (18 ≤ k ∧ k < 34 ∧ (k - 18) % 4 < c)
      · exact Or.inl (Or.inl (Or.inl (Or.inl (Or.inl (Or.inl (Or.inl (Or.inl e1)))))))
      · by_cases e2 : 18 ≤ k ∧ k < 34 ∧ (k - 18) % 4 = c
        · exact Or.inl (Or.inl (Or.inl (Or.inl (Or.inl (Or.inl (Or.inl (Or.inr (decide_eq_true e2))))))))
        · omega) 4 (by omega)
    intro k hk
    exact key k (by omega)
  intro k hk
  unfold gameCp
  refine upd_cp (upd_cp (upd_cp (upd_cp (upd_cp (upd_cp (upd_cp (upd_cp (upd_cp (upd_cp (mix2_cp (mix2_cp h3))))))))))) k ?_
  by_cases e1 : 18 ≤ k ∧ k < 134
  · exact Or.inl (Or.inl (Or.inl (Or.inl (Or.inl (Or.inl (Or.inl (Or.inl (Or.inl (Or.inl (Or.inl (Or.inl e1)))))))))))
  · by_cases e2 : 14 ≤ k ∧ k < 18
    · exact Or.inl (Or.inl (Or.inl (Or.inl (Or.inl (Or.inl (Or.inl (Or.inl (Or.inl (Or.inl (Or.inl (Or.inr (decide_eq_true e2))))))))))))
    · by_cases e3 : 10 ≤ k ∧ k < 14
      · exact Or.inl (Or.inl (Or.inl (Or.inl (Or.inl (Or.inl (Or.inl (Or.inl (Or.inl (Or.inl (Or.inr (decide_eq_true e3)))))))))))
      · omega
def Bools (g : Row) : Prop := (g 3 = 0 ∨ g 3 = 1) ∧ (g 8 = 0 ∨ g 8 = 1) ∧ ∀ c, c < 4 → g (34 + 7 * c) = 0 ∨ g (34 + 7 * c) = 1
theorem p_landCopy {n : Nat} {h : zH} {b B : Nat} {g r : Row} (hn : 600 ≤ n) (hd : b + 23 ≤ B ∨ B + 23 ≤ b) : f_X2_copyFrom n (B + 1) (b + 1) (put (put h b g) B r) = some (put (put h b g) B (landCp g r)) := by
  rw [e_X2_copyFrom]
  simp only [cgL_0 hd, gL_0, cpW hd, Option.bind_some]
  unfold L_X2_copyFrom_17 landCp
  refine zfor2 8 (fun k => Int32.ofNat k) (fun k => put (put h b g) B (zseq (lvCp g) (mix2 (fun k => decide (126 ≤ k ∧ k < 134)) g r) k)) (fun k hk rec => ?_) (fun rec => ?_) (by omega)
  · simp only [zlet, if_neg (of_eq_false (ge8 hk)), cgL_1 hd, cgA_r hd (in_of hk (by omega)), gL_1, gA_r (in_of hk (by omega)), nn_of (show k < 600 by omega), cpLv hd hk, Option.bind_some, i32_succ]
    rfl
  · rw [if_pos (by decide)]
theorem p_coCopy {n : Nat} {h : zH} {b B c : Nat} {g r : Row} (hn : 600 ≤ n) (hd : b + 23 ≤ B ∨ B + 23 ≤ b) (hc : c < 4) (hb : Bools g) : f_X0_copyFrom n (B + 15 + 2 * c) (b + 15 + 2 * c) (put (put h b g) B r) = some (put (put h b g) B (coCp g c r)) := by
  unfold f_X0_copyFrom coCp
  simp only [cgC_0 hd hc, gC_0 hc, cpH hd hc, cgC_1 hd hc, cgC_2 hd hc, cgC_3 hd hc, cgC_4 hd hc, cgC_5 hd hc, cgC_6 hd hc, cgC_7 hd hc, zB01 (hb.2.2 c hc), sC_1 hc, sC_2 hc, sC_3 hc, sC_4 hc, sC_5 hc, sC_6 hc, sC_7 hc, Option.bind_some]
theorem p_copyFrom {n : Nat} {h : zH} {b B : Nat} {g r : Row} (hn : 600 ≤ n) (hd : b + 23 ≤ B ∨ B + 23 ≤ b) (hb : Bools g) : f_X1_copyFrom n B b (put (put h b g) B r) = some (put (put h b g) B g) := by
  rw [← put_congr (h := put h b g) (b := B) (gameCp_eq (g := g) (r := r)), e_X1_copyFrom]
  simp only [gR_1, cgR_1 hd, gK_1, p_landCopy hn hd, Option.bind_some]
  unfold L_X1_copyFrom_13 gameCp
  refine zfor2 4 (fun k => Int32.ofNat k) (fun k => put (put h b g) B (zseq (coCp g) (landCp g r) k)) (fun k hk rec => ?_) (fun rec => ?_) (by omega)
  · simp only [zlet, if_neg (of_eq_false (ge4 hk)), cgR_2 hd, cgA_c hd (in_of hk (by omega)), gR_2, gA_c (in_of hk (by omega)), nn_of (show k < 600 by omega), gK_2 hk, p_coCopy hn hd hk hb, Option.bind_some, i32_succ]
    rfl
  · rw [if_pos (by decide)]
    simp only [cgR_3 hd, gR_3, cpM hd, cgR_4 hd, gR_4, cpO hd, cgI_5 hd, cgI_6 hd, cgI_7 hd, cgI_8 hd, cgI_9 hd, cgI_10 hd, cgI_11 hd, cgI_12 hd, cgI_13 hd, cgI_14 hd, zB01 hb.1, zB01 hb.2.1, sI_5, sI_6, sI_7, sI_8, sI_9, sI_10, sI_11, sI_12, sI_13, sI_14, Option.bind_some]
