abbrev Row : Type := Nat → Int32
def tr (n : Nat) (f : Row) : Row := fun i => if i < n then f i else 0
def gobj (b : Nat) (g : Row) : List Value := [.ref 1, .ref (b + 1), .ref (b + 12), .ref (b + 13), .ref (b + 14), .int (g 9), .int (g 4), .int (g 8), .int (g 0), .int (g 1), .int (g 2), .int (g 3), .int (g 5), .int (g 6), .int (g 7)]
def cobj (b : Nat) (g : Row) (c : Nat) : List Value := [.ref (b + 16 + 2 * c), .int (g (34 + 7 * c)), .int (g (35 + 7 * c)), .int (g (36 + 7 * c)), .int (g (37 + 7 * c)), .int (g (38 + 7 * c)), .int (g (39 + 7 * c)), .int (g (40 + 7 * c))]
def gcell (b : Nat) (g : Row) (j : Nat) : Option va_E :=
  if j = 0 then some (.inr (1, gobj b g))
  else if j = 1 then some (.inr (2, [.ref (b + 2), .ref (b + 3)]))
  else if j = 2 then some (.inl (0, 8, .inl (tr 8 (fun i => g (126 + i)))))
  else if j = 3 then some (.inl (2, 8, .inr (.inr (.inr (.inr (fun i => if i < 8 then some (b + 4 + i) else none))))))
  else if j < 12 then some (.inl (0, 8, .inl (tr 8 (fun i => g (62 + 8 * (j - 4) + i)))))
  else if j = 12 then some (.inl (3, 4, .inr (.inr (.inr (.inr (fun i => if i < 4 then some (b + 15 + 2 * i) else none))))))
  else if j = 13 then some (.inl (0, 4, .inl (tr 4 (fun i => g (14 + i)))))
  else if j = 14 then some (.inl (0, 4, .inl (tr 4 (fun i => g (10 + i)))))
  else if (j - 15) % 2 = 0 then some (.inr (0, cobj b g ((j - 15) / 2)))
  else some (.inl (0, 4, .inl (tr 4 (fun p => g (18 + 4 * p + (j - 15) / 2)))))
def put (h : zH) (b : Nat) (g : Row) : zH := fun i => if b ≤ i ∧ i < b + 23 then gcell b g (i - b) else h i
theorem put_in {h : zH} {b j : Nat} {g : Row} (hj : j < 23) : put h b g (b + j) = gcell b g j := by
  unfold put
  rw [if_pos ⟨by omega, by omega⟩, show b + j - b = j by omega]
theorem put_out {h : zH} {b i : Nat} {g : Row} (hi : i < b ∨ b + 23 ≤ i) : put h b g i = h i := by
  unfold put
  rw [if_neg (by omega)]
theorem put_set {h : zH} {b j : Nat} {g g' : Row} {e : va_E} (hj : j < 23) (he : gcell b g' j = some e) (ho : ∀ k, k < 23 → k ≠ j → gcell b g' k = gcell b g k) : zset (put h b g) (b + j) e = put h b g' := by
  funext i
  unfold zset put
  by_cases h1 : b ≤ i ∧ i < b + 23
  · rw [if_pos h1, if_pos h1]
    by_cases h2 : i = b + j
    · rw [if_pos h2, h2, show b + j - b = j by omega, he]
    · rw [if_neg h2, ho (i - b) (by omega) (by omega)]
  · rw [if_neg h1, if_neg h1, if_neg (by omega)]
theorem tr_upd {n k : Nat} {f : Row} {v : Int32} (hk : k < n) : upd (tr n f) k v = tr n (upd f k v) := by
  funext i
  unfold upd tr
  by_cases h : i = k
  · subst h; simp [hk]
  · simp only [if_neg h]
theorem tr_congr {n : Nat} {f f' : Row} (h : ∀ i, i < n → f i = f' i) : tr n f = tr n f' := by
  funext i
  unfold tr
  by_cases hi : i < n
  · rw [if_pos hi, if_pos hi, h i hi]
  · rw [if_neg hi, if_neg hi]
theorem upd_ne {f : Row} {k i : Nat} {v : Int32} (h : i ≠ k) : upd f k v i = f i := if_neg h
theorem upd_eq {f : Row} {k : Nat} {v : Int32} : upd f k v k = v := if_pos rfl
def gsees (j k : Nat) : Prop :=
  if j = 0 then k < 10
  else if j = 2 then 126 ≤ k ∧ k < 134
  else if j = 1 ∨ j = 3 ∨ j = 12 then False
  else if j < 12 then 62 + 8 * (j - 4) ≤ k ∧ k < 62 + 8 * (j - 4) + 8
  else if j = 13 then 14 ≤ k ∧ k < 18
  else if j = 14 then 10 ≤ k ∧ k < 14
  else if (j - 15) % 2 = 0 then 34 + 7 * ((j - 15) / 2) ≤ k ∧ k < 41 + 7 * ((j - 15) / 2)
  else 18 ≤ k ∧ k < 34 ∧ (k - 18) % 4 = (j - 15) / 2
theorem gcell_ne {b j k : Nat} {g : Row} {v : Int32} (hj : j < 23) (h : ¬ gsees j k) : gcell b (upd g k v) j = gcell b g j := by
  unfold gsees at h
  unfold gcell gobj cobj
  by_cases h0 : j = 0
  · rw [if_pos h0] at h
    simp only [if_pos h0]
    simp only [upd_ne (show 0 ≠ k by omega), upd_ne (show 1 ≠ k by omega), upd_ne (show 2 ≠ k by omega), upd_ne (show 3 ≠ k by omega), upd_ne (show 4 ≠ k by omega), upd_ne (show 5 ≠ k by omega), upd_ne (show 6 ≠ k by omega), upd_ne (show 7 ≠ k by omega), upd_ne (show 8 ≠ k by omega), upd_ne (show 9 ≠ k by omega)]
  · simp only [if_neg h0] at h ⊢
    by_cases h2 : j = 2
    · subst h2
      rw [if_pos rfl] at h
      simp only [if_pos, if_neg (show ¬ (2 = 1) by omega)]
      congr 5
      exact tr_congr fun i hi => upd_ne (by omega)
    · simp only [if_neg h2] at h ⊢
      by_cases h3 : j = 1 ∨ j = 3 ∨ j = 12
      · rcases h3 with rfl | rfl | rfl <;> rfl
      · have e1 : ¬ j = 1 := fun q => h3 (Or.inl q)
        have e3 : ¬ j = 3 := fun q => h3 (Or.inr (Or.inl q))
        have e12 : ¬ j = 12 := fun q => h3 (Or.inr (Or.inr q))
        simp only [if_neg h3, if_neg e1, if_neg e3, if_neg e12] at h ⊢
        by_cases h4 : j < 12
        · simp only [if_pos h4] at h ⊢
          congr 5
          exact tr_congr fun i hi => upd_ne (by omega)
        · simp only [if_neg h4] at h ⊢
          by_cases h5 : j = 13
          · simp only [if_pos h5] at h ⊢
            congr 5
            exact tr_congr fun i hi => upd_ne (by omega)
          · simp only [if_neg h5] at h ⊢
            by_cases h6 : j = 14
            · simp only [if_pos h6] at h ⊢
              congr 5
              exact tr_congr fun i hi => upd_ne (by omega)
            · simp only [if_neg h6] at h ⊢
              by_cases h7 : (j - 15) % 2 = 0
              · simp only [if_pos h7] at h ⊢
                simp only [upd_ne (show 34 + 7 * ((j - 15) / 2) ≠ k by omega), upd_ne (show 35 + 7 * ((j - 15) / 2) ≠ k by omega), upd_ne (show 36 + 7 * ((j - 15) / 2) ≠ k by omega), upd_ne (show 37 + 7 * ((j - 15) / 2) ≠ k by omega), upd_ne (show 38 + 7 * ((j - 15) / 2) ≠ k by omega), upd_ne (show 39 + 7 * ((j - 15) / 2) ≠ k by omega), upd_ne (show 40 + 7 * ((j - 15) / 2) ≠ k by omega)]
              · simp only [if_neg h7] at h ⊢
                congr 5
                exact tr_congr fun i hi => upd_ne (by omega)
theorem put_upd {h : zH} {b j k : Nat} {g : Row} {v : Int32} {e : va_E} (hj : j < 23) (he : gcell b (upd g k v) j = some e) (ho : ∀ j', j' < 23 → j' ≠ j → ¬ gsees j' k) : zset (put h b g) (b + j) e = put h b (upd g k v) := put_set hj he (fun j' h1 h2 => gcell_ne h1 (ho j' h1 h2))
theorem gsees_j {j k : Nat} (hj : j < 23) (h : gsees j k) : (k < 10 ∧ j = 0) ∨ (126 ≤ k ∧ k < 134 ∧ j = 2) ∨ (62 ≤ k ∧ k < 126 ∧ 4 ≤ j ∧ j < 12 ∧ 62 + 8 * (j - 4) ≤ k ∧ k < 70 + 8 * (j - 4)) ∨ (14 ≤ k ∧ k < 18 ∧ j = 13) ∨ (10 ≤ k ∧ k < 14 ∧ j = 14) ∨ (15 ≤ j ∧ j % 2 = 1 ∧ 34 + 7 * ((j - 15) / 2) ≤ k ∧ k < 41 + 7 * ((j - 15) / 2)) ∨ (15 ≤ j ∧ j % 2 = 0 ∧ 18 ≤ k ∧ k < 34 ∧ (k - 18) % 4 = (j - 15) / 2) := by
  unfold gsees at h
  by_cases h0 : j = 0
  · rw [if_pos h0] at h; exact Or.inl ⟨h, h0⟩
  · rw [if_neg h0] at h
    by_cases h2 : j = 2
    · rw [if_pos h2] at h; exact Or.inr (Or.inl ⟨h.1, h.2, h2⟩)
    · rw [if_neg h2] at h
      by_cases h3 : j = 1 ∨ j = 3 ∨ j = 12
      · rw [if_pos h3] at h; exact h.elim
      · rw [if_neg h3] at h
        by_cases h4 : j < 12
        · rw [if_pos h4] at h; exact Or.inr (Or.inr (Or.inl ⟨by omega, by omega, by omega, h4, h.1, by omega⟩))
        · rw [if_neg h4] at h
          by_cases h5 : j = 13
          · rw [if_pos h5] at h; exact Or.inr (Or.inr (Or.inr (Or.inl ⟨h.1, h.2, h5⟩)))
          · rw [if_neg h5] at h
            by_cases h6 : j = 14
            · rw [if_pos h6] at h; exact Or.inr (Or.inr (Or.inr (Or.inr (Or.inl ⟨h.1, h.2, h6⟩))))
            · rw [if_neg h6] at h
              by_cases h7 : (j - 15) % 2 = 0
              · rw [if_pos h7] at h; exact Or.inr (Or.inr (Or.inr (Or.inr (Or.inr (Or.inl ⟨by omega, by omega, h.1, h.2⟩)))))
              · rw [if_neg h7] at h; exact Or.inr (Or.inr (Or.inr (Or.inr (Or.inr (Or.inr ⟨by omega, by omega, h.1, h.2.1, h.2.2⟩)))))
theorem zO_some {h : zH} {a ci : Nat} {fs : List Value} (e : h a = some (.inr (ci, fs))) : zO h a ci = some fs := by
  unfold zO
  rw [e]
  exact if_pos rfl
theorem zIA_some {h : zH} {a n : Nat} {f : Row} (e : h a = some (.inl (0, n, .inl f))) : zIA h a = some (n, f) := by
  unfold zIA
  rw [e]
  exact if_pos rfl
theorem zRA_some {h : zH} {a c n : Nat} {f : Nat → Option Nat} (e : h a = some (.inl (c, n, .inr (.inr (.inr (.inr f)))))) : zRA h a c = some (n, f) := by
  unfold zRA
  rw [e]
  exact if_pos rfl
theorem zai_some {h : zH} {a n : Nat} {f : Row} {i : Int32} (e : h a = some (.inl (0, n, .inl (tr n f)))) (hi : vp_in i n) : zai h a i = some (f i.toNatClampNeg) := by
  unfold zai
  rw [zIA_some e]
  have h2 : i.toNatClampNeg < n := Nat.not_le.mp fun q => hi (Or.inr q)
  show (if i < 0 ∨ n ≤ i.toNatClampNeg then none else some (tr n f i.toNatClampNeg)) = _
  rw [if_neg hi]
  exact congrArg some (if_pos h2)
theorem zar_some {h : zH} {a c n : Nat} {f : Nat → Option Nat} {i : Int32} (e : h a = some (.inl (c, n, .inr (.inr (.inr (.inr f)))))) (hi : vp_in i n) : zar h a c i = f i.toNatClampNeg := by
  unfold zar
  rw [zRA_some e]
  exact if_neg hi
theorem zsi_some {h : zH} {a n : Nat} {f : Row} {i v : Int32} (e : h a = some (.inl (0, n, .inl (tr n f)))) (hi : vp_in i n) : zsi h a i v = some (zset h a (.inl (0, n, .inl (tr n (upd f i.toNatClampNeg v))))) := by
  unfold zsi
  rw [zIA_some e]
  have h2 : i.toNatClampNeg < n := Nat.not_le.mp fun q => hi (Or.inr q)
  show (if i < 0 ∨ n ≤ i.toNatClampNeg then none else some (zset h a (.inl (0, n, .inl (upd (tr n f) i.toNatClampNeg v))))) = _
  rw [if_neg hi, tr_upd h2]
theorem zlen_some {h : zH} {a n : Nat} {f : Row} (e : h a = some (.inl (0, n, .inl f))) : zlen h a = some (Int32.ofNat n) := by
  unfold zlen
  rw [zIA_some e]
theorem zrc_some {β : Type} {h : zH} {a ci : Nat} {fs : List Value} {o : Option β} (e : h a = some (.inr (ci, fs))) : zrc h a ci o = o := by
  unfold zrc
  rw [zO_some e]
theorem zp_some {h : zH} {a ci k : Nat} {fs : List Value} {v : Value} (e : h a = some (.inr (ci, fs))) (hk : k < fs.length) : zp h a ci k v = some (zset h a (.inr (ci, fs.set k v))) := by
  unfold zp
  rw [zO_some e]
  exact if_pos hk
theorem vp_lt {i : Int32} {n : Nat} (h : vp_in i n) : i.toNatClampNeg < n := Nat.not_le.mp fun q => h (Or.inr q)
theorem put_0 {h : zH} {b : Nat} {g : Row} : put h b g b = some (.inr (1, gobj b g)) := put_in (j := 0) (by omega)
theorem put_1 {h : zH} {b : Nat} {g : Row} : put h b g (b + 1) = some (.inr (2, [.ref (b + 2), .ref (b + 3)])) := put_in (j := 1) (by omega)
theorem put_2 {h : zH} {b : Nat} {g : Row} : put h b g (b + 2) = some (.inl (0, 8, .inl (tr 8 (fun i => g (126 + i))))) := put_in (j := 2) (by omega)
theorem put_3 {h : zH} {b : Nat} {g : Row} : put h b g (b + 3) = some (.inl (2, 8, .inr (.inr (.inr (.inr (fun i => if i < 8 then some (b + 4 + i) else none)))))) := put_in (j := 3) (by omega)
theorem put_4 {h : zH} {b : Nat} {g : Row} {t : Nat} (ht : t < 8) : put h b g (b + 4 + t) = some (.inl (0, 8, .inl (tr 8 (fun i => g (62 + 8 * t + i))))) := by
  rw [show b + 4 + t = b + (4 + t) by omega, put_in (by omega)]
  unfold gcell
  rw [if_neg (by omega), if_neg (by omega), if_neg (by omega), if_neg (by omega), if_pos (by omega), show 4 + t - 4 = t by omega]
theorem put_12 {h : zH} {b : Nat} {g : Row} : put h b g (b + 12) = some (.inl (3, 4, .inr (.inr (.inr (.inr (fun i => if i < 4 then some (b + 15 + 2 * i) else none)))))) := put_in (j := 12) (by omega)
theorem put_13 {h : zH} {b : Nat} {g : Row} : put h b g (b + 13) = some (.inl (0, 4, .inl (tr 4 (fun i => g (14 + i))))) := put_in (j := 13) (by omega)
theorem put_14 {h : zH} {b : Nat} {g : Row} : put h b g (b + 14) = some (.inl (0, 4, .inl (tr 4 (fun i => g (10 + i))))) := put_in (j := 14) (by omega)
theorem put_15 {h : zH} {b : Nat} {g : Row} {c : Nat} (hc : c < 4) : put h b g (b + 15 + 2 * c) = some (.inr (0, cobj b g c)) := by
  rw [show b + 15 + 2 * c = b + (15 + 2 * c) by omega, put_in (by omega)]
  unfold gcell
  rw [if_neg (by omega), if_neg (by omega), if_neg (by omega), if_neg (by omega), if_neg (by omega), if_neg (by omega), if_neg (by omega), if_neg (by omega), if_pos (by omega), show (15 + 2 * c - 15) / 2 = c by omega]
theorem put_16 {h : zH} {b : Nat} {g : Row} {c : Nat} (hc : c < 4) : put h b g (b + 16 + 2 * c) = some (.inl (0, 4, .inl (tr 4 (fun p => g (18 + 4 * p + c))))) := by
  rw [show b + 16 + 2 * c = b + (16 + 2 * c) by omega, put_in (by omega)]
  unfold gcell
  rw [if_neg (by omega), if_neg (by omega), if_neg (by omega), if_neg (by omega), if_neg (by omega), if_neg (by omega), if_neg (by omega), if_neg (by omega), if_neg (by omega), show (16 + 2 * c - 15) / 2 = c by omega]
theorem gI_5 {h : zH} {b : Nat} {g : Row} : zgI (put h b g) b 1 5 = some (g 9) := by
  unfold zgI
  rw [zO_some put_0]
  rfl
theorem gI_6 {h : zH} {b : Nat} {g : Row} : zgI (put h b g) b 1 6 = some (g 4) := by
  unfold zgI
  rw [zO_some put_0]
  rfl
theorem gI_7 {h : zH} {b : Nat} {g : Row} : zgI (put h b g) b 1 7 = some (g 8) := by
  unfold zgI
  rw [zO_some put_0]
  rfl
theorem gI_8 {h : zH} {b : Nat} {g : Row} : zgI (put h b g) b 1 8 = some (g 0) := by
  unfold zgI
  rw [zO_some put_0]
  rfl
theorem gI_9 {h : zH} {b : Nat} {g : Row} : zgI (put h b g) b 1 9 = some (g 1) := by
  unfold zgI
  rw [zO_some put_0]
  rfl
theorem gI_10 {h : zH} {b : Nat} {g : Row} : zgI (put h b g) b 1 10 = some (g 2) := by
  unfold zgI
  rw [zO_some put_0]
  rfl
theorem gI_11 {h : zH} {b : Nat} {g : Row} : zgI (put h b g) b 1 11 = some (g 3) := by
  unfold zgI
  rw [zO_some put_0]
  rfl
theorem gI_12 {h : zH} {b : Nat} {g : Row} : zgI (put h b g) b 1 12 = some (g 5) := by
  unfold zgI
  rw [zO_some put_0]
  rfl
theorem gI_13 {h : zH} {b : Nat} {g : Row} : zgI (put h b g) b 1 13 = some (g 6) := by
  unfold zgI
  rw [zO_some put_0]
  rfl
theorem gI_14 {h : zH} {b : Nat} {g : Row} : zgI (put h b g) b 1 14 = some (g 7) := by
  unfold zgI
  rw [zO_some put_0]
  rfl
theorem gR_0 {h : zH} {b : Nat} {g : Row} : zgR (put h b g) b 1 0 = some 1 := by
  unfold zgR
  rw [zO_some put_0]
  rfl
theorem gR_1 {h : zH} {b : Nat} {g : Row} : zgR (put h b g) b 1 1 = some (b + 1) := by
  unfold zgR
  rw [zO_some put_0]
  rfl
theorem gR_2 {h : zH} {b : Nat} {g : Row} : zgR (put h b g) b 1 2 = some (b + 12) := by
  unfold zgR
  rw [zO_some put_0]
  rfl
theorem gR_3 {h : zH} {b : Nat} {g : Row} : zgR (put h b g) b 1 3 = some (b + 13) := by
  unfold zgR
  rw [zO_some put_0]
  rfl
theorem gR_4 {h : zH} {b : Nat} {g : Row} : zgR (put h b g) b 1 4 = some (b + 14) := by
  unfold zgR
  rw [zO_some put_0]
  rfl
theorem gL_0 {h : zH} {b : Nat} {g : Row} : zgR (put h b g) (b + 1) 2 0 = some (b + 2) := by
  unfold zgR
  rw [zO_some put_1]
  rfl
theorem gL_1 {h : zH} {b : Nat} {g : Row} : zgR (put h b g) (b + 1) 2 1 = some (b + 3) := by
  unfold zgR
  rw [zO_some put_1]
  rfl
theorem gC_0 {h : zH} {b : Nat} {g : Row} {c : Nat} (hc : c < 4) : zgR (put h b g) (b + 15 + 2 * c) 0 0 = some (b + 16 + 2 * c) := by
  unfold zgR
  rw [zO_some (put_15 hc)]
  rfl
theorem gC_1 {h : zH} {b : Nat} {g : Row} {c : Nat} (hc : c < 4) : zgI (put h b g) (b + 15 + 2 * c) 0 1 = some (g (34 + 7 * c)) := by
  unfold zgI
  rw [zO_some (put_15 hc)]
  rfl
theorem gC_2 {h : zH} {b : Nat} {g : Row} {c : Nat} (hc : c < 4) : zgI (put h b g) (b + 15 + 2 * c) 0 2 = some (g (35 + 7 * c)) := by
  unfold zgI
  rw [zO_some (put_15 hc)]
  rfl
theorem gC_3 {h : zH} {b : Nat} {g : Row} {c : Nat} (hc : c < 4) : zgI (put h b g) (b + 15 + 2 * c) 0 3 = some (g (36 + 7 * c)) := by
  unfold zgI
  rw [zO_some (put_15 hc)]
  rfl
theorem gC_4 {h : zH} {b : Nat} {g : Row} {c : Nat} (hc : c < 4) : zgI (put h b g) (b + 15 + 2 * c) 0 4 = some (g (37 + 7 * c)) := by
  unfold zgI
  rw [zO_some (put_15 hc)]
  rfl
theorem gC_5 {h : zH} {b : Nat} {g : Row} {c : Nat} (hc : c < 4) : zgI (put h b g) (b + 15 + 2 * c) 0 5 = some (g (38 + 7 * c)) := by
  unfold zgI
  rw [zO_some (put_15 hc)]
  rfl
theorem gC_6 {h : zH} {b : Nat} {g : Row} {c : Nat} (hc : c < 4) : zgI (put h b g) (b + 15 + 2 * c) 0 6 = some (g (39 + 7 * c)) := by
  unfold zgI
  rw [zO_some (put_15 hc)]
  rfl
theorem gC_7 {h : zH} {b : Nat} {g : Row} {c : Nat} (hc : c < 4) : zgI (put h b g) (b + 15 + 2 * c) 0 7 = some (g (40 + 7 * c)) := by
  unfold zgI
  rw [zO_some (put_15 hc)]
  rfl
theorem gA_w {h : zH} {b : Nat} {g : Row} {i : Int32} (hi : vp_in i 8) : zai (put h b g) (b + 2) i = some (g (126 + i.toNatClampNeg)) := zai_some put_2 hi
theorem gA_r {h : zH} {b : Nat} {g : Row} {i : Int32} (hi : vp_in i 8) : zar (put h b g) (b + 3) 2 i = some (b + 4 + i.toNatClampNeg) := (zar_some put_3 hi).trans (if_pos (vp_lt hi))
theorem gA_l {h : zH} {b : Nat} {g : Row} {t : Nat} {i : Int32} (ht : t < 8) (hi : vp_in i 8) : zai (put h b g) (b + 4 + t) i = some (g (62 + 8 * t + i.toNatClampNeg)) := zai_some (put_4 ht) hi
theorem gA_c {h : zH} {b : Nat} {g : Row} {i : Int32} (hi : vp_in i 4) : zar (put h b g) (b + 12) 3 i = some (b + 15 + 2 * i.toNatClampNeg) := (zar_some put_12 hi).trans (if_pos (vp_lt hi))
theorem gA_m {h : zH} {b : Nat} {g : Row} {i : Int32} (hi : vp_in i 4) : zai (put h b g) (b + 13) i = some (g (14 + i.toNatClampNeg)) := zai_some put_13 hi
theorem gA_o {h : zH} {b : Nat} {g : Row} {i : Int32} (hi : vp_in i 4) : zai (put h b g) (b + 14) i = some (g (10 + i.toNatClampNeg)) := zai_some put_14 hi
theorem gA_h {h : zH} {b : Nat} {g : Row} {c : Nat} {i : Int32} (hc : c < 4) (hi : vp_in i 4) : zai (put h b g) (b + 16 + 2 * c) i = some (g (18 + 4 * i.toNatClampNeg + c)) := zai_some (put_16 hc) hi
theorem gN_m {h : zH} {b : Nat} {g : Row} : zlen (put h b g) (b + 13) = some 4 := zlen_some put_13
theorem gN_h {h : zH} {b : Nat} {g : Row} {c : Nat} (hc : c < 4) : zlen (put h b g) (b + 16 + 2 * c) = some 4 := zlen_some (put_16 hc)
theorem gN_l {h : zH} {b : Nat} {g : Row} {t : Nat} (ht : t < 8) : zlen (put h b g) (b + 4 + t) = some 8 := zlen_some (put_4 ht)
theorem gK_0 {h : zH} {b : Nat} {g : Row} {β : Type} {o : Option β} : zrc (put h b g) b 1 o = o := zrc_some put_0
theorem gK_1 {h : zH} {b : Nat} {g : Row} {β : Type} {o : Option β} : zrc (put h b g) (b + 1) 2 o = o := zrc_some put_1
theorem gK_2 {h : zH} {b : Nat} {g : Row} {β : Type} {o : Option β} {c : Nat} (hc : c < 4) : zrc (put h b g) (b + 15 + 2 * c) 0 o = o := zrc_some (put_15 hc)
theorem sI_5 {h : zH} {b : Nat} {g : Row} {v : Int32} : zp (put h b g) b 1 5 (.int v) = some (put h b (upd g 9 v)) := by
  rw [zp_some put_0 (show 5 < 15 by omega)]
  exact congrArg some (put_upd (j := 0) (by omega) (by simp [gcell, gobj, upd]) (fun j h1 h2 h3 => by have h4 := gsees_j h1 h3; omega))
theorem sI_6 {h : zH} {b : Nat} {g : Row} {v : Int32} : zp (put h b g) b 1 6 (.int v) = some (put h b (upd g 4 v)) := by
  rw [zp_some put_0 (show 6 < 15 by omega)]
  exact congrArg some (put_upd (j := 0) (by omega) (by simp [gcell, gobj, upd]) (fun j h1 h2 h3 => by have h4 := gsees_j h1 h3; omega))
theorem sI_7 {h : zH} {b : Nat} {g : Row} {v : Int32} : zp (put h b g) b 1 7 (.int v) = some (put h b (upd g 8 v)) := by
  rw [zp_some put_0 (show 7 < 15 by omega)]
  exact congrArg some (put_upd (j := 0) (by omega) (by simp [gcell, gobj, upd]) (fun j h1 h2 h3 => by have h4 := gsees_j h1 h3; omega))
theorem sI_8 {h : zH} {b : Nat} {g : Row} {v : Int32} : zp (put h b g) b 1 8 (.int v) = some (put h b (upd g 0 v)) := by
  rw [zp_some put_0 (show 8 < 15 by omega)]
  exact congrArg some (put_upd (j := 0) (by omega) (by simp [gcell, gobj, upd]) (fun j h1 h2 h3 => by have h4 := gsees_j h1 h3; omega))
theorem sI_9 {h : zH} {b : Nat} {g : Row} {v : Int32} : zp (put h b g) b 1 9 (.int v) = some (put h b (upd g 1 v)) := by
  rw [zp_some put_0 (show 9 < 15 by omega)]
  exact congrArg some (put_upd (j := 0) (by omega) (by simp [gcell, gobj, upd]) (fun j h1 h2 h3 => by have h4 := gsees_j h1 h3; omega))
theorem sI_10 {h : zH} {b : Nat} {g : Row} {v : Int32} : zp (put h b g) b 1 10 (.int v) = some (put h b (upd g 2 v)) := by
  rw [zp_some put_0 (show 10 < 15 by omega)]
  exact congrArg some (put_upd (j := 0) (by omega) (by simp [gcell, gobj, upd]) (fun j h1 h2 h3 => by have h4 := gsees_j h1 h3; omega))
theorem sI_11 {h : zH} {b : Nat} {g : Row} {v : Int32} : zp (put h b g) b 1 11 (.int v) = some (put h b (upd g 3 v)) := by
  rw [zp_some put_0 (show 11 < 15 by omega)]
  exact congrArg some (put_upd (j := 0) (by omega) (by simp [gcell, gobj, upd]) (fun j h1 h2 h3 => by have h4 := gsees_j h1 h3; omega))
theorem sI_12 {h : zH} {b : Nat} {g : Row} {v : Int32} : zp (put h b g) b 1 12 (.int v) = some (put h b (upd g 5 v)) := by
  rw [zp_some put_0 (show 12 < 15 by omega)]
  exact congrArg some (put_upd (j := 0) (by omega) (by simp [gcell, gobj, upd]) (fun j h1 h2 h3 => by have h4 := gsees_j h1 h3; omega))
theorem sI_13 {h : zH} {b : Nat} {g : Row} {v : Int32} : zp (put h b g) b 1 13 (.int v) = some (put h b (upd g 6 v)) := by
  rw [zp_some put_0 (show 13 < 15 by omega)]
  exact congrArg some (put_upd (j := 0) (by omega) (by simp [gcell, gobj, upd]) (fun j h1 h2 h3 => by have h4 := gsees_j h1 h3; omega))
theorem sI_14 {h : zH} {b : Nat} {g : Row} {v : Int32} : zp (put h b g) b 1 14 (.int v) = some (put h b (upd g 7 v)) := by
  rw [zp_some put_0 (show 14 < 15 by omega)]
  exact congrArg some (put_upd (j := 0) (by omega) (by simp [gcell, gobj, upd]) (fun j h1 h2 h3 => by have h4 := gsees_j h1 h3; omega))
theorem sC_1 {h : zH} {b : Nat} {g : Row} {v : Int32} {c : Nat} (hc : c < 4) : zp (put h b g) (b + 15 + 2 * c) 0 1 (.int v) = some (put h b (upd g (34 + 7 * c) v)) := by
  rw [zp_some (put_15 hc) (show 1 < 8 by omega)]
  rw [show b + 15 + 2 * c = b + (15 + 2 * c) by omega]
  refine congrArg some (put_upd (j := 15 + 2 * c) (by omega) ?_ (fun j h1 h2 h3 => by have h4 := gsees_j h1 h3; omega))
  unfold gcell
  rw [if_neg (by omega), if_neg (by omega), if_neg (by omega), if_neg (by omega), if_neg (by omega), if_neg (by omega), if_neg (by omega), if_neg (by omega), if_pos (by omega), show (15 + 2 * c - 15) / 2 = c by omega]
  simp [cobj, upd, Nat.add_left_cancel_iff]
theorem sC_2 {h : zH} {b : Nat} {g : Row} {v : Int32} {c : Nat} (hc : c < 4) : zp (put h b g) (b + 15 + 2 * c) 0 2 (.int v) = some (put h b (upd g (35 + 7 * c) v)) := by
  rw [zp_some (put_15 hc) (show 2 < 8 by omega)]
  rw [show b + 15 + 2 * c = b + (15 + 2 * c) by omega]
  refine congrArg some (put_upd (j := 15 + 2 * c) (by omega) ?_ (fun j h1 h2 h3 => by have h4 := gsees_j h1 h3; omega))
  unfold gcell
  rw [if_neg (by omega), if_neg (by omega), if_neg (by omega), if_neg (by omega), if_neg (by omega), if_neg (by omega), if_neg (by omega), if_neg (by omega), if_pos (by omega), show (15 + 2 * c - 15) / 2 = c by omega]
  simp [cobj, upd, Nat.add_left_cancel_iff]
theorem sC_3 {h : zH} {b : Nat} {g : Row} {v : Int32} {c : Nat} (hc : c < 4) : zp (put h b g) (b + 15 + 2 * c) 0 3 (.int v) = some (put h b (upd g (36 + 7 * c) v)) := by
  rw [zp_some (put_15 hc) (show 3 < 8 by omega)]
  rw [show b + 15 + 2 * c = b + (15 + 2 * c) by omega]
  refine congrArg some (put_upd (j := 15 + 2 * c) (by omega) ?_ (fun j h1 h2 h3 => by have h4 := gsees_j h1 h3; omega))
  unfold gcell
  rw [if_neg (by omega), if_neg (by omega), if_neg (by omega), if_neg (by omega), if_neg (by omega), if_neg (by omega), if_neg (by omega), if_neg (by omega), if_pos (by omega), show (15 + 2 * c - 15) / 2 = c by omega]
  simp [cobj, upd, Nat.add_left_cancel_iff]
theorem sC_4 {h : zH} {b : Nat} {g : Row} {v : Int32} {c : Nat} (hc : c < 4) : zp (put h b g) (b + 15 + 2 * c) 0 4 (.int v) = some (put h b (upd g (37 + 7 * c) v)) := by
  rw [zp_some (put_15 hc) (show 4 < 8 by omega)]
  rw [show b + 15 + 2 * c = b + (15 + 2 * c) by omega]
  refine congrArg some (put_upd (j := 15 + 2 * c) (by omega) ?_ (fun j h1 h2 h3 => by have h4 := gsees_j h1 h3; omega))
  unfold gcell
  rw [if_neg (by omega), if_neg (by omega), if_neg (by omega), if_neg (by omega), if_neg (by omega), if_neg (by omega), if_neg (by omega), if_neg (by omega), if_pos (by omega), show (15 + 2 * c - 15) / 2 = c by omega]
  simp [cobj, upd, Nat.add_left_cancel_iff]
theorem sC_5 {h : zH} {b : Nat} {g : Row} {v : Int32} {c : Nat} (hc : c < 4) : zp (put h b g) (b + 15 + 2 * c) 0 5 (.int v) = some (put h b (upd g (38 + 7 * c) v)) := by
  rw [zp_some (put_15 hc) (show 5 < 8 by omega)]
  rw [show b + 15 + 2 * c = b + (15 + 2 * c) by omega]
  refine congrArg some (put_upd (j := 15 + 2 * c) (by omega) ?_ (fun j h1 h2 h3 => by have h4 := gsees_j h1 h3; omega))
  unfold gcell
  rw [if_neg (by omega), if_neg (by omega), if_neg (by omega), if_neg (by omega), if_neg (by omega), if_neg (by omega), if_neg (by omega), if_neg (by omega), if_pos (by omega), show (15 + 2 * c - 15) / 2 = c by omega]
  simp [cobj, upd, Nat.add_left_cancel_iff]
theorem sC_6 {h : zH} {b : Nat} {g : Row} {v : Int32} {c : Nat} (hc : c < 4) : zp (put h b g) (b + 15 + 2 * c) 0 6 (.int v) = some (put h b (upd g (39 + 7 * c) v)) := by
  rw [zp_some (put_15 hc) (show 6 < 8 by omega)]
  rw [show b + 15 + 2 * c = b + (15 + 2 * c) by omega]
  refine congrArg some (put_upd (j := 15 + 2 * c) (by omega) ?_ (fun j h1 h2 h3 => by have h4 := gsees_j h1 h3; omega))
  unfold gcell
  rw [if_neg (by omega), if_neg (by omega), if_neg (by omega), if_neg (by omega), if_neg (by omega), if_neg (by omega), if_neg (by omega), if_neg (by omega), if_pos (by omega), show (15 + 2 * c - 15) / 2 = c by omega]
  simp [cobj, upd, Nat.add_left_cancel_iff]
theorem sC_7 {h : zH} {b : Nat} {g : Row} {v : Int32} {c : Nat} (hc : c < 4) : zp (put h b g) (b + 15 + 2 * c) 0 7 (.int v) = some (put h b (upd g (40 + 7 * c) v)) := by
  rw [zp_some (put_15 hc) (show 7 < 8 by omega)]
  rw [show b + 15 + 2 * c = b + (15 + 2 * c) by omega]
  refine congrArg some (put_upd (j := 15 + 2 * c) (by omega) ?_ (fun j h1 h2 h3 => by have h4 := gsees_j h1 h3; omega))
  unfold gcell
  rw [if_neg (by omega), if_neg (by omega), if_neg (by omega), if_neg (by omega), if_neg (by omega), if_neg (by omega), if_neg (by omega), if_neg (by omega), if_pos (by omega), show (15 + 2 * c - 15) / 2 = c by omega]
  simp [cobj, upd, Nat.add_left_cancel_iff]
theorem sA_w {h : zH} {b : Nat} {g : Row} {i v : Int32} (hi : vp_in i 8) : zsi (put h b g) (b + 2) i v = some (put h b (upd g (126 + i.toNatClampNeg) v)) := by
  have h9 := vp_lt hi
  rw [zsi_some put_2 hi]
  refine congrArg some (put_upd (j := 2) (by omega) ?_ (fun j h1 h2 h3 => by have h4 := gsees_j h1 h3; omega))
  unfold gcell
  rw [if_neg (by omega), if_neg (by omega), if_pos rfl]
  congr 5
  refine tr_congr fun k hk => ?_
  unfold upd
  simp only []
  by_cases hk2 : k = i.toNatClampNeg
  · rw [if_pos hk2, if_pos (by omega)]
  · rw [if_neg hk2, if_neg (by omega)]
theorem sA_l {h : zH} {b : Nat} {g : Row} {t : Nat} {i v : Int32} (ht : t < 8) (hi : vp_in i 8) : zsi (put h b g) (b + 4 + t) i v = some (put h b (upd g (62 + 8 * t + i.toNatClampNeg) v)) := by
  have h9 := vp_lt hi
  rw [zsi_some (put_4 ht) hi]
  rw [show b + 4 + t = b + (4 + t) by omega]
  refine congrArg some (put_upd (j := 4 + t) (by omega) ?_ (fun j h1 h2 h3 => by have h4 := gsees_j h1 h3; omega))
  unfold gcell
  rw [if_neg (by omega), if_neg (by omega), if_neg (by omega), if_neg (by omega), if_pos (by omega), show 4 + t - 4 = t by omega]
  congr 5
  refine tr_congr fun k hk => ?_
  unfold upd
  simp only []
  by_cases hk2 : k = i.toNatClampNeg
  · rw [if_pos hk2, if_pos (by omega)]
  · rw [if_neg hk2, if_neg (by omega)]
theorem sA_m {h : zH} {b : Nat} {g : Row} {i v : Int32} (hi : vp_in i 4) : zsi (put h b g) (b + 13) i v = some (put h b (upd g (14 + i.toNatClampNeg) v)) := by
  have h9 := vp_lt hi
  rw [zsi_some put_13 hi]
  refine congrArg some (put_upd (j := 13) (by omega) ?_ (fun j h1 h2 h3 => by have h4 := gsees_j h1 h3; omega))
  unfold gcell
  rw [if_neg (by omega), if_neg (by omega), if_neg (by omega), if_neg (by omega), if_neg (by omega), if_neg (by omega), if_pos rfl]
  congr 5
  refine tr_congr fun k hk => ?_
  unfold upd
  simp only []
  by_cases hk2 : k = i.toNatClampNeg
  · rw [if_pos hk2, if_pos (by omega)]
  · rw [if_neg hk2, if_neg (by omega)]
theorem sA_o {h : zH} {b : Nat} {g : Row} {i v : Int32} (hi : vp_in i 4) : zsi (put h b g) (b + 14) i v = some (put h b (upd g (10 + i.toNatClampNeg) v)) := by
  have h9 := vp_lt hi
  rw [zsi_some put_14 hi]
  refine congrArg some (put_upd (j := 14) (by omega) ?_ (fun j h1 h2 h3 => by have h4 := gsees_j h1 h3; omega))
  unfold gcell
  rw [if_neg (by omega), if_neg (by omega), if_neg (by omega), if_neg (by omega), if_neg (by omega), if_neg (by omega), if_neg (by omega), if_pos rfl]
  congr 5
  refine tr_congr fun k hk => ?_
  unfold upd
  simp only []
  by_cases hk2 : k = i.toNatClampNeg
  · rw [if_pos hk2, if_pos (by omega)]
  · rw [if_neg hk2, if_neg (by omega)]
theorem sA_h {h : zH} {b : Nat} {g : Row} {c : Nat} {i v : Int32} (hc : c < 4) (hi : vp_in i 4) : zsi (put h b g) (b + 16 + 2 * c) i v = some (put h b (upd g (18 + 4 * i.toNatClampNeg + c) v)) := by
  have h9 := vp_lt hi
  rw [zsi_some (put_16 hc) hi]
  rw [show b + 16 + 2 * c = b + (16 + 2 * c) by omega]
  refine congrArg some (put_upd (j := 16 + 2 * c) (by omega) ?_ (fun j h1 h2 h3 => by have h4 := gsees_j h1 h3; omega))
  unfold gcell
  rw [if_neg (by omega), if_neg (by omega), if_neg (by omega), if_neg (by omega), if_neg (by omega), if_neg (by omega), if_neg (by omega), if_neg (by omega), if_neg (by omega), show (16 + 2 * c - 15) / 2 = c by omega]
  congr 5
  refine tr_congr fun k hk => ?_
  unfold upd
  simp only []
  by_cases hk2 : k = i.toNatClampNeg
  · rw [if_pos hk2, if_pos (by omega)]
  · rw [if_neg hk2, if_neg (by omega)]
theorem zfor1 {A1 β : Type} {F : (A1 → Option β) → A1 → Option β} {n : Nat} {r : Option β} (N : Nat) (s1 : Nat → A1) (hs : ∀ k, k < N → ∀ rec, F rec (s1 k) = rec (s1 (k + 1))) (he : ∀ rec, F rec (s1 N) = r) (hn : N < n) : zfix1 F n (s1 0) = r := by
  have key : ∀ j k, k + j = N → ∀ m, j < m → zfix1 F m (s1 k) = r := by
    intro j
    induction j with
    | zero =>
      intro k hk m hm
      obtain ⟨m, rfl⟩ : ∃ m', m = m' + 1 := ⟨m - 1, by omega⟩
      rw [zfix1_s, show k = N by omega]
      exact he _
    | succ j ih =>
      intro k hk m hm
      obtain ⟨m, rfl⟩ : ∃ m', m = m' + 1 := ⟨m - 1, by omega⟩
      rw [zfix1_s, hs k (by omega)]
      exact ih (k + 1) (by omega) m (by omega)
  exact key N 0 (by omega) n hn
theorem zfor2 {A1 A2 β : Type} {F : (A1 → A2 → Option β) → A1 → A2 → Option β} {n : Nat} {r : Option β} (N : Nat) (s1 : Nat → A1) (s2 : Nat → A2) (hs : ∀ k, k < N → ∀ rec, F rec (s1 k) (s2 k) = rec (s1 (k + 1)) (s2 (k + 1))) (he : ∀ rec, F rec (s1 N) (s2 N) = r) (hn : N < n) : zfix2 F n (s1 0) (s2 0) = r := by
  have key : ∀ j k, k + j = N → ∀ m, j < m → zfix2 F m (s1 k) (s2 k) = r := by
    intro j
    induction j with
    | zero =>
      intro k hk m hm
      obtain ⟨m, rfl⟩ : ∃ m', m = m' + 1 := ⟨m - 1, by omega⟩
      rw [zfix2_s, show k = N by omega]
      exact he _
    | succ j ih =>
      intro k hk m hm
      obtain ⟨m, rfl⟩ : ∃ m', m = m' + 1 := ⟨m - 1, by omega⟩
      rw [zfix2_s, hs k (by omega)]
      exact ih (k + 1) (by omega) m (by omega)
  exact key N 0 (by omega) n hn
theorem zfor3 {A1 A2 A3 β : Type} {F : (A1 → A2 → A3 → Option β) → A1 → A2 → A3 → Option β} {n : Nat} {r : Option β} (N : Nat) (s1 : Nat → A1) (s2 : Nat → A2) (s3 : Nat → A3) (hs : ∀ k, k < N → ∀ rec, F rec (s1 k) (s2 k) (s3 k) = rec (s1 (k + 1)) (s2 (k + 1)) (s3 (k + 1))) (he : ∀ rec, F rec (s1 N) (s2 N) (s3 N) = r) (hn : N < n) : zfix3 F n (s1 0) (s2 0) (s3 0) = r := by
  have key : ∀ j k, k + j = N → ∀ m, j < m → zfix3 F m (s1 k) (s2 k) (s3 k) = r := by
    intro j
    induction j with
    | zero =>
      intro k hk m hm
      obtain ⟨m, rfl⟩ : ∃ m', m = m' + 1 := ⟨m - 1, by omega⟩
      rw [zfix3_s, show k = N by omega]
      exact he _
    | succ j ih =>
      intro k hk m hm
      obtain ⟨m, rfl⟩ : ∃ m', m = m' + 1 := ⟨m - 1, by omega⟩
      rw [zfix3_s, hs k (by omega)]
      exact ih (k + 1) (by omega) m (by omega)
  exact key N 0 (by omega) n hn
theorem zfor4 {A1 A2 A3 A4 β : Type} {F : (A1 → A2 → A3 → A4 → Option β) → A1 → A2 → A3 → A4 → Option β} {n : Nat} {r : Option β} (N : Nat) (s1 : Nat → A1) (s2 : Nat → A2) (s3 : Nat → A3) (s4 : Nat → A4) (hs : ∀ k, k < N → ∀ rec, F rec (s1 k) (s2 k) (s3 k) (s4 k) = rec (s1 (k + 1)) (s2 (k + 1)) (s3 (k + 1)) (s4 (k + 1))) (he : ∀ rec, F rec (s1 N) (s2 N) (s3 N) (s4 N) = r) (hn : N < n) : zfix4 F n (s1 0) (s2 0) (s3 0) (s4 0) = r := by
  have key : ∀ j k, k + j = N → ∀ m, j < m → zfix4 F m (s1 k) (s2 k) (s3 k) (s4 k) = r := by
    intro j
    induction j with
    | zero =>
      intro k hk m hm
      obtain ⟨m, rfl⟩ : ∃ m', m = m' + 1 := ⟨m - 1, by omega⟩
      rw [zfix4_s, show k = N by omega]
      exact he _
    | succ j ih =>
      intro k hk m hm
      obtain ⟨m, rfl⟩ : ∃ m', m = m' + 1 := ⟨m - 1, by omega⟩
      rw [zfix4_s, hs k (by omega)]
      exact ih (k + 1) (by omega) m (by omega)
  exact key N 0 (by omega) n hn
theorem zfor5 {A1 A2 A3 A4 A5 β : Type} {F : (A1 → A2 → A3 → A4 → A5 → Option β) → A1 → A2 → A3 → A4 → A5 → Option β} {n : Nat} {r : Option β} (N : Nat) (s1 : Nat → A1) (s2 : Nat → A2) (s3 : Nat → A3) (s4 : Nat → A4) (s5 : Nat → A5) (hs : ∀ k, k < N → ∀ rec, F rec (s1 k) (s2 k) (s3 k) (s4 k) (s5 k) = rec (s1 (k + 1)) (s2 (k + 1)) (s3 (k + 1)) (s4 (k + 1)) (s5 (k + 1))) (he : ∀ rec, F rec (s1 N) (s2 N) (s3 N) (s4 N) (s5 N) = r) (hn : N < n) : zfix5 F n (s1 0) (s2 0) (s3 0) (s4 0) (s5 0) = r := by
  have key : ∀ j k, k + j = N → ∀ m, j < m → zfix5 F m (s1 k) (s2 k) (s3 k) (s4 k) (s5 k) = r := by
    intro j
    induction j with
    | zero =>
      intro k hk m hm
      obtain ⟨m, rfl⟩ : ∃ m', m = m' + 1 := ⟨m - 1, by omega⟩
      rw [zfix5_s, show k = N by omega]
      exact he _
    | succ j ih =>
      intro k hk m hm
      obtain ⟨m, rfl⟩ : ∃ m', m = m' + 1 := ⟨m - 1, by omega⟩
      rw [zfix5_s, hs k (by omega)]
      exact ih (k + 1) (by omega) m (by omega)
  exact key N 0 (by omega) n hn
theorem zfor6 {A1 A2 A3 A4 A5 A6 β : Type} {F : (A1 → A2 → A3 → A4 → A5 → A6 → Option β) → A1 → A2 → A3 → A4 → A5 → A6 → Option β} {n : Nat} {r : Option β} (N : Nat) (s1 : Nat → A1) (s2 : Nat → A2) (s3 : Nat → A3) (s4 : Nat → A4) (s5 : Nat → A5) (s6 : Nat → A6) (hs : ∀ k, k < N → ∀ rec, F rec (s1 k) (s2 k) (s3 k) (s4 k) (s5 k) (s6 k) = rec (s1 (k + 1)) (s2 (k + 1)) (s3 (k + 1)) (s4 (k + 1)) (s5 (k + 1)) (s6 (k + 1))) (he : ∀ rec, F rec (s1 N) (s2 N) (s3 N) (s4 N) (s5 N) (s6 N) = r) (hn : N < n) : zfix6 F n (s1 0) (s2 0) (s3 0) (s4 0) (s5 0) (s6 0) = r := by
  have key : ∀ j k, k + j = N → ∀ m, j < m → zfix6 F m (s1 k) (s2 k) (s3 k) (s4 k) (s5 k) (s6 k) = r := by
    intro j
    induction j with
    | zero =>
      intro k hk m hm
      obtain ⟨m, rfl⟩ : ∃ m', m = m' + 1 := ⟨m - 1, by omega⟩
      rw [zfix6_s, show k = N by omega]
      exact he _
    | succ j ih =>
      intro k hk m hm
      obtain ⟨m, rfl⟩ : ∃ m', m = m' + 1 := ⟨m - 1, by omega⟩
      rw [zfix6_s, hs k (by omega)]
      exact ih (k + 1) (by omega) m (by omega)
  exact key N 0 (by omega) n hn
theorem zfor7 {A1 A2 A3 A4 A5 A6 A7 β : Type} {F : (A1 → A2 → A3 → A4 → A5 → A6 → A7 → Option β) → A1 → A2 → A3 → A4 → A5 → A6 → A7 → Option β} {n : Nat} {r : Option β} (N : Nat) (s1 : Nat → A1) (s2 : Nat → A2) (s3 : Nat → A3) (s4 : Nat → A4) (s5 : Nat → A5) (s6 : Nat → A6) (s7 : Nat → A7) (hs : ∀ k, k < N → ∀ rec, F rec (s1 k) (s2 k) (s3 k) (s4 k) (s5 k) (s6 k) (s7 k) = rec (s1 (k + 1)) (s2 (k + 1)) (s3 (k + 1)) (s4 (k + 1)) (s5 (k + 1)) (s6 (k + 1)) (s7 (k + 1))) (he : ∀ rec, F rec (s1 N) (s2 N) (s3 N) (s4 N) (s5 N) (s6 N) (s7 N) = r) (hn : N < n) : zfix7 F n (s1 0) (s2 0) (s3 0) (s4 0) (s5 0) (s6 0) (s7 0) = r := by
  have key : ∀ j k, k + j = N → ∀ m, j < m → zfix7 F m (s1 k) (s2 k) (s3 k) (s4 k) (s5 k) (s6 k) (s7 k) = r := by
    intro j
    induction j with
    | zero =>
      intro k hk m hm
      obtain ⟨m, rfl⟩ : ∃ m', m = m' + 1 := ⟨m - 1, by omega⟩
      rw [zfix7_s, show k = N by omega]
      exact he _
    | succ j ih =>
      intro k hk m hm
      obtain ⟨m, rfl⟩ : ∃ m', m = m' + 1 := ⟨m - 1, by omega⟩
      rw [zfix7_s, hs k (by omega)]
      exact ih (k + 1) (by omega) m (by omega)
  exact key N 0 (by omega) n hn
theorem zfor8 {A1 A2 A3 A4 A5 A6 A7 A8 β : Type} {F : (A1 → A2 → A3 → A4 → A5 → A6 → A7 → A8 → Option β) → A1 → A2 → A3 → A4 → A5 → A6 → A7 → A8 → Option β} {n : Nat} {r : Option β} (N : Nat) (s1 : Nat → A1) (s2 : Nat → A2) (s3 : Nat → A3) (s4 : Nat → A4) (s5 : Nat → A5) (s6 : Nat → A6) (s7 : Nat → A7) (s8 : Nat → A8) (hs : ∀ k, k < N → ∀ rec, F rec (s1 k) (s2 k) (s3 k) (s4 k) (s5 k) (s6 k) (s7 k) (s8 k) = rec (s1 (k + 1)) (s2 (k + 1)) (s3 (k + 1)) (s4 (k + 1)) (s5 (k + 1)) (s6 (k + 1)) (s7 (k + 1)) (s8 (k + 1))) (he : ∀ rec, F rec (s1 N) (s2 N) (s3 N) (s4 N) (s5 N) (s6 N) (s7 N) (s8 N) = r) (hn : N < n) : zfix8 F n (s1 0) (s2 0) (s3 0) (s4 0) (s5 0) (s6 0) (s7 0) (s8 0) = r := by
  have key : ∀ j k, k + j = N → ∀ m, j < m → zfix8 F m (s1 k) (s2 k) (s3 k) (s4 k) (s5 k) (s6 k) (s7 k) (s8 k) = r := by
    intro j
    induction j with
    | zero =>
      intro k hk m hm
      obtain ⟨m, rfl⟩ : ∃ m', m = m' + 1 := ⟨m - 1, by omega⟩
      rw [zfix8_s, show k = N by omega]
      exact he _
    | succ j ih =>
      intro k hk m hm
      obtain ⟨m, rfl⟩ : ∃ m', m = m' + 1 := ⟨m - 1, by omega⟩
      rw [zfix8_s, hs k (by omega)]
      exact ih (k + 1) (by omega) m (by omega)
  exact key N 0 (by omega) n hn
theorem zind1 {A1 β : Type} {F : (A1 → Option β) → A1 → Option β} (P : Nat → A1 → Option β → Prop) (hs : ∀ j a1 r, P j a1 r → (∀ rec, F rec a1 = r) ∨ (∃ j' b1, j' < j ∧ P j' b1 r ∧ ∀ rec, F rec a1 = rec b1)) : ∀ n j a1 r, P j a1 r → j < n → zfix1 F n a1 = r := by
  intro n
  induction n with
  | zero => intro j a1 r _ hn; omega
  | succ n ih =>
    intro j a1 r hP hn
    rw [zfix1_s]
    rcases hs j a1 r hP with he | ⟨j', b1, hj, hP', he⟩
    · exact he _
    · rw [he]
      exact ih j' b1 r hP' (by omega)
theorem zind2 {A1 A2 β : Type} {F : (A1 → A2 → Option β) → A1 → A2 → Option β} (P : Nat → A1 → A2 → Option β → Prop) (hs : ∀ j a1 a2 r, P j a1 a2 r → (∀ rec, F rec a1 a2 = r) ∨ (∃ j' b1 b2, j' < j ∧ P j' b1 b2 r ∧ ∀ rec, F rec a1 a2 = rec b1 b2)) : ∀ n j a1 a2 r, P j a1 a2 r → j < n → zfix2 F n a1 a2 = r := by
  intro n
  induction n with
  | zero => intro j a1 a2 r _ hn; omega
  | succ n ih =>
    intro j a1 a2 r hP hn
    rw [zfix2_s]
    rcases hs j a1 a2 r hP with he | ⟨j', b1, b2, hj, hP', he⟩
    · exact he _
    · rw [he]
      exact ih j' b1 b2 r hP' (by omega)
theorem zind3 {A1 A2 A3 β : Type} {F : (A1 → A2 → A3 → Option β) → A1 → A2 → A3 → Option β} (P : Nat → A1 → A2 → A3 → Option β → Prop) (hs : ∀ j a1 a2 a3 r, P j a1 a2 a3 r → (∀ rec, F rec a1 a2 a3 = r) ∨ (∃ j' b1 b2 b3, j' < j ∧ P j' b1 b2 b3 r ∧ ∀ rec, F rec a1 a2 a3 = rec b1 b2 b3)) : ∀ n j a1 a2 a3 r, P j a1 a2 a3 r → j < n → zfix3 F n a1 a2 a3 = r := by
  intro n
  induction n with
  | zero => intro j a1 a2 a3 r _ hn; omega
  | succ n ih =>
    intro j a1 a2 a3 r hP hn
    rw [zfix3_s]
    rcases hs j a1 a2 a3 r hP with he | ⟨j', b1, b2, b3, hj, hP', he⟩
    · exact he _
    · rw [he]
      exact ih j' b1 b2 b3 r hP' (by omega)
theorem zind4 {A1 A2 A3 A4 β : Type} {F : (A1 → A2 → A3 → A4 → Option β) → A1 → A2 → A3 → A4 → Option β} (P : Nat → A1 → A2 → A3 → A4 → Option β → Prop) (hs : ∀ j a1 a2 a3 a4 r, P j a1 a2 a3 a4 r → (∀ rec, F rec a1 a2 a3 a4 = r) ∨ (∃ j' b1 b2 b3 b4, j' < j ∧ P j' b1 b2 b3 b4 r ∧ ∀ rec, F rec a1 a2 a3 a4 = rec b1 b2 b3 b4)) : ∀ n j a1 a2 a3 a4 r, P j a1 a2 a3 a4 r → j < n → zfix4 F n a1 a2 a3 a4 = r := by
  intro n
  induction n with
  | zero => intro j a1 a2 a3 a4 r _ hn; omega
  | succ n ih =>
    intro j a1 a2 a3 a4 r hP hn
    rw [zfix4_s]
    rcases hs j a1 a2 a3 a4 r hP with he | ⟨j', b1, b2, b3, b4, hj, hP', he⟩
    · exact he _
    · rw [he]
      exact ih j' b1 b2 b3 b4 r hP' (by omega)
theorem zind5 {A1 A2 A3 A4 A5 β : Type} {F : (A1 → A2 → A3 → A4 → A5 → Option β) → A1 → A2 → A3 → A4 → A5 → Option β} (P : Nat → A1 → A2 → A3 → A4 → A5 → Option β → Prop) (hs : ∀ j a1 a2 a3 a4 a5 r, P j a1 a2 a3 a4 a5 r → (∀ rec, F rec a1 a2 a3 a4 a5 = r) ∨ (∃ j' b1 b2 b3 b4 b5, j' < j ∧ P j' b1 b2 b3 b4 b5 r ∧ ∀ rec, F rec a1 a2 a3 a4 a5 = rec b1 b2 b3 b4 b5)) : ∀ n j a1 a2 a3 a4 a5 r, P j a1 a2 a3 a4 a5 r → j < n → zfix5 F n a1 a2 a3 a4 a5 = r := by
  intro n
  induction n with
  | zero => intro j a1 a2 a3 a4 a5 r _ hn; omega
  | succ n ih =>
    intro j a1 a2 a3 a4 a5 r hP hn
    rw [zfix5_s]
    rcases hs j a1 a2 a3 a4 a5 r hP with he | ⟨j', b1, b2, b3, b4, b5, hj, hP', he⟩
    · exact he _
    · rw [he]
      exact ih j' b1 b2 b3 b4 b5 r hP' (by omega)
theorem zind6 {A1 A2 A3 A4 A5 A6 β : Type} {F : (A1 → A2 → A3 → A4 → A5 → A6 → Option β) → A1 → A2 → A3 → A4 → A5 → A6 → Option β} (P : Nat → A1 → A2 → A3 → A4 → A5 → A6 → Option β → Prop) (hs : ∀ j a1 a2 a3 a4 a5 a6 r, P j a1 a2 a3 a4 a5 a6 r → (∀ rec, F rec a1 a2 a3 a4 a5 a6 = r) ∨ (∃ j' b1 b2 b3 b4 b5 b6, j' < j ∧ P j' b1 b2 b3 b4 b5 b6 r ∧ ∀ rec, F rec a1 a2 a3 a4 a5 a6 = rec b1 b2 b3 b4 b5 b6)) : ∀ n j a1 a2 a3 a4 a5 a6 r, P j a1 a2 a3 a4 a5 a6 r → j < n → zfix6 F n a1 a2 a3 a4 a5 a6 = r := by
  intro n
  induction n with
  | zero => intro j a1 a2 a3 a4 a5 a6 r _ hn; omega
  | succ n ih =>
    intro j a1 a2 a3 a4 a5 a6 r hP hn
    rw [zfix6_s]
    rcases hs j a1 a2 a3 a4 a5 a6 r hP with he | ⟨j', b1, b2, b3, b4, b5, b6, hj, hP', he⟩
    · exact he _
    · rw [he]
      exact ih j' b1 b2 b3 b4 b5 b6 r hP' (by omega)
theorem zind7 {A1 A2 A3 A4 A5 A6 A7 β : Type} {F : (A1 → A2 → A3 → A4 → A5 → A6 → A7 → Option β) → A1 → A2 → A3 → A4 → A5 → A6 → A7 → Option β} (P : Nat → A1 → A2 → A3 → A4 → A5 → A6 → A7 → Option β → Prop) (hs : ∀ j a1 a2 a3 a4 a5 a6 a7 r, P j a1 a2 a3 a4 a5 a6 a7 r → (∀ rec, F rec a1 a2 a3 a4 a5 a6 a7 = r) ∨ (∃ j' b1 b2 b3 b4 b5 b6 b7, j' < j ∧ P j' b1 b2 b3 b4 b5 b6 b7 r ∧ ∀ rec, F rec a1 a2 a3 a4 a5 a6 a7 = rec b1 b2 b3 b4 b5 b6 b7)) : ∀ n j a1 a2 a3 a4 a5 a6 a7 r, P j a1 a2 a3 a4 a5 a6 a7 r → j < n → zfix7 F n a1 a2 a3 a4 a5 a6 a7 = r := by
  intro n
  induction n with
  | zero => intro j a1 a2 a3 a4 a5 a6 a7 r _ hn; omega
  | succ n ih =>
    intro j a1 a2 a3 a4 a5 a6 a7 r hP hn
    rw [zfix7_s]
    rcases hs j a1 a2 a3 a4 a5 a6 a7 r hP with he | ⟨j', b1, b2, b3, b4, b5, b6, b7, hj, hP', he⟩
    · exact he _
    · rw [he]
      exact ih j' b1 b2 b3 b4 b5 b6 b7 r hP' (by omega)
theorem zind8 {A1 A2 A3 A4 A5 A6 A7 A8 β : Type} {F : (A1 → A2 → A3 → A4 → A5 → A6 → A7 → A8 → Option β) → A1 → A2 → A3 → A4 → A5 → A6 → A7 → A8 → Option β} (P : Nat → A1 → A2 → A3 → A4 → A5 → A6 → A7 → A8 → Option β → Prop) (hs : ∀ j a1 a2 a3 a4 a5 a6 a7 a8 r, P j a1 a2 a3 a4 a5 a6 a7 a8 r → (∀ rec, F rec a1 a2 a3 a4 a5 a6 a7 a8 = r) ∨ (∃ j' b1 b2 b3 b4 b5 b6 b7 b8, j' < j ∧ P j' b1 b2 b3 b4 b5 b6 b7 b8 r ∧ ∀ rec, F rec a1 a2 a3 a4 a5 a6 a7 a8 = rec b1 b2 b3 b4 b5 b6 b7 b8)) : ∀ n j a1 a2 a3 a4 a5 a6 a7 a8 r, P j a1 a2 a3 a4 a5 a6 a7 a8 r → j < n → zfix8 F n a1 a2 a3 a4 a5 a6 a7 a8 = r := by
  intro n
  induction n with
  | zero => intro j a1 a2 a3 a4 a5 a6 a7 a8 r _ hn; omega
  | succ n ih =>
    intro j a1 a2 a3 a4 a5 a6 a7 a8 r hP hn
    rw [zfix8_s]
    rcases hs j a1 a2 a3 a4 a5 a6 a7 a8 r hP with he | ⟨j', b1, b2, b3, b4, b5, b6, b7, b8, hj, hP', he⟩
    · exact he _
    · rw [he]
      exact ih j' b1 b2 b3 b4 b5 b6 b7 b8 r hP' (by omega)
theorem zwh1 {A1 β : Type} {F : (A1 → Option β) → A1 → Option β} {Q : Option β → Prop} (P : Nat → A1 → Prop) (hs : ∀ j a1, P j a1 → (∀ rec, Q (F rec a1)) ∨ (∃ j' b1, j' < j ∧ P j' b1 ∧ ∀ rec, F rec a1 = rec b1)) : ∀ n j a1, P j a1 → j < n → Q (zfix1 F n a1) := by
  intro n
  induction n with
  | zero => intro j a1 _ hn; omega
  | succ n ih =>
    intro j a1 hP hn
    rw [zfix1_s]
    rcases hs j a1 hP with he | ⟨j', b1, hj, hP', he⟩
    · exact he _
    · rw [he]
      exact ih j' b1 hP' (by omega)
theorem zwh2 {A1 A2 β : Type} {F : (A1 → A2 → Option β) → A1 → A2 → Option β} {Q : Option β → Prop} (P : Nat → A1 → A2 → Prop) (hs : ∀ j a1 a2, P j a1 a2 → (∀ rec, Q (F rec a1 a2)) ∨ (∃ j' b1 b2, j' < j ∧ P j' b1 b2 ∧ ∀ rec, F rec a1 a2 = rec b1 b2)) : ∀ n j a1 a2, P j a1 a2 → j < n → Q (zfix2 F n a1 a2) := by
  intro n
  induction n with
  | zero => intro j a1 a2 _ hn; omega
  | succ n ih =>
    intro j a1 a2 hP hn
    rw [zfix2_s]
    rcases hs j a1 a2 hP with he | ⟨j', b1, b2, hj, hP', he⟩
    · exact he _
    · rw [he]
      exact ih j' b1 b2 hP' (by omega)
theorem zwh3 {A1 A2 A3 β : Type} {F : (A1 → A2 → A3 → Option β) → A1 → A2 → A3 → Option β} {Q : Option β → Prop} (P : Nat → A1 → A2 → A3 → Prop) (hs : ∀ j a1 a2 a3, P j a1 a2 a3 → (∀ rec, Q (F rec a1 a2 a3)) ∨ (∃ j' b1 b2 b3, j' < j ∧ P j' b1 b2 b3 ∧ ∀ rec, F rec a1 a2 a3 = rec b1 b2 b3)) : ∀ n j a1 a2 a3, P j a1 a2 a3 → j < n → Q (zfix3 F n a1 a2 a3) := by
  intro n
  induction n with
  | zero => intro j a1 a2 a3 _ hn; omega
  | succ n ih =>
    intro j a1 a2 a3 hP hn
    rw [zfix3_s]
    rcases hs j a1 a2 a3 hP with he | ⟨j', b1, b2, b3, hj, hP', he⟩
    · exact he _
    · rw [he]
      exact ih j' b1 b2 b3 hP' (by omega)
theorem zwh4 {A1 A2 A3 A4 β : Type} {F : (A1 → A2 → A3 → A4 → Option β) → A1 → A2 → A3 → A4 → Option β} {Q : Option β → Prop} (P : Nat → A1 → A2 → A3 → A4 → Prop) (hs : ∀ j a1 a2 a3 a4, P j a1 a2 a3 a4 → (∀ rec, Q (F rec a1 a2 a3 a4)) ∨ (∃ j' b1 b2 b3 b4, j' < j ∧ P j' b1 b2 b3 b4 ∧ ∀ rec, F rec a1 a2 a3 a4 = rec b1 b2 b3 b4)) : ∀ n j a1 a2 a3 a4, P j a1 a2 a3 a4 → j < n → Q (zfix4 F n a1 a2 a3 a4) := by
  intro n
  induction n with
  | zero => intro j a1 a2 a3 a4 _ hn; omega
  | succ n ih =>
    intro j a1 a2 a3 a4 hP hn
    rw [zfix4_s]
    rcases hs j a1 a2 a3 a4 hP with he | ⟨j', b1, b2, b3, b4, hj, hP', he⟩
    · exact he _
    · rw [he]
      exact ih j' b1 b2 b3 b4 hP' (by omega)
theorem zwh5 {A1 A2 A3 A4 A5 β : Type} {F : (A1 → A2 → A3 → A4 → A5 → Option β) → A1 → A2 → A3 → A4 → A5 → Option β} {Q : Option β → Prop} (P : Nat → A1 → A2 → A3 → A4 → A5 → Prop) (hs : ∀ j a1 a2 a3 a4 a5, P j a1 a2 a3 a4 a5 → (∀ rec, Q (F rec a1 a2 a3 a4 a5)) ∨ (∃ j' b1 b2 b3 b4 b5, j' < j ∧ P j' b1 b2 b3 b4 b5 ∧ ∀ rec, F rec a1 a2 a3 a4 a5 = rec b1 b2 b3 b4 b5)) : ∀ n j a1 a2 a3 a4 a5, P j a1 a2 a3 a4 a5 → j < n → Q (zfix5 F n a1 a2 a3 a4 a5) := by
  intro n
  induction n with
  | zero => intro j a1 a2 a3 a4 a5 _ hn; omega
  | succ n ih =>
    intro j a1 a2 a3 a4 a5 hP hn
    rw [zfix5_s]
    rcases hs j a1 a2 a3 a4 a5 hP with he | ⟨j', b1, b2, b3, b4, b5, hj, hP', he⟩
    · exact he _
    · rw [he]
      exact ih j' b1 b2 b3 b4 b5 hP' (by omega)
theorem zwh6 {A1 A2 A3 A4 A5 A6 β : Type} {F : (A1 → A2 → A3 → A4 → A5 → A6 → Option β) → A1 → A2 → A3 → A4 → A5 → A6 → Option β} {Q : Option β → Prop} (P : Nat → A1 → A2 → A3 → A4 → A5 → A6 → Prop) (hs : ∀ j a1 a2 a3 a4 a5 a6, P j a1 a2 a3 a4 a5 a6 → (∀ rec, Q (F rec a1 a2 a3 a4 a5 a6)) ∨ (∃ j' b1 b2 b3 b4 b5 b6, j' < j ∧ P j' b1 b2 b3 b4 b5 b6 ∧ ∀ rec, F rec a1 a2 a3 a4 a5 a6 = rec b1 b2 b3 b4 b5 b6)) : ∀ n j a1 a2 a3 a4 a5 a6, P j a1 a2 a3 a4 a5 a6 → j < n → Q (zfix6 F n a1 a2 a3 a4 a5 a6) := by
  intro n
  induction n with
  | zero => intro j a1 a2 a3 a4 a5 a6 _ hn; omega
  | succ n ih =>
    intro j a1 a2 a3 a4 a5 a6 hP hn
    rw [zfix6_s]
    rcases hs j a1 a2 a3 a4 a5 a6 hP with he | ⟨j', b1, b2, b3, b4, b5, b6, hj, hP', he⟩
    · exact he _
    · rw [he]
      exact ih j' b1 b2 b3 b4 b5 b6 hP' (by omega)
theorem zwh7 {A1 A2 A3 A4 A5 A6 A7 β : Type} {F : (A1 → A2 → A3 → A4 → A5 → A6 → A7 → Option β) → A1 → A2 → A3 → A4 → A5 → A6 → A7 → Option β} {Q : Option β → Prop} (P : Nat → A1 → A2 → A3 → A4 → A5 → A6 → A7 → Prop) (hs : ∀ j a1 a2 a3 a4 a5 a6 a7, P j a1 a2 a3 a4 a5 a6 a7 → (∀ rec, Q (F rec a1 a2 a3 a4 a5 a6 a7)) ∨ (∃ j' b1 b2 b3 b4 b5 b6 b7, j' < j ∧ P j' b1 b2 b3 b4 b5 b6 b7 ∧ ∀ rec, F rec a1 a2 a3 a4 a5 a6 a7 = rec b1 b2 b3 b4 b5 b6 b7)) : ∀ n j a1 a2 a3 a4 a5 a6 a7, P j a1 a2 a3 a4 a5 a6 a7 → j < n → Q (zfix7 F n a1 a2 a3 a4 a5 a6 a7) := by
  intro n
  induction n with
  | zero => intro j a1 a2 a3 a4 a5 a6 a7 _ hn; omega
  | succ n ih =>
    intro j a1 a2 a3 a4 a5 a6 a7 hP hn
    rw [zfix7_s]
    rcases hs j a1 a2 a3 a4 a5 a6 a7 hP with he | ⟨j', b1, b2, b3, b4, b5, b6, b7, hj, hP', he⟩
    · exact he _
    · rw [he]
      exact ih j' b1 b2 b3 b4 b5 b6 b7 hP' (by omega)
theorem zwh8 {A1 A2 A3 A4 A5 A6 A7 A8 β : Type} {F : (A1 → A2 → A3 → A4 → A5 → A6 → A7 → A8 → Option β) → A1 → A2 → A3 → A4 → A5 → A6 → A7 → A8 → Option β} {Q : Option β → Prop} (P : Nat → A1 → A2 → A3 → A4 → A5 → A6 → A7 → A8 → Prop) (hs : ∀ j a1 a2 a3 a4 a5 a6 a7 a8, P j a1 a2 a3 a4 a5 a6 a7 a8 → (∀ rec, Q (F rec a1 a2 a3 a4 a5 a6 a7 a8)) ∨ (∃ j' b1 b2 b3 b4 b5 b6 b7 b8, j' < j ∧ P j' b1 b2 b3 b4 b5 b6 b7 b8 ∧ ∀ rec, F rec a1 a2 a3 a4 a5 a6 a7 a8 = rec b1 b2 b3 b4 b5 b6 b7 b8)) : ∀ n j a1 a2 a3 a4 a5 a6 a7 a8, P j a1 a2 a3 a4 a5 a6 a7 a8 → j < n → Q (zfix8 F n a1 a2 a3 a4 a5 a6 a7 a8) := by
  intro n
  induction n with
  | zero => intro j a1 a2 a3 a4 a5 a6 a7 a8 _ hn; omega
  | succ n ih =>
    intro j a1 a2 a3 a4 a5 a6 a7 a8 hP hn
    rw [zfix8_s]
    rcases hs j a1 a2 a3 a4 a5 a6 a7 a8 hP with he | ⟨j', b1, b2, b3, b4, b5, b6, b7, b8, hj, hP', he⟩
    · exact he _
    · rw [he]
      exact ih j' b1 b2 b3 b4 b5 b6 b7 b8 hP' (by omega)
theorem zrun1 {A1 β ρT O : Type} {F : ρT → (A1 → Option β) → A1 → Option β} {G : ρT → O → Option β} {Q : O → Prop} (P : Nat → A1 → Prop) (hs : ∀ j a1, P j a1 → (∃ o, Q o ∧ ∀ r rec, F r rec a1 = G r o) ∨ (∃ j' b1, j' < j ∧ P j' b1 ∧ ∀ r rec, F r rec a1 = rec b1)) : ∀ n j a1, P j a1 → j < n → ∃ o, Q o ∧ ∀ r, zfix1 (F r) n a1 = G r o := by
  intro n
  induction n with
  | zero => intro j a1 _ hn; omega
  | succ n ih =>
    intro j a1 hP hn
    rcases hs j a1 hP with ⟨o, hQ, he⟩ | ⟨j', b1, hj, hP', he⟩
    · exact ⟨o, hQ, fun r => by rw [zfix1_s, he]⟩
    · obtain ⟨o, hQ, h2⟩ := ih j' b1 hP' (by omega)
      exact ⟨o, hQ, fun r => by rw [zfix1_s, he, h2]⟩
theorem zrun2 {A1 A2 β ρT O : Type} {F : ρT → (A1 → A2 → Option β) → A1 → A2 → Option β} {G : ρT → O → Option β} {Q : O → Prop} (P : Nat → A1 → A2 → Prop) (hs : ∀ j a1 a2, P j a1 a2 → (∃ o, Q o ∧ ∀ r rec, F r rec a1 a2 = G r o) ∨ (∃ j' b1 b2, j' < j ∧ P j' b1 b2 ∧ ∀ r rec, F r rec a1 a2 = rec b1 b2)) : ∀ n j a1 a2, P j a1 a2 → j < n → ∃ o, Q o ∧ ∀ r, zfix2 (F r) n a1 a2 = G r o := by
  intro n
  induction n with
  | zero => intro j a1 a2 _ hn; omega
  | succ n ih =>
    intro j a1 a2 hP hn
    rcases hs j a1 a2 hP with ⟨o, hQ, he⟩ | ⟨j', b1, b2, hj, hP', he⟩
    · exact ⟨o, hQ, fun r => by rw [zfix2_s, he]⟩
    · obtain ⟨o, hQ, h2⟩ := ih j' b1 b2 hP' (by omega)
      exact ⟨o, hQ, fun r => by rw [zfix2_s, he, h2]⟩
theorem zrun3 {A1 A2 A3 β ρT O : Type} {F : ρT → (A1 → A2 → A3 → Option β) → A1 → A2 → A3 → Option β} {G : ρT → O → Option β} {Q : O → Prop} (P : Nat → A1 → A2 → A3 → Prop) (hs : ∀ j a1 a2 a3, P j a1 a2 a3 → (∃ o, Q o ∧ ∀ r rec, F r rec a1 a2 a3 = G r o) ∨ (∃ j' b1 b2 b3, j' < j ∧ P j' b1 b2 b3 ∧ ∀ r rec, F r rec a1 a2 a3 = rec b1 b2 b3)) : ∀ n j a1 a2 a3, P j a1 a2 a3 → j < n → ∃ o, Q o ∧ ∀ r, zfix3 (F r) n a1 a2 a3 = G r o := by
  intro n
  induction n with
  | zero => intro j a1 a2 a3 _ hn; omega
  | succ n ih =>
    intro j a1 a2 a3 hP hn
    rcases hs j a1 a2 a3 hP with ⟨o, hQ, he⟩ | ⟨j', b1, b2, b3, hj, hP', he⟩
    · exact ⟨o, hQ, fun r => by rw [zfix3_s, he]⟩
    · obtain ⟨o, hQ, h2⟩ := ih j' b1 b2 b3 hP' (by omega)
      exact ⟨o, hQ, fun r => by rw [zfix3_s, he, h2]⟩
theorem zrun4 {A1 A2 A3 A4 β ρT O : Type} {F : ρT → (A1 → A2 → A3 → A4 → Option β) → A1 → A2 → A3 → A4 → Option β} {G : ρT → O → Option β} {Q : O → Prop} (P : Nat → A1 → A2 → A3 → A4 → Prop) (hs : ∀ j a1 a2 a3 a4, P j a1 a2 a3 a4 → (∃ o, Q o ∧ ∀ r rec, F r rec a1 a2 a3 a4 = G r o) ∨ (∃ j' b1 b2 b3 b4, j' < j ∧ P j' b1 b2 b3 b4 ∧ ∀ r rec, F r rec a1 a2 a3 a4 = rec b1 b2 b3 b4)) : ∀ n j a1 a2 a3 a4, P j a1 a2 a3 a4 → j < n → ∃ o, Q o ∧ ∀ r, zfix4 (F r) n a1 a2 a3 a4 = G r o := by
  intro n
  induction n with
  | zero => intro j a1 a2 a3 a4 _ hn; omega
  | succ n ih =>
    intro j a1 a2 a3 a4 hP hn
    rcases hs j a1 a2 a3 a4 hP with ⟨o, hQ, he⟩ | ⟨j', b1, b2, b3, b4, hj, hP', he⟩
    · exact ⟨o, hQ, fun r => by rw [zfix4_s, he]⟩
    · obtain ⟨o, hQ, h2⟩ := ih j' b1 b2 b3 b4 hP' (by omega)
      exact ⟨o, hQ, fun r => by rw [zfix4_s, he, h2]⟩
theorem zrun5 {A1 A2 A3 A4 A5 β ρT O : Type} {F : ρT → (A1 → A2 → A3 → A4 → A5 → Option β) → A1 → A2 → A3 → A4 → A5 → Option β} {G : ρT → O → Option β} {Q : O → Prop} (P : Nat → A1 → A2 → A3 → A4 → A5 → Prop) (hs : ∀ j a1 a2 a3 a4 a5, P j a1 a2 a3 a4 a5 → (∃ o, Q o ∧ ∀ r rec, F r rec a1 a2 a3 a4 a5 = G r o) ∨ (∃ j' b1 b2 b3 b4 b5, j' < j ∧ P j' b1 b2 b3 b4 b5 ∧ ∀ r rec, F r rec a1 a2 a3 a4 a5 = rec b1 b2 b3 b4 b5)) : ∀ n j a1 a2 a3 a4 a5, P j a1 a2 a3 a4 a5 → j < n → ∃ o, Q o ∧ ∀ r, zfix5 (F r) n a1 a2 a3 a4 a5 = G r o := by
  intro n
  induction n with
  | zero => intro j a1 a2 a3 a4 a5 _ hn; omega
  | succ n ih =>
    intro j a1 a2 a3 a4 a5 hP hn
    rcases hs j a1 a2 a3 a4 a5 hP with ⟨o, hQ, he⟩ | ⟨j', b1, b2, b3, b4, b5, hj, hP', he⟩
    · exact ⟨o, hQ, fun r => by rw [zfix5_s, he]⟩
    · obtain ⟨o, hQ, h2⟩ := ih j' b1 b2 b3 b4 b5 hP' (by omega)
      exact ⟨o, hQ, fun r => by rw [zfix5_s, he, h2]⟩
theorem zrun6 {A1 A2 A3 A4 A5 A6 β ρT O : Type} {F : ρT → (A1 → A2 → A3 → A4 → A5 → A6 → Option β) → A1 → A2 → A3 → A4 → A5 → A6 → Option β} {G : ρT → O → Option β} {Q : O → Prop} (P : Nat → A1 → A2 → A3 → A4 → A5 → A6 → Prop) (hs : ∀ j a1 a2 a3 a4 a5 a6, P j a1 a2 a3 a4 a5 a6 → (∃ o, Q o ∧ ∀ r rec, F r rec a1 a2 a3 a4 a5 a6 = G r o) ∨ (∃ j' b1 b2 b3 b4 b5 b6, j' < j ∧ P j' b1 b2 b3 b4 b5 b6 ∧ ∀ r rec, F r rec a1 a2 a3 a4 a5 a6 = rec b1 b2 b3 b4 b5 b6)) : ∀ n j a1 a2 a3 a4 a5 a6, P j a1 a2 a3 a4 a5 a6 → j < n → ∃ o, Q o ∧ ∀ r, zfix6 (F r) n a1 a2 a3 a4 a5 a6 = G r o := by
  intro n
  induction n with
  | zero => intro j a1 a2 a3 a4 a5 a6 _ hn; omega
  | succ n ih =>
    intro j a1 a2 a3 a4 a5 a6 hP hn
    rcases hs j a1 a2 a3 a4 a5 a6 hP with ⟨o, hQ, he⟩ | ⟨j', b1, b2, b3, b4, b5, b6, hj, hP', he⟩
    · exact ⟨o, hQ, fun r => by rw [zfix6_s, he]⟩
    · obtain ⟨o, hQ, h2⟩ := ih j' b1 b2 b3 b4 b5 b6 hP' (by omega)
      exact ⟨o, hQ, fun r => by rw [zfix6_s, he, h2]⟩
theorem zrun7 {A1 A2 A3 A4 A5 A6 A7 β ρT O : Type} {F : ρT → (A1 → A2 → A3 → A4 → A5 → A6 → A7 → Option β) → A1 → A2 → A3 → A4 → A5 → A6 → A7 → Option β} {G : ρT → O → Option β} {Q : O → Prop} (P : Nat → A1 → A2 → A3 → A4 → A5 → A6 → A7 → Prop) (hs : ∀ j a1 a2 a3 a4 a5 a6 a7, P j a1 a2 a3 a4 a5 a6 a7 → (∃ o, Q o ∧ ∀ r rec, F r rec a1 a2 a3 a4 a5 a6 a7 = G r o) ∨ (∃ j' b1 b2 b3 b4 b5 b6 b7, j' < j ∧ P j' b1 b2 b3 b4 b5 b6 b7 ∧ ∀ r rec, F r rec a1 a2 a3 a4 a5 a6 a7 = rec b1 b2 b3 b4 b5 b6 b7)) : ∀ n j a1 a2 a3 a4 a5 a6 a7, P j a1 a2 a3 a4 a5 a6 a7 → j < n → ∃ o, Q o ∧ ∀ r, zfix7 (F r) n a1 a2 a3 a4 a5 a6 a7 = G r o := by
  intro n
  induction n with
  | zero => intro j a1 a2 a3 a4 a5 a6 a7 _ hn; omega
  | succ n ih =>
    intro j a1 a2 a3 a4 a5 a6 a7 hP hn
    rcases hs j a1 a2 a3 a4 a5 a6 a7 hP with ⟨o, hQ, he⟩ | ⟨j', b1, b2, b3, b4, b5, b6, b7, hj, hP', he⟩
    · exact ⟨o, hQ, fun r => by rw [zfix7_s, he]⟩
    · obtain ⟨o, hQ, h2⟩ := ih j' b1 b2 b3 b4 b5 b6 b7 hP' (by omega)
      exact ⟨o, hQ, fun r => by rw [zfix7_s, he, h2]⟩
theorem zrun8 {A1 A2 A3 A4 A5 A6 A7 A8 β ρT O : Type} {F : ρT → (A1 → A2 → A3 → A4 → A5 → A6 → A7 → A8 → Option β) → A1 → A2 → A3 → A4 → A5 → A6 → A7 → A8 → Option β} {G : ρT → O → Option β} {Q : O → Prop} (P : Nat → A1 → A2 → A3 → A4 → A5 → A6 → A7 → A8 → Prop) (hs : ∀ j a1 a2 a3 a4 a5 a6 a7 a8, P j a1 a2 a3 a4 a5 a6 a7 a8 → (∃ o, Q o ∧ ∀ r rec, F r rec a1 a2 a3 a4 a5 a6 a7 a8 = G r o) ∨ (∃ j' b1 b2 b3 b4 b5 b6 b7 b8, j' < j ∧ P j' b1 b2 b3 b4 b5 b6 b7 b8 ∧ ∀ r rec, F r rec a1 a2 a3 a4 a5 a6 a7 a8 = rec b1 b2 b3 b4 b5 b6 b7 b8)) : ∀ n j a1 a2 a3 a4 a5 a6 a7 a8, P j a1 a2 a3 a4 a5 a6 a7 a8 → j < n → ∃ o, Q o ∧ ∀ r, zfix8 (F r) n a1 a2 a3 a4 a5 a6 a7 a8 = G r o := by
  intro n
  induction n with
  | zero => intro j a1 a2 a3 a4 a5 a6 a7 a8 _ hn; omega
  | succ n ih =>
    intro j a1 a2 a3 a4 a5 a6 a7 a8 hP hn
    rcases hs j a1 a2 a3 a4 a5 a6 a7 a8 hP with ⟨o, hQ, he⟩ | ⟨j', b1, b2, b3, b4, b5, b6, b7, b8, hj, hP', he⟩
    · exact ⟨o, hQ, fun r => by rw [zfix8_s, he]⟩
    · obtain ⟨o, hQ, h2⟩ := ih j' b1 b2 b3 b4 b5 b6 b7 b8 hP' (by omega)
      exact ⟨o, hQ, fun r => by rw [zfix8_s, he, h2]⟩
def L_J7_fill_53178_5 (n : Nat) (v3 : Int32) (p0 : Nat) (p1 : Int32) (a2_5 : Int32) (h5 : zH) : Option (zH) := zfix2 (fun rec5 (a2_5 : Int32) (h5 : zH) => if v3 ≤ a2_5 then (some h5) else ((zsi h5 p0 a2_5 p1).bind fun (h13 : zH) => zlet (a2_5 + 1) fun (x14 : Int32) => rec5 x14 h13)) n a2_5 h5
theorem e_J7_fill_53178 (n : Nat) (p0 : Nat) (p1 : Int32) (h : zH) : f_J7_fill_53178 n p0 p1 h = ((zlen h p0).bind fun (v3 : Int32) => L_J7_fill_53178_5 n v3 p0 p1 (0 : Int32) h) := rfl
def L_X0_bankShares_5 (n : Nat) (h : zH) (this : Nat) (a1_5 : Int32) (a2_5 : Int32) : Option (Int32) := zfix2 (fun rec5 (a1_5 : Int32) (a2_5 : Int32) => if (4 : Int32) ≤ a2_5 then (some a1_5) else ((zgR h this 0 0).bind fun (v12 : Nat) => (zai h v12 a2_5).bind fun (v16 : Int32) => zlet ((a1_5 - v16)) fun (x18 : Int32) => zlet (a2_5 + 1) fun (x19 : Int32) => rec5 x18 x19)) n a1_5 a2_5
theorem e_X0_bankShares (n : Nat) (this : Nat) (h : zH) : f_X0_bankShares n this h = (L_X0_bankShares_5 n h this (10 : Int32) (0 : Int32)) := rfl
def L_X0_exchangedShares_4 (n : Nat) (h : zH) (this : Nat) (a1_4 : Int32) (a2_4 : Int32) : Option (Int32) := zfix2 (fun rec4 (a1_4 : Int32) (a2_4 : Int32) => if (4 : Int32) ≤ a2_4 then (some a1_4) else ((zgR h this 0 0).bind fun (v11 : Nat) => (zai h v11 a2_4).bind fun (v15 : Int32) => zlet ((a1_4 + (v15 / (2 : Int32)))) fun (x19 : Int32) => zlet (a2_4 + 1) fun (x20 : Int32) => rec4 x19 x20)) n a1_4 a2_4
theorem e_X0_exchangedShares (n : Nat) (this : Nat) (h : zH) : f_X0_exchangedShares n this h = (L_X0_exchangedShares_4 n h this (0 : Int32) (0 : Int32)) := rfl
def L_X0_findPresident_37 (n : Nat) (h : zH) (this : Nat) (a1_37 : Int32) (a2_37 : Int32) (a3_37 : Int32) : Option (zH) := zfix3 (fun rec37 (a1_37 : Int32) (a2_37 : Int32) (a3_37 : Int32) => if (4 : Int32) ≤ a3_37 then ((zp h this 0 6 (.int a2_37)).bind fun (h69 : zH) => some h69) else ((zgR h this 0 0).bind fun (v43 : Nat) => (zai h v43 a3_37).bind fun (v47 : Int32) => zlet (fun (a1_61 : Int32) (a2_61 : Int32) => zlet (a3_37 + 1) fun (x61 : Int32) => rec37 a1_61 a2_61 x61) fun K61 => if v47 ≤ a1_37 then (K61 a1_37 a2_37) else ((zgR h this 0 0).bind fun (v53 : Nat) => (zai h v53 a3_37).bind fun (v57 : Int32) => K61 v57 a3_37))) n a1_37 a2_37 a3_37
theorem e_X0_findPresident (n : Nat) (this : Nat) (h : zH) : f_X0_findPresident n this h = ((zgI h this 0 6).bind fun (v1 : Int32) => zlet (fun (s0_21 : Int32) => zlet (fun (s0_34 : Int32) => L_X0_findPresident_37 n h this s0_21 s0_34 (0 : Int32)) fun K34 => if s0_21 ≤ 0 then (K34 (-1 : Int32)) else ((zgI h this 0 6).bind fun (v27 : Int32) => K34 v27)) fun K21 => if v1 = (-1 : Int32) then (K21 (0 : Int32)) else ((zgR h this 0 0).bind fun (v13 : Nat) => (zgI h this 0 6).bind fun (v17 : Int32) => (zai h v13 v17).bind fun (v20 : Int32) => K21 v20)) := rfl
def L_X2_copyFrom_17 (n : Nat) (p0 : Nat) (this : Nat) (a2_17 : Int32) (h17 : zH) : Option (zH) := zfix2 (fun rec17 (a2_17 : Int32) (h17 : zH) => if (8 : Int32) ≤ a2_17 then (some h17) else ((zgR h17 p0 2 1).bind fun (v24 : Nat) => (zar h17 v24 2 a2_17).bind fun (v28 : Nat) => (zgR h17 this 2 1).bind fun (v31 : Nat) => (zar h17 v31 2 a2_17).bind fun (v35 : Nat) => (zcp h17 v28 (0 : Int32) v35 (0 : Int32) (8 : Int32)).bind fun (h39 : zH) => zlet (a2_17 + 1) fun (x42 : Int32) => rec17 x42 h39)) n a2_17 h17
theorem e_X2_copyFrom (n : Nat) (this : Nat) (p0 : Nat) (h : zH) : f_X2_copyFrom n this p0 h = ((zgR h p0 2 0).bind fun (v1 : Nat) => (zgR h this 2 0).bind fun (v6 : Nat) => (zcp h v1 (0 : Int32) v6 (0 : Int32) (8 : Int32)).bind fun (h12 : zH) => L_X2_copyFrom_17 n p0 this (0 : Int32) h12) := rfl
def L_X2_tracks_14 (n : Nat) (a2_4 : Int32) (rec4 : Int32 → Int32 → Option (Int32)) (h : zH) (this : Nat) (a1_14 : Int32) (a3_14 : Int32) : Option (Int32) := zfix2 (fun rec14 (a1_14 : Int32) (a3_14 : Int32) => if (8 : Int32) ≤ a3_14 then (zlet (a2_4 + 1) fun (x45 : Int32) => rec4 a1_14 x45) else ((zgR h this 2 1).bind fun (v22 : Nat) => (zar h v22 2 a2_4).bind fun (v26 : Nat) => (zai h v26 a3_14).bind fun (v28 : Int32) => zlet (fun (s0_37 : Int32) => zlet ((a1_14 + s0_37)) fun (x38 : Int32) => zlet (a3_14 + 1) fun (x39 : Int32) => rec14 x38 x39) fun K37 => if v28 ≤ 0 then (K37 (0 : Int32)) else (K37 (1 : Int32)))) n a1_14 a3_14
def L_X2_tracks_4 (n : Nat) (h : zH) (this : Nat) (a1_4 : Int32) (a2_4 : Int32) : Option (Int32) := zfix2 (fun rec4 (a1_4 : Int32) (a2_4 : Int32) => if (8 : Int32) ≤ a2_4 then (some a1_4) else (zlet ((a2_4 + (1 : Int32))) fun (x13 : Int32) => L_X2_tracks_14 n a2_4 rec4 h this a1_4 x13)) n a1_4 a2_4
theorem e_X2_tracks (n : Nat) (this : Nat) (h : zH) : f_X2_tracks n this h = (L_X2_tracks_4 n h this (0 : Int32) (0 : Int32)) := rfl
def L_X2_clearTracks_2 (n : Nat) (this : Nat) (a1_2 : Int32) (h2 : zH) : Option (zH) := zfix2 (fun rec2 (a1_2 : Int32) (h2 : zH) => if (8 : Int32) ≤ a1_2 then (some h2) else ((zgR h2 this 2 1).bind fun (v9 : Nat) => (zar h2 v9 2 a1_2).bind fun (v13 : Nat) => (f_J7_fill_53178 n v13 (0 : Int32) h2).bind fun (h15 : zH) => zlet (a1_2 + 1) fun (x18 : Int32) => rec2 x18 h15)) n a1_2 h2
theorem e_X2_clearTracks (n : Nat) (this : Nat) (h : zH) : f_X2_clearTracks n this h = (L_X2_clearTracks_2 n this (0 : Int32) h) := rfl
def L_X3_markNeighbours_5 (n : Nat) (p0 : Nat) (this : Nat) (p1 : Int32) (a3_5 : Int32) (a4_5 : Int32) (h5 : zH) : Option (Int32 × zH) := zfix3 (fun rec5 (a3_5 : Int32) (a4_5 : Int32) (h5 : zH) => if (8 : Int32) ≤ a4_5 then ((zB a3_5).bind fun _ => some (a3_5, h5)) else ((zai h5 p0 a4_5).bind fun (v15 : Int32) => zlet (fun (a3_41 : Int32) (h41 : zH) => zlet (a4_5 + 1) fun (x41 : Int32) => rec5 a3_41 x41 h41) fun K41 => if v15 ≤ 0 then (K41 a3_5 h5) else ((zgR h5 this 3 0).bind fun (v20 : Nat) => (zai h5 v20 a4_5).bind fun (v25 : Int32) => if v25 = (8 : Int32) then ((zgR h5 this 3 0).bind fun (v32 : Nat) => (zsi h5 v32 a4_5 p1).bind fun (h38 : zH) => K41 (1 : Int32) h38) else (K41 a3_5 h5)))) n a3_5 a4_5 h5
theorem e_X3_markNeighbours (n : Nat) (this : Nat) (p0 : Nat) (p1 : Int32) (h : zH) : f_X3_markNeighbours n this p0 p1 h = (L_X3_markNeighbours_5 n p0 this p1 (0 : Int32) (0 : Int32) h) := rfl
def L_X3_measure_37 (n : Nat) (a4_21 : Int32) (rec21 : Int32 → Int32 → zH → Option (zH)) (this : Nat) (p0 : Nat) (a3_37 : Int32) (a5_37 : Int32) (h37 : zH) : Option (zH) := zfix3 (fun rec37 (a3_37 : Int32) (a5_37 : Int32) (h37 : zH) => if (8 : Int32) ≤ a5_37 then (zlet (a4_21 + 1) fun (x82 : Int32) => rec21 a3_37 x82 h37) else ((zgR h37 this 3 0).bind fun (v45 : Nat) => (zai h37 v45 a5_37).bind fun (v50 : Int32) => zlet (fun (a3_76 : Int32) (h76 : zH) => zlet (a5_37 + 1) fun (x76 : Int32) => rec37 a3_76 x76 h76) fun K76 => if v50 = (a4_21 - (1 : Int32)) then ((zgR h37 p0 2 1).bind fun (v60 : Nat) => (zar h37 v60 2 a5_37).bind fun (v65 : Nat) => zrc h37 this 3 <| zb2 (f_X3_markNeighbours n this v65 a4_21 h37) fun (r68 : Int32) (h68 : zH) => if r68 = 0 then (K76 a3_37 h68) else (K76 (1 : Int32) h68)) else (K76 a3_37 h37))) n a3_37 a5_37 h37
def L_X3_measure_21 (n : Nat) (this : Nat) (p0 : Nat) (a3_21 : Int32) (a4_21 : Int32) (h21 : zH) : Option (zH) := zfix3 (fun rec21 (a3_21 : Int32) (a4_21 : Int32) (h21 : zH) => if (8 : Int32) ≤ a4_21 then (some h21) else (if a3_21 = 0 then (some h21) else (L_X3_measure_37 n a4_21 rec21 this p0 (0 : Int32) (0 : Int32) h21))) n a3_21 a4_21 h21
theorem e_X3_measure (n : Nat) (this : Nat) (p0 : Nat) (p1 : Int32) (h : zH) : f_X3_measure n this p0 p1 h = ((zgR h this 3 0).bind fun (v1 : Nat) => (f_J7_fill_53178 n v1 (8 : Int32) h).bind fun (h6 : zH) => (zgR h6 this 3 0).bind fun (v10 : Nat) => (zsi h6 v10 p1 (0 : Int32)).bind fun (h15 : zH) => L_X3_measure_21 n this p0 (1 : Int32) (1 : Int32) h15) := rfl
def L_X3_find_40 (n : Nat) (this : Nat) (a4_40 : Int32) (h40 : zH) : Option (zH) := zfix2 (fun rec40 (a4_40 : Int32) (h40 : zH) => if (8 : Int32) ≤ a4_40 then (some h40) else ((f_X3_grow n 7 this a4_40 (0 : Int32) (0 : Int32) (0 : Int32) h40).bind fun (h53 : zH) => zlet (a4_40 + 1) fun (x56 : Int32) => rec40 x56 h53)) n a4_40 h40
theorem e_X3_find (n : Nat) (this : Nat) (p0 : Nat) (p1 : Int32) (p2 : Int32) (h : zH) : f_X3_find n this p0 p1 p2 h = (zrc h this 3 <| (f_X3_measure n this p0 p1 h).bind fun (h3 : zH) => (zp h3 this 3 3 (.ref p0)).bind fun (h8 : zH) => (zp h8 this 3 4 (.int ((1 : Int32) <<< (p1 &&& 31)))).bind fun (h15 : zH) => (zp h15 this 3 5 (.int (zmin p2 (5 : Int32)))).bind fun (h24 : zH) => (zp h24 this 3 6 (.int (0 : Int32))).bind fun (h29 : zH) => (zp h29 this 3 7 (.int (-1 : Int32))).bind fun (h34 : zH) => L_X3_find_40 n this (0 : Int32) h34) := rfl
def L_X1_cheapestHeld_4 (n : Nat) (h : zH) (this : Nat) (p0 : Int32) (a2_4 : Int32) (a3_4 : Int32) : Option (Int32) := zfix2 (fun rec4 (a2_4 : Int32) (a3_4 : Int32) => if (4 : Int32) ≤ a3_4 then (some a2_4) else ((zgR h this 1 2).bind fun (v10 : Nat) => (zar h v10 3 a3_4).bind fun (v14 : Nat) => (zgI h v14 0 1).bind fun (v19 : Int32) => zlet (fun (a2_59 : Int32) => zlet (a3_4 + 1) fun (x59 : Int32) => rec4 a2_59 x59) fun K59 => if v19 = 0 then (K59 a2_4) else ((zgR h v14 0 0).bind fun (v27 : Nat) => (zai h v27 p0).bind fun (v31 : Int32) => if v31 ≤ 0 then (K59 a2_4) else (zlet (K59 a3_4) fun K57 => if a2_4 = (-1 : Int32) then (K57) else ((zgI h v14 0 4).bind fun (v42 : Int32) => (zgR h this 1 2).bind fun (v46 : Nat) => (zar h v46 3 a2_4).bind fun (v50 : Nat) => (zgI h v50 0 4).bind fun (v51 : Int32) => if v51 ≤ v42 then (K59 a2_4) else (K57)))))) n a2_4 a3_4
theorem e_X1_cheapestHeld (n : Nat) (this : Nat) (p0 : Int32) (h : zH) : f_X1_cheapestHeld n this p0 h = (L_X1_cheapestHeld_4 n h this p0 (-1 : Int32) (0 : Int32)) := rfl
def L_X1_openCompanies_4 (n : Nat) (h : zH) (this : Nat) (a1_4 : Int32) (a2_4 : Int32) : Option (Int32) := zfix2 (fun rec4 (a1_4 : Int32) (a2_4 : Int32) => if (4 : Int32) ≤ a2_4 then (some a1_4) else ((zgR h this 1 2).bind fun (v11 : Nat) => (zar h v11 3 a2_4).bind fun (v15 : Nat) => (zgI h v15 0 1).bind fun (v16 : Int32) => zlet (fun (s0_27 : Int32) => zlet ((a1_4 + s0_27)) fun (x28 : Int32) => zlet (a2_4 + 1) fun (x29 : Int32) => rec4 x28 x29) fun K27 => if v16 = 0 then (K27 (0 : Int32)) else (K27 (1 : Int32)))) n a1_4 a2_4
theorem e_X1_openCompanies (n : Nat) (this : Nat) (h : zH) : f_X1_openCompanies n this h = (L_X1_openCompanies_4 n h this (0 : Int32) (0 : Int32)) := rfl
def L_X1_presidenciesOf_4 (n : Nat) (h : zH) (this : Nat) (p0 : Int32) (a2_4 : Int32) (a3_4 : Int32) : Option (Int32) := zfix2 (fun rec4 (a2_4 : Int32) (a3_4 : Int32) => if (4 : Int32) ≤ a3_4 then (some a2_4) else ((zgR h this 1 2).bind fun (v10 : Nat) => (zar h v10 3 a3_4).bind fun (v14 : Nat) => (zgI h v14 0 6).bind fun (v15 : Int32) => zlet (fun (a2_28 : Int32) => zlet (a3_4 + 1) fun (x28 : Int32) => rec4 a2_28 x28) fun K28 => if v15 = p0 then (zlet ((a2_4 ||| ((1 : Int32) <<< (a3_4 &&& 31)))) fun (x27 : Int32) => K28 x27) else (K28 a2_4))) n a2_4 a3_4
theorem e_X1_presidenciesOf (n : Nat) (this : Nat) (p0 : Int32) (h : zH) : f_X1_presidenciesOf n this p0 h = (L_X1_presidenciesOf_4 n h this p0 (0 : Int32) (0 : Int32)) := rfl
def L_X1_putInOrder_5 (n : Nat) (this : Nat) (p0 : Int32) (a2_5 : Int32) (h5 : zH) : Option (zH) := zfix2 (fun rec5 (a2_5 : Int32) (h5 : zH) => zlet ((zgR h5 this 1 4).bind fun (v58 : Nat) => (zsi h5 v58 a2_5 p0).bind fun (h63 : zH) => (zgI h63 this 1 5).bind fun (v66 : Int32) => (zp h63 this 1 5 (.int (v66 + (1 : Int32)))).bind fun (h71 : zH) => some h71) fun K57 => if a2_5 ≤ 0 then (K57) else ((zgR h5 this 1 2).bind fun (v10 : Nat) => (zgR h5 this 1 4).bind fun (v14 : Nat) => (zai h5 v14 (a2_5 - (1 : Int32))).bind fun (v20 : Int32) => (zar h5 v10 3 v20).bind fun (v21 : Nat) => (zgI h5 v21 0 4).bind fun (v22 : Int32) => (zgR h5 this 1 2).bind fun (v26 : Nat) => (zar h5 v26 3 p0).bind fun (v30 : Nat) => (zgI h5 v30 0 4).bind fun (v31 : Int32) => if v31 ≤ v22 then (K57) else ((zgR h5 this 1 4).bind fun (v38 : Nat) => (zgR h5 this 1 4).bind fun (v43 : Nat) => (zai h5 v43 (a2_5 - (1 : Int32))).bind fun (v49 : Int32) => (zsi h5 v38 a2_5 v49).bind fun (h50 : zH) => zlet (a2_5 + (-1)) fun (x51 : Int32) => rec5 x51 h50))) n a2_5 h5
theorem e_X1_putInOrder (n : Nat) (this : Nat) (p0 : Int32) (h : zH) : f_X1_putInOrder n this p0 h = ((zgI h this 1 5).bind fun (v1 : Int32) => L_X1_putInOrder_5 n this p0 v1 h) := rfl
def L_X1_beginOperating_22 (n : Nat) (this : Nat) (a1_22 : Int32) (h22 : zH) : Option (zH) := zfix2 (fun rec22 (a1_22 : Int32) (h22 : zH) => if (4 : Int32) ≤ a1_22 then (zrc h22 this 1 <| (f_X1_endOperatingIfOver n this h22).bind fun (h51 : zH) => some h51) else ((zgR h22 this 1 2).bind fun (v28 : Nat) => (zar h22 v28 3 a1_22).bind fun (v32 : Nat) => (zgI h22 v32 0 1).bind fun (v33 : Int32) => zlet (fun (h44 : zH) => zlet (a1_22 + 1) fun (x44 : Int32) => rec22 x44 h44) fun K44 => if v33 = 0 then (K44 h22) else (zrc h22 this 1 <| (f_X1_putInOrder n this a1_22 h22).bind fun (h41 : zH) => K44 h41))) n a1_22 h22
theorem e_X1_beginOperating (n : Nat) (this : Nat) (h : zH) : f_X1_beginOperating n this h = ((zp h this 1 11 (.int (1 : Int32))).bind fun (h2 : zH) => (zp h2 this 1 7 (.int (0 : Int32))).bind fun (h7 : zH) => (zp h7 this 1 6 (.int (0 : Int32))).bind fun (h12 : zH) => (zp h12 this 1 5 (.int (0 : Int32))).bind fun (h17 : zH) => L_X1_beginOperating_22 n this (0 : Int32) h17) := rfl
def L_X1_copyFrom_13 (n : Nat) (p0 : Nat) (this : Nat) (a2_13 : Int32) (h13 : zH) : Option (zH) := zfix2 (fun rec13 (a2_13 : Int32) (h13 : zH) => if (4 : Int32) ≤ a2_13 then ((zgR h13 p0 1 3).bind fun (v40 : Nat) => (zgR h13 this 1 3).bind fun (v45 : Nat) => (zcp h13 v40 (0 : Int32) v45 (0 : Int32) (4 : Int32)).bind fun (h50 : zH) => (zgR h50 p0 1 4).bind fun (v54 : Nat) => (zgR h50 this 1 4).bind fun (v59 : Nat) => (zcp h50 v54 (0 : Int32) v59 (0 : Int32) (4 : Int32)).bind fun (h64 : zH) => (zgI h64 p0 1 5).bind fun (v69 : Int32) => (zp h64 this 1 5 (.int v69)).bind fun (h72 : zH) => (zgI h72 p0 1 6).bind fun (v77 : Int32) => (zp h72 this 1 6 (.int v77)).bind fun (h80 : zH) => (zgI h80 p0 1 7).bind fun (v85 : Int32) => (zB v85).bind fun _ => (zp h80 this 1 7 (.int v85)).bind fun (h88 : zH) => (zgI h88 p0 1 8).bind fun (v93 : Int32) => (zp h88 this 1 8 (.int v93)).bind fun (h96 : zH) => (zgI h96 p0 1 9).bind fun (v101 : Int32) => (zp h96 this 1 9 (.int v101)).bind fun (h104 : zH) => (zgI h104 p0 1 10).bind fun (v109 : Int32) => (zp h104 this 1 10 (.int v109)).bind fun (h112 : zH) => (zgI h112 p0 1 11).bind fun (v117 : Int32) => (zB v117).bind fun _ => (zp h112 this 1 11 (.int v117)).bind fun (h120 : zH) => (zgI h120 p0 1 12).bind fun (v125 : Int32) => (zp h120 this 1 12 (.int v125)).bind fun (h128 : zH) => (zgI h128 p0 1 13).bind fun (v133 : Int32) => (zp h128 this 1 13 (.int v133)).bind fun (h136 : zH) => (zgI h136 p0 1 14).bind fun (v141 : Int32) => (zp h136 this 1 14 (.int v141)).bind fun (h144 : zH) => some h144) else ((zgR h13 this 1 2).bind fun (v19 : Nat) => (zar h13 v19 3 a2_13).bind fun (v23 : Nat) => (zgR h13 p0 1 2).bind fun (v25 : Nat) => (zar h13 v25 3 a2_13).bind fun (v29 : Nat) => zrc h13 v23 0 <| (f_X0_copyFrom n v23 v29 h13).bind fun (h30 : zH) => zlet (a2_13 + 1) fun (x33 : Int32) => rec13 x33 h30)) n a2_13 h13
theorem e_X1_copyFrom (n : Nat) (this : Nat) (p0 : Nat) (h : zH) : f_X1_copyFrom n this p0 h = ((zgR h this 1 1).bind fun (v1 : Nat) => (zgR h p0 1 1).bind fun (v5 : Nat) => zrc h v1 2 <| (f_X2_copyFrom n v1 v5 h).bind fun (h8 : zH) => L_X1_copyFrom_13 n p0 this (0 : Int32) h8) := rfl
def L_X1_payOut_2 (n : Nat) (this : Nat) (p1 : Int32) (p0 : Nat) (a3_2 : Int32) (h2 : zH) : Option (zH) := zfix2 (fun rec2 (a3_2 : Int32) (h2 : zH) => (zgI h2 this 1 8).bind fun (v4 : Int32) => if v4 ≤ a3_2 then (if p1 ≤ 0 then (zrc h2 p0 0 <| (f_X0_fall n p0 h2).bind fun (h45 : zH) => some h45) else (zrc h2 p0 0 <| (f_X0_rise n p0 h2).bind fun (h38 : zH) => some h38)) else ((zgR h2 p0 0 0).bind fun (v13 : Nat) => (zai h2 v13 a3_2).bind fun (v17 : Int32) => zrc h2 this 1 <| (f_X1_playerPays n this a3_2 (-(v17 * (p1 / (10 : Int32)))) h2).bind fun (h24 : zH) => zlet (a3_2 + 1) fun (x27 : Int32) => rec2 x27 h24)) n a3_2 h2
theorem e_X1_payOut (n : Nat) (this : Nat) (p0 : Nat) (p1 : Int32) (h : zH) : f_X1_payOut n this p0 p1 h = (L_X1_payOut_2 n this p1 p0 (0 : Int32) h) := rfl
def L_X1_unsoldShares_4 (n : Nat) (h : zH) (this : Nat) (a1_4 : Int32) (a2_4 : Int32) : Option (Int32) := zfix2 (fun rec4 (a1_4 : Int32) (a2_4 : Int32) => if (4 : Int32) ≤ a2_4 then (some a1_4) else ((zgR h this 1 2).bind fun (v11 : Nat) => (zar h v11 3 a2_4).bind fun (v15 : Nat) => (zgI h v15 0 1).bind fun (v16 : Int32) => zlet (fun (s0_35 : Int32) => zlet ((a1_4 + s0_35)) fun (x36 : Int32) => zlet (a2_4 + 1) fun (x37 : Int32) => rec4 x36 x37) fun K35 => if v16 = 0 then (K35 (0 : Int32)) else ((zgR h this 1 2).bind fun (v23 : Nat) => (zar h v23 3 a2_4).bind fun (v27 : Nat) => zrc h v27 0 <| (f_X0_bankShares n v27 h).bind fun (r28 : Int32) => K35 r28))) n a1_4 a2_4
theorem e_X1_unsoldShares (n : Nat) (this : Nat) (h : zH) : f_X1_unsoldShares n this h = (L_X1_unsoldShares_4 n h this (0 : Int32) (0 : Int32)) := rfl
def L_X1_mergeCompanies_27 (n : Nat) (this : Nat) (v5 : Nat) (v12 : Nat) (x22 : Int32) (a6_27 : Int32) (h27 : zH) : Option (zH) := zfix2 (fun rec27 (a6_27 : Int32) (h27 : zH) => (zgI h27 this 1 8).bind fun (v30 : Int32) => if v30 ≤ a6_27 then ((zgI h27 v5 0 3).bind fun (v82 : Int32) => (zgI h27 v12 0 3).bind fun (v87 : Int32) => (zp h27 v5 0 3 (.int (v82 + v87))).bind fun (h91 : zH) => zrc h91 v12 0 <| (f_X0_close n v12 h91).bind fun (h96 : zH) => zrc h96 v5 0 <| (f_X0_findPresident n v5 h96).bind fun (h100 : zH) => zrc h100 this 1 <| (f_X1_endActiveTurn n this h100).bind fun (h104 : zH) => some h104) else ((zgR h27 v12 0 0).bind fun (v38 : Nat) => (zai h27 v38 a6_27).bind fun (v43 : Int32) => (zgR h27 v5 0 0).bind fun (v47 : Nat) => (zai h27 v47 a6_27).bind fun (v53 : Int32) => (zsi h27 v47 a6_27 (v53 + (v43 / (2 : Int32)))).bind fun (h59 : zH) => zrc h59 this 1 <| (f_X1_playerPays n this a6_27 ((-(zrem v43 (2 : Int32))) * x22) h59).bind fun (h71 : zH) => zlet (a6_27 + 1) fun (x74 : Int32) => rec27 x74 h71)) n a6_27 h27
theorem e_X1_mergeCompanies (n : Nat) (this : Nat) (p0 : Int32) (p1 : Int32) (h : zH) : f_X1_mergeCompanies n this p0 p1 h = ((zgR h this 1 2).bind fun (v1 : Nat) => (zar h v1 3 p0).bind fun (v5 : Nat) => (zgR h this 1 2).bind fun (v8 : Nat) => (zar h v8 3 p1).bind fun (v12 : Nat) => zrc h v12 0 <| (f_X0_price n v12 h).bind fun (r17 : Int32) => zlet ((r17 / (2 : Int32))) fun (x22 : Int32) => L_X1_mergeCompanies_27 n this v5 v12 x22 (0 : Int32) h) := rfl
def L_X1_payRest_2 (n : Nat) (this : Nat) (p0 : Int32) (p1 : Int32) (a3_2 : Int32) (h2 : zH) : Option (Int32 × zH) := zfix2 (fun rec2 (a3_2 : Int32) (h2 : zH) => zlet ((zgR h2 this 1 3).bind fun (v50 : Nat) => (zai h2 v50 p0).bind fun (v54 : Int32) => zlet ((zmin p1 v54)) fun (x58 : Int32) => zrc h2 this 1 <| (f_X1_playerPays n this p0 x58 h2).bind fun (h62 : zH) => some (x58, h62)) fun K48 => if (40 : Int32) ≤ a3_2 then (K48) else ((zgR h2 this 1 3).bind fun (v9 : Nat) => (zai h2 v9 p0).bind fun (v13 : Int32) => if p1 ≤ v13 then (K48) else (zrc h2 this 1 <| (f_X1_cheapestHeld n this p0 h2).bind fun (r20 : Int32) => if r20 = (-1 : Int32) then (K48) else (zrc h2 this 1 <| (f_X1_sellShares n this p0 r20 (1 : Int32) h2).bind fun (h39 : zH) => zlet (a3_2 + 1) fun (x42 : Int32) => rec2 x42 h39)))) n a3_2 h2
theorem e_X1_payRest (n : Nat) (this : Nat) (p0 : Int32) (p1 : Int32) (h : zH) : f_X1_payRest n this p0 p1 h = (L_X1_payRest_2 n this p0 p1 (0 : Int32) h) := rfl
def L_X1_reset_9 (n : Nat) (this : Nat) (p0 : Int32) (a2_9 : Int32) (h9 : zH) : Option (zH) := zfix2 (fun rec9 (a2_9 : Int32) (h9 : zH) => if (4 : Int32) ≤ a2_9 then ((zgR h9 this 1 3).bind fun (v37 : Nat) => (f_J7_fill_53178 n v37 (500 : Int32) h9).bind fun (h43 : zH) => (zp h43 this 1 5 (.int (0 : Int32))).bind fun (h48 : zH) => (zp h48 this 1 6 (.int (0 : Int32))).bind fun (h53 : zH) => (zp h53 this 1 7 (.int (0 : Int32))).bind fun (h58 : zH) => (zp h58 this 1 8 (.int p0)).bind fun (h63 : zH) => (zp h63 this 1 9 (.int (0 : Int32))).bind fun (h68 : zH) => (zp h68 this 1 10 (.int (0 : Int32))).bind fun (h73 : zH) => (zp h73 this 1 11 (.int (0 : Int32))).bind fun (h78 : zH) => (zp h78 this 1 12 (.int (0 : Int32))).bind fun (h83 : zH) => (zp h83 this 1 13 (.int (0 : Int32))).bind fun (h88 : zH) => (zp h88 this 1 14 (.int (0 : Int32))).bind fun (h93 : zH) => some h93) else ((zgR h9 this 1 2).bind fun (v15 : Nat) => (zar h9 v15 3 a2_9).bind fun (v19 : Nat) => zrc h9 v19 0 <| (f_X0_close n v19 h9).bind fun (h20 : zH) => (zgR h20 this 1 4).bind fun (v24 : Nat) => (zsi h20 v24 a2_9 (0 : Int32)).bind fun (h29 : zH) => zlet (a2_9 + 1) fun (x30 : Int32) => rec9 x30 h29)) n a2_9 h9
theorem e_X1_reset (n : Nat) (this : Nat) (p0 : Int32) (h : zH) : f_X1_reset n this p0 h = ((zgR h this 1 1).bind fun (v1 : Nat) => zrc h v1 2 <| (f_X2_clearTracks n v1 h).bind fun (h4 : zH) => L_X1_reset_9 n this p0 (0 : Int32) h4) := rfl
def L_X1_worthOf_9 (n : Nat) (h : zH) (this : Nat) (p0 : Int32) (a2_9 : Int32) (a3_9 : Int32) : Option (Int32) := zfix2 (fun rec9 (a2_9 : Int32) (a3_9 : Int32) => if (4 : Int32) ≤ a3_9 then (some a2_9) else ((zgR h this 1 2).bind fun (v16 : Nat) => (zar h v16 3 a3_9).bind fun (v20 : Nat) => (zgR h v20 0 0).bind fun (v21 : Nat) => (zai h v21 p0).bind fun (v25 : Int32) => (zgR h this 1 2).bind fun (v27 : Nat) => (zar h v27 3 a3_9).bind fun (v31 : Nat) => zrc h v31 0 <| (f_X0_price n v31 h).bind fun (r32 : Int32) => zlet ((a2_9 + (v25 * r32))) fun (x37 : Int32) => zlet (a3_9 + 1) fun (x38 : Int32) => rec9 x37 x38)) n a2_9 a3_9
theorem e_X1_worthOf (n : Nat) (this : Nat) (p0 : Int32) (h : zH) : f_X1_worthOf n this p0 h = ((zgR h this 1 3).bind fun (v1 : Nat) => (zai h v1 p0).bind fun (v5 : Int32) => L_X1_worthOf_9 n h this p0 v5 (0 : Int32)) := rfl
def L_X1_bestTrackOf_27 (n : Nat) (a4_7 : Int32) (rec7 : Int32 → Int32 → Int32 → zH → Option (Int32 × zH)) (this : Nat) (p0 : Nat) (a2_27 : Int32) (a3_27 : Int32) (a5_27 : Int32) (h27 : zH) : Option (Int32 × zH) := zfix4 (fun rec27 (a2_27 : Int32) (a3_27 : Int32) (a5_27 : Int32) (h27 : zH) => if (8 : Int32) ≤ a5_27 then (zlet (a4_7 + 1) fun (x85 : Int32) => rec7 a2_27 a3_27 x85 h27) else (zrc h27 this 1 <| zb2 (f_X1_canLay n this p0 a4_7 a5_27 h27) fun (r40 : Int32) (h40 : zH) => zlet (fun (s0_59 : Int32) (h59 : zH) => zlet (fun (a2_79 : Int32) (a3_79 : Int32) => zlet (a5_27 + 1) fun (x79 : Int32) => rec27 a2_79 a3_79 x79 h59) fun K79 => if s0_59 ≤ a3_27 then (K79 a2_27 a3_27) else (zlet ((((10 : Int32) * a4_7) + a5_27)) fun (x78 : Int32) => K79 x78 s0_59)) fun K59 => if r40 = 0 then (K59 (-1 : Int32) h40) else (zrc h40 this 1 <| zb2 (f_X1_incomeIfRaised n this p0 a4_7 a5_27 h40) fun (r52 : Int32) (h52 : zH) => K59 r52 h52))) n a2_27 a3_27 a5_27 h27
def L_X1_bestTrackOf_7 (n : Nat) (p0 : Nat) (this : Nat) (a2_7 : Int32) (a3_7 : Int32) (a4_7 : Int32) (h7 : zH) : Option (Int32 × zH) := zfix4 (fun rec7 (a2_7 : Int32) (a3_7 : Int32) (a4_7 : Int32) (h7 : zH) => if (8 : Int32) ≤ a4_7 then (some (a2_7, h7)) else ((zgI h7 p0 0 1).bind fun (v15 : Int32) => if v15 = 0 then (some (a2_7, h7)) else (zlet ((a4_7 + (1 : Int32))) fun (x25 : Int32) => L_X1_bestTrackOf_27 n a4_7 rec7 this p0 a2_7 a3_7 x25 h7))) n a2_7 a3_7 a4_7 h7
theorem e_X1_bestTrackOf (n : Nat) (this : Nat) (p0 : Nat) (h : zH) : f_X1_bestTrackOf n this p0 h = (L_X1_bestTrackOf_7 n p0 this (-1 : Int32) (-1 : Int32) (0 : Int32) h) := rfl
def L_X5_saveState_17 (n : Nat) (this : Nat) (v13 : Nat) (K59 : zH → Option (zH)) (a2_17 : Int32) (h17 : zH) : Option (zH) := zfix2 (fun rec17 (a2_17 : Int32) (h17 : zH) => if (4 : Int32) ≤ a2_17 then ((zgR h17 this 5 1).bind fun (v43 : Nat) => (zsr h17 v43 4 1 (3 : Int32) v13).bind fun (h48 : zH) => (zgI h48 this 5 2).bind fun (v51 : Int32) => (zp h48 this 5 2 (.int (v51 - (1 : Int32)))).bind fun (h56 : zH) => K59 h56) else ((zgR h17 this 5 1).bind fun (v23 : Nat) => (zgR h17 this 5 1).bind fun (v30 : Nat) => (zar h17 v30 4 a2_17).bind fun (v34 : Nat) => (zsr h17 v23 4 1 (a2_17 - (1 : Int32)) v34).bind fun (h35 : zH) => zlet (a2_17 + 1) fun (x36 : Int32) => rec17 x36 h35)) n a2_17 h17
theorem e_X5_saveState (n : Nat) (this : Nat) (h : zH) : f_X5_saveState n this h = ((zgI h this 5 2).bind fun (v1 : Int32) => zlet (fun (h59 : zH) => (zgR h59 this 5 1).bind fun (v60 : Nat) => (zgI h59 this 5 2).bind fun (v64 : Int32) => (zar h59 v60 4 v64).bind fun (v67 : Nat) => (zgR h59 this 5 0).bind fun (v69 : Nat) => zrc h59 v67 1 <| (f_X1_copyFrom n v67 v69 h59).bind fun (h72 : zH) => (zgI h72 this 5 2).bind fun (v77 : Int32) => (zp h72 this 5 2 (.int (v77 + (1 : Int32)))).bind fun (h82 : zH) => some h82) fun K59 => if v1 = (4 : Int32) then ((zgR h this 5 1).bind fun (v9 : Nat) => (zar h v9 4 (0 : Int32)).bind fun (v13 : Nat) => L_X5_saveState_17 n this v13 K59 (1 : Int32) h) else (K59 h)) := rfl
def L_X5_leader_4 (n : Nat) (h : zH) (this : Nat) (a1_4 : Int32) (a2_4 : Int32) : Option (Int32) := zfix2 (fun rec4 (a1_4 : Int32) (a2_4 : Int32) => (zgR h this 5 0).bind fun (v6 : Nat) => (zgI h v6 1 8).bind fun (v9 : Int32) => if v9 ≤ a2_4 then (some a1_4) else ((zgR h this 5 0).bind fun (v16 : Nat) => zrc h v16 1 <| (f_X1_worthOf n v16 a2_4 h).bind fun (r20 : Int32) => (zgR h this 5 0).bind fun (v24 : Nat) => zrc h v24 1 <| (f_X1_worthOf n v24 a1_4 h).bind fun (r28 : Int32) => zlet (fun (a1_36 : Int32) => zlet (a2_4 + 1) fun (x36 : Int32) => rec4 a1_36 x36) fun K36 => if r20 ≤ r28 then (K36 a1_4) else (K36 a2_4))) n a1_4 a2_4
theorem e_X5_leader (n : Nat) (this : Nat) (h : zH) : f_X5_leader n this h = (L_X5_leader_4 n h this (0 : Int32) (1 : Int32)) := rfl
def L_X5_digest_56 (n : Nat) (a3_42 : Int32) (rec42 : Int64 → Int32 → Option (Int64 × zH)) (h : zH) (this : Nat) (a1_56 : Int64) (a4_56 : Int32) : Option (Int64 × zH) := zfix2 (fun rec56 (a1_56 : Int64) (a4_56 : Int32) => if (7 : Int32) ≤ a4_56 then (zlet (a3_42 + 1) fun (x84 : Int32) => rec42 a1_56 x84) else (zrc h this 5 <| (f_X5_player' n this a3_42 a4_56 h).bind fun (r72 : Int32) => zlet ((((31 : Int64) * a1_56) + (Int32.toInt64 r72))) fun (x77 : Int64) => zlet (a4_56 + 1) fun (x78 : Int32) => rec56 x77 x78)) n a1_56 a4_56
def L_X5_digest_100 (n : Nat) (a3_92 : Int32) (rec92 : Int64 → Int32 → zH → Option (Int64 × zH)) (this : Nat) (a1_100 : Int64) (a4_100 : Int32) (h100 : zH) : Option (Int64 × zH) := zfix3 (fun rec100 (a1_100 : Int64) (a4_100 : Int32) (h100 : zH) => if (9 : Int32) ≤ a4_100 then (zlet (a3_92 + 1) fun (x128 : Int32) => rec92 a1_100 x128 h100) else (zrc h100 this 5 <| zb2 (f_X5_company' n this a3_92 a4_100 h100) fun (r116 : Int32) (h116 : zH) => zlet ((((31 : Int64) * a1_100) + (Int32.toInt64 r116))) fun (x121 : Int64) => zlet (a4_100 + 1) fun (x122 : Int32) => rec100 x121 x122 h116)) n a1_100 a4_100 h100
def L_X5_digest_147 (n : Nat) (a3_136 : Int32) (rec136 : Int64 → Int32 → Option (Int64 × zH)) (h92 : zH) (this : Nat) (a1_147 : Int64) (a4_147 : Int32) : Option (Int64 × zH) := zfix2 (fun rec147 (a1_147 : Int64) (a4_147 : Int32) => if (8 : Int32) ≤ a4_147 then (zlet (a3_136 + 1) fun (x175 : Int32) => rec136 a1_147 x175) else (zrc h92 this 5 <| (f_X5_track' n this a3_136 a4_147 h92).bind fun (r163 : Int32) => zlet ((((31 : Int64) * a1_147) + (Int32.toInt64 r163))) fun (x168 : Int64) => zlet (a4_147 + 1) fun (x169 : Int32) => rec147 x168 x169)) n a1_147 a4_147
def L_X5_digest_183 (n : Nat) (h92 : zH) (this : Nat) (a1_183 : Int64) (a3_183 : Int32) : Option (Int64 × zH) := zfix2 (fun rec183 (a1_183 : Int64) (a3_183 : Int32) => if (8 : Int32) ≤ a3_183 then ((zgI h92 this 5 2).bind fun (v214 : Int32) => some ((((31 : Int64) * a1_183) + (Int32.toInt64 v214)), h92)) else (zrc h92 this 5 <| (f_X5_town' n this a3_183 h92).bind fun (r196 : Int32) => zlet ((((31 : Int64) * a1_183) + (Int32.toInt64 r196))) fun (x201 : Int64) => zlet (a3_183 + 1) fun (x202 : Int32) => rec183 x201 x202)) n a1_183 a3_183
def L_X5_digest_136 (n : Nat) (h92 : zH) (this : Nat) (a1_136 : Int64) (a3_136 : Int32) : Option (Int64 × zH) := zfix2 (fun rec136 (a1_136 : Int64) (a3_136 : Int32) => if (8 : Int32) ≤ a3_136 then (L_X5_digest_183 n h92 this a1_136 (0 : Int32)) else (zlet ((a3_136 + (1 : Int32))) fun (x145 : Int32) => L_X5_digest_147 n a3_136 rec136 h92 this a1_136 x145)) n a1_136 a3_136
def L_X5_digest_92 (n : Nat) (this : Nat) (a1_92 : Int64) (a3_92 : Int32) (h92 : zH) : Option (Int64 × zH) := zfix3 (fun rec92 (a1_92 : Int64) (a3_92 : Int32) (h92 : zH) => if (4 : Int32) ≤ a3_92 then (L_X5_digest_136 n h92 this a1_92 (0 : Int32)) else (L_X5_digest_100 n a3_92 rec92 this a1_92 (0 : Int32) h92)) n a1_92 a3_92 h92
def L_X5_digest_42 (n : Nat) (h : zH) (this : Nat) (a1_42 : Int64) (a3_42 : Int32) : Option (Int64 × zH) := zfix2 (fun rec42 (a1_42 : Int64) (a3_42 : Int32) => (zgR h this 5 0).bind fun (v44 : Nat) => (zgI h v44 1 8).bind fun (v47 : Int32) => if v47 ≤ a3_42 then (L_X5_digest_92 n this a1_42 (0 : Int32) h) else (L_X5_digest_56 n a3_42 rec42 h this a1_42 (0 : Int32))) n a1_42 a3_42
def L_X5_digest_15 (n : Nat) (h : zH) (this : Nat) (a1_15 : Int64) (a3_15 : Int32) : Option (Int64 × zH) := zfix2 (fun rec15 (a1_15 : Int64) (a3_15 : Int32) => if (10 : Int32) ≤ a3_15 then (L_X5_digest_42 n h this a1_15 (0 : Int32)) else (zrc h this 5 <| (f_X5_value' n this a3_15 h).bind fun (r28 : Int32) => zlet ((((31 : Int64) * a1_15) + (Int32.toInt64 r28))) fun (x33 : Int64) => zlet (a3_15 + 1) fun (x34 : Int32) => rec15 x33 x34)) n a1_15 a3_15
theorem e_X5_digest (n : Nat) (this : Nat) (h : zH) : f_X5_digest n this h = ((zgR h this 5 3).bind fun (v4 : Nat) => (zgI h v4 4 1).bind fun (v7 : Int32) => zlet (((111073 : Int64) + (Int32.toInt64 v7))) fun (x12 : Int64) => L_X5_digest_15 n h this x12 (0 : Int32)) := rfl
