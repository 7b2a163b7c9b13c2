abbrev Row : Type := Nat → Int32
def tr (n : Nat) (f : Row) : Row := fun i => if i < n then f i else 0
def gobj (b : Nat) (g : Row) : List Value := [.ref 1, .ref (b + 1), .ref (b + 12), .ref (b + 13), .ref (b + 14), .int (g 9), .int (g 4), .int (g 8), .int (g 0), .int (g 1), .int (g 2), .int (g 3), .int (g 5), .int (g 6), .int (g 7)]
def cobj (b : Nat) (g : Row) (c : Nat) : List Value := [.ref (b + 16 + 2 * c), .int (g (34 + 7 * c)), .int (g (35 + 7 * c)), .int (g (36 + 7 * c)), .int (g (37 + 7 * c)), .int (g (38 + 7 * c)), .int (g (39 + 7 * c)), .int (g (40 + 7 * c))]
def gcell (b : Nat) (g : Row) (j : Nat) : Option va_E :=
  if j = 0 then some (.inr (1, gobj b g))
  else if j = 1 then some (.inr (2, [.ref (b + 2), .ref (b + 3)]))
  else if j = 2 then some (.inl (0, 8, .inl (tr 8 (fun i => g (126 + i)))))
  else if j = 3 then some (.inl (2, 8, .inr (.inr (.inr (.inr (fun i => if i < 8 then some (b + 4 + i) else none))))))
  else if j < 12 then some (.inl (0, 8, .inl (tr 8 (fun i => g (62 + 8 * (j - 4) + i)))))
  else if j = 12 then some (.inl (3, 4, .inr (.inr (.inr (.inr (fun i => if i < 4 then some (b + 15 + 2 * i) else none))))))
  else if j = 13 then some (.inl (0, 4, .inl (tr 4 (fun i => g (14 + i)))))
  else if j = 14 then some (.inl (0, 4, .inl (tr 4 (fun i => g (10 + i)))))
  else if (j - 15) % 2 = 0 then some (.inr (0, cobj b g ((j - 15) / 2)))
  else some (.inl (0, 4, .inl (tr 4 (fun p => g (18 + 4 * p + (j - 15) / 2)))))
def put (h : zH) (b : Nat) (g : Row) : zH := fun i => if b ≤ i ∧ i < b + 23 then gcell b g (i - b) else h i
theorem put_in {h : zH} {b j : Nat} {g : Row} (hj : j < 23) : put h b g (b + j) = gcell b g j := by
  unfold put
  rw [if_pos ⟨by omega, by omega⟩, show b + j - b = j by omega]
theorem put_out {h : zH} {b i : Nat} {g : Row} (hi : i < b ∨ b + 23 ≤ i) : put h b g i = h i := by
  unfold put
  rw [if_neg (by omega)]
theorem put_set {h : zH} {b j : Nat} {g g' : Row} {e : va_E} (hj : j < 23) (he : gcell b g' j = some e) (ho : ∀ k, k < 23 → k ≠ j → gcell b g' k = gcell b g k) : zset (put h b g) (b + j) e = put h b g' := by
  funext i
  unfold zset put
  by_cases h1 : b ≤ i ∧ i < b + 23
  · rw [if_pos h1, if_pos h1]
    by_cases h2 : i = b + j
    · rw [if_pos h2, h2, show b + j - b = j by omega, he]
    · rw [if_neg h2, ho (i - b) (by omega) (by omega)]
  · rw [if_neg h1, if_neg h1, if_neg (by omega)]
theorem tr_upd {n k : Nat} {f : Row} {v : Int32} (hk : k < n) : upd (tr n f) k v = tr n (upd f k v) := by
  funext i
  unfold upd tr
  by_cases h : i = k
  · subst h; simp [hk]
  · simp only [if_neg h]
theorem tr_congr {n : Nat} {f f' : Row} (h : ∀ i, i < n → f i = f' i) : tr n f = tr n f' := by
  funext i
  unfold tr
  by_cases hi : i < n
  · rw [if_pos hi, if_pos hi, h i hi]
  · rw [if_neg hi, if_neg hi]
theorem upd_ne {f : Row} {k i : Nat} {v : Int32} (h : i ≠ k) : upd f k v i = f i := if_neg h
theorem upd_eq {f : Row} {k : Nat} {v : Int32} : upd f k v k = v := if_pos rfl
def gsees (j k : Nat) : Prop :=
  if j = 0 then k < 10
  else if j = 2 then 126 ≤ k ∧ k < 134
  else if j = 1 ∨ j = 3 ∨ j = 12 then False
  else if j < 12 then 62 + 8 * (j - 4) ≤ k ∧ k < 62 + 8 * (j - 4) + 8
  else if j = 13 then 14 ≤ k ∧ k < 18
  else if j = 14 then 10 ≤ k ∧ k < 14
  else if (j - 15) % 2 = 0 then 34 + 7 * ((j - 15) / 2) ≤ k ∧ k < 41 + 7 * ((j - 15) / 2)
  else 18 ≤ k ∧ k < 34 ∧ (k - 18) % 4 = (j - 15) / 2
theorem gcell_ne {b j k : Nat} {g : Row} {v : Int32} (hj : j < 23) (h : ¬ gsees j k) : gcell b (upd g k v) j = gcell b g j := by
  unfold gsees at h
  unfold gcell gobj cobj
  by_cases h0 : j = 0
  · rw [if_pos h0] at h
    simp only [if_pos h0]
    simp only [upd_ne (show 0 ≠ k by omega), upd_ne (show 1 ≠ k by omega), upd_ne (show 2 ≠ k by omega), upd_ne (show 3 ≠ k by omega), upd_ne (show 4 ≠ k by omega), upd_ne (show 5 ≠ k by omega), upd_ne (show 6 ≠ k by omega), upd_ne (show 7 ≠ k by omega), upd_ne (show 8 ≠ k by omega), upd_ne (show 9 ≠ k by omega)]
  · simp only [if_neg h0] at h ⊢
    by_cases h2 : j = 2
    · subst h2
      rw [if_pos rfl] at h
      simp only [if_pos, if_neg (show ¬ (2 = 1) by omega)]
      congr 5
      exact tr_congr fun i hi => upd_ne (by omega)
    · simp only [if_neg h2] at h ⊢
      by_cases h3 : j = 1 ∨ j = 3 ∨ j = 12
      · rcases h3 with rfl | rfl | rfl <;> rfl
      · have e1 : ¬ j = 1 := fun q => h3 (Or.inl q)
        have e3 : ¬ j = 3 := fun q => h3 (Or.inr (Or.inl q))
        have e12 : ¬ j = 12 := fun q => h3 (Or.inr (Or.inr q))
        simp only [if_neg h3, if_neg e1, if_neg e3, if_neg e12] at h ⊢
        by_cases h4 : j < 12
        · simp only [if_pos h4] at h ⊢
          congr 5
          exact tr_congr fun i hi => upd_ne (by omega)
        · simp only [if_neg h4] at h ⊢
          by_cases h5 : j = 13
          · simp only [if_pos h5] at h ⊢
            congr 5
            exact tr_congr fun i hi => upd_ne (by omega)
          · simp only [if_neg h5] at h ⊢
            by_cases h6 : j = 14
            · simp only [if_pos h6] at h ⊢
              congr 5
              exact tr_congr fun i hi => upd_ne (by omega)
            · simp only [if_neg h6] at h ⊢
              by_cases h7 : (j - 15) % 2 = 0
              · simp only [if_pos h7] at h ⊢
                simp only [upd_ne (show 34 + 7 * ((j - 15) / 2) ≠ k by omega), upd_ne (show 35 + 7 * ((j - 15) / 2) ≠ k by omega), upd_ne (show 36 + 7 * ((j - 15) / 2) ≠ k by omega), upd_ne (show 37 + 7 * ((j - 15) / 2) ≠ k by omega), upd_ne (show 38 + 7 * ((j - 15) / 2) ≠ k by omega), upd_ne (show 39 + 7 * ((j - 15) / 2) ≠ k by omega), upd_ne (show 40 + 7 * ((j - 15) / 2) ≠ k by omega)]
              · simp only [if_neg h7] at h ⊢
                congr 5
                exact tr_congr fun i hi => upd_ne (by omega)
theorem put_upd {h : zH} {b j k : Nat} {g : Row} {v : Int32} {e : va_E} (hj : j < 23) (he : gcell b (upd g k v) j = some e) (ho : ∀ j', j' < 23 → j' ≠ j → ¬ gsees j' k) : zset (put h b g) (b + j) e = put h b (upd g k v) := put_set hj he (fun j' h1 h2 => gcell_ne h1 (ho j' h1 h2))
theorem gsees_j {j k : Nat} (hj : j < 23) (h : gsees j k) : (k < 10 ∧ j = 0) ∨ (126 ≤ k ∧ k < 134 ∧ j = 2) ∨ (62 ≤ k ∧ k < 126 ∧ 4 ≤ j ∧ j < 12 ∧ 62 + 8 * (j - 4) ≤ k ∧ k < 70 + 8 * (j - 4)) ∨ (14 ≤ k ∧ k < 18 ∧ j = 13) ∨ (10 ≤ k ∧ k < 14 ∧ j = 14) ∨ (15 ≤ j ∧ j % 2 = 1 ∧ 34 + 7 * ((j - 15) / 2) ≤ k ∧ k < 41 + 7 * ((j - 15) / 2)) ∨ (15 ≤ j ∧ j % 2 = 0 ∧ 18 ≤ k ∧ k < 34 ∧ (k - 18) % 4 = (j - 15) / 2) := by
  unfold gsees at h
  by_cases h0 : j = 0
  · rw [if_pos h0] at h; exact Or.inl ⟨h, h0⟩
  · rw [if_neg h0] at h
    by_cases h2 : j = 2
    · rw [if_pos h2] at h; exact Or.inr (Or.inl ⟨h.1, h.2, h2⟩)
    · rw [if_neg h2] at h
      by_cases h3 : j = 1 ∨ j = 3 ∨ j = 12
      · rw [if_pos h3] at h; exact h.elim
      · rw [if_neg h3] at h
        by_cases h4 : j < 12
        · rw [if_pos h4] at h; exact Or.inr (Or.inr (Or.inl ⟨by omega, by omega, by omega, h4, h.1, by omega⟩))
        · rw [if_neg h4] at h
          by_cases h5 : j = 13
          · rw [if_pos h5] at h; exact Or.inr (Or.inr (Or.inr (Or.inl ⟨h.1, h.2, h5⟩)))
          · rw [if_neg h5] at h
            by_cases h6 : j = 14
            · rw [if_pos h6] at h; exact Or.inr (Or.inr (Or.inr (Or.inr (Or.inl ⟨h.1, h.2, h6⟩))))
            · rw [if_neg h6] at h
              by_cases h7 : (j - 15) % 2 = 0
              · rw [if_pos h7] at h; exact Or.inr (Or.inr (Or.inr (Or.inr (Or.inr (Or.inl ⟨by omega, by omega, h.1, h.2⟩)))))
              · rw [if_neg h7] at h; exact Or.inr (Or.inr (Or.inr (Or.inr (Or.inr (Or.inr ⟨by omega, by omega, h.1, h.2.1, h.2.2⟩)))))
theorem zO_some {h : zH} {a ci : Nat} {fs : List Value} (e : h a = some (.inr (ci, fs))) : zO h a ci = some fs := by
  unfold zO
  rw [e]
  exact if_pos rfl
theorem zIA_some {h : zH} {a n : Nat} {f : Row} (e : h a = some (.inl (0, n, .inl f))) : zIA h a = some (n, f) := by
  unfold zIA
  rw [e]
  exact if_pos rfl
theorem zRA_some {h : zH} {a c n : Nat} {f : Nat → Option Nat} (e : h a = some (.inl (c, n, .inr (.inr (.inr (.inr f)))))) : zRA h a c = some (n, f) := by
  unfold zRA
  rw [e]
  exact if_pos rfl
theorem zai_some {h : zH} {a n : Nat} {f : Row} {i : Int32} (e : h a = some (.inl (0, n, .inl (tr n f)))) (hi : vp_in i n) : zai h a i = some (f i.toNatClampNeg) := by
  unfold zai
  rw [zIA_some e]
  have h2 : i.toNatClampNeg < n := Nat.not_le.mp fun q => hi (Or.inr q)
  show (if i < 0 ∨ n ≤ i.toNatClampNeg then none else some (tr n f i.toNatClampNeg)) = _
  rw [if_neg hi]
  exact congrArg some (if_pos h2)
theorem zar_some {h : zH} {a c n : Nat} {f : Nat → Option Nat} {i : Int32} (e : h a = some (.inl (c, n, .inr (.inr (.inr (.inr f)))))) (hi : vp_in i n) : zar h a c i = f i.toNatClampNeg := by
  unfold zar
  rw [zRA_some e]
  exact if_neg hi
theorem zsi_some {h : zH} {a n : Nat} {f : Row} {i v : Int32} (e : h a = some (.inl (0, n, .inl (tr n f)))) (hi : vp_in i n) : zsi h a i v = some (zset h a (.inl (0, n, .inl (tr n (upd f i.toNatClampNeg v))))) := by
  unfold zsi
  rw [zIA_some e]
  have h2 : i.toNatClampNeg < n := Nat.not_le.mp fun q => hi (Or.inr q)
  show (if i < 0 ∨ n ≤ i.toNatClampNeg then none else some (zset h a (.inl (0, n, .inl (upd (tr n f) i.toNatClampNeg v))))) = _
  rw [if_neg hi, tr_upd h2]
theorem zlen_some {h : zH} {a n : Nat} {f : Row} (e : h a = some (.inl (0, n, .inl f))) : zlen h a = some (Int32.ofNat n) := by
  unfold zlen
  rw [zIA_some e]
theorem zrc_some {β : Type} {h : zH} {a ci : Nat} {fs : List Value} {o : Option β} (e : h a = some (.inr (ci, fs))) : zrc h a ci o = o := by
  unfold zrc
  rw [zO_some e]
theorem zp_some {h : zH} {a ci k : Nat} {fs : List Value} {v : Value} (e : h a = some (.inr (ci, fs))) (hk : k < fs.length) : zp h a ci k v = some (zset h a (.inr (ci, fs.set k v))) := by
  unfold zp
  rw [zO_some e]
  exact if_pos hk
theorem vp_lt {i : Int32} {n : Nat} (h : vp_in i n) : i.toNatClampNeg < n := Nat.not_le.mp fun q => h (Or.inr q)
theorem put_0 {h : zH} {b : Nat} {g : Row} : put h b g b = some (.inr (1, gobj b g)) := put_in (j := 0) (by omega)
theorem put_1 {h : zH} {b : Nat} {g : Row} : put h b g (b + 1) = some (.inr (2, [.ref (b + 2), .ref (b + 3)])) := put_in (j := 1) (by omega)
theorem put_2 {h : zH} {b : Nat} {g : Row} : put h b g (b + 2) = some (.inl (0, 8, .inl (tr 8 (fun i => g (126 + i))))) := put_in (j := 2) (by omega)
theorem put_3 {h : zH} {b : Nat} {g : Row} : put h b g (b + 3) = some (.inl (2, 8, .inr (.inr (.inr (.inr (fun i => if i < 8 then some (b + 4 + i) else none)))))) := put_in (j := 3) (by omega)
theorem put_4 {h : zH} {b : Nat} {g : Row} {t : Nat} (ht : t < 8) : put h b g (b + 4 + t) = some (.inl (0, 8, .inl (tr 8 (fun i => g (62 + 8 * t + i))))) := by
  rw [show b + 4 + t = b + (4 + t) by omega, put_in (by omega)]
  unfold gcell
  rw [if_neg (by omega), if_neg (by omega), if_neg (by omega), if_neg (by omega), if_pos (by omega), show 4 + t - 4 = t by omega]
theorem put_12 {h : zH} {b : Nat} {g : Row} : put h b g (b + 12) = some (.inl (3, 4, .inr (.inr (.inr (.inr (fun i => if i < 4 then some (b + 15 + 2 * i) else none)))))) := put_in (j := 12) (by omega)
theorem put_13 {h : zH} {b : Nat} {g : Row} : put h b g (b + 13) = some (.inl (0, 4, .inl (tr 4 (fun i => g (14 + i))))) := put_in (j := 13) (by omega)
theorem put_14 {h : zH} {b : Nat} {g : Row} : put h b g (b + 14) = some (.inl (0, 4, .inl (tr 4 (fun i => g (10 + i))))) := put_in (j := 14) (by omega)
theorem put_15 {h : zH} {b : Nat} {g : Row} {c : Nat} (hc : c < 4) : put h b g (b + 15 + 2 * c) = some (.inr (0, cobj b g c)) := by
  rw [show b + 15 + 2 * c = b + (15 + 2 * c) by omega, put_in (by omega)]
  unfold gcell
  rw [if_neg (by omega), if_neg (by omega), if_neg (by omega), if_neg (by omega), if_neg (by omega), if_neg (by omega), if_neg (by omega), if_neg (by omega), if_pos (by omega), show (15 + 2 * c - 15) / 2 = c by omega]
theorem put_16 {h : zH} {b : Nat} {g : Row} {c : Nat} (hc : c < 4) : put h b g (b + 16 + 2 * c) = some (.inl (0, 4, .inl (tr 4 (fun p => g (18 + 4 * p + c))))) := by
  rw [show b + 16 + 2 * c = b + (16 + 2 * c) by omega, put_in (by omega)]
  unfold gcell
  rw [if_neg (by omega), if_neg (by omega), if_neg (by omega), if_neg (by omega), if_neg (by omega), if_neg (by omega), if_neg (by omega), if_neg (by omega), if_neg (by omega), show (16 + 2 * c - 15) / 2 = c by omega]
theorem gI_5 {h : zH} {b : Nat} {g : Row} : zgI (put h b g) b 1 5 = some (g 9) := by
  unfold zgI
  rw [zO_some put_0]
  rfl
theorem gI_6 {h : zH} {b : Nat} {g : Row} : zgI (put h b g) b 1 6 = some (g 4) := by
  unfold zgI
  rw [zO_some put_0]
  rfl
theorem gI_7 {h : zH} {b : Nat} {g : Row} : zgI (put h b g) b 1 7 = some (g 8) := by
  unfold zgI
  rw [zO_some put_0]
  rfl
theorem gI_8 {h : zH} {b : Nat} {g : Row} : zgI (put h b g) b 1 8 = some (g 0) := by
  unfold zgI
  rw [zO_some put_0]
  rfl
theorem gI_9 {h : zH} {b : Nat} {g : Row} : zgI (put h b g) b 1 9 = some (g 1) := by
  unfold zgI
  rw [zO_some put_0]
  rfl
theorem gI_10 {h : zH} {b : Nat} {g : Row} : zgI (put h b g) b 1 10 = some (g 2) := by
  unfold zgI
  rw [zO_some put_0]
  rfl
theorem gI_11 {h : zH} {b : Nat} {g : Row} : zgI (put h b g) b 1 11 = some (g 3) := by
  unfold zgI
  rw [zO_some put_0]
  rfl
theorem gI_12 {h : zH} {b : Nat} {g : Row} : zgI (put h b g) b 1 12 = some (g 5) := by
  unfold zgI
  rw [zO_some put_0]
  rfl
theorem gI_13 {h : zH} {b : Nat} {g : Row} : zgI (put h b g) b 1 13 = some (g 6) := by
  unfold zgI
  rw [zO_some put_0]
  rfl
theorem gI_14 {h : zH} {b : Nat} {g : Row} : zgI (put h b g) b 1 14 = some (g 7) := by
  unfold zgI
  rw [zO_some put_0]
  rfl
theorem gR_0 {h : zH} {b : Nat} {g : Row} : zgR (put h b g) b 1 0 = some 1 := by
  unfold zgR
  rw [zO_some put_0]
  rfl
theorem gR_1 {h : zH} {b : Nat} {g : Row} : zgR (put h b g) b 1 1 = some (b + 1) := by
  unfold zgR
  rw [zO_some put_0]
  rfl
theorem gR_2 {h : zH} {b : Nat} {g : Row} : zgR (put h b g) b 1 2 = some (b + 12) := by
  unfold zgR
  rw [zO_some put_0]
  rfl
theorem gR_3 {h : zH} {b : Nat} {g : Row} : zgR (put h b g) b 1 3 = some (b + 13) := by
  unfold zgR
  rw [zO_some put_0]
  rfl
theorem gR_4 {h : zH} {b : Nat} {g : Row} : zgR (put h b g) b 1 4 = some (b + 14) := by
  unfold zgR
  rw [zO_some put_0]
  rfl
theorem gL_0 {h : zH} {b : Nat} {g : Row} : zgR (put h b g) (b + 1) 2 0 = some (b + 2) := by
  unfold zgR
  rw [zO_some put_1]
  rfl
theorem gL_1 {h : zH} {b : Nat} {g : Row} : zgR (put h b g) (b + 1) 2 1 = some (b + 3) := by
  unfold zgR
  rw [zO_some put_1]
  rfl
theorem gC_0 {h : zH} {b : Nat} {g : Row} {c : Nat} (hc : c < 4) : zgR (put h b g) (b + 15 + 2 * c) 0 0 = some (b + 16 + 2 * c) := by
  unfold zgR
  rw [zO_some (put_15 hc)]
  rfl
theorem gC_1 {h : zH} {b : Nat} {g : Row} {c : Nat} (hc : c < 4) : zgI (put h b g) (b + 15 + 2 * c) 0 1 = some (g (34 + 7 * c)) := by
  unfold zgI
  rw [zO_some (put_15 hc)]
  rfl
theorem gC_2 {h : zH} {b : Nat} {g : Row} {c : Nat} (hc : c < 4) : zgI (put h b g) (b + 15 + 2 * c) 0 2 = some (g (35 + 7 * c)) := by
  unfold zgI
  rw [zO_some (put_15 hc)]
  rfl
theorem gC_3 {h : zH} {b : Nat} {g : Row} {c : Nat} (hc : c < 4) : zgI (put h b g) (b + 15 + 2 * c) 0 3 = some (g (36 + 7 * c)) := by
  unfold zgI
  rw [zO_some (put_15 hc)]
  rfl
theorem gC_4 {h : zH} {b : Nat} {g : Row} {c : Nat} (hc : c < 4) : zgI (put h b g) (b + 15 + 2 * c) 0 4 = some (g (37 + 7 * c)) := by
  unfold zgI
  rw [zO_some (put_15 hc)]
  rfl
theorem gC_5 {h : zH} {b : Nat} {g : Row} {c : Nat} (hc : c < 4) : zgI (put h b g) (b + 15 + 2 * c) 0 5 = some (g (38 + 7 * c)) := by
  unfold zgI
  rw [zO_some (put_15 hc)]
  rfl
theorem gC_6 {h : zH} {b : Nat} {g : Row} {c : Nat} (hc : c < 4) : zgI (put h b g) (b + 15 + 2 * c) 0 6 = some (g (39 + 7 * c)) := by
  unfold zgI
  rw [zO_some (put_15 hc)]
  rfl
theorem gC_7 {h : zH} {b : Nat} {g : Row} {c : Nat} (hc : c < 4) : zgI (put h b g) (b + 15 + 2 * c) 0 7 = some (g (40 + 7 * c)) := by
  unfold zgI
  rw [zO_some (put_15 hc)]
  rfl
theorem gA_w {h : zH} {b : Nat} {g : Row} {i : Int32} (hi : vp_in i 8) : zai (put h b g) (b + 2) i = some (g (126 + i.toNatClampNeg)) := zai_some put_2 hi
theorem gA_r {h : zH} {b : Nat} {g : Row} {i : Int32} (hi : vp_in i 8) : zar (put h b g) (b + 3) 2 i = some (b + 4 + i.toNatClampNeg) := (zar_some put_3 hi).trans (if_pos (vp_lt hi))
theorem gA_l {h : zH} {b : Nat} {g : Row} {t : Nat} {i : Int32} (ht : t < 8) (hi : vp_in i 8) : zai (put h b g) (b + 4 + t) i = some (g (62 + 8 * t + i.toNatClampNeg)) := zai_some (put_4 ht) hi
theorem gA_c {h : zH} {b : Nat} {g : Row} {i : Int32} (hi : vp_in i 4) : zar (put h b g) (b + 12) 3 i = some (b + 15 + 2 * i.toNatClampNeg) := (zar_some put_12 hi).trans (if_pos (vp_lt hi))
theorem gA_m {h : zH} {b : Nat} {g : Row} {i : Int32} (hi : vp_in i 4) : zai (put h b g) (b + 13) i = some (g (14 + i.toNatClampNeg)) := zai_some put_13 hi
theorem gA_o {h : zH} {b : Nat} {g : Row} {i : Int32} (hi : vp_in i 4) : zai (put h b g) (b + 14) i = some (g (10 + i.toNatClampNeg)) := zai_some put_14 hi
theorem gA_h {h : zH} {b : Nat} {g : Row} {c : Nat} {i : Int32} (hc : c < 4) (hi : vp_in i 4) : zai (put h b g) (b + 16 + 2 * c) i = some (g (18 + 4 * i.toNatClampNeg + c)) := zai_some (put_16 hc) hi
theorem gN_m {h : zH} {b : Nat} {g : Row} : zlen (put h b g) (b + 13) = some 4 := zlen_some put_13
theorem gN_h {h : zH} {b : Nat} {g : Row} {c : Nat} (hc : c < 4) : zlen (put h b g) (b + 16 + 2 * c) = some 4 := zlen_some (put_16 hc)
theorem gN_l {h : zH} {b : Nat} {g : Row} {t : Nat} (ht : t < 8) : zlen (put h b g) (b + 4 + t) = some 8 := zlen_some (put_4 ht)
theorem gK_0 {h : zH} {b : Nat} {g : Row} {β : Type} {o : Option β} : zrc (put h b g) b 1 o = o := zrc_some put_0
theorem gK_1 {h : zH} {b : Nat} {g : Row} {β : Type} {o : Option β} : zrc (put h b g) (b + 1) 2 o = o := zrc_some put_1
theorem gK_2 {h : zH} {b : Nat} {g : Row} {β : Type} {o : Option β} {c : Nat} (hc : c < 4) : zrc (put h b g) (b + 15 + 2 * c) 0 o = o := zrc_some (put_15 hc)
theorem sI_5 {h : zH} {b : Nat} {g : Row} {v : Int32} : zp (put h b g) b 1 5 (.int v) = some (put h b (upd g 9 v)) := by
  rw [zp_some put_0 (show 5 < 15 by omega)]
  exact congrArg some (put_upd (j := 0) (by omega) (by simp [gcell, gobj, upd]) (fun j h1 h2 h3 => by have h4 := gsees_j h1 h3; omega))
theorem sI_6 {h : zH} {b : Nat} {g : Row} {v : Int32} : zp (put h b g) b 1 6 (.int v) = some (put h b (upd g 4 v)) := by
  rw [zp_some put_0 (show 6 < 15 by omega)]
  exact congrArg some (put_upd (j := 0) (by omega) (by simp [gcell, gobj, upd]) (fun j h1 h2 h3 => by have h4 := gsees_j h1 h3; omega))
theorem sI_7 {h : zH} {b : Nat} {g : Row} {v : Int32} : zp (put h b g) b 1 7 (.int v) = some (put h b (upd g 8 v)) := by
  rw [zp_some put_0 (show 7 < 15 by omega)]
  exact congrArg some (put_upd (j := 0) (by omega) (by simp [gcell, gobj, upd]) (fun j h1 h2 h3 => by have h4 := gsees_j h1 h3; omega))
theorem sI_8 {h : zH} {b : Nat} {g : Row} {v : Int32} : zp (put h b g) b 1 8 (.int v) = some (put h b (upd g 0 v)) := by
  rw [zp_some put_0 (show 8 < 15 by omega)]
  exact congrArg some (put_upd (j := 0) (by omega) (by simp [gcell, gobj, upd]) (fun j h1 h2 h3 => by have h4 := gsees_j h1 h3; omega))
theorem sI_9 {h : zH} {b : Nat} {g : Row} {v : Int32} : zp (put h b g) b 1 9 (.int v) = some (put h b (upd g 1 v)) := by
  rw [zp_some put_0 (show 9 < 15 by omega)]
  exact congrArg some (put_upd (j := 0) (by omega) (by simp [gcell, gobj, upd]) (fun j h1 h2 h3 => by have h4 := gsees_j h1 h3; omega))
theorem sI_10 {h : zH} {b : Nat} {g : Row} {v : Int32} : zp (put h b g) b 1 10 (.int v) = some (put h b (upd g 2 v)) := by
  rw [zp_some put_0 (show 10 < 15 by omega)]
  exact congrArg some (put_upd (j := 0) (by omega) (by simp [gcell, gobj, upd]) (fun j h1 h2 h3 => by have h4 := gsees_j h1 h3; omega))
theorem sI_11 {h : zH} {b : Nat} {g : Row} {v : Int32} : zp (put h b g) b 1 11 (.int v) = some (put h b (upd g 3 v)) := by
  rw [zp_some put_0 (show 11 < 15 by omega)]
  exact congrArg some (put_upd (j := 0) (by omega) (by simp [gcell, gobj, upd]) (fun j h1 h2 h3 => by have h4 := gsees_j h1 h3; omega))
theorem sI_12 {h : zH} {b : Nat} {g : Row} {v : Int32} : zp (put h b g) b 1 12 (.int v) = some (put h b (upd g 5 v)) := by
  rw [zp_some put_0 (show 12 < 15 by omega)]
  exact congrArg some (put_upd (j := 0) (by omega) (by simp [gcell, gobj, upd]) (fun j h1 h2 h3 => by have h4 := gsees_j h1 h3; omega))
theorem sI_13 {h : zH} {b : Nat} {g : Row} {v : Int32} : zp (put h b g) b 1 13 (.int v) = some (put h b (upd g 6 v)) := by
  rw [zp_some put_0 (show 13 < 15 by omega)]
  exact congrArg some (put_upd (j := 0) (by omega) (by simp [gcell, gobj, upd]) (fun j h1 h2 h3 => by have h4 := gsees_j h1 h3; omega))
theorem sI_14 {h : zH} {b : Nat} {g : Row} {v : Int32} : zp (put h b g) b 1 14 (.int v) = some (put h b (upd g 7 v)) := by
  rw [zp_some put_0 (show 14 < 15 by omega)]
  exact congrArg some (put_upd (j := 0) (by omega) (by simp [gcell, gobj, upd]) (fun j h1 h2 h3 => by have h4 := gsees_j h1 h3; omega))
theorem sC_1 {h : zH} {b : Nat} {g : Row} {v : Int32} {c : Nat} (hc : c < 4) : zp (put h b g) (b + 15 + 2 * c) 0 1 (.int v) = some (put h b (upd g (34 + 7 * c) v)) := by
  rw [zp_some (put_15 hc) (show 1 < 8 by omega)]
  rw [show b + 15 + 2 * c = b + (15 + 2 * c) by omega]
  refine congrArg some (put_upd (j := 15 + 2 * c) (by omega) ?_ (fun j h1 h2 h3 => by have h4 := gsees_j h1 h3; omega))
  unfold gcell
  rw [if_neg (by omega), if_neg (by omega), if_neg (by omega), if_neg (by omega), if_neg (by omega), if_neg (by omega), if_neg (by omega), if_neg (by omega), if_pos (by omega), show (15 + 2 * c - 15) / 2 = c by omega]
  simp [cobj, upd, Nat.add_left_cancel_iff]
theorem sC_2 {h : zH} {b : Nat} {g : Row} {v : Int32} {c : Nat} (hc : c < 4) : zp (put h b g) (b + 15 + 2 * c) 0 2 (.int v) = some (put h b (upd g (35 + 7 * c) v)) := by
  rw [zp_some (put_15 hc) (show 2 < 8 by omega)]
  rw [show b + 15 + 2 * c = b + (15 + 2 * c) by omega]
  refine congrArg some (put_upd (j := 15 + 2 * c) (by omega) ?_ (fun j h1 h2 h3 => by have h4 := gsees_j h1 h3; omega))
  unfold gcell
  rw [if_neg (by omega), if_neg (by omega), if_neg (by omega), if_neg (by omega), if_neg (by omega), if_neg (by omega), if_neg (by omega), if_neg (by omega), if_pos (by omega), show (15 + 2 * c - 15) / 2 = c by omega]
  simp [cobj, upd, Nat.add_left_cancel_iff]
theorem sC_3 {h : zH} {b : Nat} {g : Row} {v : Int32} {c : Nat} (hc : c < 4) : zp (put h b g) (b + 15 + 2 * c) 0 3 (.int v) = some (put h b (upd g (36 + 7 * c) v)) := by
  rw [zp_some (put_15 hc) (show 3 < 8 by omega)]
  rw [show b + 15 + 2 * c = b + (15 + 2 * c) by omega]
  refine congrArg some (put_upd (j := 15 + 2 * c) (by omega) ?_ (fun j h1 h2 h3 => by have h4 := gsees_j h1 h3; omega))
  unfold gcell
  rw [if_neg (by omega), if_neg (by omega), if_neg (by omega), if_neg (by omega), if_neg (by omega), if_neg (by omega), if_neg (by omega), if_neg (by omega), if_pos (by omega), show (15 + 2 * c - 15) / 2 = c by omega]
  simp [cobj, upd, Nat.add_left_cancel_iff]
theorem sC_4 {h : zH} {b : Nat} {g : Row} {v : Int32} {c : Nat} (hc : c < 4) : zp (put h b g) (b + 15 + 2 * c) 0 4 (.int v) = some (put h b (upd g (37 + 7 * c) v)) := by
  rw [zp_some (put_15 hc) (show 4 < 8 by omega)]
  rw [show b + 15 + 2 * c = b + (15 + 2 * c) by omega]
  refine congrArg some (put_upd (j := 15 + 2 * c) (by omega) ?_ (fun j h1 h2 h3 => by have h4 := gsees_j h1 h3; omega))
  unfold gcell
  rw [if_neg (by omega), if_neg (by omega), if_neg (by omega), if_neg (by omega), if_neg (by omega), if_neg (by omega), if_neg (by omega), if_neg (by omega), if_pos (by omega), show (15 + 2 * c - 15) / 2 = c by omega]
  simp [cobj, upd, Nat.add_left_cancel_iff]
theorem sC_5 {h : zH} {b : Nat} {g : Row} {v : Int32} {c : Nat} (hc : c < 4) : zp (put h b g) (b + 15 + 2 * c) 0 5 (.int v) = some (put h b (upd g (38 + 7 * c) v)) := by
  rw [zp_some (put_15 hc) (show 5 < 8 by omega)]
  rw [show b + 15 + 2 * c = b + (15 + 2 * c) by omega]
  refine congrArg some (put_upd (j := 15 + 2 * c) (by omega) ?_ (fun j h1 h2 h3 => by have h4 := gsees_j h1 h3; omega))
  unfold gcell
  rw [if_neg (by omega), if_neg (by omega), if_neg (by omega), if_neg (by omega), if_neg (by omega), if_neg (by omega), if_neg (by omega), if_neg (by omega), if_pos (by omega), show (15 + 2 * c - 15) / 2 = c by omega]
  simp [cobj, upd, Nat.add_left_cancel_iff]
theorem sC_6 {h : zH} {b : Nat} {g : Row} {v : Int32} {c : Nat} (hc : c < 4) : zp (put h b g) (b + 15 + 2 * c) 0 6 (.int v) = some (put h b (upd g (39 + 7 * c) v)) := by
  rw [zp_some (put_15 hc) (show 6 < 8 by omega)]
  rw [show b + 15 + 2 * c = b + (15 + 2 * c) by omega]
  refine congrArg some (put_upd (j := 15 + 2 * c) (by omega) ?_ (fun j h1 h2 h3 => by have h4 := gsees_j h1 h3; omega))
  unfold gcell
  rw [if_neg (by omega), if_neg (by omega), if_neg (by omega), if_neg (by omega), if_neg (by omega), if_neg (by omega), if_neg (by omega), if_neg (by omega), if_pos (by omega), show (15 + 2 * c - 15) / 2 = c by omega]
  simp [cobj, upd, Nat.add_left_cancel_iff]
theorem sC_7 {h : zH} {b : Nat} {g : Row} {v : Int32} {c : Nat} (hc : c < 4) : zp (put h b g) (b + 15 + 2 * c) 0 7 (.int v) = some (put h b (upd g (40 + 7 * c) v)) := by
  rw [zp_some (put_15 hc) (show 7 < 8 by omega)]
  rw [show b + 15 + 2 * c = b + (15 + 2 * c) by omega]
  refine congrArg some (put_upd (j := 15 + 2 * c) (by omega) ?_ (fun j h1 h2 h3 => by have h4 := gsees_j h1 h3; omega))
  unfold gcell
  rw [if_neg (by omega), if_neg (by omega), if_neg (by omega), if_neg (by omega), if_neg (by omega), if_neg (by omega), if_neg (by omega), if_neg (by omega), if_pos (by omega), show (15 + 2 * c - 15) / 2 = c by omega]
  simp [cobj, upd, Nat.add_left_cancel_iff]
theorem sA_w {h : zH} {b : Nat} {g : Row} {i v : Int32} (hi : vp_in i 8) : zsi (put h b g) (b + 2) i v = some (put h b (upd g (126 + i.toNatClampNeg) v)) := by
  have h9 := vp_lt hi
  rw [zsi_some put_2 hi]
  refine congrArg some (put_upd (j := 2) (by omega) ?_ (fun j h1 h2 h3 => by have h4 := gsees_j h1 h3; omega))
  unfold gcell
  rw [if_neg (by omega), if_neg (by omega), if_pos rfl]
  congr 5
  refine tr_congr fun k hk => ?_
  unfold upd
  simp only []
  by_cases hk2 : k = i.toNatClampNeg
  · rw [if_pos hk2, if_pos (by omega)]
  · rw [if_neg hk2, if_neg (by omega)]
theorem sA_l {h : zH} {b : Nat} {g : Row} {t : Nat} {i v : Int32} (ht : t < 8) (hi : vp_in i 8) : zsi (put h b g) (b + 4 + t) i v = some (put h b (upd g (62 + 8 * t + i.toNatClampNeg) v)) := by
  have h9 := vp_lt hi
  rw [zsi_some (put_4 ht) hi]
  rw [show b + 4 + t = b + (4 + t) by omega]
  refine congrArg some (put_upd (j := 4 + t) (by omega) ?_ (fun j h1 h2 h3 => by have h4 := gsees_j h1 h3; omega))
  unfold gcell
  rw [if_neg (by omega), if_neg (by omega), if_neg (by omega), if_neg (by omega), if_pos (by omega), show 4 + t - 4 = t by omega]
  congr 5
  refine tr_congr fun k hk => ?_
  unfold upd
  simp only []
  by_cases hk2 : k = i.toNatClampNeg
  · rw [if_pos hk2, if_pos (by omega)]
  · rw [if_neg hk2, if_neg (by omega)]
theorem sA_m {h : zH} {b : Nat} {g : Row} {i v : Int32} (hi : vp_in i 4) : zsi (put h b g) (b + 13) i v = some (put h b (upd g (14 + i.toNatClampNeg) v)) := by
  have h9 := vp_lt hi
  rw [zsi_some put_13 hi]
  refine congrArg some (put_upd (j := 13) (by omega) ?_ (fun j h1 h2 h3 => by have h4 := gsees_j h1 h3; omega))
  unfold gcell
  rw [if_neg (by omega), if_neg (by omega), if_neg (by omega), if_neg (by omega), if_neg (by omega), if_neg (by omega), if_pos rfl]
  congr 5
  refine tr_congr fun k hk => ?_
  unfold upd
  simp only []
  by_cases hk2 : k = i.toNatClampNeg
  · rw [if_pos hk2, if_pos (by omega)]
  · rw [if_neg hk2, if_neg (by omega)]
theorem sA_o {h : zH} {b : Nat} {g : Row} {i v : Int32} (hi : vp_in i 4) : zsi (put h b g) (b + 14) i v = some (put h b (upd g (10 + i.toNatClampNeg) v)) := by
  have h9 := vp_lt hi
  rw [zsi_some put_14 hi]
  refine congrArg some (put_upd (j := 14) (by omega) ?_ (fun j h1 h2 h3 => by have h4 := gsees_j h1 h3; omega))
  unfold gcell
  rw [if_neg (by omega), if_neg (by omega), if_neg (by omega), if_neg (by omega), if_neg (by omega), if_neg (by omega), if_neg (by omega), if_pos rfl]
  congr 5
  refine tr_congr fun k hk => ?_
  unfold upd
  simp only []
  by_cases hk2 : k = i.toNatClampNeg
  · rw [if_pos hk2, if_pos (by omega)]
  · rw [if_neg hk2, if_neg (by omega)]
theorem sA_h {h : zH} {b : Nat} {g : Row} {c : Nat} {i v : Int32} (hc : c < 4) (hi : vp_in i 4) : zsi (put h b g) (b + 16 + 2 * c) i v = some (put h b (upd g (18 + 4 * i.toNatClampNeg + c) v)) := by
  have h9 := vp_lt hi
  rw [zsi_some (put_16 hc) hi]
  rw [show b + 16 + 2 * c = b + (16 + 2 * c) by omega]
  refine congrArg some (put_upd (j := 16 + 2 * c) (by omega) ?_ (fun j h1 h2 h3 => by have h4 := gsees_j h1 h3; omega))
  unfold gcell
  rw [if_neg (by omega), if_neg (by omega), if_neg (by omega), if_neg (by omega), if_neg (by omega), if_neg (by omega), if_neg (by omega), if_neg (by omega), if_neg (by omega), show (16 + 2 * c - 15) / 2 = c by omega]
  congr 5
  refine tr_congr fun k hk => ?_
  unfold upd
  simp only []
  by_cases hk2 : k = i.toNatClampNeg
  · rw [if_pos hk2, if_pos (by omega)]
  · rw [if_neg hk2, if_neg (by omega)]
theorem zfor1 {A1 β : Type} {F : (A1 → Option β) → A1 → Option β} {n : Nat} {r : Option β} (N : Nat) (s1 : Nat → A1) (hs : ∀ k, k < N → ∀ rec, F rec (s1 k) = rec (s1 (k + 1))) (he : ∀ rec, F rec (s1 N) = r) (hn : N < n) : zfix1 F n (s1 0) = r := by
  have key : ∀ j k, k + j = N → ∀ m, j < m → zfix1 F m (s1 k) = r := by
    intro j
    induction j with
    | zero =>
      intro k hk m hm
      obtain ⟨m, rfl⟩ : ∃ m', m = m' + 1 := ⟨m - 1, by omega⟩
      rw [zfix1_s, show k = N by omega]
      exact he _
    | succ j ih =>
      intro k hk m hm
      obtain ⟨m, rfl⟩ : ∃ m', m = m' + 1 := ⟨m - 1, by omega⟩
      rw [zfix1_s, hs k (by omega)]
      exact ih (k + 1) (by omega) m (by omega)
  exact key N 0 (by omega) n hn
theorem zfor2 {A1 A2 β : Type} {F : (A1 → A2 → Option β) → A1 → A2 → Option β} {n : Nat} {r : Option β} (N : Nat) (s1 : Nat → A1) (s2 : Nat → A2) (hs : ∀ k, k < N → ∀ rec, F rec (s1 k) (s2 k) = rec (s1 (k + 1)) (s2 (k + 1))) (he : ∀ rec, F rec (s1 N) (s2 N) = r) (hn : N < n) : zfix2 F n (s1 0) (s2 0) = r := by
  have key : ∀ j k, k + j = N → ∀ m, j < m → zfix2 F m (s1 k) (s2 k) = r := by
    intro j
    induction j with
    | zero =>
      intro k hk m hm
      obtain ⟨m, rfl⟩ : ∃ m', m = m' + 1 := ⟨m - 1, by omega⟩
      rw [zfix2_s, show k = N by omega]
      exact he _
    | succ j ih =>
      intro k hk m hm
      obtain ⟨m, rfl⟩ : ∃ m', m = m' + 1 := ⟨m - 1, by omega⟩
      rw [zfix2_s, hs k (by omega)]
      exact ih (k + 1) (by omega) m (by omega)
  exact key N 0 (by omega) n hn
theorem zfor3 {A1 A2 A3 β : Type} {F : (A1 → A2 → A3 → Option β) → A1 → A2 → A3 → Option β} {n : Nat} {r : Option β} (N : Nat) (s1 : Nat → A1) (s2 : Nat → A2) (s3 : Nat → A3) (hs : ∀ k, k < N → ∀ rec, F rec (s1 k) (s2 k) (s3 k) = rec (s1 (k + 1)) (s2 (k + 1)) (s3 (k + 1))) (he : ∀ rec, F rec (s1 N) (s2 N) (s3 N) = r) (hn : N < n) : zfix3 F n (s1 0) (s2 0) (s3 0) = r := by
  have key : ∀ j k, k + j = N → ∀ m, j < m → zfix3 F m (s1 k) (s2 k) (s3 k) = r := by
    intro j
    induction j with
    | zero =>
      intro k hk m hm
      obtain ⟨m, rfl⟩ : ∃ m', m = m' + 1 := ⟨m - 1, by omega⟩
      rw [zfix3_s, show k = N by omega]
      exact he _
    | succ j ih =>
      intro k hk m hm
      obtain ⟨m, rfl⟩ : ∃ m', m = m' + 1 := ⟨m - 1, by omega⟩
      rw [zfix3_s, hs k (by omega)]
      exact ih (k + 1) (by omega) m (by omega)
  exact key N 0 (by omega) n hn
theorem zfor4 {A1 A2 A3 A4 β : Type} {F : (A1 → A2 → A3 → A4 → Option β) → A1 → A2 → A3 → A4 → Option β} {n : Nat} {r : Option β} (N : Nat) (s1 : Nat → A1) (s2 : Nat → A2) (s3 : Nat → A3) (s4 : Nat → A4) (hs : ∀ k, k < N → ∀ rec, F rec (s1 k) (s2 k) (s3 k) (s4 k) = rec (s1 (k + 1)) (s2 (k + 1)) (s3 (k + 1)) (s4 (k + 1))) (he : ∀ rec, F rec (s1 N) (s2 N) (s3 N) (s4 N) = r) (hn : N < n) : zfix4 F n (s1 0) (s2 0) (s3 0) (s4 0) = r := by
  have key : ∀ j k, k + j = N → ∀ m, j < m → zfix4 F m (s1 k) (s2 k) (s3 k) (s4 k) = r := by
    intro j
    induction j with
    | zero =>
      intro k hk m hm
      obtain ⟨m, rfl⟩ : ∃ m', m = m' + 1 := ⟨m - 1, by omega⟩
      rw [zfix4_s, show k = N by omega]
      exact he _
    | succ j ih =>
      intro k hk m hm
      obtain ⟨m, rfl⟩ : ∃ m', m = m' + 1 := ⟨m - 1, by omega⟩
      rw [zfix4_s, hs k (by omega)]
      exact ih (k + 1) (by omega) m (by omega)
  exact key N 0 (by omega) n hn
theorem zfor5 {A1 A2 A3 A4 A5 β : Type} {F : (A1 → A2 → A3 → A4 → A5 → Option β) → A1 → A2 → A3 → A4 → A5 → Option β} {n : Nat} {r : Option β} (N : Nat) (s1 : Nat → A1) (s2 : Nat → A2) (s3 : Nat → A3) (s4 : Nat → A4) (s5 : Nat → A5) (hs : ∀ k, k < N → ∀ rec, F rec (s1 k) (s2 k) (s3 k) (s4 k) (s5 k) = rec (s1 (k + 1)) (s2 (k + 1)) (s3 (k + 1)) (s4 (k + 1)) (s5 (k + 1))) (he : ∀ rec, F rec (s1 N) (s2 N) (s3 N) (s4 N) (s5 N) = r) (hn : N < n) : zfix5 F n (s1 0) (s2 0) (s3 0) (s4 0) (s5 0) = r := by
  have key : ∀ j k, k + j = N → ∀ m, j < m → zfix5 F m (s1 k) (s2 k) (s3 k) (s4 k) (s5 k) = r := by
    intro j
    induction j with
    | zero =>
      intro k hk m hm
      obtain ⟨m, rfl⟩ : ∃ m', m = m' + 1 := ⟨m - 1, by omega⟩
      rw [zfix5_s, show k = N by omega]
      exact he _
    | succ j ih =>
      intro k hk m hm
      obtain ⟨m, rfl⟩ : ∃ m', m = m' + 1 := ⟨m - 1, by omega⟩
      rw [zfix5_s, hs k (by omega)]
      exact ih (k + 1) (by omega) m (by omega)
  exact key N 0 (by omega) n hn
theorem zfor6 {A1 A2 A3 A4 A5 A6 β : Type} {F : (A1 → A2 → A3 → A4 → A5 → A6 → Option β) → A1 → A2 → A3 → A4 → A5 → A6 → Option β} {n : Nat} {r : Option β} (N : Nat) (s1 : Nat → A1) (s2 : Nat → A2) (s3 : Nat → A3) (s4 : Nat → A4) (s5 : Nat → A5) (s6 : Nat → A6) (hs : ∀ k, k < N → ∀ rec, F rec (s1 k) (s2 k) (s3 k) (s4 k) (s5 k) (s6 k) = rec (s1 (k + 1)) (s2 (k + 1)) (s3 (k + 1)) (s4 (k + 1)) (s5 (k + 1)) (s6 (k + 1))) (he : ∀ rec, F rec (s1 N) (s2 N) (s3 N) (s4 N) (s5 N) (s6 N) = r) (hn : N < n) : zfix6 F n (s1 0) (s2 0) (s3 0) (s4 0) (s5 0) (s6 0) = r := by
  have key : ∀ j k, k + j = N → ∀ m, j < m → zfix6 F m (s1 k) (s2 k) (s3 k) (s4 k) (s5 k) (s6 k) = r := by
    intro j
    induction j with
    | zero =>
      intro k hk m hm
      obtain ⟨m, rfl⟩ : ∃ m', m = m' + 1 := ⟨m - 1, by omega⟩
      rw [zfix6_s, show k = N by omega]
      exact he _
    | succ j ih =>
      intro k hk m hm
      obtain ⟨m, rfl⟩ : ∃ m', m = m' + 1 := ⟨m - 1, by omega⟩
      rw [zfix6_s, hs k (by omega)]
      exact ih (k + 1) (by omega) m (by omega)
  exact key N 0 (by omega) n hn
theorem zfor7 {A1 A2 A3 A4 A5 A6 A7 β : Type} {F : (A1 → A2 → A3 → A4 → A5 → A6 → A7 → Option β) → A1 → A2 → A3 → A4 → A5 → A6 → A7 → Option β} {n : Nat} {r : Option β} (N : Nat) (s1 : Nat → A1) (s2 : Nat → A2) (s3 : Nat → A3) (s4 : Nat → A4) (s5 : Nat → A5) (s6 : Nat → A6) (s7 : Nat → A7) (hs : ∀ k, k < N → ∀ rec, F rec (s1 k) (s2 k) (s3 k) (s4 k) (s5 k) (s6 k) (s7 k) = rec (s1 (k + 1)) (s2 (k + 1)) (s3 (k + 1)) (s4 (k + 1)) (s5 (k + 1)) (s6 (k + 1)) (s7 (k + 1))) (he : ∀ rec, F rec (s1 N) (s2 N) (s3 N) (s4 N) (s5 N) (s6 N) (s7 N) = r) (hn : N < n) : zfix7 F n (s1 0) (s2 0) (s3 0) (s4 0) (s5 0) (s6 0) (s7 0) = r := by
  have key : ∀ j k, k + j = N → ∀ m, j < m → zfix7 F m (s1 k) (s2 k) (s3 k) (s4 k) (s5 k) (s6 k) (s7 k) = r := by
    intro j
    induction j with
    | zero =>
      intro k hk m hm
      obtain ⟨m, rfl⟩ : ∃ m', m = m' + 1 := ⟨m - 1, by omega⟩
      rw [zfix7_s, show k = N by omega]
      exact he _
    | succ j ih =>
      intro k hk m hm
      obtain ⟨m, rfl⟩ : ∃ m', m = m' + 1 := ⟨m - 1, by omega⟩
      rw [zfix7_s, hs k (by omega)]
      exact ih (k + 1) (by omega) m (by omega)
  exact key N 0 (by omega) n hn
theorem zfor8 {A1 A2 A3 A4 A5 A6 A7 A8 β : Type} {F : (A1 → A2 → A3 → A4 → A5 → A6 → A7 → A8 → Option β) → A1 → A2 → A3 → A4 → A5 → A6 → A7 → A8 → Option β} {n : Nat} {r : Option β} (N : Nat) (s1 : Nat → A1) (s2 : Nat → A2) (s3 : Nat → A3) (s4 : Nat → A4) (s5 : Nat → A5) (s6 : Nat → A6) (s7 : Nat → A7) (s8 : Nat → A8) (hs : ∀ k, k < N → ∀ rec, F rec (s1 k) (s2 k) (s3 k) (s4 k) (s5 k) (s6 k) (s7 k) (s8 k) = rec (s1 (k + 1)) (s2 (k + 1)) (s3 (k + 1)) (s4 (k + 1)) (s5 (k + 1)) (s6 (k + 1)) (s7 (k + 1)) (s8 (k + 1))) (he : ∀ rec, F rec (s1 N) (s2 N) (s3 N) (s4 N) (s5 N) (s6 N) (s7 N) (s8 N) = r) (hn : N < n) : zfix8 F n (s1 0) (s2 0) (s3 0) (s4 0) (s5 0) (s6 0) (s7 0) (s8 0) = r := by
  have key : ∀ j k, k + j = N → ∀ m, j < m → zfix8 F m (s1 k) (s2 k) (s3 k) (s4 k) (s5 k) (s6 k) (s7 k) (s8 k) = r := by
    intro j
    induction j with
    | zero =>
      intro k hk m hm
      obtain ⟨m, rfl⟩ : ∃ m', m = m' + 1 := ⟨m - 1, by omega⟩
      rw [zfix8_s, show k = N by omega]
      exact he _
    | succ j ih =>
      intro k hk m hm
      obtain ⟨m, rfl⟩ : ∃ m', m = m' + 1 := ⟨m - 1, by omega⟩
      rw [zfix8_s, hs k (by omega)]
      exact ih (k + 1) (by omega) m (by omega)
  exact key N 0 (by omega) n hn
theorem zind1 {A1 β : Type} {F : (A1 → Option β) → A1 → Option β} (P : Nat → A1 → Option β → Prop) (hs : ∀ j a1 r, P j a1 r → (∀ rec, F rec a1 = r) ∨ (∃ j' b1, j' < j ∧ P j' b1 r ∧ ∀ rec, F rec a1 = rec b1)) : ∀ n j a1 r, P j a1 r → j < n → zfix1 F n a1 = r := by
  intro n
  induction n with
  | zero => intro j a1 r _ hn; omega
  | succ n ih =>
    intro j a1 r hP hn
    rw [zfix1_s]
    rcases hs j a1 r hP with he | ⟨j', b1, hj, hP', he⟩
    · exact he _
    · rw [he]
      exact ih j' b1 r hP' (by omega)
theorem zind2 {A1 A2 β : Type} {F : (A1 → A2 → Option β) → A1 → A2 → Option β} (P : Nat → A1 → A2 → Option β → Prop) (hs : ∀ j a1 a2 r, P j a1 a2 r → (∀ rec, F rec a1 a2 = r) ∨ (∃ j' b1 b2, j' < j ∧ P j' b1 b2 r ∧ ∀ rec, F rec a1 a2 = rec b1 b2)) : ∀ n j a1 a2 r, P j a1 a2 r → j < n → zfix2 F n a1 a2 = r := by
  intro n
  induction n with
  | zero => intro j a1 a2 r _ hn; omega
  | succ n ih =>
    intro j a1 a2 r hP hn
    rw [zfix2_s]
    rcases hs j a1 a2 r hP with he | ⟨j', b1, b2, hj, hP', he⟩
    · exact he _
    · rw [he]
      exact ih j' b1 b2 r hP' (by omega)
theorem zind3 {A1 A2 A3 β : Type} {F : (A1 → A2 → A3 → Option β) → A1 → A2 → A3 → Option β} (P : Nat → A1 → A2 → A3 → Option β → Prop) (hs : ∀ j a1 a2 a3 r, P j a1 a2 a3 r → (∀ rec, F rec a1 a2 a3 = r) ∨ (∃ j' b1 b2 b3, j' < j ∧ P j' b1 b2 b3 r ∧ ∀ rec, F rec a1 a2 a3 = rec b1 b2 b3)) : ∀ n j a1 a2 a3 r, P j a1 a2 a3 r → j < n → zfix3 F n a1 a2 a3 = r := by
  intro n
  induction n with
  | zero => intro j a1 a2 a3 r _ hn; omega
  | succ n ih =>
    intro j a1 a2 a3 r hP hn
    rw [zfix3_s]
    rcases hs j a1 a2 a3 r hP with he | ⟨j', b1, b2, b3, hj, hP', he⟩
    · exact he _
    · rw [he]
      exact ih j' b1 b2 b3 r hP' (by omega)
theorem zind4 {A1 A2 A3 A4 β : Type} {F : (A1 → A2 → A3 → A4 → Option β) → A1 → A2 → A3 → A4 → Option β} (P : Nat → A1 → A2 → A3 → A4 → Option β → Prop) (hs : ∀ j a1 a2 a3 a4 r, P j a1 a2 a3 a4 r → (∀ rec, F rec a1 a2 a3 a4 = r) ∨ (∃ j' b1 b2 b3 b4, j' < j ∧ P j' b1 b2 b3 b4 r ∧ ∀ rec, F rec a1 a2 a3 a4 = rec b1 b2 b3 b4)) : ∀ n j a1 a2 a3 a4 r, P j a1 a2 a3 a4 r → j < n → zfix4 F n a1 a2 a3 a4 = r := by
  intro n
  induction n with
  | zero => intro j a1 a2 a3 a4 r _ hn; omega
  | succ n ih =>
    intro j a1 a2 a3 a4 r hP hn
    rw [zfix4_s]
    rcases hs j a1 a2 a3 a4 r hP with he | ⟨j', b1, b2, b3, b4, hj, hP', he⟩
    · exact he _
    · rw [he]
      exact ih j' b1 b2 b3 b4 r hP' (by omega)
theorem zind5 {A1 A2 A3 A4 A5 β : Type} {F : (A1 → A2 → A3 → A4 → A5 → Option β) → A1 → A2 → A3 → A4 → A5 → Option β} (P : Nat → A1 → A2 → A3 → A4 → A5 → Option β → Prop) (hs : ∀ j a1 a2 a3 a4 a5 r, P j a1 a2 a3 a4 a5 r → (∀ rec, F rec a1 a2 a3 a4 a5 = r) ∨ (∃ j' b1 b2 b3 b4 b5, j' < j ∧ P j' b1 b2 b3 b4 b5 r ∧ ∀ rec, F rec a1 a2 a3 a4 a5 = rec b1 b2 b3 b4 b5)) : ∀ n j a1 a2 a3 a4 a5 r, P j a1 a2 a3 a4 a5 r → j < n → zfix5 F n a1 a2 a3 a4 a5 = r := by
  intro n
  induction n with
  | zero => intro j a1 a2 a3 a4 a5 r _ hn; omega
  | succ n ih =>
    intro j a1 a2 a3 a4 a5 r hP hn
    rw [zfix5_s]
    rcases hs j a1 a2 a3 a4 a5 r hP with he | ⟨j', b1, b2, b3, b4, b5, hj, hP', he⟩
    · exact he _
    · rw [he]
      exact ih j' b1 b2 b3 b4 b5 r hP' (by omega)
theorem zind6 {A1 A2 A3 A4 A5 A6 β : Type} {F : (A1 → A2 → A3 → A4 → A5 → A6 → Option β) → A1 → A2 → A3 → A4 → A5 → A6 → Option β} (P : Nat → A1 → A2 → A3 → A4 → A5 → A6 → Option β → Prop) (hs : ∀ j a1 a2 a3 a4 a5 a6 r, P j a1 a2 a3 a4 a5 a6 r → (∀ rec, F rec a1 a2 a3 a4 a5 a6 = r) ∨ (∃ j' b1 b2 b3 b4 b5 b6, j' < j ∧ P j' b1 b2 b3 b4 b5 b6 r ∧ ∀ rec, F rec a1 a2 a3 a4 a5 a6 = rec b1 b2 b3 b4 b5 b6)) : ∀ n j a1 a2 a3 a4 a5 a6 r, P j a1 a2 a3 a4 a5 a6 r → j < n → zfix6 F n a1 a2 a3 a4 a5 a6 = r := by
  intro n
  induction n with
  | zero => intro j a1 a2 a3 a4 a5 a6 r _ hn; omega
  | succ n ih =>
    intro j a1 a2 a3 a4 a5 a6 r hP hn
    rw [zfix6_s]
    rcases hs j a1 a2 a3 a4 a5 a6 r hP with he | ⟨j', b1, b2, b3, b4, b5, b6, hj, hP', he⟩
    · exact he _
    · rw [he]
      exact ih j' b1 b2 b3 b4 b5 b6 r hP' (by omega)
theorem zind7 {A1 A2 A3 A4 A5 A6 A7 β : Type} {F : (A1 → A2 → A3 → A4 → A5 → A6 → A7 → Option β) → A1 → A2 → A3 → A4 → A5 → A6 → A7 → Option β} (P : Nat → A1 → A2 → A3 → A4 → A5 → A6 → A7 → Option β → Prop) (hs : ∀ j a1 a2 a3 a4 a5 a6 a7 r, P j a1 a2 a3 a4 a5 a6 a7 r → (∀ rec, F rec a1 a2 a3 a4 a5 a6 a7 = r) ∨ (∃ j' b1 b2 b3 b4 b5 b6 b7, j' < j ∧ P j' b1 b2 b3 b4 b5 b6 b7 r ∧ ∀ rec, F rec a1 a2 a3 a4 a5 a6 a7 = rec b1 b2 b3 b4 b5 b6 b7)) : ∀ n j a1 a2 a3 a4 a5 a6 a7 r, P j a1 a2 a3 a4 a5 a6 a7 r → j < n → zfix7 F n a1 a2 a3 a4 a5 a6 a7 = r := by
  intro n
  induction n with
  | zero => intro j a1 a2 a3 a4 a5 a6 a7 r _ hn; omega
  | succ n ih =>
    intro j a1 a2 a3 a4 a5 a6 a7 r hP hn
    rw [zfix7_s]
    rcases hs j a1 a2 a3 a4 a5 a6 a7 r hP with he | ⟨j', b1, b2, b3, b4, b5, b6, b7, hj, hP', he⟩
    · exact he _
    · rw [he]
      exact ih j' b1 b2 b3 b4 b5 b6 b7 r hP' (by omega)
theorem zind8 {A1 A2 A3 A4 A5 A6 A7 A8 β : Type} {F : (A1 → A2 → A3 → A4 → A5 → A6 → A7 → A8 → Option β) → A1 → A2 → A3 → A4 → A5 → A6 → A7 → A8 → Option β} (P : Nat → A1 → A2 → A3 → A4 → A5 → A6 → A7 → A8 → Option β → Prop) (hs : ∀ j a1 a2 a3 a4 a5 a6 a7 a8 r, P j a1 a2 a3 a4 a5 a6 a7 a8 r → (∀ rec, F rec a1 a2 a3 a4 a5 a6 a7 a8 = r) ∨ (∃ j' b1 b2 b3 b4 b5 b6 b7 b8, j' < j ∧ P j' b1 b2 b3 b4 b5 b6 b7 b8 r ∧ ∀ rec, F rec a1 a2 a3 a4 a5 a6 a7 a8 = rec b1 b2 b3 b4 b5 b6 b7 b8)) : ∀ n j a1 a2 a3 a4 a5 a6 a7 a8 r, P j a1 a2 a3 a4 a5 a6 a7 a8 r → j < n → zfix8 F n a1 a2 a3 a4 a5 a6 a7 a8 = r := by
  intro n
  induction n with
  | zero => intro j a1 a2 a3 a4 a5 a6 a7 a8 r _ hn; omega
  | succ n ih =>
    intro j a1 a2 a3 a4 a5 a6 a7 a8 r hP hn
    rw [zfix8_s]
    rcases hs j a1 a2 a3 a4 a5 a6 a7 a8 r hP with he | ⟨j', b1, b2, b3, b4, b5, b6, b7, b8, hj, hP', he⟩
    · exact he _
    · rw [he]
      exact ih j' b1 b2 b3 b4 b5 b6 b7 b8 r hP' (by omega)
theorem zwh1 {A1 β : Type} {F : (A1 → Option β) → A1 → Option β} {Q : Option β → Prop} (P : Nat → A1 → Prop) (hs : ∀ j a1, P j a1 → (∀ rec, Q (F rec a1)) ∨ (∃ j' b1, j' < j ∧ P j' b1 ∧ ∀ rec, F rec a1 = rec b1)) : ∀ n j a1, P j a1 → j < n → Q (zfix1 F n a1) := by
  intro n
  induction n with
  | zero => intro j a1 _ hn; omega
  | succ n ih =>
    intro j a1 hP hn
    rw [zfix1_s]
    rcases hs j a1 hP with he | ⟨j', b1, hj, hP', he⟩
    · exact he _
    · rw [he]
      exact ih j' b1 hP' (by omega)
theorem zwh2 {A1 A2 β : Type} {F : (A1 → A2 → Option β) → A1 → A2 → Option β} {Q : Option β → Prop} (P : Nat → A1 → A2 → Prop) (hs : ∀ j a1 a2, P j a1 a2 → (∀ rec, Q (F rec a1 a2)) ∨ (∃ j' b1 b2, j' < j ∧ P j' b1 b2 ∧ ∀ rec, F rec a1 a2 = rec b1 b2)) : ∀ n j a1 a2, P j a1 a2 → j < n → Q (zfix2 F n a1 a2) := by
  intro n
  induction n with
  | zero => intro j a1 a2 _ hn; omega
  | succ n ih =>
    intro j a1 a2 hP hn
    rw [zfix2_s]
    rcases hs j a1 a2 hP with he | ⟨j', b1, b2, hj, hP', he⟩
    · exact he _
    · rw [he]
      exact ih j' b1 b2 hP' (by omega)
theorem zwh3 {A1 A2 A3 β : Type} {F : (A1 → A2 → A3 → Option β) → A1 → A2 → A3 → Option β} {Q : Option β → Prop} (P : Nat → A1 → A2 → A3 → Prop) (hs : ∀ j a1 a2 a3, P j a1 a2 a3 → (∀ rec, Q (F rec a1 a2 a3)) ∨ (∃ j' b1 b2 b3, j' < j ∧ P j' b1 b2 b3 ∧ ∀ rec, F rec a1 a2 a3 = rec b1 b2 b3)) : ∀ n j a1 a2 a3, P j a1 a2 a3 → j < n → Q (zfix3 F n a1 a2 a3) := by
  intro n
  induction n with
  | zero => intro j a1 a2 a3 _ hn; omega
  | succ n ih =>
    intro j a1 a2 a3 hP hn
    rw [zfix3_s]
    rcases hs j a1 a2 a3 hP with he | ⟨j', b1, b2, b3, hj, hP', he⟩
    · exact he _
    · rw [he]
      exact ih j' b1 b2 b3 hP' (by omega)
theorem zwh4 {A1 A2 A3 A4 β : Type} {F : (A1 → A2 → A3 → A4 → Option β) → A1 → A2 → A3 → A4 → Option β} {Q : Option β → Prop} (P : Nat → A1 → A2 → A3 → A4 → Prop) (hs : ∀ j a1 a2 a3 a4, P j a1 a2 a3 a4 → (∀ rec, Q (F rec a1 a2 a3 a4)) ∨ (∃ j' b1 b2 b3 b4, j' < j ∧ P j' b1 b2 b3 b4 ∧ ∀ rec, F rec a1 a2 a3 a4 = rec b1 b2 b3 b4)) : ∀ n j a1 a2 a3 a4, P j a1 a2 a3 a4 → j < n → Q (zfix4 F n a1 a2 a3 a4) := by
  intro n
  induction n with
  | zero => intro j a1 a2 a3 a4 _ hn; omega
  | succ n ih =>
    intro j a1 a2 a3 a4 hP hn
    rw [zfix4_s]
    rcases hs j a1 a2 a3 a4 hP with he | ⟨j', b1, b2, b3, b4, hj, hP', he⟩
    · exact he _
    · rw [he]
      exact ih j' b1 b2 b3 b4 hP' (by omega)
theorem zwh5 {A1 A2 A3 A4 A5 β : Type} {F : (A1 → A2 → A3 → A4 → A5 → Option β) → A1 → A2 → A3 → A4 → A5 → Option β} {Q : Option β → Prop} (P : Nat → A1 → A2 → A3 → A4 → A5 → Prop) (hs : ∀ j a1 a2 a3 a4 a5, P j a1 a2 a3 a4 a5 → (∀ rec, Q (F rec a1 a2 a3 a4 a5)) ∨ (∃ j' b1 b2 b3 b4 b5, j' < j ∧ P j' b1 b2 b3 b4 b5 ∧ ∀ rec, F rec a1 a2 a3 a4 a5 = rec b1 b2 b3 b4 b5)) : ∀ n j a1 a2 a3 a4 a5, P j a1 a2 a3 a4 a5 → j < n → Q (zfix5 F n a1 a2 a3 a4 a5) := by
  intro n
  induction n with
  | zero => intro j a1 a2 a3 a4 a5 _ hn; omega
  | succ n ih =>
    intro j a1 a2 a3 a4 a5 hP hn
    rw [zfix5_s]
    rcases hs j a1 a2 a3 a4 a5 hP with he | ⟨j', b1, b2, b3, b4, b5, hj, hP', he⟩
    · exact he _
    · rw [he]
      exact ih j' b1 b2 b3 b4 b5 hP' (by omega)
theorem zwh6 {A1 A2 A3 A4 A5 A6 β : Type} {F : (A1 → A2 → A3 → A4 → A5 → A6 → Option β) → A1 → A2 → A3 → A4 → A5 → A6 → Option β} {Q : Option β → Prop} (P : Nat → A1 → A2 → A3 → A4 → A5 → A6 → Prop) (hs : ∀ j a1 a2 a3 a4 a5 a6, P j a1 a2 a3 a4 a5 a6 → (∀ rec, Q (F rec a1 a2 a3 a4 a5 a6)) ∨ (∃ j' b1 b2 b3 b4 b5 b6, j' < j ∧ P j' b1 b2 b3 b4 b5 b6 ∧ ∀ rec, F rec a1 a2 a3 a4 a5 a6 = rec b1 b2 b3 b4 b5 b6)) : ∀ n j a1 a2 a3 a4 a5 a6, P j a1 a2 a3 a4 a5 a6 → j < n → Q (zfix6 F n a1 a2 a3 a4 a5 a6) := by
  intro n
  induction n with
  | zero => intro j a1 a2 a3 a4 a5 a6 _ hn; omega
  | succ n ih =>
    intro j a1 a2 a3 a4 a5 a6 hP hn
    rw [zfix6_s]
    rcases hs j a1 a2 a3 a4 a5 a6 hP with he | ⟨j', b1, b2, b3, b4, b5, b6, hj, hP', he⟩
    · exact he _
    · rw [he]
      exact ih j' b1 b2 b3 b4 b5 b6 hP' (by omega)
theorem zwh7 {A1 A2 A3 A4 A5 A6 A7 β : Type} {F : (A1 → A2 → A3 → A4 → A5 → A6 → A7 → Option β) → A1 → A2 → A3 → A4 → A5 → A6 → A7 → Option β} {Q : Option β → Prop} (P : Nat → A1 → A2 → A3 → A4 → A5 → A6 → A7 → Prop) (hs : ∀ j a1 a2 a3 a4 a5 a6 a7, P j a1 a2 a3 a4 a5 a6 a7 → (∀ rec, Q (F rec a1 a2 a3 a4 a5 a6 a7)) ∨ (∃ j' b1 b2 b3 b4 b5 b6 b7, j' < j ∧ P j' b1 b2 b3 b4 b5 b6 b7 ∧ ∀ rec, F rec a1 a2 a3 a4 a5 a6 a7 = rec b1 b2 b3 b4 b5 b6 b7)) : ∀ n j a1 a2 a3 a4 a5 a6 a7, P j a1 a2 a3 a4 a5 a6 a7 → j < n → Q (zfix7 F n a1 a2 a3 a4 a5 a6 a7) := by
  intro n
  induction n with
  | zero => intro j a1 a2 a3 a4 a5 a6 a7 _ hn; omega
  | succ n ih =>
    intro j a1 a2 a3 a4 a5 a6 a7 hP hn
    rw [zfix7_s]
    rcases hs j a1 a2 a3 a4 a5 a6 a7 hP with he | ⟨j', b1, b2, b3, b4, b5, b6, b7, hj, hP', he⟩
    · exact he _
    · rw [he]
      exact ih j' b1 b2 b3 b4 b5 b6 b7 hP' (by omega)
theorem zwh8 {A1 A2 A3 A4 A5 A6 A7 A8 β : Type} {F : (A1 → A2 → A3 → A4 → A5 → A6 → A7 → A8 → Option β) → A1 → A2 → A3 → A4 → A5 → A6 → A7 → A8 → Option β} {Q : Option β → Prop} (P : Nat → A1 → A2 → A3 → A4 → A5 → A6 → A7 → A8 → Prop) (hs : ∀ j a1 a2 a3 a4 a5 a6 a7 a8, P j a1 a2 a3 a4 a5 a6 a7 a8 → (∀ rec, Q (F rec a1 a2 a3 a4 a5 a6 a7 a8)) ∨ (∃ j' b1 b2 b3 b4 b5 b6 b7 b8, j' < j ∧ P j' b1 b2 b3 b4 b5 b6 b7 b8 ∧ ∀ rec, F rec a1 a2 a3 a4 a5 a6 a7 a8 = rec b1 b2 b3 b4 b5 b6 b7 b8)) : ∀ n j a1 a2 a3 a4 a5 a6 a7 a8, P j a1 a2 a3 a4 a5 a6 a7 a8 → j < n → Q (zfix8 F n a1 a2 a3 a4 a5 a6 a7 a8) := by
  intro n
  induction n with
  | zero => intro j a1 a2 a3 a4 a5 a6 a7 a8 _ hn; omega
  | succ n ih =>
    intro j a1 a2 a3 a4 a5 a6 a7 a8 hP hn
    rw [zfix8_s]
    rcases hs j a1 a2 a3 a4 a5 a6 a7 a8 hP with he | ⟨j', b1, b2, b3, b4, b5, b6, b7, b8, hj, hP', he⟩
    · exact he _
    · rw [he]
      exact ih j' b1 b2 b3 b4 b5 b6 b7 b8 hP' (by omega)
theorem zrun1 {A1 β ρT O : Type} {F : ρT → (A1 → Option β) → A1 → Option β} {G : ρT → O → Option β} {Q : O → Prop} (P : Nat → A1 → Prop) (hs : ∀ j a1, P j a1 → (∃ o, Q o ∧ ∀ r rec, F r rec a1 = G r o) ∨ (∃ j' b1, j' < j ∧ P j' b1 ∧ ∀ r rec, F r rec a1 = rec b1)) : ∀ n j a1, P j a1 → j < n → ∃ o, Q o ∧ ∀ r, zfix1 (F r) n a1 = G r o := by
  intro n
  induction n with
  | zero => intro j a1 _ hn; omega
  | succ n ih =>
    intro j a1 hP hn
    rcases hs j a1 hP with ⟨o, hQ, he⟩ | ⟨j', b1, hj, hP', he⟩
    · exact ⟨o, hQ, fun r => by rw [zfix1_s, he]⟩
    · obtain ⟨o, hQ, h2⟩ := ih j' b1 hP' (by omega)
      exact ⟨o, hQ, fun r => by rw [zfix1_s, he, h2]⟩
theorem zrun2 {A1 A2 β ρT O : Type} {F : ρT → (A1 → A2 → Option β) → A1 → A2 → Option β} {G : ρT → O → Option β} {Q : O → Prop} (P : Nat → A1 → A2 → Prop) (hs : ∀ j a1 a2, P j a1 a2 → (∃ o, Q o ∧ ∀ r rec, F r rec a1 a2 = G r o) ∨ (∃ j' b1 b2, j' < j ∧ P j' b1 b2 ∧ ∀ r rec, F r rec a1 a2 = rec b1 b2)) : ∀ n j a1 a2, P j a1 a2 → j < n → ∃ o, Q o ∧ ∀ r, zfix2 (F r) n a1 a2 = G r o := by
  intro n
  induction n with
  | zero => intro j a1 a2 _ hn; omega
  | succ n ih =>
    intro j a1 a2 hP hn
    rcases hs j a1 a2 hP with ⟨o, hQ, he⟩ | ⟨j', b1, b2, hj, hP', he⟩
    · exact ⟨o, hQ, fun r => by rw [zfix2_s, he]⟩
    · obtain ⟨o, hQ, h2⟩ := ih j' b1 b2 hP' (by omega)
      exact ⟨o, hQ, fun r => by rw [zfix2_s, he, h2]⟩
theorem zrun3 {A1 A2 A3 β ρT O : Type} {F : ρT → (A1 → A2 → A3 → Option β) → A1 → A2 → A3 → Option β} {G : ρT → O → Option β} {Q : O → Prop} (P : Nat → A1 → A2 → A3 → Prop) (hs : ∀ j a1 a2 a3, P j a1 a2 a3 → (∃ o, Q o ∧ ∀ r rec, F r rec a1 a2 a3 = G r o) ∨ (∃ j' b1 b2 b3, j' < j ∧ P j' b1 b2 b3 ∧ ∀ r rec, F r rec a1 a2 a3 = rec b1 b2 b3)) : ∀ n j a1 a2 a3, P j a1 a2 a3 → j < n → ∃ o, Q o ∧ ∀ r, zfix3 (F r) n a1 a2 a3 = G r o := by
  intro n
  induction n with
  | zero => intro j a1 a2 a3 _ hn; omega
  | succ n ih =>
    intro j a1 a2 a3 hP hn
    rcases hs j a1 a2 a3 hP with ⟨o, hQ, he⟩ | ⟨j', b1, b2, b3, hj, hP', he⟩
    · exact ⟨o, hQ, fun r => by rw [zfix3_s, he]⟩
    · obtain ⟨o, hQ, h2⟩ := ih j' b1 b2 b3 hP' (by omega)
      exact ⟨o, hQ, fun r => by rw [zfix3_s, he, h2]⟩
theorem zrun4 {A1 A2 A3 A4 β ρT O : Type} {F : ρT → (A1 → A2 → A3 → A4 → Option β) → A1 → A2 → A3 → A4 → Option β} {G : ρT → O → Option β} {Q : O → Prop} (P : Nat → A1 → A2 → A3 → A4 → Prop) (hs : ∀ j a1 a2 a3 a4, P j a1 a2 a3 a4 → (∃ o, Q o ∧ ∀ r rec, F r rec a1 a2 a3 a4 = G r o) ∨ (∃ j' b1 b2 b3 b4, j' < j ∧ P j' b1 b2 b3 b4 ∧ ∀ r rec, F r rec a1 a2 a3 a4 = rec b1 b2 b3 b4)) : ∀ n j a1 a2 a3 a4, P j a1 a2 a3 a4 → j < n → ∃ o, Q o ∧ ∀ r, zfix4 (F r) n a1 a2 a3 a4 = G r o := by
  intro n
  induction n with
  | zero => intro j a1 a2 a3 a4 _ hn; omega
  | succ n ih =>
    intro j a1 a2 a3 a4 hP hn
    rcases hs j a1 a2 a3 a4 hP with ⟨o, hQ, he⟩ | ⟨j', b1, b2, b3, b4, hj, hP', he⟩
    · exact ⟨o, hQ, fun r => by rw [zfix4_s, he]⟩
    · obtain ⟨o, hQ, h2⟩ := ih j' b1 b2 b3 b4 hP' (by omega)
      exact ⟨o, hQ, fun r => by rw [zfix4_s, he, h2]⟩
theorem zrun5 {A1 A2 A3 A4 A5 β ρT O : Type} {F : ρT → (A1 → A2 → A3 → A4 → A5 → Option β) → A1 → A2 → A3 → A4 → A5 → Option β} {G : ρT → O → Option β} {Q : O → Prop} (P : Nat → A1 → A2 → A3 → A4 → A5 → Prop) (hs : ∀ j a1 a2 a3 a4 a5, P j a1 a2 a3 a4 a5 → (∃ o, Q o ∧ ∀ r rec, F r rec a1 a2 a3 a4 a5 = G r o) ∨ (∃ j' b1 b2 b3 b4 b5, j' < j ∧ P j' b1 b2 b3 b4 b5 ∧ ∀ r rec, F r rec a1 a2 a3 a4 a5 = rec b1 b2 b3 b4 b5)) : ∀ n j a1 a2 a3 a4 a5, P j a1 a2 a3 a4 a5 → j < n → ∃ o, Q o ∧ ∀ r, zfix5 (F r) n a1 a2 a3 a4 a5 = G r o := by
  intro n
  induction n with
  | zero => intro j a1 a2 a3 a4 a5 _ hn; omega
  | succ n ih =>
    intro j a1 a2 a3 a4 a5 hP hn
    rcases hs j a1 a2 a3 a4 a5 hP with ⟨o, hQ, he⟩ | ⟨j', b1, b2, b3, b4, b5, hj, hP', he⟩
    · exact ⟨o, hQ, fun r => by rw [zfix5_s, he]⟩
    · obtain ⟨o, hQ, h2⟩ := ih j' b1 b2 b3 b4 b5 hP' (by omega)
      exact ⟨o, hQ, fun r => by rw [zfix5_s, he, h2]⟩
theorem zrun6 {A1 A2 A3 A4 A5 A6 β ρT O : Type} {F : ρT → (A1 → A2 → A3 → A4 → A5 → A6 → Option β) → A1 → A2 → A3 → A4 → A5 → A6 → Option β} {G : ρT → O → Option β} {Q : O → Prop} (P : Nat → A1 → A2 → A3 → A4 → A5 → A6 → Prop) (hs : ∀ j a1 a2 a3 a4 a5 a6, P j a1 a2 a3 a4 a5 a6 → (∃ o, Q o ∧ ∀ r rec, F r rec a1 a2 a3 a4 a5 a6 = G r o) ∨ (∃ j' b1 b2 b3 b4 b5 b6, j' < j ∧ P j' b1 b2 b3 b4 b5 b6 ∧ ∀ r rec, F r rec a1 a2 a3 a4 a5 a6 = rec b1 b2 b3 b4 b5 b6)) : ∀ n j a1 a2 a3 a4 a5 a6, P j a1 a2 a3 a4 a5 a6 → j < n → ∃ o, Q o ∧ ∀ r, zfix6 (F r) n a1 a2 a3 a4 a5 a6 = G r o := by
  intro n
  induction n with
  | zero => intro j a1 a2 a3 a4 a5 a6 _ hn; omega
  | succ n ih =>
    intro j a1 a2 a3 a4 a5 a6 hP hn
    rcases hs j a1 a2 a3 a4 a5 a6 hP with ⟨o, hQ, he⟩ | ⟨j', b1, b2, b3, b4, b5, b6, hj, hP', he⟩
    · exact ⟨o, hQ, fun r => by rw [zfix6_s, he]⟩
    · obtain ⟨o, hQ, h2⟩ := ih j' b1 b2 b3 b4 b5 b6 hP' (by omega)
      exact ⟨o, hQ, fun r => by rw [zfix6_s, he, h2]⟩
theorem zrun7 {A1 A2 A3 A4 A5 A6 A7 β ρT O : Type} {F : ρT → (A1 → A2 → A3 → A4 → A5 → A6 → A7 → Option β) → A1 → A2 → A3 → A4 → A5 → A6 → A7 → Option β} {G : ρT → O → Option β} {Q : O → Prop} (P : Nat → A1 → A2 → A3 → A4 → A5 → A6 → A7 → Prop) (hs : ∀ j a1 a2 a3 a4 a5 a6 a7, P j a1 a2 a3 a4 a5 a6 a7 → (∃ o, Q o ∧ ∀ r rec, F r rec a1 a2 a3 a4 a5 a6 a7 = G r o) ∨ (∃ j' b1 b2 b3 b4 b5 b6 b7, j' < j ∧ P j' b1 b2 b3 b4 b5 b6 b7 ∧ ∀ r rec, F r rec a1 a2 a3 a4 a5 a6 a7 = rec b1 b2 b3 b4 b5 b6 b7)) : ∀ n j a1 a2 a3 a4 a5 a6 a7, P j a1 a2 a3 a4 a5 a6 a7 → j < n → ∃ o, Q o ∧ ∀ r, zfix7 (F r) n a1 a2 a3 a4 a5 a6 a7 = G r o := by
  intro n
  induction n with
  | zero => intro j a1 a2 a3 a4 a5 a6 a7 _ hn; omega
  | succ n ih =>
    intro j a1 a2 a3 a4 a5 a6 a7 hP hn
    rcases hs j a1 a2 a3 a4 a5 a6 a7 hP with ⟨o, hQ, he⟩ | ⟨j', b1, b2, b3, b4, b5, b6, b7, hj, hP', he⟩
    · exact ⟨o, hQ, fun r => by rw [zfix7_s, he]⟩
    · obtain ⟨o, hQ, h2⟩ := ih j' b1 b2 b3 b4 b5 b6 b7 hP' (by omega)
      exact ⟨o, hQ, fun r => by rw [zfix7_s, he, h2]⟩
theorem zrun8 {A1 A2 A3 A4 A5 A6 A7 A8 β ρT O : Type} {F : ρT → (A1 → A2 → A3 → A4 → A5 → A6 → A7 → A8 → Option β) → A1 → A2 → A3 → A4 → A5 → A6 → A7 → A8 → Option β} {G : ρT → O → Option β} {Q : O → Prop} (P : Nat → A1 → A2 → A3 → A4 → A5 → A6 → A7 → A8 → Prop) (hs : ∀ j a1 a2 a3 a4 a5 a6 a7 a8, P j a1 a2 a3 a4 a5 a6 a7 a8 → (∃ o, Q o ∧ ∀ r rec, F r rec a1 a2 a3 a4 a5 a6 a7 a8 = G r o) ∨ (∃ j' b1 b2 b3 b4 b5 b6 b7 b8, j' < j ∧ P j' b1 b2 b3 b4 b5 b6 b7 b8 ∧ ∀ r rec, F r rec a1 a2 a3 a4 a5 a6 a7 a8 = rec b1 b2 b3 b4 b5 b6 b7 b8)) : ∀ n j a1 a2 a3 a4 a5 a6 a7 a8, P j a1 a2 a3 a4 a5 a6 a7 a8 → j < n → ∃ o, Q o ∧ ∀ r, zfix8 (F r) n a1 a2 a3 a4 a5 a6 a7 a8 = G r o := by
  intro n
  induction n with
  | zero => intro j a1 a2 a3 a4 a5 a6 a7 a8 _ hn; omega
  | succ n ih =>
    intro j a1 a2 a3 a4 a5 a6 a7 a8 hP hn
    rcases hs j a1 a2 a3 a4 a5 a6 a7 a8 hP with ⟨o, hQ, he⟩ | ⟨j', b1, b2, b3, b4, b5, b6, b7, b8, hj, hP', he⟩
    · exact ⟨o, hQ, fun r => by rw [zfix8_s, he]⟩
    · obtain ⟨o, hQ, h2⟩ := ih j' b1 b2 b3 b4 b5 b6 b7 b8 hP' (by omega)
      exact ⟨o, hQ, fun r => by rw [zfix8_s, he, h2]⟩
