/-! the heap at the start, part 1: one game -/
theorem nn_neg {k : Nat} (hk : k < 599) : ¬ Int32.ofNat k < 0 := fun q => in_of (show k < k + 1 by omega) (show k + 1 < 600 by omega) (Or.inl q)
def lk : List (Nat × va_E) → Nat → Option va_E
  | [], _ => none
  | (k, e) :: t, j => if j = k then some e else lk t j
def lput (h : zH) (b : Nat) (l : List (Nat × va_E)) : zH := fun i => if b ≤ i then (match lk l (i - b) with | some e => some e | none => h i) else h i
theorem lput_nil {h : zH} {b : Nat} : lput h b [] = h := by
  funext i
  unfold lput lk
  split <;> rfl
theorem lset {h : zH} {a b j : Nat} {l : List (Nat × va_E)} {e : va_E} (ha : a = b + j) : zset (lput h b l) a e = lput h b ((j, e) :: l) := by
  funext i
  unfold zset lput
  by_cases c : i = a
  · rw [if_pos c, if_pos (by omega)]
    have : i - b = j := by omega
    rw [this]
    unfold lk
    rw [if_pos rfl]
  · rw [if_neg c]
    by_cases d : b ≤ i
    · rw [if_pos d, if_pos d]
      show _ = (match (if i - b = j then some e else lk l (i - b)) with | some e => some e | none => h i)
      rw [if_neg (by omega)]
    · rw [if_neg d, if_neg d]
theorem lget {h : zH} {a b j : Nat} {l : List (Nat × va_E)} {e : va_E} (ha : a = b + j) (hl : lk l j = some e) : lput h b l a = some e := by
  unfold lput
  rw [if_pos (by omega), show a - b = j by omega, hl]
theorem st_p {a b j ci k : Nat} {h : zH} {l : List (Nat × va_E)} {fs : List Value} {v : Value} {β : Type} {F : zH → Option β} {r : Option β} (ha : a = b + j) (hl : lk l j = some (.inr (ci, fs))) (hk : Nat.ble (k + 1) fs.length = true) (hn : F (lput h b ((j, .inr (ci, fs.set k v)) :: l)) = r) : (zp (lput h b l) a ci k v).bind F = r := by
  rw [zp_some (lget ha hl) (Nat.le_of_ble_eq_true hk), Option.bind_some, lset ha]
  exact hn
theorem st_sp {a a2 b i j ci k : Nat} {h : zH} {l : List (Nat × va_E)} {e : va_E} {fs : List Value} {v : Value} {β : Type} {F : zH → Option β} {r : Option β} (h2 : a2 = b + i) (ha : a = b + j) (hl : lk ((i, e) :: l) j = some (.inr (ci, fs))) (hk : Nat.ble (k + 1) fs.length = true) (hn : F (lput h b ((j, .inr (ci, fs.set k v)) :: (i, e) :: l)) = r) : (zp (zset (lput h b l) a2 e) a ci k v).bind F = r := by
  rw [lset h2]
  exact st_p ha hl hk hn
theorem st_c {a b j ci : Nat} {h : zH} {l : List (Nat × va_E)} {fs : List Value} {β : Type} {o r : Option β} (ha : a = b + j) (hl : lk l j = some (.inr (ci, fs))) (hn : o = r) : zrc (lput h b l) a ci o = r := by
  rw [zrc_some (lget ha hl)]
  exact hn
theorem st_R {a b j ci k x : Nat} {h : zH} {l : List (Nat × va_E)} {fs : List Value} {β : Type} {F : Nat → Option β} {r : Option β} (ha : a = b + j) (hl : lk l j = some (.inr (ci, fs))) (hk : fs[k]? = some (.ref x)) (hn : F x = r) : (zgR (lput h b l) a ci k).bind F = r := by
  unfold zgR
  rw [zO_some (lget ha hl)]
  simp only [hk]
  exact hn
theorem st_i {a b j N p : Nat} {h : zH} {l : List (Nat × va_E)} {f : Row} {i v v' : Int32} {β : Type} {F : zH → Option β} {r : Option β} (ha : a = b + j) (hl : lk l j = some (.inl (0, N, .inl f))) (hi : i = Int32.ofNat p) (hp : p < N) (hp2 : p < 500) (hv : v = v') (hn : F (lput h b ((j, .inl (0, N, .inl (upd f p v'))) :: l)) = r) : (zsi (lput h b l) a i v).bind F = r := by
  have e : zIA (lput h b l) a = some (N, f) := by
    unfold zIA
    rw [lget ha hl]
    exact if_pos rfl
  have e0 : ¬ i < 0 := by
    rw [hi]
    exact nn_neg (by omega)
  have e1 : i.toNatClampNeg = p := by rw [hi, nn_of (by omega)]
  unfold zsi
  rw [e]
  simp only
  rw [if_neg (fun q => by rcases q with q | q; exact e0 q; omega), Option.bind_some, lset ha, e1, hv]
  exact hn
theorem st_r {a b j k c ci N p q : Nat} {h : zH} {l : List (Nat × va_E)} {f : Nat → Option Nat} {fs : List Value} {i : Int32} {β : Type} {F : zH → Option β} {r : Option β} (ha : a = b + j) (hq : q = b + k) (hl : lk l j = some (.inl (c, N, .inr (.inr (.inr (.inr f)))))) (hlk : lk l k = some (.inr (ci, fs))) (hi : i = Int32.ofNat p) (hp : p < N) (hp2 : p < 500) (hn : F (lput h b ((j, .inl (c, N, .inr (.inr (.inr (.inr (va_up f p (some q))))))) :: l)) = r) : (zsr (lput h b l) a c ci i q).bind F = r := by
  have e : zRA (lput h b l) a c = some (N, f) := by
    unfold zRA
    rw [lget ha hl]
    exact if_pos rfl
  have e0 : ¬ i < 0 := by
    rw [hi]
    exact nn_neg (by omega)
  have e1 : i.toNatClampNeg = p := by rw [hi, nn_of (by omega)]
  unfold zsr
  rw [e]
  simp only [zO_some (lget hq hlk)]
  rw [if_neg (fun q => by rcases q with q | q; exact e0 q; omega), Option.bind_some, lset ha, e1]
  exact hn
theorem lput_put {h : zH} {b : Nat} {l : List (Nat × va_E)} {g : Row} (h1 : ∀ j, j < 23 → lk l j = gcell b g j) (h2 : ∀ j, 23 ≤ j → lk l j = none) : lput h b l = put h b g := by
  have some_g : ∀ j, ∃ e, gcell b g j = some e := fun j => by
    unfold gcell
    repeat' split
    all_goals exact ⟨_, rfl⟩
  funext i
  unfold lput put
  by_cases c : b ≤ i
  · by_cases d : i < b + 23
    · rw [if_pos c, if_pos ⟨c, d⟩, h1 (i - b) (by omega)]
      obtain ⟨e, he⟩ := some_g (i - b)
      rw [he]
    · rw [if_pos c, if_neg (by omega), h2 (i - b) (by omega)]
  · rw [if_neg c, if_neg (by omega)]
theorem lmna {h : zH} {a b j : Nat} {l : List (Nat × va_E)} (ha : a = b + j) : zmna (lput h b l) a 8 8 = lput h b ((j, .inl (2, 8, .inr (.inr (.inr (.inr (fun i => if i < 8 then some (a + 1 + i) else none)))))) :: (j + 1, .inl (0, 8, .inl (fun _ => 0))) :: (j + 2, .inl (0, 8, .inl (fun _ => 0))) :: (j + 3, .inl (0, 8, .inl (fun _ => 0))) :: (j + 4, .inl (0, 8, .inl (fun _ => 0))) :: (j + 5, .inl (0, 8, .inl (fun _ => 0))) :: (j + 6, .inl (0, 8, .inl (fun _ => 0))) :: (j + 7, .inl (0, 8, .inl (fun _ => 0))) :: (j + 8, .inl (0, 8, .inl (fun _ => 0))) :: l) := by
  funext q
  unfold zmna
  by_cases c : q = a
  · rw [if_pos c, c]
    refine (lget ha ?_).symm
    unfold lk
    rw [if_pos rfl]
  · rw [if_neg c]
    by_cases d : a + 1 ≤ q ∧ q < a + 1 + 8
    · rw [if_pos d]
      refine (lget (show q = b + (q - b) by omega) ?_).symm
      unfold lk
      rw [if_neg (by omega)]
      have key : ∀ (x : va_E) (k : Nat), k ≤ 7 → j + (k + 1) = q - b → lk ((j + 1, x) :: (j + 2, x) :: (j + 3, x) :: (j + 4, x) :: (j + 5, x) :: (j + 6, x) :: (j + 7, x) :: (j + 8, x) :: l) (q - b) = some x := by
        intro x k hk hq
        simp only [lk]
        by_cases q1 : q - b = j + 1
        · rw [if_pos q1]
        · by_cases q2 : q - b = j + 2
          · rw [if_neg q1, if_pos q2]
          · by_cases q3 : q - b = j + 3
            · rw [if_neg q1, if_neg q2, if_pos q3]
            · by_cases q4 : q - b = j + 4
              · rw [if_neg q1, if_neg q2, if_neg q3, if_pos q4]
              · by_cases q5 : q - b = j + 5
                · rw [if_neg q1, if_neg q2, if_neg q3, if_neg q4, if_pos q5]
                · by_cases q6 : q - b = j + 6
                  · rw [if_neg q1, if_neg q2, if_neg q3, if_neg q4, if_neg q5, if_pos q6]
                  · by_cases q7 : q - b = j + 7
                    · rw [if_neg q1, if_neg q2, if_neg q3, if_neg q4, if_neg q5, if_neg q6, if_pos q7]
                    · rw [if_neg q1, if_neg q2, if_neg q3, if_neg q4, if_neg q5, if_neg q6, if_neg q7, if_pos (by omega)]
      exact key _ (q - a - 1) (by omega) (by omega)
    · rw [if_neg d]
      unfold lput
      by_cases f : b ≤ q
      · rw [if_pos f, if_pos f]
        simp only [lk]
        rw [if_neg (by omega), if_neg (by omega), if_neg (by omega), if_neg (by omega), if_neg (by omega), if_neg (by omega), if_neg (by omega), if_neg (by omega), if_neg (by omega)]
      · rw [if_neg f, if_neg f]
/-- the row of a game before the first reset -/
def gz : Row := fun i => if 126 ≤ i then Int32.ofNat (10 + 10 * ((i - 126) % 4)) else 0
def fresh : va_E := .inr (1, [.null, .null, .null, .null, .null, .int 0, .int 0, .int 0, .int 0, .int 0, .int 0, .int 0, .int 0, .int 0, .int 0])
theorem gz_0 {i : Nat} (h : i < 126) : gz i = 0 := if_neg (by omega)
theorem tr_0 {N : Nat} {f : Row} (h : ∀ i, i < N → f i = 0) : (fun _ => 0 : Row) = tr N f := by
  funext i
  unfold tr
  by_cases c : i < N
  · rw [if_pos c, h i c]
  · rw [if_neg c]
theorem ai {N : Nat} {f f' : Row} (e : f = f') : (some (.inl (0, N, .inl f)) : Option va_E) = some (.inl (0, N, .inl f')) := by rw [e]
theorem ar {c N : Nat} {f f' : Nat → Option Nat} (e : f = f') : (some (.inl (c, N, .inr (.inr (.inr (.inr f))))) : Option va_E) = some (.inl (c, N, .inr (.inr (.inr (.inr f'))))) := by rw [e]
theorem tw8 : upd (upd (upd (upd (upd (upd (upd (upd (fun _ => 0) 0 (Int32.ofNat 10)) 1 (Int32.ofNat 20)) 2 (Int32.ofNat 30)) 3 (Int32.ofNat 40)) 4 (Int32.ofNat 10)) 5 (Int32.ofNat 20)) 6 (Int32.ofNat 30)) 7 (Int32.ofNat 40) = tr 8 (fun i => gz (126 + i)) := by
  funext i
  by_cases c : i < 8
  · match i, c with
    | 0, _ => rfl
    | 1, _ => rfl
    | 2, _ => rfl
    | 3, _ => rfl
    | 4, _ => rfl
    | 5, _ => rfl
    | 6, _ => rfl
    | 7, _ => rfl
  · unfold upd tr
    rw [if_neg (by omega), if_neg (by omega), if_neg (by omega), if_neg (by omega), if_neg (by omega), if_neg (by omega), if_neg (by omega), if_neg (by omega), if_neg c]
theorem co4 {b : Nat} : va_up (va_up (va_up (va_up (fun _ => none) 0 (some (b + 1 + 14))) 1 (some (b + 1 + 16))) 2 (some (b + 1 + 18))) 3 (some (b + 1 + 20)) = fun i => if i < 4 then some (b + 15 + 2 * i) else none := by
  funext i
  by_cases c : i < 4
  · match i, c with
    | 0, _ => rfl
    | 1, _ => rfl
    | 2, _ => rfl
    | 3, _ => rfl
  · unfold va_up
    rw [if_neg (by omega), if_neg (by omega), if_neg (by omega), if_neg (by omega), if_neg c]
theorem x1_init {n b : Nat} {h : zH} (hn : 600 ≤ n) : f_X1_init n b 1 (b + 1) (zset h b fresh) = some (put h b (rReset gz 3)) := by
  rw [show zset h b fresh = lput h b [(0, fresh)] from by rw [← lset (h := h) (a := b) (b := b) (j := 0) (l := []) rfl, lput_nil]]
  unfold f_X1_init f_X2_init f_X0_init fresh
  simp only [zlet, Option.bind_assoc, Option.bind_some]
  rw [lset (j := 1) rfl]
  refine st_sp (i := 2) (j := 1) rfl rfl rfl rfl ?_
  rw [lmna (j := 3) rfl]
  refine st_p (j := 1) rfl rfl rfl ?_
  refine st_R (j := 1) rfl rfl rfl ?_
  refine st_i (j := 2) (p := 0) (v' := Int32.ofNat 10) rfl rfl rfl (by omega) (by omega) (by decide) ?_
  refine st_R (j := 1) rfl rfl rfl ?_
  refine st_i (j := 2) (p := 1) (v' := Int32.ofNat 20) rfl rfl rfl (by omega) (by omega) (by decide) ?_
  refine st_R (j := 1) rfl rfl rfl ?_
  refine st_i (j := 2) (p := 2) (v' := Int32.ofNat 30) rfl rfl rfl (by omega) (by omega) (by decide) ?_
  refine st_R (j := 1) rfl rfl rfl ?_
  refine st_i (j := 2) (p := 3) (v' := Int32.ofNat 40) rfl rfl rfl (by omega) (by omega) (by decide) ?_
  refine st_R (j := 1) rfl rfl rfl ?_
  refine st_i (j := 2) (p := 4) (v' := Int32.ofNat 10) rfl rfl rfl (by omega) (by omega) (by decide) ?_
  refine st_R (j := 1) rfl rfl rfl ?_
  refine st_i (j := 2) (p := 5) (v' := Int32.ofNat 20) rfl rfl rfl (by omega) (by omega) (by decide) ?_
  refine st_R (j := 1) rfl rfl rfl ?_
  refine st_i (j := 2) (p := 6) (v' := Int32.ofNat 30) rfl rfl rfl (by omega) (by omega) (by decide) ?_
  refine st_R (j := 1) rfl rfl rfl ?_
  refine st_i (j := 2) (p := 7) (v' := Int32.ofNat 40) rfl rfl rfl (by omega) (by omega) (by decide) ?_
  refine st_p (j := 0) rfl rfl rfl ?_
  refine st_sp (i := 12) (j := 0) rfl rfl rfl rfl ?_
  refine st_sp (i := 13) (j := 0) rfl rfl rfl rfl ?_
  refine st_sp (i := 14) (j := 0) rfl rfl rfl rfl ?_
  refine st_p (j := 0) rfl rfl rfl ?_
  refine st_R (j := 0) rfl rfl rfl ?_
  rw [lset (j := 15) rfl]
  refine st_sp (i := 16) (j := 15) rfl rfl rfl rfl ?_
  refine st_r (j := 12) (k := 15) (p := 0) rfl rfl rfl rfl rfl (by omega) (by omega) ?_
  refine st_R (j := 0) rfl rfl rfl ?_
  rw [lset (j := 17) rfl]
  refine st_sp (i := 18) (j := 17) rfl rfl rfl rfl ?_
  refine st_r (j := 12) (k := 17) (p := 1) rfl rfl rfl rfl rfl (by omega) (by omega) ?_
  refine st_R (j := 0) rfl rfl rfl ?_
  rw [lset (j := 19) rfl]
  refine st_sp (i := 20) (j := 19) rfl rfl rfl rfl ?_
  refine st_r (j := 12) (k := 19) (p := 2) rfl rfl rfl rfl rfl (by omega) (by omega) ?_
  refine st_R (j := 0) rfl rfl rfl ?_
  rw [lset (j := 21) rfl]
  refine st_sp (i := 22) (j := 21) rfl rfl rfl rfl ?_
  refine st_r (j := 12) (k := 21) (p := 3) rfl rfl rfl rfl rfl (by omega) (by omega) ?_
  refine st_c (j := 0) rfl rfl ?_
  rw [lput_put (g := gz) ?_ ?_, p_reset hn]
  · rfl
  · intro j hj
    match j, hj with
    | 0, _ => rfl
    | 1, _ => rfl
    | 2, _ => exact ai tw8
    | 3, _ => rfl
    | 4, _ => exact ai (tr_0 (fun i hi => gz_0 (by omega)))
    | 5, _ => exact ai (tr_0 (fun i hi => gz_0 (by omega)))
    | 6, _ => exact ai (tr_0 (fun i hi => gz_0 (by omega)))
    | 7, _ => exact ai (tr_0 (fun i hi => gz_0 (by omega)))
    | 8, _ => exact ai (tr_0 (fun i hi => gz_0 (by omega)))
    | 9, _ => exact ai (tr_0 (fun i hi => gz_0 (by omega)))
    | 10, _ => exact ai (tr_0 (fun i hi => gz_0 (by omega)))
    | 11, _ => exact ai (tr_0 (fun i hi => gz_0 (by omega)))
    | 12, _ => exact ar co4
    | 13, _ => exact ai (tr_0 (fun i hi => gz_0 (by omega)))
    | 14, _ => exact ai (tr_0 (fun i hi => gz_0 (by omega)))
    | 15, _ => rfl
    | 16, _ => exact ai (tr_0 (fun i hi => gz_0 (by omega)))
    | 17, _ => rfl
    | 18, _ => exact ai (tr_0 (fun i hi => gz_0 (by omega)))
    | 19, _ => rfl
    | 20, _ => exact ai (tr_0 (fun i hi => gz_0 (by omega)))
    | 21, _ => rfl
    | 22, _ => exact ai (tr_0 (fun i hi => gz_0 (by omega)))
    | k + 23, hk => exact absurd hk (by omega)
  · intro j hj
    simp only [lk]
    repeat rw [if_neg (by omega)]
