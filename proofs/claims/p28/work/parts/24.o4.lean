/-! numbers that fits() adds up -/
theorem worth_num {g : Row} {mm B p : Nat} (hw : WF g mm) (hM : MonW g mm B) (hB : B ≤ 100000) (hp : p < mm) : ∃ x, x < 2147483648 ∧ worthS g p = Int32.ofNat x := by
  have hp4 : p < 4 := by have := hw.1.2.1; omega
  obtain ⟨x0, hx0, e0⟩ := hM.1 p hp
  have h : ∀ j, j ≤ 4 → ∃ x, x ≤ 500 + 4000 * B + 1300 * j ∧ zseq (fun k s => s + g (18 + 4 * p + k) * (20 + 10 * g (37 + 7 * k))) (g (14 + p)) j = Int32.ofNat x := by
    intro j
    induction j with
    | zero => exact fun _ => ⟨x0, by omega, e0⟩
    | succ j ih =>
      intro hj
      obtain ⟨x, hx, e⟩ := ih (by omega)
      obtain ⟨⟨s, s1, s2, s3⟩, -, ⟨r, hr, er⟩, -⟩ := hw.2.2.1 j (by omega)
      have hs := sh_lt s2 p hp4
      refine ⟨x + s p * (20 + 10 * r), ?_, ?_⟩
      · have : s p * (20 + 10 * r) ≤ 10 * 130 := Nat.mul_le_mul hs (by omega)
        omega
      · show zseq _ _ j + g (18 + 4 * p + j) * (20 + 10 * g (37 + 7 * j)) = _
        rw [e, s1 p hp4, er, price_n, i32_mulm, i32_addn]
  obtain ⟨x, hx, e⟩ := h 4 (Nat.le_refl _)
  exact ⟨x, by omega, e⟩
/-- the greatest worth of the players ahead of k -/
def mxS (g : Row) : Nat → Int32
  | 0 => 0
  | k + 1 => if worthS g k ≤ mxS g k then mxS g k else worthS g k
theorem lead_spec {g : Row} {mm B : Nat} (hw : WF g mm) (hM : MonW g mm B) (hB : B ≤ 100000) : ∀ k, k < mm → ∃ i, i ≤ k ∧ leadS g k = Int32.ofNat i ∧ mxS g (k + 1) = worthS g i ∧ (∀ p, p < i → ¬ worthS g i ≤ worthS g p) ∧ ∀ p, p ≤ k → worthS g p ≤ worthS g i := by
  intro k
  induction k with
  | zero =>
    intro hk
    obtain ⟨x, hx, e⟩ := worth_num hw hM hB hk
    refine ⟨0, Nat.le_refl _, rfl, ?_, fun p hp => absurd hp (Nat.not_lt_zero _), fun p hp => ?_⟩
    · show (if worthS g 0 ≤ 0 then (0 : Int32) else worthS g 0) = _
      split
      · rename_i h
        rw [e, show (0 : Int32) = Int32.ofNat 0 from rfl, i32_le_b hx (by omega)] at h
        rw [e, show x = 0 by omega]
        rfl
      · rfl
    · rw [show p = 0 by omega]
      exact Int32.le_refl _
  | succ k ih =>
    intro hk
    obtain ⟨i, hi, e1, e2, h1, h2⟩ := ih (by omega)
    have hd : leadS g (k + 1) = if worthS g (k + 1) ≤ worthS g (leadS g k).toNatClampNeg then leadS g k else Int32.ofNat (k + 1) := rfl
    have hm : mxS g (k + 1 + 1) = if worthS g (k + 1) ≤ mxS g (k + 1) then mxS g (k + 1) else worthS g (k + 1) := rfl
    have hm4 := hw.1.2.1
    rw [hd, hm, e2, e1, nn_of (by omega)]
    by_cases c : worthS g (k + 1) ≤ worthS g i
    · rw [if_pos c, if_pos c]
      refine ⟨i, by omega, rfl, rfl, h1, fun p hp => ?_⟩
      rcases Nat.lt_or_ge p (k + 1) with q | q
      · exact h2 p (by omega)
      · rw [show p = k + 1 by omega]; exact c
    · rw [if_neg c, if_neg c]
      have hlt : ∀ p, p ≤ k → ¬ worthS g (k + 1) ≤ worthS g p := fun p hp q => c (Int32.le_trans q (h2 p hp))
      refine ⟨k + 1, Nat.le_refl _, rfl, rfl, fun p hp => hlt p (by omega), fun p hp => ?_⟩
      rcases Nat.lt_or_ge p (k + 1) with q | q
      · have := hlt p (by omega)
        rw [Int32.le_iff_toInt_le] at this ⊢
        omega
      · rw [show p = k + 1 by omega]; exact Int32.le_refl _
theorem pres_bits {g : Row} {x : Int32} {c : Nat} (hc : c < 4) : tb (presS g x) c = decide (g (39 + 7 * c) = x) := by
  have h : ∀ k, k ≤ 4 → ∀ i, i < 32 → tb (zseq (prStep g x) 0 k) i = decide (i < k ∧ g (39 + 7 * i) = x) := by
    intro k
    induction k with
    | zero => intro _ i _; rw [show zseq (prStep g x) 0 0 = 0 from rfl, tb_zero]; simp
    | succ k ih =>
      intro hk i hi
      show tb (prStep g x k (zseq (prStep g x) 0 k)) i = _
      by_cases e : g (39 + 7 * k) = x
      · rw [show prStep g x k (zseq (prStep g x) 0 k) = zseq (prStep g x) 0 k ||| bitOf k from if_pos e, tb_or, ih (by omega) i hi, tb_bit (by omega) hi]
        by_cases q : i = k
        · subst q; simp [e]
        · have this : (i < k + 1) = (i < k) := propext ⟨fun w => by omega, fun w => by omega⟩
          simp [q, this]
      · rw [show prStep g x k (zseq (prStep g x) 0 k) = zseq (prStep g x) 0 k from if_neg e, ih (by omega) i hi]
        by_cases q : i = k
        · subst q; simp [e]
        · have : (i < k + 1) = (i < k) := propext ⟨fun w => by omega, fun w => by omega⟩
          simp only [this]
  have h4 := h 4 (Nat.le_refl _) c (by omega)
  unfold presS
  rw [h4]
  simp [hc]
theorem half2 : ∀ m, m ≤ 40 → Int32.ofNat (2 * m) / 2 = Int32.ofNat m := by decide +kernel
theorem un_cmp : ∀ a : Fin 41, ∀ b : Fin 4, Op.cmpValue (FP.dcmp (FP.ddiv (FP.i2d (Int32.ofNat a.1)) (FP.i2d (Int32.ofNat (10 * (b.1 + 1))))) (FP.ddiv (FP.i2d (Int32.ofNat a.1)) (FP.i2d (Int32.ofNat (10 * (b.1 + 1)))))) .l = 0 := by decide +kernel
theorem un_cmp0 : Op.cmpValue (FP.dcmp FP.dconst0 FP.dconst0) .l = 0 := by decide +kernel
theorem un_dd : ∀ a : Fin 41, ∀ b : Fin 4, zdd (FP.i2d (Int32.ofNat a.1)) (FP.i2d (Int32.ofNat (10 * (b.1 + 1)))) = some (FP.ddiv (FP.i2d (Int32.ofNat a.1)) (FP.i2d (Int32.ofNat (10 * (b.1 + 1))))) := by decide +kernel
def ledP (g : Row) : Nat → Int32 := zseq (fun p s => s + g (14 + p)) (g 6 - 500 * g 0)
def ledC (g : Row) (mm : Nat) : Nat → Int32 := zseq (fun c s => s + g (36 + 7 * c)) (ledP g mm)
theorem led_fits {g : Row} {mm : Nat} (hw : WF g mm) (h : LedOk g mm) : ledC g mm 4 = 0 := by
  have h0 := hw.1.2.2.1
  have h2 := hw.1.1
  have h4 := hw.1.2.1
  unfold LedOk led at h
  unfold ledC ledP
  rcases (show mm = 2 ∨ mm = 3 ∨ mm = 4 by omega) with rfl | rfl | rfl
  · have h0' : g 0 = 2 := h0
    have h' : g 6 + (g 14 + g 15 + 0 + 0) + (g 36 + g 43 + g 50 + g 57) = 1000 := h
    show ((((((g 6 - 500 * g 0) + g 14) + g 15) + g 36) + g 43) + g 50) + g 57 = 0
    rw [h0']
    grind
  · have h0' : g 0 = 3 := h0
    have h' : g 6 + (g 14 + g 15 + g 16 + 0) + (g 36 + g 43 + g 50 + g 57) = 1500 := h
    show (((((((g 6 - 500 * g 0) + g 14) + g 15) + g 16) + g 36) + g 43) + g 50) + g 57 = 0
    rw [h0']
    grind
  · have h0' : g 0 = 4 := h0
    have h' : g 6 + (g 14 + g 15 + g 16 + g 17) + (g 36 + g 43 + g 50 + g 57) = 2000 := h
    show ((((((((g 6 - 500 * g 0) + g 14) + g 15) + g 16) + g 17) + g 36) + g 43) + g 50) + g 57 = 0
    rw [h0']
    grind
def shSum (g : Row) (c : Nat) : Nat → Int32 := zseq (fun p s => s + g (18 + 4 * p + c)) (bank (fun p => g (18 + 4 * p + c)))
theorem sh_ten {g : Row} {mm c : Nat} (hw : WF g mm) (hc : c < 4) : shSum g c mm = 10 := by
  obtain ⟨s, s1, s2, s3⟩ := (hw.2.2.1 c hc).1
  have h2 := hw.1.1
  have h4 := hw.1.2.1
  have hb := bank_eq (f := fun p => g (18 + 4 * p + c)) (s := s) s1 s2
  have h : ∀ j, j ≤ 4 → ∃ x, x + sumTo 4 s = 10 + sumTo j s ∧ shSum g c j = Int32.ofNat x := by
    intro j
    induction j with
    | zero => exact fun _ => ⟨10 - (s 0 + s 1 + s 2 + s 3), by show _ + (0 + s 0 + s 1 + s 2 + s 3) = 10 + 0; omega, hb⟩
    | succ j ih =>
      intro hj
      obtain ⟨x, hx, e⟩ := ih (by omega)
      refine ⟨x + s j, by show _ = 10 + (sumTo j s + s j); omega, ?_⟩
      show shSum g c j + g (18 + 4 * j + c) = _
      rw [e, s1 j (by omega), i32_addn]
  obtain ⟨x, hx, e⟩ := h mm h4
  have hs : sumTo mm s = sumTo 4 s := by
    rcases (show mm = 2 ∨ mm = 3 ∨ mm = 4 by omega) with rfl | rfl | rfl
    · show 0 + s 0 + s 1 = 0 + s 0 + s 1 + s 2 + s 3
      have := s3 2 (by omega) (by omega)
      have := s3 3 (by omega) (by omega)
      omega
    · show 0 + s 0 + s 1 + s 2 = 0 + s 0 + s 1 + s 2 + s 3
      have := s3 3 (by omega) (by omega)
      omega
    · rfl
  rw [e, show x = 10 by omega]
  rfl
