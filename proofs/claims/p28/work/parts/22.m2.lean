/-! what a best row brings, as a number; a track more; the best track -/
def rI (g : Row) (home S : Nat) : Nat := rInc g (bestOf g home (S - 1)).1
theorem incS_eq {g : Row} (hL : LandW g) {home S : Nat} (h1 : 1 ≤ S) (h5 : S ≤ 5) : incS g home S = Int32.ofNat (rI g home S) ∧ rI g home S ≤ 475 := by
  unfold incS rI
  rcases best_spec (home := home) hL h1 h5 with ⟨e, -⟩ | ⟨hC, e, -, -⟩
  · rw [e]
    exact ⟨rfl, Nat.zero_le _⟩
  · have h2 := rInc_le hL hC.1
    have h3 := hC.2.1
    refine ⟨?_, by omega⟩
    rw [e]
    unfold zmax
    rw [if_neg]
    rw [show (0 : Int32) = Int32.ofNat 0 from rfl, i32_lt_b (by omega) (by omega)]
    omega
theorem rI_ge {g : Row} (hL : LandW g) {home S : Nat} (h1 : 1 ≤ S) (h5 : S ≤ 5) {P : List Nat} (hP : Cand g home S P) : rInc g P ≤ rI g home S := by
  rcases best_spec (home := home) hL h1 h5 with ⟨-, h⟩ | ⟨-, -, h, -⟩
  · exact absurd hP (h P)
  · exact h P hP
theorem rGood_mono {g g' : Row} (hl : ∀ a b, a < 8 → b < 8 → lev g a b ≤ lev g' a b) : ∀ {P : List Nat}, rGood g P → rGood g' P
  | [], _ => trivial
  | t :: P, h => ⟨h.1, h.2.1, fun u hu => by
      have hu8 : u < 8 := by
        cases P with
        | nil => exact nomatch hu
        | cons x P => cases hu; exact h.2.2.2.1
      exact Nat.lt_of_lt_of_le (h.2.2.1 u hu) (hl u t hu8 h.1), rGood_mono hl h.2.2.2⟩
theorem rInc_mono {g g' : Row} (hl : ∀ a b, a < 8 → b < 8 → lev g a b = 2 → lev g' a b = 2) (hw : ∀ t, t < 8 → wo g' t = wo g t) : ∀ {P : List Nat}, rGood g P → rInc g P ≤ rInc g' P
  | [], _ => Nat.le_refl _
  | t :: P, h => by
    have ih := rInc_mono hl hw h.2.2.2
    have h1 : hdB g P t ≤ hdB g' P t := by
      cases P with
      | nil => exact Nat.le_refl _
      | cons x P =>
        show bo g x t ≤ bo g' x t
        unfold bo
        by_cases c : lev g x t = 2
        · rw [if_pos c, if_pos (hl x t h.2.2.2.1 h.1 c)]; exact Nat.le_refl _
        · rw [if_neg c]; exact Nat.zero_le _
    show rInc g P + hdB g P t + wo g t ≤ rInc g' P + hdB g' P t + wo g' t
    rw [hw t h.1]
    omega
theorem rI_mono {g g' : Row} (hL : LandW g) (hL' : LandW g') {home S : Nat} (h1 : 1 ≤ S) (h5 : S ≤ 5) (hl : ∀ a b, a < 8 → b < 8 → lev g a b ≤ lev g' a b ∧ (lev g a b = 2 → lev g' a b = 2)) (hw : ∀ t, t < 8 → wo g' t = wo g t) : rI g home S ≤ rI g' home S := by
  rcases best_spec (home := home) hL h1 h5 with ⟨e, -⟩ | ⟨hC, -, -, -⟩
  · unfold rI
    rw [e]
    exact Nat.zero_le _
  · have h2 := rInc_mono (fun a b ha hb => (hl a b ha hb).2) hw hC.1
    exact Nat.le_trans h2 (rI_ge hL' h1 h5 ⟨rGood_mono (fun a b ha hb => (hl a b ha hb).1) hC.1, hC.2.1, hC.2.2.1, hC.2.2.2⟩)
theorem rLev_val {g : Row} {i j a b : Nat} {v : Int32} (hi : i < 8) (hj : j < 8) (ha : a < 8) (hb : b < 8) : rLev g i j v (62 + 8 * a + b) = if (a = i ∧ b = j) ∨ (a = j ∧ b = i) then v else g (62 + 8 * a + b) := by
  unfold rLev upd
  by_cases h1 : a = j ∧ b = i
  · rw [if_pos (show 62 + 8 * a + b = 62 + 8 * j + i by omega), if_pos (Or.inr h1)]
  · rw [if_neg (show ¬ 62 + 8 * a + b = 62 + 8 * j + i by omega)]
    by_cases h2 : a = i ∧ b = j
    · rw [if_pos (show 62 + 8 * a + b = 62 + 8 * i + j by omega), if_pos (Or.inl h2)]
    · rw [if_neg (show ¬ 62 + 8 * a + b = 62 + 8 * i + j by omega), if_neg (by omega)]
/-- the land with one track more -/
def upG (g : Row) (i j : Nat) : Row := rLev g i j (g (62 + 8 * i + j) + 1)
theorem upG_lev {g : Row} (hL : LandW g) {i j a b : Nat} (hi : i < 8) (hj : j < 8) (ha : a < 8) (hb : b < 8) : upG g i j (62 + 8 * a + b) = Int32.ofNat (if (a = i ∧ b = j) ∨ (a = j ∧ b = i) then lev g i j + 1 else lev g a b) := by
  unfold upG
  rw [rLev_val hi hj ha hb]
  split
  · rw [(lev_eq hL hi hj).1, show (1 : Int32) = Int32.ofNat 1 from rfl, i32_addn]
  · exact (lev_eq hL ha hb).1
theorem upG_wo {g : Row} {i j t : Nat} (hi : i < 8) (hj : j < 8) : upG g i j (126 + t) = g (126 + t) := rLev_ne hi hj (by omega)
theorem upG_land {g : Row} (hL : LandW g) {i j : Nat} (hi : i < 8) (hj : j < 8) (hij : i ≠ j) (hl : lev g i j < 2) : LandW (upG g i j) := by
  refine ⟨fun a b ha hb => ?_, fun a b ha hb => ?_, fun a ha => ?_, fun t ht => ?_⟩
  · rw [upG_lev hL hi hj ha hb, upG_lev hL hi hj hb ha]
    by_cases c : (a = i ∧ b = j) ∨ (a = j ∧ b = i)
    · rw [if_pos c, if_pos (by omega)]
    · rw [if_neg c, if_neg (by omega), lev_sym hL ha hb]
  · rw [upG_lev hL hi hj ha hb]
    refine ⟨_, ?_, rfl⟩
    split
    · omega
    · exact (lev_eq hL ha hb).2
  · rw [upG_lev hL hi hj ha ha, if_neg (by omega), lev_dia hL ha]
    rfl
  · rw [upG_wo hi hj]
    exact hL.2.2.2 t ht
theorem upG_levn {g : Row} (hL : LandW g) {i j a b : Nat} (hi : i < 8) (hj : j < 8) (ha : a < 8) (hb : b < 8) : lev (upG g i j) a b = if (a = i ∧ b = j) ∨ (a = j ∧ b = i) then lev g i j + 1 else lev g a b := by
  have h1 := (lev_eq hL hi hj).2
  have h2 := (lev_eq hL ha hb).2
  unfold lev
  rw [upG_lev hL hi hj ha hb, nn_big (by split <;> omega)]
  rfl
/-- what the best row brings with one track more -/
def rU (g : Row) (home S i j : Nat) : Nat := rI (upG g i j) home S
theorem incUp_eq {g : Row} (hL : LandW g) {home S i j : Nat} (h1 : 1 ≤ S) (h5 : S ≤ 5) (hi : i < 8) (hj : j < 8) (hij : i ≠ j) (hl : lev g i j < 2) : incUp g home S i j = Int32.ofNat (rU g home S i j) ∧ rU g home S i j ≤ 475 := incS_eq (upG_land hL hi hj hij hl) h1 h5
theorem rU_ge {g : Row} (hL : LandW g) {home S i j : Nat} (h1 : 1 ≤ S) (h5 : S ≤ 5) (hi : i < 8) (hj : j < 8) (hij : i ≠ j) (hl : lev g i j < 2) : rI g home S ≤ rU g home S i j := by
  refine rI_mono hL (upG_land hL hi hj hij hl) h1 h5 (fun a b ha hb => ?_) (fun t ht => ?_)
  · rw [upG_levn hL hi hj ha hb]
    by_cases c : (a = i ∧ b = j) ∨ (a = j ∧ b = i)
    · rw [if_pos c]
      rcases c with ⟨rfl, rfl⟩ | ⟨rfl, rfl⟩
      · exact ⟨by omega, fun q => by omega⟩
      · rw [lev_sym hL ha hb]
        exact ⟨by omega, fun q => by omega⟩
    · rw [if_neg c]
      exact ⟨Nat.le_refl _, fun q => q⟩
  · unfold wo
    rw [upG_wo hi hj]
theorem upG_comm {g : Row} (hL : LandW g) {i j : Nat} (hi : i < 8) (hj : j < 8) (hij : i ≠ j) : upG g i j = upG g j i := by
  unfold upG rLev
  rw [hL.1 i j hi hj]
  exact upd_comm (by omega)
theorem rU_comm {g : Row} (hL : LandW g) {home S i j : Nat} (hi : i < 8) (hj : j < 8) (hij : i ≠ j) : rU g home S i j = rU g home S j i := by
  unfold rU
  rw [upG_comm hL hi hj hij]
/-! the best track of those that can be laid -/
theorem btStep_no {g : Row} {c home S k : Nat} {s : Int32 × Int32} (hl : ¬ layB g c home (k / 8) (k % 8) = true) (hs : (-1 : Int32) ≤ s.2) : btStep g c home S k s = s := by
  unfold btStep
  rw [if_neg hl]
  by_cases h : k / 8 < k % 8
  · rw [if_pos h, if_pos hs]
  · rw [if_neg h]
theorem bt_spec {g : Row} (hL : LandW g) {c home S : Nat} (h1 : 1 ≤ S) (h5 : S ≤ 5) : ∀ k, k ≤ 64 → (zseq (btStep g c home S) (-1, -1) k = (-1, -1) ∧ ∀ i, i < k → i / 8 < i % 8 → layB g c home (i / 8) (i % 8) = false) ∨ (∃ j, j < k ∧ j / 8 < j % 8 ∧ layB g c home (j / 8) (j % 8) = true ∧ zseq (btStep g c home S) (-1, -1) k = (Int32.ofNat (10 * (j / 8) + j % 8), Int32.ofNat (rU g home S (j / 8) (j % 8))) ∧ ∀ i, i < k → i / 8 < i % 8 → layB g c home (i / 8) (i % 8) = true → rU g home S (i / 8) (i % 8) < rU g home S (j / 8) (j % 8) ∨ (rU g home S (i / 8) (i % 8) = rU g home S (j / 8) (j % 8) ∧ j ≤ i)) := by
  intro k
  induction k with
  | zero => exact fun _ => Or.inl ⟨rfl, fun i hi => absurd hi (Nat.not_lt_zero _)⟩
  | succ k ih =>
    intro hk
    have hz : zseq (btStep g c home S) (-1, -1) (k + 1) = btStep g c home S k (zseq (btStep g c home S) (-1, -1) k) := rfl
    have a8 : k / 8 < 8 := by omega
    have b8 : k % 8 < 8 := by omega
    rw [hz]
    by_cases hab : k / 8 < k % 8
    · by_cases hl : layB g c home (k / 8) (k % 8) = true
      · obtain ⟨l1, l2, -, -⟩ := layB_iff.mp hl
        have hlv : lev g (k / 8) (k % 8) < 2 := by
          rw [(lev_eq hL a8 b8).1, show (2 : Int32) = Int32.ofNat 2 from rfl, i32_le_b (by omega) (by have := (lev_eq hL a8 b8).2; omega)] at l2
          omega
        obtain ⟨u1, u2⟩ := incUp_eq (home := home) hL h1 h5 a8 b8 (by omega) hlv
        have e10 : (10 : Int32) * Int32.ofNat (k / 8) + Int32.ofNat (k % 8) = Int32.ofNat (10 * (k / 8) + k % 8) := by
          rw [show (10 : Int32) = Int32.ofNat 10 from rfl, i32_mulm, i32_addn]
        rcases ih (by omega) with ⟨e, hn⟩ | ⟨j, j1, j2, j3, e, hm⟩
        · right
          refine ⟨k, by omega, hab, hl, ?_, fun i hi hi2 hi3 => ?_⟩
          · rw [e]
            unfold btStep
            rw [if_pos hab, if_pos hl, u1]
            show (if Int32.ofNat (rU g home S (k / 8) (k % 8)) ≤ (-1 : Int32) then _ else _) = _
            rw [if_neg, e10]
            have h9 := neg_lt_nat (k := rU g home S (k / 8) (k % 8)) (by omega)
            rw [Int32.lt_iff_toInt_lt] at h9
            rw [Int32.le_iff_toInt_le]
            omega
          · rcases Nat.lt_succ_iff_lt_or_eq.mp hi with q | q
            · rw [hn i q hi2] at hi3
              exact absurd hi3 (by decide)
            · subst q
              exact Or.inr ⟨rfl, Nat.le_refl _⟩
        · have hj8 : j / 8 < 8 := by omega
          obtain ⟨m1, m2, -, -⟩ := layB_iff.mp j3
          have hlj : lev g (j / 8) (j % 8) < 2 := by
            rw [(lev_eq hL hj8 (by omega)).1, show (2 : Int32) = Int32.ofNat 2 from rfl, i32_le_b (by omega) (by have := (lev_eq hL hj8 (show j % 8 < 8 by omega)).2; omega)] at m2
            omega
          have u3 := (incUp_eq (home := home) hL h1 h5 hj8 (show j % 8 < 8 by omega) (by omega) hlj).2
          right
          by_cases hle : rU g home S (k / 8) (k % 8) ≤ rU g home S (j / 8) (j % 8)
          · refine ⟨j, by omega, j2, j3, ?_, fun i hi hi2 hi3 => ?_⟩
            · rw [e]
              unfold btStep
              rw [if_pos hab, if_pos hl, u1]
              show (if Int32.ofNat (rU g home S (k / 8) (k % 8)) ≤ Int32.ofNat (rU g home S (j / 8) (j % 8)) then _ else _) = _
              rw [if_pos]
              rw [i32_le_b (by omega) (by omega)]
              exact hle
            · rcases Nat.lt_succ_iff_lt_or_eq.mp hi with q | q
              · exact hm i q hi2 hi3
              · subst q
                rcases Nat.lt_or_eq_of_le hle with w | w
                · exact Or.inl w
                · exact Or.inr ⟨w, by omega⟩
          · refine ⟨k, by omega, hab, hl, ?_, fun i hi hi2 hi3 => ?_⟩
            · rw [e]
              unfold btStep
              rw [if_pos hab, if_pos hl, u1]
              show (if Int32.ofNat (rU g home S (k / 8) (k % 8)) ≤ Int32.ofNat (rU g home S (j / 8) (j % 8)) then _ else _) = _
              rw [if_neg, e10]
              rw [i32_le_b (by omega) (by omega)]
              exact hle
            · rcases Nat.lt_succ_iff_lt_or_eq.mp hi with q | q
              · rcases hm i q hi2 hi3 with w | w
                · exact Or.inl (by omega)
                · exact Or.inl (by omega)
              · subst q
                exact Or.inr ⟨rfl, Nat.le_refl _⟩
      · have hs : btStep g c home S k (zseq (btStep g c home S) (-1, -1) k) = zseq (btStep g c home S) (-1, -1) k := by
          refine btStep_no hl ?_
          rcases ih (by omega) with ⟨e, -⟩ | ⟨j, j1, j2, j3, e, -⟩
          · rw [e]; exact Int32.le_refl _
          · have hj8 : j / 8 < 8 := by omega
            obtain ⟨m1, m2, -, -⟩ := layB_iff.mp j3
            have hlj : lev g (j / 8) (j % 8) < 2 := by
              rw [(lev_eq hL hj8 (by omega)).1, show (2 : Int32) = Int32.ofNat 2 from rfl, i32_le_b (by omega) (by have := (lev_eq hL hj8 (show j % 8 < 8 by omega)).2; omega)] at m2
              omega
            have u3 := (incUp_eq (home := home) hL h1 h5 hj8 (show j % 8 < 8 by omega) (by omega) hlj).2
            rw [e]
            exact Int32.le_of_lt (neg_lt_nat (by omega))
        rw [hs]
        have hn2 : ∀ i, i < k + 1 → i / 8 < i % 8 → layB g c home (i / 8) (i % 8) = true → i < k := fun i hi _ hi3 => by
          rcases Nat.lt_succ_iff_lt_or_eq.mp hi with q | q
          · exact q
          · subst q; exact absurd hi3 hl
        rcases ih (by omega) with ⟨e, hn⟩ | ⟨j, j1, j2, j3, e, hm⟩
        · left
          refine ⟨e, fun i hi hi2 => ?_⟩
          rcases Nat.lt_succ_iff_lt_or_eq.mp hi with q | q
          · exact hn i q hi2
          · subst q; exact Bool.eq_false_iff.mpr hl
        · exact Or.inr ⟨j, by omega, j2, j3, e, fun i hi hi2 hi3 => hm i (hn2 i hi hi2 hi3) hi2 hi3⟩
    · have hs : btStep g c home S k (zseq (btStep g c home S) (-1, -1) k) = zseq (btStep g c home S) (-1, -1) k := by
        unfold btStep
        rw [if_neg hab]
      rw [hs]
      rcases ih (by omega) with ⟨e, hn⟩ | ⟨j, j1, j2, j3, e, hm⟩
      · left
        refine ⟨e, fun i hi hi2 => ?_⟩
        rcases Nat.lt_succ_iff_lt_or_eq.mp hi with q | q
        · exact hn i q hi2
        · subst q; exact absurd hi2 hab
      · refine Or.inr ⟨j, by omega, j2, j3, e, fun i hi hi2 hi3 => ?_⟩
        rcases Nat.lt_succ_iff_lt_or_eq.mp hi with q | q
        · exact hm i q hi2 hi3
        · subst q; exact absurd hi2 hab
/-- the best track: -1 and none can be laid, or one with which most comes in, of several the lowest -/
theorem btS_spec {g : Row} (hL : LandW g) {c home S : Nat} (h1 : 1 ≤ S) (h5 : S ≤ 5) : (btS g c home S = -1 ∧ ∀ a b, a < b → b < 8 → layB g c home a b = false) ∨ (∃ a b, a < b ∧ b < 8 ∧ layB g c home a b = true ∧ btS g c home S = Int32.ofNat (10 * a + b) ∧ ∀ x y, x < y → y < 8 → layB g c home x y = true → rU g home S x y ≤ rU g home S a b ∧ (rU g home S x y < rU g home S a b ∨ 10 * a + b ≤ 10 * x + y)) := by
  have hd : ∀ x y, y < 8 → (8 * x + y) / 8 = x ∧ (8 * x + y) % 8 = y := fun x y h => ⟨by omega, by omega⟩
  unfold btS
  rcases bt_spec (c := c) (home := home) hL h1 h5 64 (Nat.le_refl _) with ⟨e, hn⟩ | ⟨j, j1, j2, j3, e, hm⟩
  · left
    refine ⟨by rw [e], fun a b hab hb => ?_⟩
    have h := hn (8 * a + b) (by omega)
    rw [(hd a b hb).1, (hd a b hb).2] at h
    exact h hab
  · right
    refine ⟨j / 8, j % 8, j2, by omega, j3, by rw [e], fun x y hxy hy hl => ?_⟩
    have h := hm (8 * x + y) (by omega)
    rw [(hd x y hy).1, (hd x y hy).2] at h
    rcases h hxy hl with w | ⟨w1, w2⟩
    · exact ⟨by omega, Or.inl w⟩
    · exact ⟨by omega, Or.inr (by omega)⟩
