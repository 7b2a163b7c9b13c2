/-! the heap at the start, part 3, and the law -/
theorem va4 : (va_up (va_up (va_up (va_up (fun _ => none) 0 (some 29)) 1 (some 52)) 2 (some 75)) 3 (some 98) : Nat → Option Nat) = fun i => if i < 4 then some (29 + 23 * i) else none := by
  funext i
  by_cases c : i < 4
  · match i, c with
    | 0, _ => rfl
    | 1, _ => rfl
    | 2, _ => rfl
    | 3, _ => rfl
  · unfold va_up
    rw [if_neg (by omega), if_neg (by omega), if_neg (by omega), if_neg (by omega), if_neg c]
theorem nest_game {l : List (Nat × va_E)} : (∀ j, j < 23 → nest [98, 75, 52, 29, 5] (l0 l) (5 + j) = gcell 5 g0 j) ∧ ∀ k j, k < 4 → j < 23 → nest [98, 75, 52, 29, 5] (l0 l) (29 + 23 * k + j) = gcell (29 + 23 * k) g0 j := by
  constructor
  · intro j hj
    show put (put (put (put (put (l0 l) 5 g0) 29 g0) 52 g0) 75 g0) 98 g0 (5 + j) = _
    rw [put_out (by omega), put_out (by omega), put_out (by omega), put_out (by omega), put_in hj]
  · intro k j hk hj
    show put (put (put (put (put (l0 l) 5 g0) 29 g0) 52 g0) 75 g0) 98 g0 (29 + 23 * k + j) = _
    match k, hk with
    | 0, _ => rw [put_out (by omega), put_out (by omega), put_out (by omega), put_in hj]
    | 1, _ => rw [put_out (by omega), put_out (by omega), put_in hj]
    | 2, _ => rw [put_out (by omega), put_in hj]
    | 3, _ => rw [put_in hj]
theorem start_ST {X : zH} {l : List (Nat × va_E)} (hl : L5ok l) (hX : ∀ i, i < 123 → X i = nest [98, 75, 52, 29, 5] (l0 l) i) (hX0 : ∀ i, 123 ≤ i → X i = none) : ST (fun _ => g0) 0 g0 X := by
  obtain ⟨c0, c1, c2, c3, c4, c28, c121, c122⟩ := hl
  refine ⟨fun _ => g0, fun i => i, ⟨fun i hi => hi, fun i j _ _ e => e⟩, fun i hi => rfl, .null, tz, ?_⟩
  have at0 : ∀ {a e}, outB [98, 75, 52, 29, 5] a = true → a < 123 → lk l a = some e → X a = some e := fun {a e} ho ha h => by rw [hX a ha, nest_at _ _ a ho, l0_get h]
  funext i
  by_cases a5 : 5 ≤ i ∧ i < 28
  · obtain ⟨j, hj, rfl⟩ : ∃ j, j < 23 ∧ i = 5 + j := ⟨i - 5, by omega, by omega⟩
    rw [put_in hj, hX _ (by omega), nest_game.1 j hj]
  · rw [put_out (by omega)]
    unfold sput oput sgs
    by_cases a1 : i = 1
    · rw [if_pos a1, a1, at0 rfl (by omega) c1]
      rfl
    · by_cases a2 : i = 2
      · rw [if_neg a1, if_pos a2, a2, at0 rfl (by omega) c2]
        exact ai (tr_0 (fun i hi => rfl))
      · by_cases a3 : i = 3
        · rw [if_neg a1, if_neg a2, if_pos a3, a3, at0 rfl (by omega) c3]
          exact ai (tr_0 (fun i hi => rfl))
        · by_cases a4 : i = 4
          · rw [if_neg a1, if_neg a2, if_neg a3, if_pos a4, a4, at0 rfl (by omega) c4]
            exact ai (tr_0 (fun i hi => rfl))
          · rw [if_neg a1, if_neg a2, if_neg a3, if_neg a4]
            by_cases b0 : i = 0
            · rw [if_pos b0, b0, at0 rfl (by omega) c0]
              rfl
            · by_cases b28 : i = 28
              · rw [if_neg b0, if_pos b28, b28, at0 rfl (by omega) c28]
                exact ar va4
              · by_cases b121 : i = 121
                · rw [if_neg b0, if_neg b28, if_pos b121, b121, at0 rfl (by omega) c121]
                  rfl
                · by_cases b122 : i = 122
                  · rw [if_neg b0, if_neg b28, if_neg b121, if_pos b122, b122, at0 rfl (by omega) c122]
                    exact ai (tr_0 (fun i hi => rfl))
                  · rw [if_neg b0, if_neg b28, if_neg b121, if_neg b122]
                    by_cases bs : 29 ≤ i ∧ i < 121
                    · obtain ⟨k, j, hk, hj, rfl⟩ : ∃ k j, k < 4 ∧ j < 23 ∧ i = 29 + 23 * k + j := ⟨(i - 29) / 23, (i - 29) % 23, by omega, by omega, by omega⟩
                      rw [if_pos bs, hX _ (by omega), nest_game.2 k j hk hj, show (29 + 23 * k + j - 29) / 23 = k by omega, show (29 + 23 * k + j - 29) % 23 = j by omega]
                    · rw [if_neg bs]
                      exact hX0 i (by omega)
theorem start_inv : Inv 0 3 g0 := by
  have hgz : ∀ t, t < 8 → ∃ v, v ≤ 90 ∧ gz (126 + t) = Int32.ofNat v := fun t ht => ⟨10 + 10 * ((126 + t - 126) % 4), by omega, if_pos (by omega)⟩
  obtain ⟨nw, nm⟩ := reset_wf (g := gz) (mm := 3) (by omega) (by omega) hgz 0
  exact ⟨nw, ⟨nm, zw_reset⟩, x_reset (g := gz) (mm := 3) (by omega) (by omega) nw.2.2.1, 0, Nat.le_refl 0, rReset_at.2.1 5 (by omega) (by omega)⟩
theorem law_pure0 (L : Nat) (xs : Nat → Int32) (hL : L ≤ 260) : ∃ n, f_lawAll n L xs = some () := by
  obtain ⟨l, e5, hl, hl0⟩ := x5_init (n := 100000) (by omega)
  have hS : ST (fun _ => g0) 0 g0 (nest [98, 75, 52, 29, 5] (l0 l)) := start_ST hl (fun i hi => rfl) (fun i hi => by
    show put (put (put (put (put (l0 l) 5 g0) 29 g0) 52 g0) 75 g0) 98 g0 i = none
    rw [put_out (by omega), put_out (by omega), put_out (by omega), put_out (by omega), put_out (by omega)]
    unfold l0 lput
    rw [if_pos (Nat.zero_le i), Nat.sub_zero, hl0 i hi])
  have key : Gd Tr (f_lawAll 100000 L xs) := by
    unfold f_lawAll
    rw [show 0 + 0 = 0 from rfl, show 0 + 1 = 1 from rfl]
    refine q_let (q_bind e5 (q_b2 (w_undo_st hS) ?_))
    refine q_letk (fun K => ∀ H, ST (fun _ => g0) 0 g0 H → Gd Tr (K 1 H)) (fun H hH => ?_) (fun K hK => ?_)
    · exact w_law (by omega) hL 100 0 0 3 0 (fun _ => g0) g0 H (by omega) (by omega) (by omega) start_inv ⟨by omega, fun i hi => absurd hi (by omega)⟩ hH
    · refine q_let (q_t rfl (q_one (w_refused (by omega) start_inv.1 hS) fun H1 h1 => q_f (by decide) (q_one (w_fits (by omega) (B := 0) (by omega) start_inv h1) fun H2 h2 => q_f (by decide) (hK H2 h2))))
  obtain ⟨u, e, -⟩ := key
  exact ⟨100000, e⟩
