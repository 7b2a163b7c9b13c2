theorem q_fix1 {A1 β : Type} {F : (A1 → Option β) → A1 → Option β} {C : β → Prop} (P : Nat → A1 → Prop) (hs : ∀ rec j a1, (∀ j' b1, j' < j → P j' b1 → Gd C (rec b1)) → P j a1 → Gd C (F rec a1)) : ∀ n j a1, P j a1 → j < n → Gd C (zfix1 F n a1) := by
  intro n
  induction n with
  | zero => exact fun j a1 _ h => absurd h (Nat.not_lt_zero _)
  | succ n ih =>
    intro j a1 hp hj
    rw [zfix1_s]
    exact hs _ j a1 (fun j' b1 hj' hp' => ih j' b1 hp' (by omega)) hp
theorem q_fix2 {A1 A2 β : Type} {F : (A1 → A2 → Option β) → A1 → A2 → Option β} {C : β → Prop} (P : Nat → A1 → A2 → Prop) (hs : ∀ rec j a1 a2, (∀ j' b1 b2, j' < j → P j' b1 b2 → Gd C (rec b1 b2)) → P j a1 a2 → Gd C (F rec a1 a2)) : ∀ n j a1 a2, P j a1 a2 → j < n → Gd C (zfix2 F n a1 a2) := by
  intro n
  induction n with
  | zero => exact fun j a1 a2 _ h => absurd h (Nat.not_lt_zero _)
  | succ n ih =>
    intro j a1 a2 hp hj
    rw [zfix2_s]
    exact hs _ j a1 a2 (fun j' b1 b2 hj' hp' => ih j' b1 b2 hp' (by omega)) hp
theorem q_fix3 {A1 A2 A3 β : Type} {F : (A1 → A2 → A3 → Option β) → A1 → A2 → A3 → Option β} {C : β → Prop} (P : Nat → A1 → A2 → A3 → Prop) (hs : ∀ rec j a1 a2 a3, (∀ j' b1 b2 b3, j' < j → P j' b1 b2 b3 → Gd C (rec b1 b2 b3)) → P j a1 a2 a3 → Gd C (F rec a1 a2 a3)) : ∀ n j a1 a2 a3, P j a1 a2 a3 → j < n → Gd C (zfix3 F n a1 a2 a3) := by
  intro n
  induction n with
  | zero => exact fun j a1 a2 a3 _ h => absurd h (Nat.not_lt_zero _)
  | succ n ih =>
    intro j a1 a2 a3 hp hj
    rw [zfix3_s]
    exact hs _ j a1 a2 a3 (fun j' b1 b2 b3 hj' hp' => ih j' b1 b2 b3 hp' (by omega)) hp
theorem q_fix4 {A1 A2 A3 A4 β : Type} {F : (A1 → A2 → A3 → A4 → Option β) → A1 → A2 → A3 → A4 → Option β} {C : β → Prop} (P : Nat → A1 → A2 → A3 → A4 → Prop) (hs : ∀ rec j a1 a2 a3 a4, (∀ j' b1 b2 b3 b4, j' < j → P j' b1 b2 b3 b4 → Gd C (rec b1 b2 b3 b4)) → P j a1 a2 a3 a4 → Gd C (F rec a1 a2 a3 a4)) : ∀ n j a1 a2 a3 a4, P j a1 a2 a3 a4 → j < n → Gd C (zfix4 F n a1 a2 a3 a4) := by
  intro n
  induction n with
  | zero => exact fun j a1 a2 a3 a4 _ h => absurd h (Nat.not_lt_zero _)
  | succ n ih =>
    intro j a1 a2 a3 a4 hp hj
    rw [zfix4_s]
    exact hs _ j a1 a2 a3 a4 (fun j' b1 b2 b3 b4 hj' hp' => ih j' b1 b2 b3 b4 hp' (by omega)) hp
theorem q_fix5 {A1 A2 A3 A4 A5 β : Type} {F : (A1 → A2 → A3 → A4 → A5 → Option β) → A1 → A2 → A3 → A4 → A5 → Option β} {C : β → Prop} (P : Nat → A1 → A2 → A3 → A4 → A5 → Prop) (hs : ∀ rec j a1 a2 a3 a4 a5, (∀ j' b1 b2 b3 b4 b5, j' < j → P j' b1 b2 b3 b4 b5 → Gd C (rec b1 b2 b3 b4 b5)) → P j a1 a2 a3 a4 a5 → Gd C (F rec a1 a2 a3 a4 a5)) : ∀ n j a1 a2 a3 a4 a5, P j a1 a2 a3 a4 a5 → j < n → Gd C (zfix5 F n a1 a2 a3 a4 a5) := by
  intro n
  induction n with
  | zero => exact fun j a1 a2 a3 a4 a5 _ h => absurd h (Nat.not_lt_zero _)
  | succ n ih =>
    intro j a1 a2 a3 a4 a5 hp hj
    rw [zfix5_s]
    exact hs _ j a1 a2 a3 a4 a5 (fun j' b1 b2 b3 b4 b5 hj' hp' => ih j' b1 b2 b3 b4 b5 hp' (by omega)) hp
theorem q_fix6 {A1 A2 A3 A4 A5 A6 β : Type} {F : (A1 → A2 → A3 → A4 → A5 → A6 → Option β) → A1 → A2 → A3 → A4 → A5 → A6 → Option β} {C : β → Prop} (P : Nat → A1 → A2 → A3 → A4 → A5 → A6 → Prop) (hs : ∀ rec j a1 a2 a3 a4 a5 a6, (∀ j' b1 b2 b3 b4 b5 b6, j' < j → P j' b1 b2 b3 b4 b5 b6 → Gd C (rec b1 b2 b3 b4 b5 b6)) → P j a1 a2 a3 a4 a5 a6 → Gd C (F rec a1 a2 a3 a4 a5 a6)) : ∀ n j a1 a2 a3 a4 a5 a6, P j a1 a2 a3 a4 a5 a6 → j < n → Gd C (zfix6 F n a1 a2 a3 a4 a5 a6) := by
  intro n
  induction n with
  | zero => exact fun j a1 a2 a3 a4 a5 a6 _ h => absurd h (Nat.not_lt_zero _)
  | succ n ih =>
    intro j a1 a2 a3 a4 a5 a6 hp hj
    rw [zfix6_s]
    exact hs _ j a1 a2 a3 a4 a5 a6 (fun j' b1 b2 b3 b4 b5 b6 hj' hp' => ih j' b1 b2 b3 b4 b5 b6 hp' (by omega)) hp
theorem no_bit {u : Int32} {k : Nat} (hk : k < 8) (h : tb u k = false) : (u >>> (Int32.ofNat k &&& 31)) &&& 1 = 0 := by
  refine tb_ext fun i hi => ?_
  rw [tb_and, tb_one hi, tb_zero]
  by_cases c : i = 0
  · subst c
    rw [tb_shr hk, h]
    rfl
  · rw [decide_eq_false c, Bool.and_false]
/-! what companies() tells -/
theorem ca_0 {g : Row} {c : Nat} (ho : g (34 + 7 * c) = 1) : coD g c 0 = 1 := by
  unfold coD companyS
  rw [if_pos rfl, if_neg (by rw [ho]; decide)]
theorem ca_00 {g : Row} {c : Nat} (ho : g (34 + 7 * c) = 0) : coD g c 0 = 0 := by
  unfold coD companyS
  rw [if_pos rfl, if_pos ho]
theorem ca_no {g : Row} {c j : Nat} (hj : j ≠ 0) (ho : g (34 + 7 * c) = 0) : coD g c j = -1 := by
  unfold coD companyS
  rw [if_neg hj, if_pos ho]
theorem ca_n {g : Row} {c j : Nat} (h0 : j ≠ 0) (h7 : j ≠ 7) (ho : g (34 + 7 * c) = 1) : coD g c j = cnumS g c (Int32.ofNat j) := by
  unfold coD companyS
  rw [if_neg h0, if_neg (by rw [ho]; decide), if_neg h7]
theorem ca_1 {g : Row} {c : Nat} (ho : g (34 + 7 * c) = 1) : coD g c 1 = g (35 + 7 * c) := (ca_n (by omega) (by omega) ho).trans rfl
theorem ca_2 {g : Row} {c : Nat} (ho : g (34 + 7 * c) = 1) : coD g c 2 = g (36 + 7 * c) := (ca_n (by omega) (by omega) ho).trans rfl
theorem ca_3 {g : Row} {c : Nat} (ho : g (34 + 7 * c) = 1) : coD g c 3 = 20 + 10 * g (37 + 7 * c) := (ca_n (by omega) (by omega) ho).trans rfl
theorem ca_4 {g : Row} {c : Nat} (ho : g (34 + 7 * c) = 1) : coD g c 4 = g (38 + 7 * c) := (ca_n (by omega) (by omega) ho).trans rfl
theorem ca_5 {g : Row} {c : Nat} (ho : g (34 + 7 * c) = 1) : coD g c 5 = g (39 + 7 * c) := (ca_n (by omega) (by omega) ho).trans rfl
theorem ca_6 {g : Row} {c : Nat} (ho : g (34 + 7 * c) = 1) : coD g c 6 = bank (fun p => g (18 + 4 * p + c)) := (ca_n (by omega) (by omega) ho).trans rfl
theorem ca_7 {g : Row} {c : Nat} (ho : g (34 + 7 * c) = 1) : coD g c 7 = incS g (hmN g c) (spN g c) := by
  unfold coD companyS
  rw [if_neg (by omega), if_neg (by rw [ho]; decide), if_pos rfl]
  rfl
theorem ca_8 {g : Row} {c : Nat} (ho : g (34 + 7 * c) = 1) : coD g c 8 = g (40 + 7 * c) := (ca_n (by omega) (by omega) ho).trans rfl
/-! a route, asked town by town -/
theorem ro_at {g : Row} {mm c t : Nat} {Q P : List Nat} (hw : WF g mm) (hc : c < 4) (ho : g (34 + 7 * c) = 1) (e : (bestOf g (hmN g c) (spN g c - 1)).1 = Q ++ t :: P) (hl : P.length < 5) : roV g c (Int32.ofNat P.length) = Int32.ofNat t := by
  unfold roV routeS
  have hlen : P.length < (bestOf g (hmN g c) (spN g c - 1)).1.length := by
    rw [e]
    simp
    omega
  have h5 : (bestOf g (hmN g c) (spN g c - 1)).1.length ≤ 5 := by
    have hk := open_ok hw.2.2.1 hc ho
    rcases best_spec (home := hmN g c) hw.2.2.2 (show 1 ≤ spN g c by omega) hk.1.2.2.2.2 with ⟨q, -⟩ | ⟨q, -⟩
    · rw [q]; exact Nat.zero_le _
    · have := q.2.1
      have := hk.1.2.2.2.2
      omega
  rw [if_neg (by rw [ho]; decide), if_neg (by rw [show (0 : Int32) = Int32.ofNat 0 from rfl, i32_lt_of (by omega) (by omega)]; omega), if_neg (by rw [i32_le_of (by omega) (by omega)]; omega), nn_of (by omega), e]
  congr 1
  rw [List.reverse_append, List.reverse_cons, List.append_assoc, List.getD_eq_getElem?_getD, List.getElem?_append_right (by simp)]
  simp
theorem ro_end {g : Row} {c : Nat} (ho : g (34 + 7 * c) = 1) (h5 : (bestOf g (hmN g c) (spN g c - 1)).1.length ≤ 5) : roV g c (Int32.ofNat (bestOf g (hmN g c) (spN g c - 1)).1.length) = -1 := by
  unfold roV routeS
  rw [if_neg (by rw [ho]; decide), if_neg (by rw [show (0 : Int32) = Int32.ofNat 0 from rfl, i32_lt_of (by omega) (by omega)]; omega), if_pos (Int32.le_refl _)]
