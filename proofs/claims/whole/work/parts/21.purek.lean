def sg (tx : Row) (L p : Nat) : Int32 := if p < L then tx p else -1
def inR (x a b : Int32) : Bool := decide (¬ x < a ∧ ¬ b < x)
theorem inR_if {α : Type} {x a b : Int32} {u v : α} : (if x < a then u else if b < x then u else v) = if inR x a b = true then v else u := by
  unfold inR
  by_cases c1 : x < a
  · rw [if_pos c1, if_neg (fun q => (of_decide_eq_true q).1 c1)]
  · by_cases c2 : b < x
    · rw [if_neg c1, if_pos c2, if_neg (fun q => (of_decide_eq_true q).2 c2)]
    · rw [if_neg c1, if_neg c2, if_pos (decide_eq_true ⟨c1, c2⟩)]
def mvD (tx : Row) (L : Nat) (l : Int32) (p : Nat) : Bool × Nat × Int32 × Int32 :=
  if l = 112 then (true, p, -1, -1)
  else if l = 111 ∨ l = 107 then
    if inR (sg tx L p) 48 55 = true then
      if inR (sg tx L (p + 1)) 48 55 = true then
        if tx (p + 1) - 48 = tx p - 48 then (false, p + 1, tx p - 48, -1) else (true, p + 2, tx p - 48, tx (p + 1) - 48)
      else (false, p + 1, tx p - 48, -1)
    else (true, p, -1, -1)
  else if inR (sg tx L p) 48 51 = true then
    if l = 120 then
      if inR (sg tx L (p + 1)) 49 57 = true then (true, p + 2, tx p - 48, tx (p + 1) - 48) else (false, p + 1, tx p - 48, -1)
    else (true, p + 1, tx p - 48, -1)
  else (false, p, -1, -1)
def isLet (l : Int32) : Prop := l = 98 ∨ l = 120 ∨ l = 112 ∨ l = 111 ∨ l = 107
def mvS (tx : Row) (L : Nat) (r : Bool × Nat × Int32 × Int32) : Bool × Nat × Int32 × Int32 := if r.1 = true then (if sg tx L r.2.1 = 59 then (true, r.2.1 + 1, r.2.2) else (false, r.2)) else r
def TW (w w' : Row) (p : Nat) (l one other : Int32) : Prop := w' 25 = Int32.ofNat p ∧ w' 26 = l ∧ w' 27 = one ∧ w' 28 = other ∧ w' 20 = w 20 ∧ w' 21 = w 21 ∧ w' 22 = w 22
theorem sg_ne {tx : Row} {L p : Nat} {a b : Int32} (ha : -1 < a) (h : inR (sg tx L p) a b = true) : p < L ∧ sg tx L p = tx p := by
  unfold sg at h ⊢
  by_cases c : p < L
  · exact ⟨c, if_pos c⟩
  · rw [if_neg c] at h
    exact absurd ha (of_decide_eq_true h).1
theorem u_isDig {n L p : Nat} {h : zH} {m pp tx w : Row} {hs : Int64} {lo hi a b : Int32} (hL : L ≤ 90) (hp : p < 600) (w25 : w 25 = Int32.ofNat p) (w21 : w 21 = Int32.ofNat L) (ea : (48 : Int32) + lo = a) (eb : (48 : Int32) + hi = b) (ha : -1 < a) : f_X6_isDigit n 123 lo hi (mput h m pp tx w hs) = some (if inR (sg tx L p) a b = true then 1 else 0) := by
  unfold f_X6_isDigit
  rw [mgI_12, Option.bind_some, mgI_4, Option.bind_some, w25, w21]
  simp only [zlet]
  have e : (Int32.ofNat L ≤ Int32.ofNat p) = (L ≤ p) := i32_le_of (by omega) (by omega)
  by_cases c : p < L
  · rw [if_neg (by rw [e]; omega), mgR_3, Option.bind_some, Option.bind_some, mT (show p < 90 by omega), Option.bind_some, ea, eb, u_in, Option.bind_some, inR_if]
    unfold sg
    rw [if_pos c]
    by_cases d : inR (tx p) a b = true
    · rw [if_pos d, if_neg (by decide)]
    · rw [if_neg d, if_pos rfl]
  · rw [if_pos (by rw [e]; omega)]
    have : ¬ inR (sg tx L p) a b = true := fun q => c (sg_ne ha q).1
    rw [if_neg this]
theorem u_dig {n p : Nat} {h : zH} {m pp tx w : Row} {hs : Int64} (hp : p < 90) (w25 : w 25 = Int32.ofNat p) : f_X6_digit n 123 (mput h m pp tx w hs) = some (tx p - 48, mput h m pp tx (upd w 25 (Int32.ofNat (p + 1))) hs) := by
  unfold f_X6_digit
  rw [mgR_3, Option.bind_some, mgI_12, Option.bind_some, w25, mT hp, Option.bind_some]
  simp only [zlet]
  rw [Option.bind_some, i32_succ, msI_12, Option.bind_some]
theorem u_takesDigits {n L p : Nat} {h : zH} {m pp tx w : Row} {hs : Int64} {l : Int32} (hl : isLet l) (hL : L ≤ 90) (hp : p < 500) (w25 : w 25 = Int32.ofNat p) (w26 : w 26 = l) (w27 : w 27 = -1) (w28 : w 28 = -1) (w21 : w 21 = Int32.ofNat L) : ∃ w', f_X6_takesDigits n 123 (mput h m pp tx w hs) = some (if (mvD tx L l p).1 = true then 1 else 0, mput h m pp tx w' hs) ∧ TW w w' (mvD tx L l p).2.1 l (mvD tx L l p).2.2.1 (mvD tx L l p).2.2.2 := by
  have z1 : ¬ (1 : Int32) = 0 := by decide
  have a48 : (-1 : Int32) < 48 := by decide
  have a49 : (-1 : Int32) < 49 := by decide
  have e0 : (48 : Int32) + 0 = 48 := by decide
  have e1 : (48 : Int32) + 1 = 49 := by decide
  have e3 : (48 : Int32) + 3 = 51 := by decide
  have e7 : (48 : Int32) + 7 = 55 := by decide
  have e9 : (48 : Int32) + 9 = 57 := by decide
  have hTW : TW w w p l (-1) (-1) := ⟨w25, w26, w27, w28, rfl, rfl, rfl⟩
  unfold f_X6_takesDigits mvD
  rw [mgI_13, Option.bind_some, w26]
  by_cases c1 : l = 112
  · rw [if_pos c1, if_pos c1]
    exact ⟨w, rfl, hTW⟩
  · rw [if_neg c1, if_neg c1, Option.bind_some]
    simp only [zlet]
    by_cases c2 : l = 111 ∨ l = 107
    · rw [if_pos c2]
      have red : ∀ {α : Type} {u v : α}, (if l = 111 then u else if l = 107 then u else v) = u := by
        intro α u v
        rcases c2 with c | c
        · rw [if_pos c]
        · by_cases d : l = 111
          · rw [if_pos d]
          · rw [if_neg d, if_pos c]
      simp only [Option.bind_some]
      rw [red, mgK, u_isDig hL (by omega) w25 w21 e0 e7 a48, Option.bind_some]
      by_cases c3 : inR (sg tx L p) 48 55 = true
      · have hpL := (sg_ne a48 c3).1
        simp only [if_pos c3, if_neg z1, mgK, u_dig (show p < 90 by omega) w25, zb2_s, msI_14, Option.bind_some]
        rw [u_isDig (p := p + 1) hL (by omega) (by rw [upd_ne (by omega), upd_eq]) (by rw [upd_ne (by omega), upd_ne (by omega), w21]) e0 e7 a48, Option.bind_some]
        by_cases c4 : inR (sg tx L (p + 1)) 48 55 = true
        · have hpL2 := (sg_ne a48 c4).1
          simp only [if_pos c4, if_neg z1, mgR_3, mgI_12, mgI_14, Option.bind_some]
          rw [upd_ne (show 25 ≠ 27 by omega), upd_eq, mT (show p + 1 < 90 by omega), Option.bind_some, upd_eq]
          by_cases c5 : tx (p + 1) - 48 = tx p - 48
          · rw [if_pos c5, if_pos c5]
            exact ⟨_, rfl, by rw [upd_ne (by omega), upd_eq], by rw [upd_ne (by omega), upd_ne (by omega), w26], by rw [upd_eq], by rw [upd_ne (by omega), upd_ne (by omega), w28], by rw [upd_ne (by omega), upd_ne (by omega)], by rw [upd_ne (by omega), upd_ne (by omega)], by rw [upd_ne (by omega), upd_ne (by omega)]⟩
          · rw [if_neg c5, if_neg c5, u_dig (p := p + 1) (by omega) (by rw [upd_ne (by omega), upd_eq]), zb2_s, msI_15, Option.bind_some]
            exact ⟨_, rfl, by rw [upd_ne (by omega), upd_eq], by rw [upd_ne (by omega), upd_ne (by omega), upd_ne (by omega), upd_ne (by omega), w26], by rw [upd_ne (by omega), upd_ne (by omega), upd_eq], by rw [upd_eq], by rw [upd_ne (by omega), upd_ne (by omega), upd_ne (by omega), upd_ne (by omega)], by rw [upd_ne (by omega), upd_ne (by omega), upd_ne (by omega), upd_ne (by omega)], by rw [upd_ne (by omega), upd_ne (by omega), upd_ne (by omega), upd_ne (by omega)]⟩
        · simp only [if_neg c4, if_true]
          exact ⟨_, rfl, by rw [upd_ne (by omega), upd_eq], by rw [upd_ne (by omega), upd_ne (by omega), w26], by rw [upd_eq], by rw [upd_ne (by omega), upd_ne (by omega), w28], by rw [upd_ne (by omega), upd_ne (by omega)], by rw [upd_ne (by omega), upd_ne (by omega)], by rw [upd_ne (by omega), upd_ne (by omega)]⟩
      · simp only [if_neg c3, if_true]
        exact ⟨w, rfl, hTW⟩
    · rw [if_neg c2]
      simp only [if_neg (fun q => c2 (Or.inl q)), if_neg (fun q => c2 (Or.inr q)), Option.bind_some]
      rw [mgK, u_isDig hL (by omega) w25 w21 e0 e3 a48, Option.bind_some]
      by_cases c3 : inR (sg tx L p) 48 51 = true
      · have hpL := (sg_ne a48 c3).1
        simp only [if_pos c3, if_neg z1, mgK, u_dig (show p < 90 by omega) w25, zb2_s, msI_14, mgI_13, Option.bind_some]
        rw [upd_ne (show 26 ≠ 27 by omega), upd_ne (show 26 ≠ 25 by omega), w26]
        by_cases c4 : l = 120
        · rw [if_pos c4, if_pos c4, u_isDig (p := p + 1) hL (by omega) (by rw [upd_ne (by omega), upd_eq]) (by rw [upd_ne (by omega), upd_ne (by omega), w21]) e1 e9 a49, Option.bind_some]
          by_cases c5 : inR (sg tx L (p + 1)) 49 57 = true
          · have hpL2 := (sg_ne a49 c5).1
            simp only [if_pos c5, if_neg z1]
            rw [u_dig (p := p + 1) (by omega) (by rw [upd_ne (by omega), upd_eq]), zb2_s, msI_15, Option.bind_some]
            exact ⟨_, rfl, by rw [upd_ne (by omega), upd_eq], by rw [upd_ne (by omega), upd_ne (by omega), upd_ne (by omega), upd_ne (by omega), w26], by rw [upd_ne (by omega), upd_ne (by omega), upd_eq], by rw [upd_eq], by rw [upd_ne (by omega), upd_ne (by omega), upd_ne (by omega), upd_ne (by omega)], by rw [upd_ne (by omega), upd_ne (by omega), upd_ne (by omega), upd_ne (by omega)], by rw [upd_ne (by omega), upd_ne (by omega), upd_ne (by omega), upd_ne (by omega)]⟩
          · simp only [if_neg c5, if_true]
            exact ⟨_, rfl, by rw [upd_ne (by omega), upd_eq], by rw [upd_ne (by omega), upd_ne (by omega), w26], by rw [upd_eq], by rw [upd_ne (by omega), upd_ne (by omega), w28], by rw [upd_ne (by omega), upd_ne (by omega)], by rw [upd_ne (by omega), upd_ne (by omega)], by rw [upd_ne (by omega), upd_ne (by omega)]⟩
        · rw [if_neg c4, if_neg c4]
          exact ⟨_, rfl, by rw [upd_ne (by omega), upd_eq], by rw [upd_ne (by omega), upd_ne (by omega), w26], by rw [upd_eq], by rw [upd_ne (by omega), upd_ne (by omega), w28], by rw [upd_ne (by omega), upd_ne (by omega)], by rw [upd_ne (by omega), upd_ne (by omega)], by rw [upd_ne (by omega), upd_ne (by omega)]⟩
      · simp only [if_neg c3, if_true]
        exact ⟨w, rfl, hTW⟩
theorem mvD_bd {tx : Row} {L p : Nat} {l : Int32} (hp : p ≤ L) : p ≤ (mvD tx L l p).2.1 ∧ (mvD tx L l p).2.1 ≤ p + 2 ∧ (mvD tx L l p).2.1 ≤ L := by
  have a48 : (-1 : Int32) < 48 := by decide
  have a49 : (-1 : Int32) < 49 := by decide
  unfold mvD
  by_cases c1 : l = 112
  · rw [if_pos c1]
    exact ⟨Nat.le_refl p, Nat.le_add_right p 2, hp⟩
  · rw [if_neg c1]
    by_cases c2 : l = 111 ∨ l = 107
    · rw [if_pos c2]
      by_cases c3 : inR (sg tx L p) 48 55 = true
      · rw [if_pos c3]
        have h3 := (sg_ne a48 c3).1
        by_cases c4 : inR (sg tx L (p + 1)) 48 55 = true
        · rw [if_pos c4]
          have h4 := (sg_ne a48 c4).1
          by_cases c5 : tx (p + 1) - 48 = tx p - 48
          · rw [if_pos c5]
            exact ⟨Nat.le_add_right p 1, Nat.le_succ _, h3⟩
          · rw [if_neg c5]
            exact ⟨Nat.le_add_right p 2, Nat.le_refl _, h4⟩
        · rw [if_neg c4]
          exact ⟨Nat.le_add_right p 1, Nat.le_succ _, h3⟩
      · rw [if_neg c3]
        exact ⟨Nat.le_refl p, Nat.le_add_right p 2, hp⟩
    · rw [if_neg c2]
      by_cases c3 : inR (sg tx L p) 48 51 = true
      · rw [if_pos c3]
        have h3 := (sg_ne a48 c3).1
        by_cases c4 : l = 120
        · rw [if_pos c4]
          by_cases c5 : inR (sg tx L (p + 1)) 49 57 = true
          · rw [if_pos c5]
            exact ⟨Nat.le_add_right p 2, Nat.le_refl _, (sg_ne a49 c5).1⟩
          · rw [if_neg c5]
            exact ⟨Nat.le_add_right p 1, Nat.le_succ _, h3⟩
        · rw [if_neg c4]
          exact ⟨Nat.le_add_right p 1, Nat.le_succ _, h3⟩
      · rw [if_neg c3]
        exact ⟨Nat.le_refl p, Nat.le_add_right p 2, hp⟩
def mv (tx : Row) (L i : Nat) : Bool × Nat × Int32 × Int32 := mvS tx L (mvD tx L (tx i) (i + 1))
theorem u_takesMove1 {n L i : Nat} {h : zH} {m pp tx w : Row} {hs : Int64} (hl : isLet (tx i)) (hL : L ≤ 90) (hi : i < L) (w25 : w 25 = Int32.ofNat i) (w21 : w 21 = Int32.ofNat L) : ∃ w', f_X6_takesMove n 123 (mput h m pp tx w hs) = some (if (mv tx L i).1 = true then 1 else 0, mput h m pp tx w' hs) ∧ TW w w' (mv tx L i).2.1 (tx i) (mv tx L i).2.2.1 (mv tx L i).2.2.2 := by
  have z1 : ¬ (1 : Int32) = 0 := by decide
  unfold f_X6_takesMove
  rw [mgR_3, Option.bind_some, mgI_12, Option.bind_some, w25, mT (show i < 90 by omega), Option.bind_some, msI_13, Option.bind_some, msI_14, Option.bind_some, msI_15, Option.bind_some, mgI_13, Option.bind_some, upd_ne (show 26 ≠ 28 by omega), upd_ne (show 26 ≠ 27 by omega), upd_eq]
  simp only [Option.bind_some]
  have red : ∀ {α : Type} {u v : α}, (if tx i = 98 then u else if tx i = 120 then u else if tx i = 112 then u else if tx i = 111 then u else if tx i = 107 then u else v) = u := by
    intro α u v
    by_cases d1 : tx i = 98
    · rw [if_pos d1]
    · by_cases d2 : tx i = 120
      · rw [if_neg d1, if_pos d2]
      · by_cases d3 : tx i = 112
        · rw [if_neg d1, if_neg d2, if_pos d3]
        · by_cases d4 : tx i = 111
          · rw [if_neg d1, if_neg d2, if_neg d3, if_pos d4]
          · rcases hl with d | d | d | d | d
            · exact absurd d d1
            · exact absurd d d2
            · exact absurd d d3
            · exact absurd d d4
            · rw [if_neg d1, if_neg d2, if_neg d3, if_neg d4, if_pos d]
  simp only [zlet]
  rw [red, mgI_12, Option.bind_some, upd_ne (show 25 ≠ 28 by omega), upd_ne (show 25 ≠ 27 by omega), upd_ne (show 25 ≠ 26 by omega), w25, i32_succ, msI_12, Option.bind_some, mgK]
  obtain ⟨w', e, t25, t26, t27, t28, t20, t21, t22⟩ := u_takesDigits (n := n) (L := L) (p := i + 1) (h := h) (m := m) (pp := pp) (tx := tx) (w := upd (upd (upd (upd w 26 (tx i)) 27 (-1)) 28 (-1)) 25 (Int32.ofNat (i + 1))) (hs := hs) (l := tx i) hl hL (by omega) upd_eq (by rw [upd_ne (by omega), upd_ne (by omega), upd_ne (by omega), upd_eq]) (by rw [upd_ne (by omega), upd_ne (by omega), upd_eq]) (by rw [upd_ne (by omega), upd_eq]) (by rw [upd_ne (by omega), upd_ne (by omega), upd_ne (by omega), upd_ne (by omega), w21])
  have b2 := (mvD_bd (tx := tx) (L := L) (p := i + 1) (l := tx i) (by omega)).2.2
  have b20 : w' 20 = w 20 := by rw [t20, upd_ne (by omega), upd_ne (by omega), upd_ne (by omega), upd_ne (by omega)]
  have b21 : w' 21 = w 21 := by rw [t21, upd_ne (by omega), upd_ne (by omega), upd_ne (by omega), upd_ne (by omega)]
  have b22 : w' 22 = w 22 := by rw [t22, upd_ne (by omega), upd_ne (by omega), upd_ne (by omega), upd_ne (by omega)]
  rw [e, zb2_s]
  unfold mv mvS
  generalize mvD tx L (tx i) (i + 1) = r at t25 t26 t27 t28 b2 ⊢
  obtain ⟨ok, a, one, other⟩ := r
  simp only at t25 t26 t27 t28 b2 ⊢
  cases ok with
  | false =>
    rw [if_neg (show ¬ false = true by decide), if_pos rfl, if_neg (show ¬ false = true by decide)]
    exact ⟨w', rfl, t25, t26, t27, t28, b20, b21, b22⟩
  | true =>
    have eL : (Int32.ofNat a = Int32.ofNat L) = (a = L) := i32_eq_of (by omega) (by omega)
    rw [if_pos rfl, if_neg z1, if_pos rfl, mgI_12, Option.bind_some, mgI_4, Option.bind_some, t25, b21, w21]
    by_cases c : a = L
    · have s59 : ¬ sg tx L a = 59 := by
        unfold sg
        rw [if_neg (by omega)]
        decide
      rw [if_pos (by rw [eL]; exact c), if_neg s59, if_neg (show ¬ false = true by decide)]
      exact ⟨w', rfl, t25, t26, t27, t28, b20, b21, b22⟩
    · rw [if_neg (by rw [eL]; exact c), mgR_3, Option.bind_some, Option.bind_some]
      by_cases ca : a < L
      · have es : sg tx L a = tx a := if_pos ca
        rw [mT (show a < 90 by omega), Option.bind_some, es]
        by_cases d : tx a = 59
        · rw [if_pos d, if_pos d, if_pos rfl, Option.bind_some, i32_succ, msI_12, Option.bind_some]
          exact ⟨_, rfl, upd_eq, by rw [upd_ne (by omega), t26], by rw [upd_ne (by omega), t27], by rw [upd_ne (by omega), t28], by rw [upd_ne (by omega), b20], by rw [upd_ne (by omega), b21], by rw [upd_ne (by omega), b22]⟩
        · rw [if_neg d, if_neg d, if_neg (show ¬ false = true by decide)]
          exact ⟨w', rfl, t25, t26, t27, t28, b20, b21, b22⟩
      · omega
def mvT (tx : Row) (L i : Nat) : Bool × Nat × Int32 × Int32 := if tx i = 98 ∨ tx i = 120 ∨ tx i = 112 ∨ tx i = 111 ∨ tx i = 107 then mv tx L i else (false, i, -1, -1)
theorem u_takesMove {n L i : Nat} {h : zH} {m pp tx w : Row} {hs : Int64} (hL : L ≤ 90) (hi : i < L) (w25 : w 25 = Int32.ofNat i) (w21 : w 21 = Int32.ofNat L) : ∃ w', f_X6_takesMove n 123 (mput h m pp tx w hs) = some (if (mvT tx L i).1 = true then 1 else 0, mput h m pp tx w' hs) ∧ TW w w' (mvT tx L i).2.1 (tx i) (mvT tx L i).2.2.1 (mvT tx L i).2.2.2 := by
  by_cases hl : isLet (tx i)
  · have e : mvT tx L i = mv tx L i := if_pos hl
    rw [e]
    exact u_takesMove1 hl hL hi w25 w21
  · have e : mvT tx L i = (false, i, -1, -1) := if_neg hl
    rw [e]
    unfold f_X6_takesMove
    rw [mgR_3, Option.bind_some, mgI_12, Option.bind_some, w25, mT (show i < 90 by omega), Option.bind_some, msI_13, Option.bind_some, msI_14, Option.bind_some, msI_15, Option.bind_some, mgI_13, Option.bind_some, upd_ne (show 26 ≠ 28 by omega), upd_ne (show 26 ≠ 27 by omega), upd_eq]
    simp only [Option.bind_some, zlet]
    rw [if_neg (fun q => hl (Or.inl q)), if_neg (fun q => hl (Or.inr (Or.inl q))), if_neg (fun q => hl (Or.inr (Or.inr (Or.inl q)))), if_neg (fun q => hl (Or.inr (Or.inr (Or.inr (Or.inl q))))), if_neg (fun q => hl (Or.inr (Or.inr (Or.inr (Or.inr q))))), if_neg (show ¬ false = true by decide)]
    exact ⟨_, rfl, by rw [upd_ne (by omega), upd_ne (by omega), upd_ne (by omega), w25], by rw [upd_ne (by omega), upd_ne (by omega), upd_eq], by rw [upd_ne (by omega), upd_eq], by rw [upd_eq], by rw [upd_ne (by omega), upd_ne (by omega), upd_ne (by omega)], by rw [upd_ne (by omega), upd_ne (by omega), upd_ne (by omega)], by rw [upd_ne (by omega), upd_ne (by omega), upd_ne (by omega)]⟩
theorem CS_t {h : zH} {st : Nat → Row} {k : Nat} {len : Int32} {tx g : Row} {H : zH} (hC : CS h st k len tx g H) : (∀ {β : Type} (o : Option β), zrc H 121 4 o = o) ∧ zgR H 121 4 0 = some 122 ∧ zgI H 121 4 1 = some len ∧ ∀ i, i < 90 → zai H 122 (Int32.ofNat i) = some (tx i) := by
  obtain ⟨sg, p, _, _, l, q, rfl⟩ := hC
  exact ⟨fun o => ogK_4, ogR_s, ogI_s, fun i hi => by rw [oga_t (in_of hi (by omega)), nn_of (by omega)]⟩
theorem cs_sign {n L p : Nat} {h : zH} {st : Nat → Row} {k : Nat} {tx g : Row} {H : zH} (hC : CS h st k (Int32.ofNat L) tx g H) (hL : L ≤ 90) (hp : p < 500) : f_X4_sign n 121 (Int32.ofNat p) H = some (sg tx L p) := by
  obtain ⟨t1, t2, t3, t4⟩ := CS_t hC
  unfold f_X4_sign sg
  simp only [zlet]
  have e : (Int32.ofNat L ≤ Int32.ofNat p) = (L ≤ p) := i32_le_of (by omega) (by omega)
  rw [if_neg (fun q => in_of (show p < p + 1 by omega) (show p + 1 < 600 by omega) (Or.inl q)), t3, Option.bind_some]
  by_cases c : p < L
  · rw [if_neg (by rw [e]; omega), t2, Option.bind_some, t4 p (by omega), Option.bind_some, if_pos c]
  · rw [if_pos (by rw [e]; omega), if_neg c]
theorem cs_isDigit {n : Nat} {x a b : Int32} {h : zH} : f_X4_isDigit n x a b h = some (if inR x a b = true then 1 else 0) := by
  unfold f_X4_isDigit
  simp only [zlet]
  rw [inR_if]
  split <;> rfl
def dgS (tx : Row) (L p : Nat) : Int32 := if inR (sg tx L p) 48 57 = true then sg tx L p - 48 else -1
theorem cs_digit {n L p : Nat} {h : zH} {st : Nat → Row} {k : Nat} {tx g : Row} {H : zH} (hC : CS h st k (Int32.ofNat L) tx g H) (hL : L ≤ 90) (hp : p < 500) : f_X4_digit n 121 (Int32.ofNat p) H = some (dgS tx L p) := by
  unfold f_X4_digit dgS
  rw [(CS_t hC).1, cs_sign hC hL hp, Option.bind_some, cs_isDigit, Option.bind_some]
  by_cases c : inR (sg tx L p) 48 57 = true
  · rw [if_pos c, if_neg (by decide), if_pos c]
  · rw [if_neg c, if_pos rfl, if_neg c]
def msS (x : Int32) : Int32 := if x = 98 then 1 else if x = 107 then 4 else if x = 111 then 4 else if x = 112 then 6 else if x = 120 then 2 else 7
def bh (s x y : Int32) : Int32 := if s = 0 then msS x else if s = 1 then (if inR x 48 51 = true then 6 else 7) else if s = 2 then (if inR x 48 51 = true then 3 else 7) else if s = 3 then (if inR x 49 57 = true then 6 else 7) else if s = 4 then (if x = 59 then 0 else if inR x 48 55 = true then 5 else 7) else if s = 5 then (if inR x 48 55 = true then (if x = y then 7 else 6) else 7) else if x = 59 then 0 else 7
theorem cs_behind {n : Nat} {s x y : Int32} {h : zH} : f_X4_behind n s x y h = some (bh s x y) := by
  have z1 : ¬ (1 : Int32) = 0 := by decide
  have d : ∀ (a b u v : Int32), ((some (if inR x a b = true then (1 : Int32) else 0)).bind fun r => if r = 0 then some v else some u) = some (if inR x a b = true then u else v) := by
    intro a b u v
    by_cases c : inR x a b = true
    · rw [if_pos c, if_pos c, Option.bind_some, if_neg z1]
    · rw [if_neg c, if_neg c, Option.bind_some, if_pos rfl]
  unfold f_X4_behind bh
  by_cases c0 : s = 0
  · rw [if_pos c0, if_pos c0]
    unfold f_X4_behindMoveSign msS
    split
    · rfl
    · split
      · rfl
      · split
        · rfl
        · split
          · rfl
          · split <;> rfl
  · rw [if_neg c0, if_neg c0]
    by_cases c1 : s = 1
    · rw [if_pos c1, if_pos c1, cs_isDigit, d]
    · rw [if_neg c1, if_neg c1]
      by_cases c2 : s = 2
      · rw [if_pos c2, if_pos c2, cs_isDigit, d]
      · rw [if_neg c2, if_neg c2]
        by_cases c3 : s = 3
        · rw [if_pos c3, if_pos c3, cs_isDigit, d]
        · rw [if_neg c3, if_neg c3]
          by_cases c4 : s = 4
          · rw [if_pos c4, if_pos c4, cs_isDigit, d]
            split <;> rfl
          · rw [if_neg c4, if_neg c4]
            by_cases c5 : s = 5
            · rw [if_pos c5, if_pos c5, cs_isDigit]
              simp only [zlet]
              by_cases c : inR x 48 55 = true
              · rw [if_pos c, if_pos c, Option.bind_some, if_neg z1]
                split <;> rfl
              · rw [if_neg c, if_neg c, Option.bind_some, if_pos rfl]
            · rw [if_neg c5, if_neg c5]
              split <;> rfl
def EPF (n : Nat) (h : zH) : (Int32 → Int32 → Option Int32) → Int32 → Int32 → Option Int32 := fun rec4 a1_4 a2_4 => (zgI h 121 4 1).bind fun (v6 : Int32) => if v6 ≤ a2_4 then (if a1_4 = 0 then (some (-1 : Int32)) else ((zgI h 121 4 1).bind fun (v53 : Int32) => some v53)) else ((zgR h 121 4 0).bind fun (v14 : Nat) => (zai h v14 a2_4).bind fun (v18 : Int32) => zrc h 121 4 <| (f_X4_sign n 121 (a2_4 - (1 : Int32)) h).bind fun (r23 : Int32) => (f_X4_behind n a1_4 v18 r23 h).bind fun (r26 : Int32) => if r26 = (7 : Int32) then (some a2_4) else (zlet (a2_4 + 1) fun (x38 : Int32) => rec4 r26 x38))
theorem e_EP {n : Nat} {h : zH} : f_X4_errorPosition n 121 h = zfix2 (EPF n h) n 0 0 := rfl
theorem ep_0 {n N L a : Nat} {h : zH} {st : Nat → Row} {k : Nat} {tx g : Row} {H : zH} (hC : CS h st k (Int32.ofNat L) tx g H) (hL : L ≤ 90) (ha : a < L) : zfix2 (EPF n H) (N + 1) 0 (Int32.ofNat a) = if msS (tx a) = 7 then some (Int32.ofNat a) else zfix2 (EPF n H) N (msS (tx a)) (Int32.ofNat (a + 1)) := by
  obtain ⟨t1, t2, t3, t4⟩ := CS_t hC
  have e : (Int32.ofNat L ≤ Int32.ofNat a) = (L ≤ a) := i32_le_of (by omega) (by omega)
  have es : ∃ v, f_X4_sign n 121 (Int32.ofNat a - 1) H = some v := by
    cases a with
    | zero =>
      refine ⟨-1, ?_⟩
      unfold f_X4_sign
      simp only [zlet]
      rw [if_pos (by decide)]
    | succ a => exact ⟨_, by rw [i32_pred, cs_sign hC hL (by omega)]⟩
  obtain ⟨v, es⟩ := es
  rw [zfix2_s]
  unfold EPF
  rw [t3, Option.bind_some, if_neg (by rw [e]; omega), t2, Option.bind_some, t4 a (by omega), Option.bind_some, t1, es, Option.bind_some, cs_behind, Option.bind_some, show bh 0 (tx a) v = msS (tx a) from if_pos rfl]
  simp only [zlet]
  rw [i32_succ]
theorem bh_end {s y : Int32} (hs : s ≠ 0) : bh s (-1) y = 7 := by
  have a1 : ¬ inR (-1) 48 51 = true := by decide
  have a2 : ¬ inR (-1) 49 57 = true := by decide
  have a3 : ¬ inR (-1) 48 55 = true := by decide
  have a4 : ¬ (-1 : Int32) = 59 := by decide
  unfold bh
  rw [if_neg hs, if_neg a1, if_neg a1, if_neg a2, if_neg a3, if_neg a3, if_neg a4]
  split
  · rfl
  · split
    · rfl
    · split
      · rfl
      · split
        · rfl
        · split <;> rfl
theorem ep_k {n N L a : Nat} {s : Int32} {h : zH} {st : Nat → Row} {k : Nat} {tx g : Row} {H : zH} (hC : CS h st k (Int32.ofNat L) tx g H) (hL : L ≤ 90) (hs : s ≠ 0) (ha : a + 1 ≤ L) : zfix2 (EPF n H) (N + 1) s (Int32.ofNat (a + 1)) = if bh s (sg tx L (a + 1)) (sg tx L a) = 7 then some (Int32.ofNat (a + 1)) else zfix2 (EPF n H) N (bh s (sg tx L (a + 1)) (sg tx L a)) (Int32.ofNat (a + 2)) := by
  obtain ⟨t1, t2, t3, t4⟩ := CS_t hC
  have e : (Int32.ofNat L ≤ Int32.ofNat (a + 1)) = (L ≤ a + 1) := i32_le_of (by omega) (by omega)
  rw [zfix2_s]
  by_cases c : a + 1 = L
  · have sn : sg tx L (a + 1) = -1 := if_neg (by omega)
    rw [sn, bh_end hs, if_pos rfl]
    unfold EPF
    rw [t3, Option.bind_some, if_pos (by rw [e]; omega), if_neg hs, Option.bind_some, c]
  · have sn : sg tx L (a + 1) = tx (a + 1) := if_pos (by omega)
    unfold EPF
    rw [t3, Option.bind_some, if_neg (by rw [e]; omega), t2, Option.bind_some, t4 (a + 1) (by omega), Option.bind_some, t1, i32_pred, cs_sign hC hL (by omega), Option.bind_some, cs_behind, Option.bind_some, sn]
    simp only [zlet]
    rw [i32_succ]
def NMF (h : zH) : (Int32 → Option Int32) → Int32 → Option Int32 := fun rec2 a2_2 => (zgI h 121 4 1).bind fun (v4 : Int32) => zlet (some (a2_2 + (1 : Int32))) fun K27 => if v4 ≤ a2_2 then (K27) else ((zgR h 121 4 0).bind fun (v11 : Nat) => (zai h v11 a2_2).bind fun (v15 : Int32) => if v15 = (59 : Int32) then (K27) else (zlet (a2_2 + 1) fun (x21 : Int32) => rec2 x21))
theorem e_NM {n : Nat} {p : Int32} {h : zH} : f_X4_nextMove n 121 p h = zfix1 (NMF h) n p := rfl
theorem nm_s {N L a : Nat} {h : zH} {st : Nat → Row} {k : Nat} {tx g : Row} {H : zH} (hC : CS h st k (Int32.ofNat L) tx g H) (hL : L ≤ 90) (ha : a < L) : zfix1 (NMF H) (N + 1) (Int32.ofNat a) = if sg tx L a = 59 then some (Int32.ofNat (a + 1)) else zfix1 (NMF H) N (Int32.ofNat (a + 1)) := by
  obtain ⟨t1, t2, t3, t4⟩ := CS_t hC
  have e : (Int32.ofNat L ≤ Int32.ofNat a) = (L ≤ a) := i32_le_of (by omega) (by omega)
  have sn : sg tx L a = tx a := if_pos ha
  rw [zfix1_s]
  unfold NMF
  rw [t3, Option.bind_some]
  simp only [zlet]
  rw [if_neg (by rw [e]; omega), t2, Option.bind_some, t4 a (by omega), Option.bind_some, i32_succ, sn]
theorem b1y {x y : Int32} (h : inR x 48 51 = true) : bh 1 x y = 6 := (show bh 1 x y = if inR x 48 51 = true then 6 else 7 from rfl).trans (if_pos h)
theorem b1n {x y : Int32} (h : ¬ inR x 48 51 = true) : bh 1 x y = 7 := (show bh 1 x y = if inR x 48 51 = true then 6 else 7 from rfl).trans (if_neg h)
theorem b2y {x y : Int32} (h : inR x 48 51 = true) : bh 2 x y = 3 := (show bh 2 x y = if inR x 48 51 = true then 3 else 7 from rfl).trans (if_pos h)
theorem b2n {x y : Int32} (h : ¬ inR x 48 51 = true) : bh 2 x y = 7 := (show bh 2 x y = if inR x 48 51 = true then 3 else 7 from rfl).trans (if_neg h)
theorem b3y {x y : Int32} (h : inR x 49 57 = true) : bh 3 x y = 6 := (show bh 3 x y = if inR x 49 57 = true then 6 else 7 from rfl).trans (if_pos h)
theorem b3n {x y : Int32} (h : ¬ inR x 49 57 = true) : bh 3 x y = 7 := (show bh 3 x y = if inR x 49 57 = true then 6 else 7 from rfl).trans (if_neg h)
theorem b4e {x y : Int32} : bh 4 x y = if x = 59 then 0 else if inR x 48 55 = true then 5 else 7 := rfl
theorem b5e {x y : Int32} : bh 5 x y = if inR x 48 55 = true then (if x = y then 7 else 6) else 7 := rfl
theorem b6y {x y : Int32} (h : x = 59) : bh 6 x y = 0 := (show bh 6 x y = if x = 59 then 0 else 7 from rfl).trans (if_pos h)
theorem b6n {x y : Int32} (h : ¬ x = 59) : bh 6 x y = 7 := (show bh 6 x y = if x = 59 then 0 else 7 from rfl).trans (if_neg h)
theorem ep_first {n N L i : Nat} {r : Int32} {h : zH} {st : Nat → Row} {k : Nat} {tx g : Row} {H : zH} (hC : CS h st k (Int32.ofNat L) tx g H) (hL : L ≤ 90) (ha : i < L) (hr : msS (tx i) = r) (h7 : ¬ r = 7) : zfix2 (EPF n H) (N + 1) 0 (Int32.ofNat i) = zfix2 (EPF n H) N r (Int32.ofNat (i + 1)) := by
  rw [ep_0 hC hL ha, hr, if_neg h7]
theorem ep_go {n N L a : Nat} {s r : Int32} {h : zH} {st : Nat → Row} {k : Nat} {tx g : Row} {H : zH} (hC : CS h st k (Int32.ofNat L) tx g H) (hL : L ≤ 90) (hs : s ≠ 0) (ha : a + 1 ≤ L) (hr : bh s (sg tx L (a + 1)) (sg tx L a) = r) (h7 : ¬ r = 7) : zfix2 (EPF n H) (N + 1) s (Int32.ofNat (a + 1)) = zfix2 (EPF n H) N r (Int32.ofNat (a + 2)) := by
  rw [ep_k hC hL hs ha, hr, if_neg h7]
theorem ep_stop {n N L a : Nat} {s : Int32} {h : zH} {st : Nat → Row} {k : Nat} {tx g : Row} {H : zH} (hC : CS h st k (Int32.ofNat L) tx g H) (hL : L ≤ 90) (hs : s ≠ 0) (ha : a + 1 ≤ L) (hr : bh s (sg tx L (a + 1)) (sg tx L a) = 7) : zfix2 (EPF n H) (N + 1) s (Int32.ofNat (a + 1)) = some (Int32.ofNat (a + 1)) := by
  rw [ep_k hC hL hs ha, hr, if_pos rfl]
theorem nm_go {N L a : Nat} {h : zH} {st : Nat → Row} {k : Nat} {tx g : Row} {H : zH} (hC : CS h st k (Int32.ofNat L) tx g H) (hL : L ≤ 90) (ha : a < L) (hn : ¬ sg tx L a = 59) : zfix1 (NMF H) (N + 1) (Int32.ofNat a) = zfix1 (NMF H) N (Int32.ofNat (a + 1)) := by
  rw [nm_s hC hL ha, if_neg hn]
theorem nm_stop {N L a : Nat} {h : zH} {st : Nat → Row} {k : Nat} {tx g : Row} {H : zH} (hC : CS h st k (Int32.ofNat L) tx g H) (hL : L ≤ 90) (ha : a < L) (hn : sg tx L a = 59) : zfix1 (NMF H) (N + 1) (Int32.ofNat a) = some (Int32.ofNat (a + 1)) := by
  rw [nm_s hC hL ha, if_pos hn]
theorem sg59 {tx : Row} {L p : Nat} (h : sg tx L p = 59) : p < L := by
  unfold sg at h
  by_cases c : p < L
  · exact c
  · rw [if_neg c] at h
    exact absurd h (by decide)
theorem in_59 {x a b : Int32} (hb : b < 59) (h : inR x a b = true) : ¬ x = 59 := fun e => by
  rw [e] at h
  exact (of_decide_eq_true h).2 hb
def MvRun (n : Nat) (H : zH) (L i d : Nat) (r : Bool × Nat × Int32 × Int32) : Prop := (∀ N, zfix2 (EPF n H) (N + d) 0 (Int32.ofNat i) = if r.1 = true then zfix2 (EPF n H) N 0 (Int32.ofNat r.2.1) else some (Int32.ofNat r.2.1)) ∧ (r.1 = true → r.2.1 = i + d ∧ 2 ≤ d ∧ i + d ≤ L ∧ ∀ N, zfix1 (NMF H) (N + d) (Int32.ofNat i) = some (Int32.ofNat (i + d)))
theorem mr_no {n L i d e : Nat} {H : zH} {v : Int32 × Int32} (h : ∀ N, zfix2 (EPF n H) (N + d) 0 (Int32.ofNat i) = some (Int32.ofNat e)) : MvRun n H L i d (false, e, v) := ⟨fun N => (h N).trans (if_neg (show ¬ false = true by decide)).symm, fun q => absurd q (show ¬ false = true by decide)⟩
theorem mr_ok {n L i d : Nat} {H : zH} {v : Int32 × Int32} (h : ∀ N, zfix2 (EPF n H) (N + d) 0 (Int32.ofNat i) = zfix2 (EPF n H) N 0 (Int32.ofNat (i + d))) (hd : 2 ≤ d) (hL : i + d ≤ L) (hn : ∀ N, zfix1 (NMF H) (N + d) (Int32.ofNat i) = some (Int32.ofNat (i + d))) : MvRun n H L i d (true, i + d, v) := ⟨fun N => (h N).trans (if_pos rfl).symm, fun _ => ⟨rfl, hd, hL, hn⟩⟩
theorem mv_run {n L i : Nat} {h : zH} {st : Nat → Row} {k : Nat} {tx g : Row} {H : zH} (hC : CS h st k (Int32.ofNat L) tx g H) (hL : L ≤ 90) (hi : i < L) : ∃ d, 1 ≤ d ∧ d ≤ 4 ∧ MvRun n H L i d (mvT tx L i) := by
  have si : sg tx L i = tx i := if_pos hi
  by_cases hl : tx i = 98 ∨ tx i = 120 ∨ tx i = 112 ∨ tx i = 111 ∨ tx i = 107
  · rw [show mvT tx L i = mvS tx L (mvD tx L (tx i) (i + 1)) from if_pos hl]
    have n59 : ∀ {x : Int32}, x = 98 ∨ x = 120 ∨ x = 112 ∨ x = 111 ∨ x = 107 → ¬ x = 59 := by
      intro x hx e
      rw [e] at hx
      revert hx
      decide
    have si59 : ¬ sg tx L i = 59 := by rw [si]; exact n59 hl
    by_cases h112 : tx i = 112
    · have e : mvD tx L (tx i) (i + 1) = (true, i + 1, -1, -1) := if_pos h112
      rw [e]
      have f1 := fun N => ep_first (n := n) (N := N) hC hL hi (show msS (tx i) = 6 by rw [h112]; rfl) (by decide)
      unfold mvS
      rw [if_pos rfl]
      by_cases c : sg tx L (i + 1) = 59
      · rw [if_pos c]
        have := sg59 c
        exact ⟨2, by omega, by omega, mr_ok (fun N => (f1 (N + 1)).trans (ep_go (N := N) hC hL (by decide) (by omega) (b6y c) (by decide))) (by omega) (by omega) (fun N => (nm_go (N := N + 1) hC hL hi si59).trans (nm_stop (N := N) hC hL this c))⟩
      · rw [if_neg c]
        exact ⟨2, by omega, by omega, mr_no (fun N => (f1 (N + 1)).trans (ep_stop (N := N) hC hL (by decide) (by omega) (b6n c)))⟩
    · by_cases hok : tx i = 111 ∨ tx i = 107
      · have f1 := fun N => ep_first (n := n) (N := N) (r := 4) hC hL hi (by rcases hok with q | q <;> (rw [q]; rfl)) (by decide)
        have e : mvD tx L (tx i) (i + 1) = if inR (sg tx L (i + 1)) 48 55 = true then (if inR (sg tx L (i + 1 + 1)) 48 55 = true then (if tx (i + 1 + 1) - 48 = tx (i + 1) - 48 then (false, i + 1 + 1, tx (i + 1) - 48, -1) else (true, i + 1 + 2, tx (i + 1) - 48, tx (i + 1 + 1) - 48)) else (false, i + 1 + 1, tx (i + 1) - 48, -1)) else (true, i + 1, -1, -1) := (if_neg h112).trans (if_pos hok)
        rw [e]
        by_cases c1 : inR (sg tx L (i + 1)) 48 55 = true
        · rw [if_pos c1]
          obtain ⟨q1, s1⟩ := sg_ne (by decide) c1
          have g1 := fun N => ep_go (n := n) (N := N) (s := 4) (r := 5) hC hL (by decide) (show i + 1 ≤ L by omega) (by rw [b4e, if_neg (in_59 (by decide) c1), if_pos c1]) (by decide)
          by_cases c2 : inR (sg tx L (i + 1 + 1)) 48 55 = true
          · rw [if_pos c2]
            obtain ⟨q2, s2⟩ := sg_ne (by decide) c2
            by_cases c3 : tx (i + 1 + 1) - 48 = tx (i + 1) - 48
            · rw [if_pos c3]
              have c3' : tx (i + 1 + 1) = tx (i + 1) := by
                have := congrArg (fun z : Int32 => z + 48) c3
                simp only [Int32.sub_add_cancel] at this
                exact this
              refine ⟨3, by omega, by omega, ?_⟩
              exact mr_no (fun N => (f1 (N + 2)).trans ((g1 (N + 1)).trans (ep_stop (N := N) (s := 5) (a := i + 1) hC hL (by decide) (by omega) (by rw [b5e, if_pos c2, if_pos (by rw [s2, s1, c3'])]))))
            · rw [if_neg c3]
              have c3' : ¬ sg tx L (i + 1 + 1) = sg tx L (i + 1) := fun q => c3 (by rw [← s2, ← s1, q])
              have g2 := fun N => ep_go (n := n) (N := N) (s := 5) (r := 6) (a := i + 1) hC hL (by decide) (by omega) (by rw [b5e, if_pos c2, if_neg c3']) (by decide)
              unfold mvS
              rw [if_pos rfl]
              show ∃ d, 1 ≤ d ∧ d ≤ 4 ∧ MvRun n H L i d (if sg tx L (i + 3) = 59 then (true, i + 4, _) else (false, i + 3, _))
              by_cases c4 : sg tx L (i + 3) = 59
              · rw [if_pos c4]
                have := sg59 c4
                exact ⟨4, by omega, by omega, mr_ok (fun N => (f1 (N + 3)).trans ((g1 (N + 2)).trans ((g2 (N + 1)).trans (ep_go (N := N) (a := i + 2) hC hL (by decide) (by omega) (b6y c4) (by decide))))) (by omega) (by omega) (fun N => (nm_go (N := N + 3) hC hL hi si59).trans ((nm_go (N := N + 2) hC hL q1 (in_59 (by decide) c1)).trans ((nm_go (N := N + 1) hC hL q2 (in_59 (by decide) c2)).trans (nm_stop (N := N) hC hL this c4))))⟩
              · rw [if_neg c4]
                exact ⟨4, by omega, by omega, mr_no (fun N => (f1 (N + 3)).trans ((g1 (N + 2)).trans ((g2 (N + 1)).trans (ep_stop (N := N) (a := i + 2) hC hL (by decide) (by omega) (b6n c4)))))⟩
          · rw [if_neg c2]
            exact ⟨3, by omega, by omega, mr_no (fun N => (f1 (N + 2)).trans ((g1 (N + 1)).trans (ep_stop (N := N) (s := 5) (a := i + 1) hC hL (by decide) (by omega) (by rw [b5e, if_neg c2]))))⟩
        · rw [if_neg c1]
          unfold mvS
          rw [if_pos rfl]
          by_cases c : sg tx L (i + 1) = 59
          · rw [if_pos c]
            have := sg59 c
            exact ⟨2, by omega, by omega, mr_ok (fun N => (f1 (N + 1)).trans (ep_go (N := N) hC hL (by decide) (by omega) (by rw [b4e, if_pos c]) (by decide))) (by omega) (by omega) (fun N => (nm_go (N := N + 1) hC hL hi si59).trans (nm_stop (N := N) hC hL this c))⟩
          · rw [if_neg c]
            exact ⟨2, by omega, by omega, mr_no (fun N => (f1 (N + 1)).trans (ep_stop (N := N) hC hL (by decide) (by omega) (by rw [b4e, if_neg c, if_neg c1])))⟩
      · have e : mvD tx L (tx i) (i + 1) = if inR (sg tx L (i + 1)) 48 51 = true then (if tx i = 120 then (if inR (sg tx L (i + 1 + 1)) 49 57 = true then (true, i + 1 + 2, tx (i + 1) - 48, tx (i + 1 + 1) - 48) else (false, i + 1 + 1, tx (i + 1) - 48, -1)) else (true, i + 1 + 1, tx (i + 1) - 48, -1)) else (false, i + 1, -1, -1) := (if_neg h112).trans (if_neg hok)
        rw [e]
        by_cases h120 : tx i = 120
        · rw [if_pos h120]
          have f1 := fun N => ep_first (n := n) (N := N) (r := 2) hC hL hi (by rw [h120]; rfl) (by decide)
          by_cases c1 : inR (sg tx L (i + 1)) 48 51 = true
          · rw [if_pos c1]
            obtain ⟨q1, s1⟩ := sg_ne (by decide) c1
            have g1 := fun N => ep_go (n := n) (N := N) (s := 2) (r := 3) hC hL (by decide) (show i + 1 ≤ L by omega) (b2y c1) (by decide)
            by_cases c2 : inR (sg tx L (i + 1 + 1)) 49 57 = true
            · rw [if_pos c2]
              obtain ⟨q2, s2⟩ := sg_ne (by decide) c2
              have g2 := fun N => ep_go (n := n) (N := N) (s := 3) (r := 6) (a := i + 1) hC hL (by decide) (by omega) (b3y c2) (by decide)
              unfold mvS
              rw [if_pos rfl]
              show ∃ d, 1 ≤ d ∧ d ≤ 4 ∧ MvRun n H L i d (if sg tx L (i + 3) = 59 then (true, i + 4, _) else (false, i + 3, _))
              by_cases c4 : sg tx L (i + 3) = 59
              · rw [if_pos c4]
                have := sg59 c4
                exact ⟨4, by omega, by omega, mr_ok (fun N => (f1 (N + 3)).trans ((g1 (N + 2)).trans ((g2 (N + 1)).trans (ep_go (N := N) (a := i + 2) hC hL (by decide) (by omega) (b6y c4) (by decide))))) (by omega) (by omega) (fun N => (nm_go (N := N + 3) hC hL hi si59).trans ((nm_go (N := N + 2) hC hL q1 (in_59 (by decide) c1)).trans ((nm_go (N := N + 1) hC hL q2 (in_59 (by decide) c2)).trans (nm_stop (N := N) hC hL this c4))))⟩
              · rw [if_neg c4]
                exact ⟨4, by omega, by omega, mr_no (fun N => (f1 (N + 3)).trans ((g1 (N + 2)).trans ((g2 (N + 1)).trans (ep_stop (N := N) (a := i + 2) hC hL (by decide) (by omega) (b6n c4)))))⟩
            · rw [if_neg c2]
              exact ⟨3, by omega, by omega, mr_no (fun N => (f1 (N + 2)).trans ((g1 (N + 1)).trans (ep_stop (N := N) (a := i + 1) hC hL (by decide) (by omega) (b3n c2))))⟩
          · rw [if_neg c1]
            exact ⟨2, by omega, by omega, mr_no (fun N => (f1 (N + 1)).trans (ep_stop (N := N) hC hL (by decide) (by omega) (b2n c1)))⟩
        · rw [if_neg h120]
          have h98 : tx i = 98 := by
            rcases hl with q | q | q | q | q
            · exact q
            · exact absurd q h120
            · exact absurd q h112
            · exact absurd (Or.inl q) hok
            · exact absurd (Or.inr q) hok
          have f1 := fun N => ep_first (n := n) (N := N) (r := 1) hC hL hi (by rw [h98]; rfl) (by decide)
          by_cases c1 : inR (sg tx L (i + 1)) 48 51 = true
          · rw [if_pos c1]
            obtain ⟨q1, s1⟩ := sg_ne (by decide) c1
            have g1 := fun N => ep_go (n := n) (N := N) (s := 1) (r := 6) hC hL (by decide) (show i + 1 ≤ L by omega) (b1y c1) (by decide)
            unfold mvS
            rw [if_pos rfl]
            show ∃ d, 1 ≤ d ∧ d ≤ 4 ∧ MvRun n H L i d (if sg tx L (i + 2) = 59 then (true, i + 3, _) else (false, i + 2, _))
            by_cases c4 : sg tx L (i + 2) = 59
            · rw [if_pos c4]
              have := sg59 c4
              exact ⟨3, by omega, by omega, mr_ok (fun N => (f1 (N + 2)).trans ((g1 (N + 1)).trans (ep_go (N := N) (a := i + 1) hC hL (by decide) (by omega) (b6y c4) (by decide)))) (by omega) (by omega) (fun N => (nm_go (N := N + 2) hC hL hi si59).trans ((nm_go (N := N + 1) hC hL q1 (in_59 (by decide) c1)).trans (nm_stop (N := N) hC hL this c4)))⟩
            · rw [if_neg c4]
              exact ⟨3, by omega, by omega, mr_no (fun N => (f1 (N + 2)).trans ((g1 (N + 1)).trans (ep_stop (N := N) (a := i + 1) hC hL (by decide) (by omega) (b6n c4))))⟩
          · rw [if_neg c1]
            exact ⟨2, by omega, by omega, mr_no (fun N => (f1 (N + 1)).trans (ep_stop (N := N) hC hL (by decide) (by omega) (b1n c1)))⟩
  · rw [show mvT tx L i = (false, i, -1, -1) from if_neg hl]
    refine ⟨1, by omega, by omega, mr_no (fun N => ?_)⟩
    rw [ep_0 hC hL hi]
    have e7 : msS (tx i) = 7 := by
      unfold msS
      rw [if_neg (fun q => hl (Or.inl q)), if_neg (fun q => hl (Or.inr (Or.inr (Or.inr (Or.inr q))))), if_neg (fun q => hl (Or.inr (Or.inr (Or.inr (Or.inl q))))), if_neg (fun q => hl (Or.inr (Or.inr (Or.inl q)))), if_neg (fun q => hl (Or.inr (Or.inl q)))]
    rw [if_pos e7]
def scan (tx : Row) (L : Nat) : Nat → Nat → Option Nat
  | 0, _ => none
  | f + 1, i => if L ≤ i then none else if (mvT tx L i).1 = true then scan tx L f (mvT tx L i).2.1 else some (mvT tx L i).2.1
theorem mvT_bd {tx : Row} {L i : Nat} (hi : i < L) : (mvT tx L i).2.1 ≤ L := by
  unfold mvT
  split
  · unfold mv mvS
    have b := (mvD_bd (tx := tx) (L := L) (p := i + 1) (l := tx i) (by omega)).2.2
    split
    · split
      · rename_i q
        exact sg59 q
      · exact b
    · exact b
  · exact Nat.le_of_lt hi
theorem scan_bd {tx : Row} {L : Nat} : ∀ f i e, scan tx L f i = some e → e ≤ L
  | 0, _, _, h => by unfold scan at h; exact absurd h (by intro q; cases q)
  | f + 1, i, e, h => by
    unfold scan at h
    by_cases c : L ≤ i
    · rw [if_pos c] at h
      cases h
    · rw [if_neg c] at h
      by_cases d : (mvT tx L i).1 = true
      · rw [if_pos d] at h
        exact scan_bd f _ e h
      · rw [if_neg d] at h
        cases h
        exact mvT_bd (by omega)
theorem ep_end {n N L : Nat} {h : zH} {st : Nat → Row} {k : Nat} {tx g : Row} {H : zH} (hC : CS h st k (Int32.ofNat L) tx g H) : zfix2 (EPF n H) (N + 1) 0 (Int32.ofNat L) = some (-1) := by
  rw [zfix2_s]
  unfold EPF
  rw [(CS_t hC).2.2.1, Option.bind_some, if_pos (Int32.le_refl _), if_pos rfl]
theorem cs_err {n L : Nat} {h : zH} {st : Nat → Row} {k : Nat} {tx g : Row} {H : zH} (hC : CS h st k (Int32.ofNat L) tx g H) (hL : L ≤ 90) : ∀ f i N, i ≤ L → L - i < f → L - i + 4 < N → zfix2 (EPF n H) N 0 (Int32.ofNat i) = some (match scan tx L f i with | none => -1 | some e => Int32.ofNat e)
  | 0, _, _, _, hf, _ => absurd hf (by omega)
  | f + 1, i, N, hi, hf, hN => by
    unfold scan
    by_cases c : L ≤ i
    · obtain ⟨M, rfl⟩ : ∃ M, N = M + 1 := ⟨N - 1, by omega⟩
      rw [if_pos c, show i = L by omega, ep_end hC]
    · rw [if_neg c]
      obtain ⟨d, d1, d4, r1, r2⟩ := mv_run (n := n) hC hL (show i < L by omega)
      obtain ⟨M, rfl⟩ : ∃ M, N = M + d := ⟨N - d, by omega⟩
      rw [r1 M]
      by_cases ok : (mvT tx L i).1 = true
      · obtain ⟨q1, q2, q3, _⟩ := r2 ok
        rw [if_pos ok, if_pos ok, q1]
        exact cs_err hC hL f (i + d) M q3 (by omega) (by omega)
      · rw [if_neg ok, if_neg ok]
def PF10 (n : Nat) : (zH → Option (Int32 × zH)) → zH → Option (Int32 × zH) := fun rec10 h10 => (zgI h10 123 6 12).bind fun (v11 : Int32) => (zgI h10 123 6 4).bind fun (v15 : Int32) => if v15 ≤ v11 then (zrc h10 123 6 <| (f_X6_saves n 123 h10).bind fun (h37 : zH) => (zp h37 123 6 12 (.int (0 : Int32))).bind fun (h42 : zH) => L_X6_play_47 n 123 (0 : Int32) h42) else (zrc h10 123 6 <| zb2 (f_X6_takesMove n 123 h10) fun (r22 : Int32) (h22 : zH) => if r22 = 0 then ((zgI h22 123 6 12).bind fun (v31 : Int32) => some (((-10 : Int32) - v31), h22)) else (rec10 h22))
theorem e_P10 {n : Nat} {h : zH} : L_X6_play_10 n 123 h = zfix1 (PF10 n) n h := rfl
def plRest (n : Nat) (h10 : zH) : Option (Int32 × zH) := (f_X6_saves n 123 h10).bind fun (h37 : zH) => (zp h37 123 6 12 (.int (0 : Int32))).bind fun (h42 : zH) => L_X6_play_47 n 123 (0 : Int32) h42
theorem u_err {n L : Nat} {h : zH} {m pp tx : Row} {hs : Int64} (hL : L ≤ 90) : ∀ f i N (w : Row), w 25 = Int32.ofNat i → w 21 = Int32.ofNat L → L - i < f → L - i < N → (∀ j, j < L → (mvT tx L j).1 = true → j < (mvT tx L j).2.1) → i ≤ L → ∃ w', zfix1 (PF10 n) N (mput h m pp tx w hs) = (match scan tx L f i with | none => plRest n (mput h m pp tx w' hs) | some e => some ((-10 : Int32) - Int32.ofNat e, mput h m pp tx w' hs)) ∧ w' 20 = w 20 ∧ w' 21 = w 21 ∧ w' 22 = w 22
  | 0, _, _, _, _, _, hf, _, _, _ => absurd hf (by omega)
  | f + 1, i, N, w, w25, w21, hf, hN, hup, hi => by
    obtain ⟨M, rfl⟩ : ∃ M, N = M + 1 := ⟨N - 1, by omega⟩
    have e : (Int32.ofNat L ≤ Int32.ofNat i) = (L ≤ i) := i32_le_of (by omega) (by omega)
    rw [zfix1_s]
    unfold scan
    by_cases c : L ≤ i
    · refine ⟨w, ?_, rfl, rfl, rfl⟩
      unfold PF10
      rw [mgI_12, Option.bind_some, mgI_4, Option.bind_some, w25, w21, if_pos (by rw [e]; exact c), if_pos c, mgK]
      rfl
    · obtain ⟨w1, e1, t25, _, _, _, t20, t21, t22⟩ := u_takesMove (n := n) (h := h) (m := m) (pp := pp) (hs := hs) hL (show i < L by omega) w25 w21
      have step : PF10 n (zfix1 (PF10 n) M) (mput h m pp tx w hs) = if (mvT tx L i).1 = true then zfix1 (PF10 n) M (mput h m pp tx w1 hs) else some ((-10 : Int32) - Int32.ofNat (mvT tx L i).2.1, mput h m pp tx w1 hs) := by
        rw [show PF10 n (zfix1 (PF10 n) M) (mput h m pp tx w hs) = ((zgI (mput h m pp tx w hs) 123 6 12).bind fun (v11 : Int32) => (zgI (mput h m pp tx w hs) 123 6 4).bind fun (v15 : Int32) => if v15 ≤ v11 then (zrc (mput h m pp tx w hs) 123 6 <| (f_X6_saves n 123 (mput h m pp tx w hs)).bind fun (h37 : zH) => (zp h37 123 6 12 (.int (0 : Int32))).bind fun (h42 : zH) => L_X6_play_47 n 123 (0 : Int32) h42) else (zrc (mput h m pp tx w hs) 123 6 <| zb2 (f_X6_takesMove n 123 (mput h m pp tx w hs)) fun (r22 : Int32) (h22 : zH) => if r22 = 0 then ((zgI h22 123 6 12).bind fun (v31 : Int32) => some (((-10 : Int32) - v31), h22)) else (zfix1 (PF10 n) M h22))) from rfl]
        rw [mgI_12, Option.bind_some, mgI_4, Option.bind_some, w25, w21, if_neg (by rw [e]; exact c), mgK, e1, zb2_s]
        by_cases ok : (mvT tx L i).1 = true
        · rw [if_pos ok, if_pos ok, if_neg (by decide)]
        · rw [if_neg ok, if_neg ok, if_pos rfl, mgI_12, Option.bind_some, t25]
      rw [step, if_neg c]
      by_cases ok : (mvT tx L i).1 = true
      · have hu := hup i (by omega) ok
        obtain ⟨w2, e2, a1, a2, a3⟩ := u_err hL f (mvT tx L i).2.1 M w1 t25 (t21.trans w21) (by omega) (by omega) hup (mvT_bd (by omega))
        rw [if_pos ok, if_pos ok]
        exact ⟨w2, e2, by rw [a1, t20], by rw [a2, t21], by rw [a3, t22]⟩
      · rw [if_neg ok, if_neg ok]
        exact ⟨w1, rfl, t20, t21, t22⟩
theorem in_num {x : Int32} {a b : Nat} (hb : b < 599) (h : inR x (Int32.ofNat a) (Int32.ofNat b) = true) (ha : a ≤ b) : ∃ c, a ≤ c ∧ c ≤ b ∧ x = Int32.ofNat c := by
  obtain ⟨h1, h2⟩ := of_decide_eq_true h
  have hv : vp_in x (b + 1) := by
    refine Classical.byContradiction fun q => ?_
    rcases vp_no (by omega) q with c | c
    · refine h1 ?_
      rw [Int32.lt_iff_toInt_lt] at c ⊢
      rw [Int32.toInt_ofNat_of_lt (by omega)]
      have e0 : (0 : Int32).toInt = 0 := rfl
      omega
    · refine h2 ?_
      rw [Int32.le_iff_toInt_le, Int32.toInt_ofNat_of_lt (by omega)] at c
      rw [Int32.lt_iff_toInt_lt, Int32.toInt_ofNat_of_lt (by omega)]
      omega
  obtain ⟨i, hi, rfl⟩ := vp_ex hv
  refine ⟨i, Nat.le_of_not_lt fun q => h1 ?_, by omega, rfl⟩
  rw [i32_lt_of (by omega) (by omega)]
  exact q
theorem dg_num {tx : Row} {L p c : Nat} (h : sg tx L p = Int32.ofNat c) (h1 : 48 ≤ c) (h2 : c ≤ 57) : dgS tx L p = Int32.ofNat (c - 48) := by
  unfold dgS
  have e : inR (sg tx L p) 48 57 = true := by
    rw [h]
    refine decide_eq_true ⟨fun q => ?_, fun q => ?_⟩
    · rw [show (48 : Int32) = Int32.ofNat 48 from rfl, i32_lt_of (by omega) (by omega)] at q
      omega
    · rw [show (57 : Int32) = Int32.ofNat 57 from rfl, i32_lt_of (by omega) (by omega)] at q
      omega
  rw [if_pos e, h, show (48 : Int32) = Int32.ofNat 48 from rfl, i32_subm h1]
theorem dig_of {tx : Row} {L p a b : Nat} (h : inR (sg tx L p) (Int32.ofNat a) (Int32.ofNat b) = true) (ha : 48 ≤ a) (hab : a ≤ b) (hb : b ≤ 57) : ∃ c, a - 48 ≤ c ∧ c ≤ b - 48 ∧ tx p - 48 = Int32.ofNat c ∧ dgS tx L p = Int32.ofNat c := by
  obtain ⟨c, c1, c2, e⟩ := in_num (by omega) h hab
  have hlt : (-1 : Int32) < Int32.ofNat a := by
    rw [Int32.lt_iff_toInt_lt, Int32.toInt_ofNat_of_lt (by omega)]
    have e0 : (-1 : Int32).toInt = -1 := rfl
    omega
  have es := (sg_ne hlt h).2
  refine ⟨c - 48, by omega, by omega, ?_, dg_num e (by omega) (by omega)⟩
  rw [← es, e, show (48 : Int32) = Int32.ofNat 48 from rfl, i32_subm (by omega)]
theorem dg_no {tx : Row} {L p : Nat} (h : ¬ inR (sg tx L p) 48 57 = true) : dgS tx L p = -1 := if_neg h
theorem dg_let {tx : Row} {L p : Nat} (h : L ≤ p ∨ (tx p = 98 ∨ tx p = 120 ∨ tx p = 112 ∨ tx p = 111 ∨ tx p = 107)) : dgS tx L p = -1 := by
  refine dg_no fun q => ?_
  rcases h with c | c
  · have e : sg tx L p = -1 := if_neg (by omega)
    rw [e] at q
    revert q
    decide
  · obtain ⟨q1, q2⟩ := sg_ne (by decide) q
    rw [q2] at q
    rcases c with c | c | c | c | c <;> (rw [c] at q; revert q; decide)
def MvKind (tx : Row) (L i : Nat) (r : Bool × Nat × Int32 × Int32) : Prop :=
  (tx i = 112 ∧ r.2.2 = (-1, -1)) ∨
  (tx i = 98 ∧ ∃ c, c < 4 ∧ r.2.2.1 = Int32.ofNat c ∧ dgS tx L (i + 1) = Int32.ofNat c) ∨
  (tx i = 120 ∧ ∃ c a, c < 4 ∧ 1 ≤ a ∧ a ≤ 9 ∧ r.2.2 = (Int32.ofNat c, Int32.ofNat a) ∧ dgS tx L (i + 1) = Int32.ofNat c ∧ dgS tx L (i + 2) = Int32.ofNat a) ∨
  ((tx i = 111 ∨ tx i = 107) ∧ ((∃ x y, x < 8 ∧ y < 8 ∧ x ≠ y ∧ r.2.2 = (Int32.ofNat x, Int32.ofNat y) ∧ dgS tx L (i + 1) = Int32.ofNat x ∧ dgS tx L (i + 2) = Int32.ofNat y) ∨ (r.2.2 = (-1, -1) ∧ dgS tx L (i + 1) = -1 ∧ r.2.1 = i + 2)))
theorem mvS_ok {tx : Row} {L : Nat} {r : Bool × Nat × Int32 × Int32} (h : (mvS tx L r).1 = true) : r.1 = true ∧ sg tx L r.2.1 = 59 ∧ (mvS tx L r).2 = (r.2.1 + 1, r.2.2) := by
  unfold mvS at h ⊢
  by_cases c : r.1 = true
  · rw [if_pos c] at h ⊢
    by_cases d : sg tx L r.2.1 = 59
    · rw [if_pos d]
      exact ⟨c, d, rfl⟩
    · rw [if_neg d] at h
      exact absurd h (show ¬ false = true by decide)
  · rw [if_neg c] at h
    exact absurd h c
theorem mv_kind {tx : Row} {L i : Nat} (h : (mvT tx L i).1 = true) : MvKind tx L i (mvT tx L i) := by
  by_cases hl : tx i = 98 ∨ tx i = 120 ∨ tx i = 112 ∨ tx i = 111 ∨ tx i = 107
  · have em : mvT tx L i = mvS tx L (mvD tx L (tx i) (i + 1)) := if_pos hl
    rw [em] at h ⊢
    obtain ⟨k1, k2, k3⟩ := mvS_ok h
    unfold MvKind
    rw [k3]
    by_cases h112 : tx i = 112
    · have e : mvD tx L (tx i) (i + 1) = (true, i + 1, -1, -1) := if_pos h112
      rw [e]
      exact Or.inl ⟨h112, rfl⟩
    · by_cases hok : tx i = 111 ∨ tx i = 107
      · refine Or.inr (Or.inr (Or.inr ⟨hok, ?_⟩))
        have e : mvD tx L (tx i) (i + 1) = if inR (sg tx L (i + 1)) 48 55 = true then (if inR (sg tx L (i + 1 + 1)) 48 55 = true then (if tx (i + 1 + 1) - 48 = tx (i + 1) - 48 then (false, i + 1 + 1, tx (i + 1) - 48, -1) else (true, i + 1 + 2, tx (i + 1) - 48, tx (i + 1 + 1) - 48)) else (false, i + 1 + 1, tx (i + 1) - 48, -1)) else (true, i + 1, -1, -1) := (if_neg h112).trans (if_pos hok)
        rw [e] at k1 k2 ⊢
        by_cases c1 : inR (sg tx L (i + 1)) 48 55 = true
        · rw [if_pos c1] at k1 k2 ⊢
          by_cases c2 : inR (sg tx L (i + 1 + 1)) 48 55 = true
          · rw [if_pos c2] at k1 k2 ⊢
            by_cases c3 : tx (i + 1 + 1) - 48 = tx (i + 1) - 48
            · rw [if_pos c3] at k1
              exact absurd k1 (show ¬ false = true by decide)
            · rw [if_neg c3] at k2 ⊢
              obtain ⟨x, x1, x2, x3, x4⟩ := dig_of (a := 48) (b := 55) c1 (by omega) (by omega) (by omega)
              obtain ⟨y, y1, y2, y3, y4⟩ := dig_of (a := 48) (b := 55) c2 (by omega) (by omega) (by omega)
              refine Or.inl ⟨x, y, by omega, by omega, fun q => c3 (by rw [x3, y3, q]), ?_, x4, y4⟩
              show (tx (i + 1) - 48, tx (i + 1 + 1) - 48) = _
              rw [x3, y3]
          · rw [if_neg c2] at k1
            exact absurd k1 (show ¬ false = true by decide)
        · rw [if_neg c1] at k1 k2 ⊢
          refine Or.inr ⟨rfl, dg_no fun q => ?_, rfl⟩
          have k2' : sg tx L (i + 1) = 59 := k2
          rw [k2'] at q
          revert q
          decide
      · have e : mvD tx L (tx i) (i + 1) = if inR (sg tx L (i + 1)) 48 51 = true then (if tx i = 120 then (if inR (sg tx L (i + 1 + 1)) 49 57 = true then (true, i + 1 + 2, tx (i + 1) - 48, tx (i + 1 + 1) - 48) else (false, i + 1 + 1, tx (i + 1) - 48, -1)) else (true, i + 1 + 1, tx (i + 1) - 48, -1)) else (false, i + 1, -1, -1) := (if_neg h112).trans (if_neg hok)
        rw [e] at k1 k2 ⊢
        by_cases c1 : inR (sg tx L (i + 1)) 48 51 = true
        · rw [if_pos c1] at k1 k2 ⊢
          obtain ⟨x, x1, x2, x3, x4⟩ := dig_of (a := 48) (b := 51) c1 (by omega) (by omega) (by omega)
          by_cases h120 : tx i = 120
          · rw [if_pos h120] at k1 k2 ⊢
            by_cases c2 : inR (sg tx L (i + 1 + 1)) 49 57 = true
            · rw [if_pos c2] at k1 k2 ⊢
              obtain ⟨y, y1, y2, y3, y4⟩ := dig_of (a := 49) (b := 57) c2 (by omega) (by omega) (by omega)
              refine Or.inr (Or.inr (Or.inl ⟨h120, x, y, by omega, by omega, by omega, ?_, x4, y4⟩))
              show (tx (i + 1) - 48, tx (i + 1 + 1) - 48) = _
              rw [x3, y3]
            · rw [if_neg c2] at k1
              exact absurd k1 (show ¬ false = true by decide)
          · rw [if_neg h120] at k1 k2 ⊢
            have h98 : tx i = 98 := by
              rcases hl with q | q | q | q | q
              · exact q
              · exact absurd q h120
              · exact absurd q h112
              · exact absurd (Or.inl q) hok
              · exact absurd (Or.inr q) hok
            exact Or.inr (Or.inl ⟨h98, x, by omega, x3, x4⟩)
        · rw [if_neg c1] at k1
          exact absurd k1 (show ¬ false = true by decide)
  · have e : mvT tx L i = (false, i, -1, -1) := if_neg hl
    rw [e] at h
    exact absurd h (show ¬ false = true by decide)
theorem scan_let {tx : Row} {L f i : Nat} (hf : 0 < f) (h : scan tx L f i = none) : L ≤ i ∨ (tx i = 98 ∨ tx i = 120 ∨ tx i = 112 ∨ tx i = 111 ∨ tx i = 107) := by
  obtain ⟨f, rfl⟩ : ∃ k, f = k + 1 := ⟨f - 1, by omega⟩
  unfold scan at h
  by_cases c : L ≤ i
  · exact Or.inl c
  · rw [if_neg c] at h
    refine Or.inr (Classical.byContradiction fun q => ?_)
    have e : mvT tx L i = (false, i, -1, -1) := if_neg q
    rw [e, if_neg (show ¬ false = true by decide)] at h
    cases h
def St (B mm : Nat) (g m : Row) : Prop := WF g mm ∧ MonZ g mm B ∧ AgW mm g m
def OpRun (n B mm : Nat) (x y z : Int32) (g m : Row) : Prop := ∃ X g' m', X ≤ 475 ∧ St (B + 1) mm g' m' ∧ (∀ h0 H3, Cur h0 5 g H3 → ∃ H4, f_X1_operateNext n 5 x y z H3 = some (Int32.ofNat X, H4) ∧ Cur h0 5 g' H4) ∧ ∀ h pp tx w hs, ∃ w', f_X6_operates n 123 x y z (mput h m pp tx w hs) = some (Int32.ofNat X, mput h m' pp tx w' hs) ∧ sameW w w'
theorem op_core0 {n B mm : Nat} {x y z : Int32} {g m : Row} {H h0 : zH} (hn : 50000 ≤ n) (hB : B ≤ 100000) (hS : St B mm g m) (hcur : Cur h0 5 g H) (hx : x = -1) (hy : y = -1) : (f_X1_canOperate n 5 x y H = some (0, H) ∧ ∀ h pp tx w hs, f_X6_canOperate n 123 x y (mput h m pp tx w hs) = some 0) ∨ (f_X1_canOperate n 5 x y H = some (1, H) ∧ (∀ h pp tx w hs, f_X6_canOperate n 123 x y (mput h m pp tx w hs) = some 1) ∧ OpRun n B mm x y z g m) := by
  obtain ⟨hWF, hM, hA⟩ := hS
  have hWm := WF_ag hA hWF
  have hm4 := hWF.1.2.1
  have z1 : ¬ (1 : Int32) = 0 := by decide
  have enc := ag_nextC hWF hA
  have nok := NextOk_of hWF
  obtain ⟨len, hl, h9, hA'⟩ := id hA
  have hpa := CoW_pa hm4 hWF.2.2.1
  have hMm : MonW m mm B := MonW_ag hm4 hA hM.1
  have hL := ag_land dead_ok hA'
  have a3 : m 3 = g 3 := (ag0 dead_ok hA' (by omega) (by omega)).symm
  obtain ⟨h', hput, hcu⟩ := Cur_mk hcur
  have e := p_nextCompany (n := n) (h := h') (b := 5) nok.1
  rw [← hput] at e
  have k5 : ∀ {β : Type} (o : Option β), zrc H 5 1 o = o := fun o => by rw [hput]; exact gK_0
  rcases next_co hWF with ⟨h3, hnc⟩ | ⟨h3, c, home, S, hc, hnc, oc, hco, hS2⟩
  · refine Or.inl ⟨?_, fun h pp tx w hs => ?_⟩
    · unfold f_X1_canOperate
      rw [k5, e, hnc, Option.bind_some, if_pos rfl]
    · rw [u_canOperate0 hx, a3, if_pos h3]
  · have mco : CoOk m c home S := CoOk_congr (ag0 dead_ok hA' (by omega) (by omega)).symm (ag0 dead_ok hA' (by omega) (by omega)).symm hco
    have h3n : ¬ g 3 = 0 := by rw [h3]; decide
    have m3 : m 3 = 1 := by rw [a3, h3]
    have mnc : nextC m = Int32.ofNat c := by rw [← enc, hnc]
    obtain ⟨X, hX, eX⟩ := inc_num hc hco hWF.2.2.2.2.2.2
    have eX' : incS m home S = Int32.ofNat X := by rw [← inc_congr hL, eX]
    obtain ⟨a1, a2⟩ := ag_rEarn (pays := decide (z ≠ 0)) dead_ok hA' hWF hM.1 hB hc oc hco hX
    obtain ⟨q1, q2, q3⟩ := earn_wf (pays := decide (z ≠ 0)) hWF hM.1 hB h3 hc hnc hco hX hM.2
    refine Or.inr ⟨?_, fun h pp tx w hs => ?_, X, rEarn g mm c (Int32.ofNat X) (decide (z ≠ 0)), rEarn m mm c (Int32.ofNat X) (decide (z ≠ 0)), hX, ⟨q1, ⟨q2, q3⟩, AgW_of hl (by rw [a2, h9]) a1⟩, fun h1 H3 hcu3 => ?_, fun h pp tx w hs => ?_⟩
    · unfold f_X1_canOperate
      rw [k5, e, hnc, Option.bind_some, if_neg (ofNat_ne_neg (by omega))]
      simp only [zlet, if_pos hx, if_pos hy, if_true]
    · rw [u_canOperate0 hx, a3, if_neg h3n]
    · rw [hx, hy, ← eX]
      exact p_operateNext0 (by omega) (Nat.le_refl 5) hc hWF.2.2.2.1 hco hpa hWF.1.2.2.1 hm4 nok hnc hcu3
    · rw [← eX']
      exact u_operates0 hx hn hWm hMm hB m3 hc mnc mco
theorem op_core1 {n B mm i j : Nat} {z : Int32} {g m : Row} {H h0 : zH} (hn : 50000 ≤ n) (hB : B ≤ 100000) (hS : St B mm g m) (hcur : Cur h0 5 g H) (hi : i < 8) (hj : j < 8) : (∃ H', f_X1_canOperate n 5 (Int32.ofNat i) (Int32.ofNat j) H = some (0, H') ∧ Cur h0 5 g H' ∧ ∀ h pp tx w hs, f_X6_canOperate n 123 (Int32.ofNat i) (Int32.ofNat j) (mput h m pp tx w hs) = some 0) ∨ (∃ H', f_X1_canOperate n 5 (Int32.ofNat i) (Int32.ofNat j) H = some (1, H') ∧ Cur h0 5 g H' ∧ (∀ h pp tx w hs, f_X6_canOperate n 123 (Int32.ofNat i) (Int32.ofNat j) (mput h m pp tx w hs) = some 1) ∧ OpRun n B mm (Int32.ofNat i) (Int32.ofNat j) z g m) := by
  obtain ⟨hWF, hM, hA⟩ := hS
  have hWm := WF_ag hA hWF
  have hm4 := hWF.1.2.1
  have z1 : ¬ (1 : Int32) = 0 := by decide
  have enc := ag_nextC hWF hA
  have nok := NextOk_of hWF
  obtain ⟨len, hl, h9, hA'⟩ := id hA
  have hpa := CoW_pa hm4 hWF.2.2.1
  have hMm : MonW m mm B := MonW_ag hm4 hA hM.1
  have hL := ag_land dead_ok hA'
  have a3 : m 3 = g 3 := (ag0 dead_ok hA' (by omega) (by omega)).symm
  obtain ⟨k1, k2⟩ := p_canOp (n := n) (x1 := 0) (by omega) nok hi hj hcur
  rcases next_co hWF with ⟨h3, hnc⟩ | ⟨h3, c, home, S, hc, hnc, oc, hco, hS2⟩
  · exact Or.inl ⟨H, k1 hnc, hcur, fun h pp tx w hs => u_canOperate_stock (by rw [a3, h3])⟩
  · have mco : CoOk m c home S := CoOk_congr (ag0 dead_ok hA' (by omega) (by omega)).symm (ag0 dead_ok hA' (by omega) (by omega)).symm hco
    have m3 : m 3 = 1 := by rw [a3, h3]
    have mnc : nextC m = Int32.ofNat c := by rw [← enc, hnc]
    have lc := lay_congr (c := c) (home := home) hi hj hL (ag0 dead_ok hA' (show 36 + 7 * c < 134 by omega) (by omega))
    have ucan := fun h pp tx w hs => u_canOperate1 (n := n) (h := h) (pp := pp) (tx := tx) (w := w) (hs := hs) (by omega) hWm.2.1 m3 hc mnc mco hi hj
    rw [← lc] at ucan
    obtain ⟨H2, hcu2, e2⟩ := k2 c home S hc hnc hco
    by_cases hlay : layB g c home i j = true
    · rw [if_pos hlay] at e2 ucan
      obtain ⟨tw, tm⟩ := track_wf hWF hM.1 hc hi hj hB hlay
      have tz := zw_track oc hc hi hj hM.2
      have at' := ag_rTrack dead_ok hA' hc hi hj
      have ne : ∀ k, k ≠ 6 → k ≠ 36 + 7 * c → k < 62 → rTrack g c i j k = g k := fun k a b d => by
        unfold rTrack
        rw [rCPay_ne b a, rLev_ne hi hj (Or.inl d)]
      have t3 : rTrack g c i j 3 = 1 := by rw [ne 3 (by omega) (by omega) (by omega), h3]
      have hpl : ∃ pl, pl < 4 ∧ g 4 = Int32.ofNat pl := by
        obtain ⟨_, ⟨len, pl, o, hl, hpl, e9, e4, ho, hop⟩, _⟩ := hWF
        exact ⟨pl, by have := (hop h3).1; omega, e4⟩
      have tnc : nextC (rTrack g c i j) = Int32.ofNat c := by
        rw [nextC_congr (ne 3 (by omega) (by omega) (by omega)) (ne 9 (by omega) (by omega) (by omega)) (ne 4 (by omega) (by omega) (by omega)) (fun k hk => ne _ (by omega) (by omega) (by omega)) hpl, hnc]
      have tco : CoOk (rTrack g c i j) c home S := CoOk_congr (ne _ (by omega) (by omega) (by omega)) (ne _ (by omega) (by omega) (by omega)) hco
      have toc : rTrack g c i j (34 + 7 * c) = 1 := by rw [ne _ (by omega) (by omega) (by omega), oc]
      obtain ⟨X, hX, eX⟩ := inc_num hc tco tw.2.2.2.2.2.2
      have eX' : incS (rTrack m c i j) home S = Int32.ofNat X := by rw [← inc_congr (ag_land dead_ok at'), eX]
      obtain ⟨a1, a2⟩ := ag_rEarn (pays := decide (z ≠ 0)) dead_ok at' tw tm hB hc toc tco hX
      obtain ⟨q1, q2, q3⟩ := earn_wf (pays := decide (z ≠ 0)) tw tm hB t3 hc tnc tco hX tz
      refine Or.inr ⟨H2, e2, hcu2, ucan, X, rEarn (rTrack g c i j) mm c (Int32.ofNat X) (decide (z ≠ 0)), rEarn (rTrack m c i j) mm c (Int32.ofNat X) (decide (z ≠ 0)), hX, ⟨q1, ⟨q2, q3⟩, AgW_of hl (by rw [a2, ne 9 (by omega) (by omega) (by omega), h9]) a1⟩, fun h1 H3 hcu3 => ?_, fun h pp tx w hs => ?_⟩
      · rw [← eX]
        exact p_operateNext1 (by omega) (Nat.le_refl 5) hc hi hj hWF.2.2.2.1 hco hpa hWF.1.2.2.1 hm4 nok hnc hcu3
      · rw [← eX']
        exact u_operates1 hn hWm hMm hB m3 hc hi hj mnc mco (by rw [← lc]; exact hlay)
    · rw [if_neg hlay] at e2 ucan
      exact Or.inl ⟨H2, e2, hcu2, ucan⟩
def mkB (n : Nat) (r5 r16 r27 : Int32) (h : zH) : Option (Int32 × zH) := if r5 = 98 then ((f_X5_isCompany n r16 h).bind fun (r85 : Int32) => if r85 = 0 then (some ((0 : Int32), h)) else ((zgR h 0 5 0).bind fun (v92 : Nat) => zrc h v92 1 <| (f_X1_canBuy n v92 r16 h).bind fun (r96 : Int32) => if r96 = 0 then (some ((0 : Int32), h)) else ((zgR h 0 5 0).bind fun (v105 : Nat) => zrc h v105 1 <| zb2 (f_X1_buyShare n v105 r16 h) fun (r109 : Int32) (h109 : zH) => some ((1 : Int32), h109)))) else if r5 = 107 then ((zgR h 0 5 0).bind fun (v178 : Nat) => zrc h v178 1 <| zb2 (f_X1_canOperate n v178 r16 r27 h) fun (r184 : Int32) (h184 : zH) => if r184 = 0 then (some ((0 : Int32), h184)) else ((zgR h184 0 5 0).bind fun (v193 : Nat) => zlet (fun (s0_210 : Int32) => zrc h184 v193 1 <| zb2 (f_X1_operateNext n v193 r16 r27 s0_210 h184) fun (r210 : Int32) (h210 : zH) => some ((1 : Int32), h210)) fun K210 => if r5 = (111 : Int32) then (K210 (1 : Int32)) else (K210 (0 : Int32)))) else if r5 = 111 then ((zgR h 0 5 0).bind fun (v178_1 : Nat) => zrc h v178_1 1 <| zb2 (f_X1_canOperate n v178_1 r16 r27 h) fun (r184_1 : Int32) (h184_1 : zH) => if r184_1 = 0 then (some ((0 : Int32), h184_1)) else ((zgR h184_1 0 5 0).bind fun (v193_1 : Nat) => zlet (fun (s0_210_1 : Int32) => zrc h184_1 v193_1 1 <| zb2 (f_X1_operateNext n v193_1 r16 r27 s0_210_1 h184_1) fun (r210_1 : Int32) (h210_1 : zH) => some ((1 : Int32), h210_1)) fun K210_1 => if r5 = (111 : Int32) then (K210_1 (1 : Int32)) else (K210_1 (0 : Int32)))) else if r5 = 112 then ((zgR h 0 5 0).bind fun (v157 : Nat) => (zgI h v157 1 11).bind fun (v160 : Int32) => if v160 = 0 then ((zgR h 0 5 0).bind fun (v169 : Nat) => zrc h v169 1 <| (f_X1_passTurn n v169 h).bind fun (h172 : zH) => some ((1 : Int32), h172)) else (some ((0 : Int32), h))) else if r5 = 120 then ((f_X5_isCompany n r16 h).bind fun (r116 : Int32) => if r116 = 0 then (some ((0 : Int32), h)) else ((zgR h 0 5 0).bind fun (v123 : Nat) => zrc h v123 1 <| (f_X1_canSell n v123 r16 r27 h).bind fun (r129 : Int32) => if r129 = 0 then (some ((0 : Int32), h)) else ((zgR h 0 5 0).bind fun (v138 : Nat) => (zgR h 0 5 0).bind fun (v142 : Nat) => (zgI h v142 1 9).bind fun (v145 : Int32) => zrc h v138 1 <| (f_X1_sellShares n v138 v145 r16 r27 h).bind fun (h151 : zH) => some ((1 : Int32), h151)))) else (some ((0 : Int32), h))
theorem e_make {n L i : Nat} {h : zH} {st : Nat → Row} {k : Nat} {tx g : Row} {H : zH} (hC : CS h st k (Int32.ofNat L) tx g H) (hL : L ≤ 90) (hi : i < L) : f_X5_makeMove n 0 (Int32.ofNat i) H = mkB n (tx i) (dgS tx L (i + 1)) (dgS tx L (i + 2)) H := by
  unfold f_X5_makeMove
  rw [(CS_2 hC).2.1, Option.bind_some, (CS_t hC).1, cs_sign hC hL (by omega), Option.bind_some, Option.bind_some, (CS_t hC).1, i32_succ, cs_digit hC hL (by omega), Option.bind_some, Option.bind_some, (CS_t hC).1, show Int32.ofNat i + 2 = Int32.ofNat (i + 2) from (Int32.ofNat_add i 2).symm, cs_digit hC hL (by omega), Option.bind_some, show sg tx L i = tx i from if_pos hi]
  rfl
def MkOut (n B mm : Nat) (b : zH) (st : Nat → Row) (k L : Nat) (tx g m : Row) (pos : Int32) (H : zH) (l one other : Int32) : Prop :=
  (∃ H', f_X5_makeMove n 0 pos H = some (0, H') ∧ CS b st k (Int32.ofNat L) tx g H' ∧ ∀ Hb pp tx w hs, w 26 = l → w 27 = one → w 28 = other → f_X6_makes n 123 (mput Hb m pp tx w hs) = some (0, mput Hb m pp tx w hs)) ∨
  (∃ H' g' m', f_X5_makeMove n 0 pos H = some (1, H') ∧ CS b st k (Int32.ofNat L) tx g' H' ∧ St (B + 1) mm g' m' ∧ ∀ Hb pp tx w hs, w 26 = l → w 27 = one → w 28 = other → ∃ w', f_X6_makes n 123 (mput Hb m pp tx w hs) = some (1, mput Hb m' pp tx w' hs) ∧ sameW w w')
def mkS (n : Nat) (h : zH) (s : Int32) : Option (Int32 × zH) := if s = 0 then ((zB s).bind fun _ => some (s, h)) else ((zgI h 123 6 13).bind fun (v78 : Int32) => zlet (fun (s0_163 : Int32) (h163 : zH) => zlet (fun (s0_173 : Int32) => (zB s0_173).bind fun _ => some (s0_173, h163)) fun K173 => if s0_163 < 0 then (K173 (0 : Int32)) else (K173 (1 : Int32))) fun K163 => if v78 = (112 : Int32) then (zrc h 123 6 <| zb2 (f_X6_passes n 123 h) fun (r87 : Int32) (h87 : zH) => K163 r87 h87) else ((zgI h 123 6 13).bind fun (v94 : Int32) => if v94 = (98 : Int32) then ((zgI h 123 6 14).bind fun (v104 : Int32) => zrc h 123 6 <| zb2 (f_X6_buys n 123 v104 h) fun (r107 : Int32) (h107 : zH) => K163 r107 h107) else ((zgI h 123 6 13).bind fun (v114 : Int32) => if v114 = (120 : Int32) then ((zgI h 123 6 14).bind fun (v124 : Int32) => (zgI h 123 6 15).bind fun (v128 : Int32) => zrc h 123 6 <| zb2 (f_X6_sells n 123 v124 v128 h) fun (r131 : Int32) (h131 : zH) => K163 r131 h131) else ((zgI h 123 6 14).bind fun (v139 : Int32) => (zgI h 123 6 15).bind fun (v143 : Int32) => (zgI h 123 6 13).bind fun (v147 : Int32) => zlet (fun (s0_160 : Int32) => zrc h 123 6 <| zb2 (f_X6_operates n 123 v139 v143 s0_160 h) fun (r160 : Int32) (h160 : zH) => K163 r160 h160) fun K160 => if v147 = (111 : Int32) then (K160 (1 : Int32)) else (K160 (0 : Int32))))))
theorem e_makes {n : Nat} {h : zH} : f_X6_makes n 123 h = ((zgI h 123 6 13).bind fun (v1 : Int32) => if v1 = (112 : Int32) then (zrc h 123 6 <| (f_X6_isStock n 123 h).bind fun (r10 : Int32) => mkS n h r10) else ((zgI h 123 6 13).bind fun (v17 : Int32) => if v17 = (98 : Int32) then ((zgI h 123 6 14).bind fun (v27 : Int32) => zrc h 123 6 <| (f_X6_canBuy n 123 v27 h).bind fun (r30 : Int32) => mkS n h r30) else ((zgI h 123 6 13).bind fun (v37 : Int32) => if v37 = (120 : Int32) then ((zgI h 123 6 14).bind fun (v47 : Int32) => (zgI h 123 6 15).bind fun (v51 : Int32) => zrc h 123 6 <| (f_X6_canSell n 123 v47 v51 h).bind fun (r54 : Int32) => mkS n h r54) else ((zgI h 123 6 14).bind fun (v62 : Int32) => (zgI h 123 6 15).bind fun (v66 : Int32) => zrc h 123 6 <| (f_X6_canOperate n 123 v62 v66 h).bind fun (r69 : Int32) => mkS n h r69)))) := rfl
theorem mkS_0 {n : Nat} {h : zH} : mkS n h 0 = some (0, h) := by
  unfold mkS
  rw [if_pos rfl, zB01 (Or.inl rfl), Option.bind_some]
theorem k163 {r : Int32} {h : zH} (hr : ¬ r < 0) : (if r < 0 then ((zB 0).bind fun _ => some ((0 : Int32), h)) else ((zB 1).bind fun _ => some ((1 : Int32), h))) = some (1, h) := by
  rw [if_neg hr, zB01 (Or.inr rfl), Option.bind_some]
theorem nn_neg {k : Nat} (hk : k < 599) : ¬ Int32.ofNat k < 0 := fun q => in_of (show k < k + 1 by omega) (show k + 1 < 600 by omega) (Or.inl q)
theorem nn_big {k : Nat} (hk : k < 2147483648) : ¬ Int32.ofNat k < 0 := fun q => by
  rw [Int32.lt_iff_toInt_lt, Int32.toInt_ofNat_of_lt (by omega)] at q
  have e0 : (0 : Int32).toInt = 0 := rfl
  omega
theorem u_passes2 {n mm : Nat} {g m : Row} (hn : 600 ≤ n) (hWF : WF g mm) (h3 : g 3 = 0) (hA : AgW mm g m) : ∃ m', (∀ h pp tx w hs, f_X6_passes n 123 (mput h m pp tx w hs) = some (m' 3, mput h m' pp tx w hs)) ∧ WF (rPass g) mm ∧ AgW mm (rPass g) m' ∧ ∀ i, 14 ≤ i → rPass g i = g i := by
  have hWm := WF_ag hA hWF
  obtain ⟨op, st, hop, hst⟩ := row_ops hWF.2.2.1
  obtain ⟨len, hl, h9, hA'⟩ := id hA
  have hopm : ∀ c, c < 4 → (op c = true ∧ m (34 + 7 * c) = 1) ∨ (op c = false ∧ m (34 + 7 * c) = 0) := fun c hc => by rw [← ag0 dead_ok hA' (by omega) (by omega)]; exact hop c hc
  have hstm : ∀ c, c < 4 → m (37 + 7 * c) = Int32.ofNat (st c) ∧ st c ≤ 11 := fun c hc => by rw [← ag0 dead_ok hA' (by omega) (by omega)]; exact hst c hc
  obtain ⟨a, b, c⟩ := pass_all hWF h3 hA hop hst
  refine ⟨mPass op st m, fun h pp tx w hs => ?_, a, b, c⟩
  refine u_passes hn hWm.1 hopm hstm (fun m1 hm1 => ?_)
  obtain ⟨⟨len1, hinv⟩, _⟩ := rOrder_inv (g := upd m1 9 0) (op := op) (st := st) upd_eq (fun c hc => by
    rw [upd_ne (by omega), hm1 _ (by omega)]
    rcases hopm c hc with ⟨x, y⟩ | ⟨x, y⟩
    · rw [x, y]
      exact ⟨fun q => absurd q (by decide), fun q => absurd q (by decide)⟩
    · rw [x, y]
      exact ⟨fun _ => rfl, fun _ => rfl⟩) (fun c hc => by
    rw [upd_ne (by omega), hm1 _ (by omega)]
    exact ⟨(hstm c hc).1, by have := (hstm c hc).2; omega⟩)
  have ms := mOrd_spec (m := m1) hinv
  obtain ⟨i1, i2, i3, i4, i5, i6⟩ := hinv
  refine ⟨len1, i2, ms.1, fun q => ?_⟩
  obtain ⟨c, hc, oc, ec⟩ := i6 0 q
  have e := (i3 c hc oc).2
  rw [ec] at e
  refine ⟨c, hc, ?_, oc⟩
  have e2 := ms.2 0 q
  rw [show 10 + 0 = 10 by omega] at e2 e
  rw [e2, e]
theorem mk_pass {n B mm L i : Nat} {g m tx : Row} {b H : zH} {st : Nat → Row} {k : Nat} (hn : 50000 ≤ n) (hS : St B mm g m) (hC : CS b st k (Int32.ofNat L) tx g H) (hL : L ≤ 90) (hi : i < L) (hl : tx i = 112) {one other : Int32} : MkOut n B mm b st k L tx g m (Int32.ofNat i) H (tx i) one other := by
  obtain ⟨hWF, hM, hA⟩ := hS
  obtain ⟨len, hl9, h9, hA'⟩ := id hA
  have z1 : ¬ (1 : Int32) = 0 := by decide
  have e3 : m 3 = g 3 := (ag0 dead_ok hA' (by omega) (by omega)).symm
  obtain ⟨h', hH, h05⟩ := CS_H hC
  have r11 : zgI H 5 1 11 = some (g 3) := by rw [hH, gI_11]
  have cls : f_X5_makeMove n 0 (Int32.ofNat i) H = if g 3 = 0 then ((f_X1_passTurn n 5 H).bind fun (h172 : zH) => some ((1 : Int32), h172)) else (some ((0 : Int32), H)) := by
    rw [e_make hC hL hi, hl]
    unfold mkB
    rw [if_neg (show ¬ (112 : Int32) = 98 by decide), if_neg (show ¬ (112 : Int32) = 107 by decide), if_neg (show ¬ (112 : Int32) = 111 by decide), if_pos rfl, h05, Option.bind_some, r11, Option.bind_some, Option.bind_some, (CS_z hC).2.1]
  by_cases h3 : g 3 = 0
  · obtain ⟨h0, hcur, hcc⟩ := CS_cur hC
    obtain ⟨h2, hput, hcu⟩ := Cur_mk hcur
    obtain ⟨m', em, nw, ag, n14⟩ := u_passes2 (n := n) (by omega) hWF h3 hA
    have p3 := nw.1.2.2.2.2.1
    obtain ⟨len2, hl2, h92, hA2⟩ := id ag
    have m3 : ¬ m' 3 < 0 := by
      rw [← ag0 dead_ok hA2 (by omega) (by omega)]
      rcases p3 with q | q
      · rw [q]
        decide
      · rw [q]
        decide
    refine Or.inr ⟨put h2 5 (rPass g), rPass g, m', ?_, hcc _ _ (hcu _), ⟨nw, monz_mono ⟨mon_14 hM.1 n14, zw_14 hM.2 n14⟩ (Nat.le_succ B), ag⟩, fun Hb pp tx' w hs w26 _ _ => ⟨w, ?_, fun _ _ _ _ => rfl⟩⟩
    · rw [cls, if_pos h3, hput, p_passTurn (by omega), Option.bind_some]
    · rw [e_makes, mgI_13, Option.bind_some, w26, hl, if_pos rfl, mgK, u_isStock, if_pos (e3.trans h3), Option.bind_some]
      unfold mkS
      rw [if_neg z1, mgI_13, Option.bind_some, w26, hl]
      simp only [zlet, if_true]
      rw [mgK, em, zb2_s]
      exact k163 m3
  · refine Or.inl ⟨H, by rw [cls, if_neg h3], hC, fun Hb pp tx' w hs w26 _ _ => ?_⟩
    rw [e_makes, mgI_13, Option.bind_some, w26, hl, if_pos rfl, mgK, u_isStock, if_neg (by rw [e3]; exact h3), Option.bind_some, mkS_0]
theorem mk_buy {n B mm L i c : Nat} {g m tx : Row} {b H : zH} {st : Nat → Row} {k : Nat} (hn : 50000 ≤ n) (hB : B ≤ 100000) (hS : St B mm g m) (hC : CS b st k (Int32.ofNat L) tx g H) (hL : L ≤ 90) (hi : i < L) (hl : tx i = 98) (hc : c < 4) (hd : dgS tx L (i + 1) = Int32.ofNat c) {other : Int32} : MkOut n B mm b st k L tx g m (Int32.ofNat i) H (tx i) (Int32.ofNat c) other := by
  obtain ⟨hWF, hM, hA⟩ := hS
  obtain ⟨len, hl9, h9, hA'⟩ := id hA
  have z1 : ¬ (1 : Int32) = 0 := by decide
  have hWm := WF_ag hA hWF
  have hm4 := hWF.1.2.1
  obtain ⟨t, ht, et⟩ := hWF.1.2.2.2.1
  have emt : m 1 = Int32.ofNat t := by rw [← ag0 dead_ok hA' (by omega) (by omega), et]
  obtain ⟨h', hH, h05⟩ := CS_H hC
  have hx : vp_in (Int32.ofNat c) 4 := in_of hc (by omega)
  have cb := p_canBuy' (n := n) (h := h') (b := 5) (g := g) (by omega) hc et (by omega)
  rw [← hH] at cb
  have hag := ag_cBuy dead_ok hA' ht hm4 hc
  have cls : f_X5_makeMove n 0 (Int32.ofNat i) H = ((f_X1_canBuy n 5 (Int32.ofNat c) H).bind fun (r96 : Int32) => if r96 = 0 then (some ((0 : Int32), H)) else (zb2 (f_X1_buyShare n 5 (Int32.ofNat c) H) fun (r109 : Int32) (h109 : zH) => some ((1 : Int32), h109))) := by
    rw [e_make hC hL hi, hl, hd]
    unfold mkB
    rw [if_pos rfl, company_y hx, Option.bind_some, if_neg z1, h05, Option.bind_some, (CS_z hC).2.1]
    simp only [Option.bind_some, (CS_z hC).2.1]
  by_cases hcb : cBuy g t c
  · obtain ⟨h0, hcur, hcc⟩ := CS_cur hC
    obtain ⟨h2, hput, hcu⟩ := Cur_mk hcur
    have oc : g (34 + 7 * c) = 1 := by
      rcases (hWF.2.2.1 c hc).2.2.2 with ⟨q, _⟩ | ⟨q, _⟩
      · exact q
      · exact absurd q hcb.2.1
    obtain ⟨s, s1, s2, s3⟩ := (hWF.2.2.1 c hc).1
    have hbk : s 0 + s 1 + s 2 + s 3 + 1 ≤ 10 := by
      have q := hcb.2.2.1
      rw [bank_eq (f := fun p => g (18 + 4 * p + c)) (s := s) s1 s2, show (0 : Int32) = Int32.ofNat 0 from rfl, i32_le_of (by omega) (by omega)] at q
      omega
    obtain ⟨nw, nm⟩ := buy_wf hWF hM.1 hB et ht hc oc s1 hbk s3 hcb.2.2.2.2
    have bs := p_buyShare (n := n) (h := h2) (b := 5) (g := g) (c := Int32.ofNat c) (by omega) hx (by rw [et]; exact in_of (show t < 4 by omega) (by omega)) (by rw [nn_of (show c < 600 by omega)]; exact PrOk_pres hm4 (hWF.2.2.1 c hc).2.1)
    rw [nn_of (show c < 600 by omega), et, nn_of (show t < 600 by omega), ← hput] at bs
    refine Or.inr ⟨put h2 5 (rBuy g c), rBuy g c, rBuy m c, ?_, hcc _ _ (hcu _), ⟨nw, monz_mono ⟨nm, zw_buy et (by omega) hc hM.2⟩ (Nat.le_succ B), AgW_of hl9 (by rw [rBuy_eq et (by omega), rEnd9, buyC_ne (by omega) (by omega) (by omega) (by omega), h9]) (ag_rBuy dead_ok hA' et ht hm4 hc (PrOk_pres hm4 (hWF.2.2.1 c hc).2.1))⟩, fun Hb pp tx' w hs w26 w27 _ => ⟨w, ?_, fun _ _ _ _ => rfl⟩⟩
    · rw [cls, cb.1 hcb, Option.bind_some, if_neg z1, bs, zb2_s]
    · have ub := u_canBuy (n := n) (h := Hb) (m := m) (pp := pp) (tx := tx') (w := w) (hs := hs) (by omega) hWm.1.2.2.1 hm4 emt ht hc hWm.2.2.1
      have hs10 := sh_lt s2 t (show t < 4 by omega)
      have nv : ¬ m (18 + 4 * t + c) + 1 < 0 := by
        rw [← ag0 dead_ok hA' (show 18 + 4 * t + c < 134 by omega) (by omega), s1 t (by omega), i32_succ]
        exact nn_neg (by omega)
      rw [e_makes, mgI_13, Option.bind_some, w26, hl, if_neg (show ¬ (98 : Int32) = 112 by decide), Option.bind_some, if_pos rfl, mgI_14, Option.bind_some, w27, mgK, ub.1 (hag.mp hcb), Option.bind_some]
      unfold mkS
      rw [if_neg z1, mgI_13, Option.bind_some, w26]
      simp only [zlet]
      rw [hl, if_neg (show ¬ (98 : Int32) = 112 by decide), Option.bind_some, if_pos rfl, mgI_14, Option.bind_some, w27, mgK, u_buys (B := B) (show 600 ≤ n by omega) hWm emt ht hc (hag.mp hcb), zb2_s]
      exact k163 nv
  · refine Or.inl ⟨H, by rw [cls, cb.2 hcb, Option.bind_some, if_pos rfl], hC, fun Hb pp tx' w hs w26 w27 _ => ?_⟩
    have ub := u_canBuy (n := n) (h := Hb) (m := m) (pp := pp) (tx := tx') (w := w) (hs := hs) (by omega) hWm.1.2.2.1 hm4 emt ht hc hWm.2.2.1
    rw [e_makes, mgI_13, Option.bind_some, w26, hl, if_neg (show ¬ (98 : Int32) = 112 by decide), Option.bind_some, if_pos rfl, mgI_14, Option.bind_some, w27, mgK, ub.2 (fun q => hcb (hag.mpr q)), Option.bind_some, mkS_0]
theorem mk_sell {n B mm L i c a : Nat} {g m tx : Row} {b H : zH} {st : Nat → Row} {k : Nat} (hn : 50000 ≤ n) (hB : B ≤ 100000) (hS : St B mm g m) (hC : CS b st k (Int32.ofNat L) tx g H) (hL : L ≤ 90) (hi : i < L) (hl : tx i = 120) (hc : c < 4) (ha1 : 1 ≤ a) (ha9 : a ≤ 9) (hd : dgS tx L (i + 1) = Int32.ofNat c) (hd2 : dgS tx L (i + 2) = Int32.ofNat a) : MkOut n B mm b st k L tx g m (Int32.ofNat i) H (tx i) (Int32.ofNat c) (Int32.ofNat a) := by
  obtain ⟨hWF, hM, hA⟩ := hS
  obtain ⟨len, hl9, h9, hA'⟩ := id hA
  have z1 : ¬ (1 : Int32) = 0 := by decide
  have hWm := WF_ag hA hWF
  have hm4 := hWF.1.2.1
  obtain ⟨t, ht, et⟩ := hWF.1.2.2.2.1
  have ht4 : t < 4 := by omega
  have emt : m 1 = Int32.ofNat t := by rw [← ag0 dead_ok hA' (by omega) (by omega), et]
  obtain ⟨h', hH, h05⟩ := CS_H hC
  have hx : vp_in (Int32.ofNat c) 4 := in_of hc (by omega)
  have cb := p_canSell' (n := n) (h := h') (b := 5) (g := g) (s := Int32.ofNat a) hc et ht4
  have r9 : zgI H 5 1 9 = some (Int32.ofNat t) := by rw [hH, gI_9, et]
  rw [← hH] at cb
  have hag := ag_cSell (s := Int32.ofNat a) dead_ok hA' ht4 hc
  have cls : f_X5_makeMove n 0 (Int32.ofNat i) H = ((f_X1_canSell n 5 (Int32.ofNat c) (Int32.ofNat a) H).bind fun (r129 : Int32) => if r129 = 0 then (some ((0 : Int32), H)) else ((f_X1_sellShares n 5 (Int32.ofNat t) (Int32.ofNat c) (Int32.ofNat a) H).bind fun (h151 : zH) => some ((1 : Int32), h151))) := by
    rw [e_make hC hL hi, hl, hd, hd2]
    unfold mkB
    rw [if_neg (show ¬ (120 : Int32) = 98 by decide), if_neg (show ¬ (120 : Int32) = 107 by decide), if_neg (show ¬ (120 : Int32) = 111 by decide), if_neg (show ¬ (120 : Int32) = 112 by decide), if_pos rfl, company_y hx, Option.bind_some, if_neg z1, h05, Option.bind_some, (CS_z hC).2.1]
    simp only [Option.bind_some, (CS_z hC).2.1, r9]
  by_cases hcb : cSell g t c (Int32.ofNat a)
  · obtain ⟨h0, hcur, hcc⟩ := CS_cur hC
    obtain ⟨h2, hput, hcu⟩ := Cur_mk hcur
    have oc : g (34 + 7 * c) = 1 := by
      rcases (hWF.2.2.1 c hc).2.2.2 with ⟨q, _⟩ | ⟨q, _⟩
      · exact q
      · exact absurd q hcb.2.1
    obtain ⟨s, s1, s2, s3⟩ := (hWF.2.2.1 c hc).1
    have hst := sh_lt s2 t ht4
    have hle : a ≤ s t := by
      have q := hcb.2.2
      rw [s1 t ht4, i32_lt_of (by omega) (by omega)] at q
      omega
    obtain ⟨nw, nm⟩ := sell_wf hWF hM.1 hB ht hc oc (s1 t ht4) (by omega) hle (by omega)
    have po := PrOk_pres hm4 (hWF.2.2.1 c hc).2.1
    have bs := p_sellShares (n := n) (h := h2) (b := 5) (g := g) (p := Int32.ofNat t) (c := Int32.ofNat c) (s := Int32.ofNat a) (by omega) (in_of ht4 (by omega)) hx (by rw [nn_of (show c < 600 by omega)]; exact po)
    rw [nn_of (show c < 600 by omega), nn_of (show t < 600 by omega), ← hput] at bs
    have hag2 := ag_rSell (s := Int32.ofNat a) dead_ok hA' ht hm4 hc po
    have hAG : AgW mm (rSell g t c (Int32.ofNat a)) (rSell m t c (Int32.ofNat a)) := AgW_of hl9 (by rw [rSell_ne (by omega) (by omega) (by omega) (by omega) (by omega), h9]) hag2
    have moc : m (34 + 7 * c) = 1 := by rw [← ag0 dead_ok hA' (by omega) (by omega), oc]
    have msh : m (18 + 4 * t + c) = Int32.ofNat (s t) := by rw [← ag0 dead_ok hA' (by omega) (by omega), s1 t ht4]
    have nv : ¬ rSell m t c (Int32.ofNat a) (14 + t) < 0 := by
      obtain ⟨x, hx, ex⟩ := (MonW_ag hm4 hAG nm).1 t ht
      rw [ex]
      exact nn_big (by omega)
    refine Or.inr ⟨put h2 5 (rSell g t c (Int32.ofNat a)), rSell g t c (Int32.ofNat a), rSell m t c (Int32.ofNat a), ?_, hcc _ _ (hcu _), ⟨nw, ⟨nm, zw_sell ht4 hc hM.2⟩, hAG⟩, fun Hb pp tx' w hs w26 w27 w28 => ⟨w, ?_, fun _ _ _ _ => rfl⟩⟩
    · rw [cls, cb.1 hcb, Option.bind_some, if_neg z1, bs, Option.bind_some]
    · have ub := u_canSell (n := n) (h := Hb) (m := m) (pp := pp) (tx := tx') (w := w) (hs := hs) (s := Int32.ofNat a) emt ht4 hc hWm.2.2.1
      rw [e_makes, mgI_13, Option.bind_some, w26, hl, if_neg (show ¬ (120 : Int32) = 112 by decide), Option.bind_some, if_neg (show ¬ (120 : Int32) = 98 by decide), Option.bind_some, if_pos rfl, mgI_14, Option.bind_some, w27, mgI_15, Option.bind_some, w28, mgK, ub.1 (hag.mp hcb), Option.bind_some]
      unfold mkS
      rw [if_neg z1, mgI_13, Option.bind_some, w26]
      simp only [zlet]
      rw [hl, if_neg (show ¬ (120 : Int32) = 112 by decide), Option.bind_some, if_neg (show ¬ (120 : Int32) = 98 by decide), Option.bind_some, if_pos rfl, mgI_14, Option.bind_some, w27, mgI_15, Option.bind_some, w28, mgK, u_sells (show 600 ≤ n by omega) hWm emt ht hc moc rfl msh (show s t < 600 by omega) hle, zb2_s]
      exact k163 nv
  · refine Or.inl ⟨H, by rw [cls, cb.2 hcb, Option.bind_some, if_pos rfl], hC, fun Hb pp tx' w hs w26 w27 w28 => ?_⟩
    have ub := u_canSell (n := n) (h := Hb) (m := m) (pp := pp) (tx := tx') (w := w) (hs := hs) (s := Int32.ofNat a) emt ht4 hc hWm.2.2.1
    rw [e_makes, mgI_13, Option.bind_some, w26, hl, if_neg (show ¬ (120 : Int32) = 112 by decide), Option.bind_some, if_neg (show ¬ (120 : Int32) = 98 by decide), Option.bind_some, if_pos rfl, mgI_14, Option.bind_some, w27, mgI_15, Option.bind_some, w28, mgK, ub.2 (fun q => hcb (hag.mpr q)), Option.bind_some, mkS_0]
def opMk (n : Nat) (x y z : Int32) (H : zH) : Option (Int32 × zH) := zb2 (f_X1_canOperate n 5 x y H) fun (r184 : Int32) (h184 : zH) => if r184 = 0 then (some ((0 : Int32), h184)) else ((zgR h184 0 5 0).bind fun (v193 : Nat) => zrc h184 v193 1 <| zb2 (f_X1_operateNext n v193 x y z h184) fun (r210 : Int32) (h210 : zH) => some ((1 : Int32), h210))
theorem mk_op {n B mm L i : Nat} {g m tx : Row} {b H : zH} {st : Nat → Row} {k : Nat} {x y : Int32} (hn : 50000 ≤ n) (hB : B ≤ 100000) (hS : St B mm g m) (hC : CS b st k (Int32.ofNat L) tx g H) (hL : L ≤ 90) (hi : i < L) (hl : tx i = 111 ∨ tx i = 107) (hd : dgS tx L (i + 1) = x) (hd2 : dgS tx L (i + 2) = y) (hxy : (x = -1 ∧ y = -1) ∨ ∃ a c, a < 8 ∧ c < 8 ∧ x = Int32.ofNat a ∧ y = Int32.ofNat c) : MkOut n B mm b st k L tx g m (Int32.ofNat i) H (tx i) x y := by
  have z1 : ¬ (1 : Int32) = 0 := by decide
  obtain ⟨h', hH, h05⟩ := CS_H hC
  obtain ⟨h0, hcur, hcc⟩ := CS_cur hC
  have cls : f_X5_makeMove n 0 (Int32.ofNat i) H = opMk n x y (if tx i = 111 then 1 else 0) H := by
    rw [e_make hC hL hi, hd, hd2]
    unfold mkB opMk
    have n98 : ¬ tx i = 98 := by rcases hl with q | q <;> (rw [q]; decide)
    rw [if_neg n98]
    simp only [zlet]
    by_cases c : tx i = 111
    · have n107 : ¬ tx i = 107 := by rw [c]; decide
      rw [if_neg n107, if_pos c, h05, Option.bind_some, (CS_z hC).2.1]
      simp only [if_pos c]
    · have y107 : tx i = 107 := hl.resolve_left c
      rw [if_pos y107, h05, Option.bind_some, (CS_z hC).2.1]
      simp only [if_neg c]
  have nl : ¬ tx i = 112 ∧ ¬ tx i = 98 ∧ ¬ tx i = 120 := by
    rcases hl with q | q <;> (rw [q]; decide)
  have ref : ∀ (Hb : zH) (pp tx' w : Row) (hs : Int64), w 26 = tx i → w 27 = x → w 28 = y → f_X6_makes n 123 (mput Hb m pp tx' w hs) = (f_X6_canOperate n 123 x y (mput Hb m pp tx' w hs)).bind fun (r69 : Int32) => mkS n (mput Hb m pp tx' w hs) r69 := by
    intro Hb pp tx' w hs w26 w27 w28
    rw [e_makes, mgI_13, Option.bind_some, w26, if_neg nl.1, Option.bind_some, if_neg nl.2.1, Option.bind_some, if_neg nl.2.2, mgI_14, Option.bind_some, w27, mgI_15, Option.bind_some, w28, mgK]
  have ref1 : ∀ (Hb : zH) (m' pp tx' w w' : Row) (hs : Int64) (X : Nat), X ≤ 475 → w 26 = tx i → w 27 = x → w 28 = y → f_X6_operates n 123 x y (if tx i = 111 then 1 else 0) (mput Hb m pp tx' w hs) = some (Int32.ofNat X, mput Hb m' pp tx' w' hs) → mkS n (mput Hb m pp tx' w hs) 1 = some (1, mput Hb m' pp tx' w' hs) := by
    intro Hb m' pp tx' w w' hs X hX w26 w27 w28 e
    unfold mkS
    rw [if_neg z1, mgI_13, Option.bind_some, w26]
    simp only [zlet]
    rw [if_neg nl.1, Option.bind_some, if_neg nl.2.1, Option.bind_some, if_neg nl.2.2, mgI_14, Option.bind_some, w27, mgI_15, Option.bind_some, w28, Option.bind_some]
    by_cases c : tx i = 111
    · rw [if_pos c] at e
      rw [if_pos c, mgK, e, zb2_s]
      exact k163 (nn_neg (by omega))
    · rw [if_neg c] at e
      rw [if_neg c, mgK, e, zb2_s]
      exact k163 (nn_neg (by omega))
  have fin : ∀ H2, f_X1_canOperate n 5 x y H = some (1, H2) → Cur h0 5 g H2 → (∀ h pp tx w hs, f_X6_canOperate n 123 x y (mput h m pp tx w hs) = some 1) → OpRun n B mm x y (if tx i = 111 then 1 else 0) g m → MkOut n B mm b st k L tx g m (Int32.ofNat i) H (tx i) x y := by
    intro H2 e hcu2 hu ⟨X, g', m', hX, hSt, hrun, hu2⟩
    have hC2 := hcc _ _ hcu2
    obtain ⟨H4, e4, hcu4⟩ := hrun h0 H2 hcu2
    refine Or.inr ⟨H4, g', m', ?_, hcc _ _ hcu4, hSt, fun Hb pp tx' w hs w26 w27 w28 => ?_⟩
    · rw [cls]
      unfold opMk
      rw [e, zb2_s, if_neg z1, (CS_z hC2).2.2, Option.bind_some, (CS_z hC2).2.1, e4, zb2_s]
    · obtain ⟨w', eo, hw⟩ := hu2 Hb pp tx' w hs
      refine ⟨w', ?_, hw⟩
      rw [ref Hb pp tx' w hs w26 w27 w28, hu, Option.bind_some]
      exact ref1 Hb m' pp tx' w w' hs X hX w26 w27 w28 eo
  have non : ∀ H2, f_X1_canOperate n 5 x y H = some (0, H2) → Cur h0 5 g H2 → (∀ h pp tx w hs, f_X6_canOperate n 123 x y (mput h m pp tx w hs) = some 0) → MkOut n B mm b st k L tx g m (Int32.ofNat i) H (tx i) x y := by
    intro H2 e hcu2 hu
    refine Or.inl ⟨H2, ?_, hcc _ _ hcu2, fun Hb pp tx' w hs w26 w27 w28 => ?_⟩
    · rw [cls]
      unfold opMk
      rw [e, zb2_s, if_pos rfl]
    · rw [ref Hb pp tx' w hs w26 w27 w28, hu, Option.bind_some, mkS_0]
  rcases hxy with ⟨hx, hy⟩ | ⟨a, c, ha, hc, rfl, rfl⟩
  · rcases op_core0 (z := if tx i = 111 then 1 else 0) hn hB hS hcur hx hy with ⟨e, hu⟩ | ⟨e, hu, hrun⟩
    · exact non H e hcur hu
    · exact fin H e hcur hu hrun
  · rcases op_core1 (z := if tx i = 111 then 1 else 0) hn hB hS hcur ha hc with ⟨H2, e, hcu2, hu⟩ | ⟨H2, e, hcu2, hu, hrun⟩
    · exact non H2 e hcu2 hu
    · exact fin H2 e hcu2 hu hrun
theorem mk_move {n B mm L f i : Nat} {g m tx : Row} {b H : zH} {st : Nat → Row} {k : Nat} (hn : 50000 ≤ n) (hB : B ≤ 100000) (hS : St B mm g m) (hC : CS b st k (Int32.ofNat L) tx g H) (hL : L ≤ 90) (hi : i < L) (hok : (mvT tx L i).1 = true) (hf : 0 < f) (hs : scan tx L f (mvT tx L i).2.1 = none) : MkOut n B mm b st k L tx g m (Int32.ofNat i) H (tx i) (mvT tx L i).2.2.1 (mvT tx L i).2.2.2 := by
  have hk := mv_kind hok
  have hn2 := dg_let (scan_let hf hs)
  unfold MvKind at hk
  generalize mvT tx L i = r at hk hn2 ⊢
  obtain ⟨ok, a, one, other⟩ := r
  rcases hk with ⟨h1, h2⟩ | ⟨h1, c, hc, h2, h3⟩ | ⟨h1, c, s, hc, s1, s9, h2, h3, h4⟩ | ⟨h1, h2⟩
  · exact mk_pass hn hS hC hL hi h1
  · have e : one = Int32.ofNat c := h2
    rw [e]
    exact mk_buy hn hB hS hC hL hi h1 hc h3
  · have e : (one, other) = (Int32.ofNat c, Int32.ofNat s) := h2
    cases e
    exact mk_sell hn hB hS hC hL hi h1 hc s1 s9 h3 h4
  · rcases h2 with ⟨x, y, hx, hy, _, h2, h3, h4⟩ | ⟨h2, h3, h4⟩
    · have e : (one, other) = (Int32.ofNat x, Int32.ofNat y) := h2
      cases e
      exact mk_op hn hB hS hC hL hi h1 h3 h4 (Or.inr ⟨x, y, hx, hy, rfl, rfl⟩)
    · have e : (one, other) = (-1, -1) := h2
      have e4 : a = i + 2 := h4
      rw [e4] at hn2
      cases e
      exact mk_op hn hB hS hC hL hi h1 h3 hn2 (Or.inl ⟨rfl, rfl⟩)
