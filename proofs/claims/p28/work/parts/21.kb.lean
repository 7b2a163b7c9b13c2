theorem nn0 : Int32.toNatClampNeg 0 = 0 := rfl
theorem nn1 : Int32.toNatClampNeg 1 = 1 := rfl
theorem nn2 : Int32.toNatClampNeg 2 = 2 := rfl
theorem nn3 : Int32.toNatClampNeg 3 = 3 := rfl
theorem nn_of {k : Nat} (h : k < 600) : (Int32.ofNat k).toNatClampNeg = k := by
  rw [Int32.toNatClampNeg, Int32.toInt_ofNat_of_lt (by omega)]
  rfl
theorem in_of {k n : Nat} (h : k < n) (hn : n < 600) : vp_in (Int32.ofNat k) n := by
  unfold vp_in
  rw [nn_of (by omega), Int32.lt_iff_toInt_lt, Int32.toInt_ofNat_of_lt (by omega)]
  intro q
  rcases q with q | q
  · have : (0 : Int32).toInt = 0 := rfl
    omega
  · omega
def rPay (g : Row) (p : Nat) (x : Int32) : Row := upd (upd g (14 + p) (g (14 + p) - x)) 6 (g 6 + x)
theorem p_playerPays {n : Nat} {h : zH} {b : Nat} {g : Row} {p x : Int32} (hp : vp_in p 4) : f_X1_playerPays n b p x (put h b g) = some (put h b (rPay g p.toNatClampNeg x)) := by
  unfold f_X1_playerPays rPay
  simp (disch := omega) only [Option.bind_some, gR_3, gA_m hp, sA_m hp, gI_13, sI_13, upd_ne]
theorem i32_succ (k : Nat) : Int32.ofNat k + 1 = Int32.ofNat (k + 1) := (Int32.ofNat_add k 1).symm
theorem i32_ge {N k : Nat} (h : k < N) (hN : N < 600) : ¬ (Int32.ofNat N ≤ Int32.ofNat k) := by
  rw [Int32.le_iff_toInt_le, Int32.toInt_ofNat_of_lt (by omega), Int32.toInt_ofNat_of_lt (by omega)]
  omega
theorem ge4 {k : Nat} (h : k < 4) : ((4 : Int32) ≤ Int32.ofNat k) = False := eq_false (i32_ge (N := 4) h (by omega))
theorem ge8 {k : Nat} (h : k < 8) : ((8 : Int32) ≤ Int32.ofNat k) = False := eq_false (i32_ge (N := 8) h (by omega))
def zseq {σ : Type} (step : Nat → σ → σ) (s : σ) : Nat → σ
  | 0 => s
  | k + 1 => step k (zseq step s k)
def pst (f : Row) (p : Nat) (s : Int32 × Int32) : Int32 × Int32 := if f p ≤ s.1 then s else (f p, Int32.ofNat p)
def pres (f : Row) (its : Int32) : Int32 :=
  (zseq (pst f) (if its = -1 then 0 else f its.toNatClampNeg, if (if its = -1 then 0 else f its.toNatClampNeg) ≤ 0 then -1 else its) 4).2
theorem l_findPresident {n : Nat} {h : zH} {b c : Nat} {g : Row} {m f : Int32} (hn : 600 ≤ n) (hc : c < 4) : L_X0_findPresident_37 n (put h b g) (b + 15 + 2 * c) m f 0 = some (put h b (upd g (39 + 7 * c) (zseq (pst (fun p => g (18 + 4 * p + c))) (m, f) 4).2)) := by
  unfold L_X0_findPresident_37
  refine zfor3 4 (fun k => (zseq (pst (fun p => g (18 + 4 * p + c))) (m, f) k).1) (fun k => (zseq (pst (fun p => g (18 + 4 * p + c))) (m, f) k).2) (fun k => Int32.ofNat k) (fun k hk rec => ?_) (fun rec => ?_) (by omega)
  · simp only [zlet, if_neg (of_eq_false (ge4 hk)), gC_0 hc, gA_h hc (in_of hk (by omega)), Option.bind_some, nn_of (show k < 600 by omega), i32_succ]
    rw [show zseq (pst (fun p => g (18 + 4 * p + c))) (m, f) (k + 1) = pst (fun p => g (18 + 4 * p + c)) k (zseq (pst (fun p => g (18 + 4 * p + c))) (m, f) k) from rfl]
    unfold pst
    split <;> rfl
  · rw [if_pos (by decide)]
    simp only [sC_6 hc, Option.bind_some]
theorem p_findPresident {n : Nat} {h : zH} {b c : Nat} {g : Row} (hn : 600 ≤ n) (hc : c < 4) (hp : g (39 + 7 * c) = -1 ∨ vp_in (g (39 + 7 * c)) 4) : f_X0_findPresident n (b + 15 + 2 * c) (put h b g) = some (put h b (upd g (39 + 7 * c) (pres (fun p => g (18 + 4 * p + c)) (g (39 + 7 * c))))) := by
  rw [e_X0_findPresident]
  unfold pres
  rcases hp with hp | hp
  · simp only [zlet, gC_6 hc, Option.bind_some, hp, if_true, Int32.le_refl, l_findPresident hn hc]
  · have hne : ¬ g (39 + 7 * c) = -1 := by
      intro q
      rw [q] at hp
      exact hp (Or.inl (by decide))
    simp only [zlet, gC_6 hc, gC_0 hc, Option.bind_some, if_neg hne, gA_h hc hp, l_findPresident hn hc]
    split <;> rfl
theorem p_price {n : Nat} {h : zH} {b c : Nat} {g : Row} (hc : c < 4) : f_X0_price n (b + 15 + 2 * c) (put h b g) = some (20 + 10 * g (37 + 7 * c)) := by
  unfold f_X0_price f_X0_priceAt
  simp only [gC_4 hc, Option.bind_some]
def rRise (g : Row) (c : Nat) : Row := if 11 ≤ g (37 + 7 * c) then g else upd g (37 + 7 * c) (g (37 + 7 * c) + 1)
def rFall (g : Row) (c : Nat) : Row := if g (37 + 7 * c) ≤ 0 then g else upd g (37 + 7 * c) (g (37 + 7 * c) - 1)
theorem p_rise {n : Nat} {h : zH} {b c : Nat} {g : Row} (hc : c < 4) : f_X0_rise n (b + 15 + 2 * c) (put h b g) = some (put h b (rRise g c)) := by
  unfold f_X0_rise rRise
  simp only [gC_4 hc, sC_4 hc, Option.bind_some]
  split <;> rfl
theorem p_fall {n : Nat} {h : zH} {b c : Nat} {g : Row} (hc : c < 4) : f_X0_fall n (b + 15 + 2 * c) (put h b g) = some (put h b (rFall g c)) := by
  unfold f_X0_fall rFall
  simp only [gC_4 hc, sC_4 hc, Option.bind_some]
  split <;> rfl
def bank (f : Row) : Int32 := zseq (fun p s => s - f p) 10 4
theorem p_bankShares {n : Nat} {h : zH} {b c : Nat} {g : Row} (hn : 600 ≤ n) (hc : c < 4) : f_X0_bankShares n (b + 15 + 2 * c) (put h b g) = some (bank (fun p => g (18 + 4 * p + c))) := by
  rw [e_X0_bankShares]
  unfold L_X0_bankShares_5 bank
  refine zfor2 4 (fun k => zseq (fun p s => s - g (18 + 4 * p + c)) (10 : Int32) k) (fun k => Int32.ofNat k) (fun k hk rec => ?_) (fun rec => ?_) (by omega)
  · simp only [zlet, if_neg (of_eq_false (ge4 hk)), gC_0 hc, gA_h hc (in_of hk (by omega)), Option.bind_some, nn_of (show k < 600 by omega), i32_succ]
    rfl
  · rw [if_pos (by decide)]
def exch (f : Row) : Int32 := zseq (fun p s => s + f p / 2) 0 4
theorem p_exchangedShares {n : Nat} {h : zH} {b c : Nat} {g : Row} (hn : 600 ≤ n) (hc : c < 4) : f_X0_exchangedShares n (b + 15 + 2 * c) (put h b g) = some (exch (fun p => g (18 + 4 * p + c))) := by
  rw [e_X0_exchangedShares]
  unfold L_X0_exchangedShares_4 exch
  refine zfor2 4 (fun k => zseq (fun p s => s + g (18 + 4 * p + c) / 2) (0 : Int32) k) (fun k => Int32.ofNat k) (fun k hk rec => ?_) (fun rec => ?_) (by omega)
  · simp only [zlet, if_neg (of_eq_false (ge4 hk)), gC_0 hc, gA_h hc (in_of hk (by omega)), Option.bind_some, nn_of (show k < 600 by omega), i32_succ]
    rfl
  · rw [if_pos (by decide)]
def rFill (x : Nat → Nat) (v : Int32) (N : Nat) (g : Row) : Row := zseq (fun k g => upd g (x k) v) g N
theorem p_fillHeld {n : Nat} {h : zH} {b c : Nat} {g : Row} {v : Int32} (hn : 600 ≤ n) (hc : c < 4) : f_J7_fill_53178 n (b + 16 + 2 * c) v (put h b g) = some (put h b (rFill (fun p => 18 + 4 * p + c) v 4 g)) := by
  rw [e_J7_fill_53178]
  simp only [gN_h hc, Option.bind_some]
  unfold L_J7_fill_53178_5 rFill
  refine zfor2 4 (fun k => Int32.ofNat k) (fun k => put h b (zseq (fun k g => upd g (18 + 4 * k + c) v) g k)) (fun k hk rec => ?_) (fun rec => ?_) (by omega)
  · simp only [zlet, if_neg (of_eq_false (ge4 hk)), sA_h hc (in_of hk (by omega)), Option.bind_some, nn_of (show k < 600 by omega), i32_succ]
    rfl
  · rw [if_pos (by decide)]
theorem p_fillCash {n : Nat} {h : zH} {b : Nat} {g : Row} {v : Int32} (hn : 600 ≤ n) : f_J7_fill_53178 n (b + 13) v (put h b g) = some (put h b (rFill (fun p => 14 + p) v 4 g)) := by
  rw [e_J7_fill_53178]
  simp only [gN_m, Option.bind_some]
  unfold L_J7_fill_53178_5 rFill
  refine zfor2 4 (fun k => Int32.ofNat k) (fun k => put h b (zseq (fun k g => upd g (14 + k) v) g k)) (fun k hk rec => ?_) (fun rec => ?_) (by omega)
  · simp only [zlet, if_neg (of_eq_false (ge4 hk)), sA_m (in_of hk (by omega)), Option.bind_some, nn_of (show k < 600 by omega), i32_succ]
    rfl
  · rw [if_pos (by decide)]
theorem p_fillLevel {n : Nat} {h : zH} {b t : Nat} {g : Row} {v : Int32} (hn : 600 ≤ n) (ht : t < 8) : f_J7_fill_53178 n (b + 4 + t) v (put h b g) = some (put h b (rFill (fun i => 62 + 8 * t + i) v 8 g)) := by
  rw [e_J7_fill_53178]
  simp only [gN_l ht, Option.bind_some]
  unfold L_J7_fill_53178_5 rFill
  refine zfor2 8 (fun k => Int32.ofNat k) (fun k => put h b (zseq (fun k g => upd g (62 + 8 * t + k) v) g k)) (fun k hk rec => ?_) (fun rec => ?_) (by omega)
  · simp only [zlet, if_neg (of_eq_false (ge8 hk)), sA_l ht (in_of hk (by omega)), Option.bind_some, nn_of (show k < 600 by omega), i32_succ]
    rfl
  · rw [if_pos (by decide)]
def rClose (g : Row) (c : Nat) : Row := upd (upd (upd (upd (upd (upd (upd (rFill (fun p => 18 + 4 * p + c) 0 4 g) (34 + 7 * c) 0) (35 + 7 * c) 0) (36 + 7 * c) 0) (37 + 7 * c) 0) (38 + 7 * c) 0) (39 + 7 * c) (-1)) (40 + 7 * c) 0
theorem p_close {n : Nat} {h : zH} {b c : Nat} {g : Row} (hn : 600 ≤ n) (hc : c < 4) : f_X0_close n (b + 15 + 2 * c) (put h b g) = some (put h b (rClose g c)) := by
  unfold f_X0_close rClose
  simp only [gC_0 hc, Option.bind_some, p_fillHeld hn hc, sC_1 hc, sC_2 hc, sC_3 hc, sC_4 hc, sC_5 hc, sC_6 hc, sC_7 hc]
theorem p_openAt {n : Nat} {h : zH} {b c : Nat} {g : Row} {x y : Int32} (hc : c < 4) : f_X0_openAt n (b + 15 + 2 * c) x y (put h b g) = some (put h b (upd (upd (upd (upd g (34 + 7 * c) 1) (35 + 7 * c) x) (37 + 7 * c) y) (38 + 7 * c) 2)) := by
  unfold f_X0_openAt
  simp only [Option.bind_some, sC_1 hc, sC_2 hc, sC_4 hc, sC_5 hc]
def nextT (g : Row) : Int32 := if g 0 ≤ g 1 + 1 then 0 else g 1 + 1
theorem p_nextTurn {n : Nat} {h : zH} {b : Nat} {g : Row} : f_X1_nextTurn n b (put h b g) = some (put h b (upd g 1 (nextT g))) := by
  unfold f_X1_nextTurn nextT
  simp only [zlet, gI_9, gI_8, sI_9, Option.bind_some]
  split <;> rfl
def rEnd (g : Row) : Row := upd (upd g 2 0) 1 (nextT g)
theorem p_endActiveTurn {n : Nat} {h : zH} {b : Nat} {g : Row} : f_X1_endActiveTurn n b (put h b g) = some (put h b (rEnd g)) := by
  unfold f_X1_endActiveTurn rEnd
  simp only [sI_10, gK_0, p_nextTurn, Option.bind_some]
  rfl
def rPres (g : Row) (c : Nat) : Row := upd g (39 + 7 * c) (pres (fun p => g (18 + 4 * p + c)) (g (39 + 7 * c)))
def PresOk (g : Row) (c : Nat) : Prop := g (39 + 7 * c) = -1 ∨ vp_in (g (39 + 7 * c)) 4
theorem p_pres {n : Nat} {h : zH} {b c : Nat} {g : Row} (hn : 600 ≤ n) (hc : c < 4) (hp : PresOk g c) : f_X0_findPresident n (b + 15 + 2 * c) (put h b g) = some (put h b (rPres g c)) := p_findPresident hn hc hp
def rBuy (g : Row) (c : Nat) : Row :=
  let p := (g 1).toNatClampNeg
  rEnd (rPres (upd (rPay g p (20 + 10 * g (37 + 7 * c))) (18 + 4 * p + c) (g (18 + 4 * p + c) + 1)) c)
theorem p_canStart {n : Nat} {h : zH} {b : Nat} {g : Row} {c s : Int32} (hc : vp_in c 4) (ht : vp_in (g 1) 4) : f_X1_canStart n b c s (put h b g) = some (if g 3 = 0 ∧ g (34 + 7 * c.toNatClampNeg) = 0 ∧ ¬ g (14 + (g 1).toNatClampNeg) < 2 * (20 + 10 * s) then 1 else 0) := by
  have hc4 := vp_lt hc
  unfold f_X1_canStart f_X0_priceAt
  simp only [zlet, gI_11, gR_2, gA_c hc, gC_1 hc4, gR_3, gI_9, gA_m ht, Option.bind_some]
  by_cases h1 : g 3 = 0
  · by_cases h2 : g (34 + 7 * c.toNatClampNeg) = 0
    · by_cases h3 : g (14 + (g 1).toNatClampNeg) < 2 * (20 + 10 * s)
      · simp [h1, h2, h3]
      · simp [h1, h2, h3]
    · simp [h1, h2]
  · simp [h1]
theorem p_canBuy {n : Nat} {h : zH} {b : Nat} {g : Row} {c : Int32} (hn : 600 ≤ n) (hc : vp_in c 4) (ht : vp_in (g 1) 4) : f_X1_canBuy n b c (put h b g) = some (if g 3 = 0 ∧ ¬ g (34 + 7 * c.toNatClampNeg) = 0 ∧ ¬ bank (fun p => g (18 + 4 * p + c.toNatClampNeg)) ≤ 0 ∧ ¬ 6 ≤ g (18 + 4 * (g 1).toNatClampNeg + c.toNatClampNeg) ∧ ¬ g (14 + (g 1).toNatClampNeg) < 20 + 10 * g (37 + 7 * c.toNatClampNeg) then 1 else 0) := by
  have hc4 := vp_lt hc
  unfold f_X1_canBuy
  simp only [zlet, gI_11, gR_2, gA_c hc, gC_1 hc4, gC_0 hc4, gA_h hc4 ht, gK_2 hc4, p_bankShares hn hc4, p_price hc4, gR_3, gI_9, gA_m ht, Option.bind_some]
  by_cases h1 : g 3 = 0
  · by_cases h2 : g (34 + 7 * c.toNatClampNeg) = 0
    · simp [h1, h2]
    · by_cases h3 : bank (fun p => g (18 + 4 * p + c.toNatClampNeg)) ≤ 0
      · simp only [h1, h2, h3, if_true, if_false, not_true, false_and, and_false]
      · by_cases h4 : 6 ≤ g (18 + 4 * (g 1).toNatClampNeg + c.toNatClampNeg)
        · simp only [h1, h2, h3, h4, if_true, if_false, not_true, false_and, and_false]
        · by_cases h5 : g (14 + (g 1).toNatClampNeg) < 20 + 10 * g (37 + 7 * c.toNatClampNeg)
          · simp only [h1, h2, h3, h4, h5, if_true, if_false, not_true, false_and, and_false]
          · simp only [h1, h2, h3, h4, h5, if_true, if_false, not_true, false_and, and_false, not_false_iff, and_self]
  · simp [h1]
theorem p_canSell {n : Nat} {h : zH} {b : Nat} {g : Row} {c s : Int32} (hc : vp_in c 4) (ht : vp_in (g 1) 4) : f_X1_canSell n b c s (put h b g) = some (if g 3 = 0 ∧ ¬ g (34 + 7 * c.toNatClampNeg) = 0 ∧ ¬ g (18 + 4 * (g 1).toNatClampNeg + c.toNatClampNeg) < s then 1 else 0) := by
  have hc4 := vp_lt hc
  unfold f_X1_canSell
  simp only [zlet, gI_11, gR_2, gA_c hc, gC_1 hc4, gC_0 hc4, gA_h hc4 ht, gI_9, Option.bind_some]
  by_cases h1 : g 3 = 0
  · by_cases h2 : g (34 + 7 * c.toNatClampNeg) = 0
    · simp [h1, h2]
    · by_cases h3 : g (18 + 4 * (g 1).toNatClampNeg + c.toNatClampNeg) < s
      · simp [h1, h2, h3]
      · simp [h1, h2, h3]
  · simp [h1]
theorem p_buyShare {n : Nat} {h : zH} {b : Nat} {g : Row} {c : Int32} (hn : 600 ≤ n) (hc : vp_in c 4) (ht : vp_in (g 1) 4) (hp : PresOk g c.toNatClampNeg) : f_X1_buyShare n b c (put h b g) = some (g (18 + 4 * (g 1).toNatClampNeg + c.toNatClampNeg) + 1, put h b (rBuy g c.toNatClampNeg)) := by
  have hc4 := vp_lt hc
  have ht4 := vp_lt ht
  unfold f_X1_buyShare rBuy
  simp only [gR_2, gA_c hc, gI_9, gK_2 hc4, gK_0, p_price hc4, p_playerPays ht, gC_0 hc4, Option.bind_some]
  have e1 : rPay g (g 1).toNatClampNeg (20 + 10 * g (37 + 7 * c.toNatClampNeg)) 1 = g 1 := by
    unfold rPay
    simp (disch := omega) only [upd_ne]
  have e2 : rPay g (g 1).toNatClampNeg (20 + 10 * g (37 + 7 * c.toNatClampNeg)) (18 + 4 * (g 1).toNatClampNeg + c.toNatClampNeg) = g (18 + 4 * (g 1).toNatClampNeg + c.toNatClampNeg) := by
    unfold rPay
    simp (disch := omega) only [upd_ne]
  have e3 : rPay g (g 1).toNatClampNeg (20 + 10 * g (37 + 7 * c.toNatClampNeg)) (39 + 7 * c.toNatClampNeg) = g (39 + 7 * c.toNatClampNeg) := by
    unfold rPay
    simp (disch := omega) only [upd_ne]
  rw [e1]
  simp only [gA_h hc4 ht, sA_h hc4 ht, Option.bind_some, e2]
  rw [p_pres hn hc4 (by unfold PresOk; rw [upd_ne (by omega), e3]; exact hp)]
  have e4 : rPres (upd (rPay g (g 1).toNatClampNeg (20 + 10 * g (37 + 7 * c.toNatClampNeg))) (18 + 4 * (g 1).toNatClampNeg + c.toNatClampNeg) (g (18 + 4 * (g 1).toNatClampNeg + c.toNatClampNeg) + 1)) c.toNatClampNeg 1 = g 1 := by
    unfold rPres
    rw [upd_ne (by omega), upd_ne (by omega), e1]
  have e5 : rPres (upd (rPay g (g 1).toNatClampNeg (20 + 10 * g (37 + 7 * c.toNatClampNeg))) (18 + 4 * (g 1).toNatClampNeg + c.toNatClampNeg) (g (18 + 4 * (g 1).toNatClampNeg + c.toNatClampNeg) + 1)) c.toNatClampNeg (18 + 4 * (g 1).toNatClampNeg + c.toNatClampNeg) = g (18 + 4 * (g 1).toNatClampNeg + c.toNatClampNeg) + 1 := by
    unfold rPres
    rw [upd_ne (by omega), upd_eq]
  simp only [Option.bind_some, gK_2 hc4, gC_0 hc4, gI_9, e4, gA_h hc4 ht, e5, gK_0, p_endActiveTurn]
theorem rPay_ne {g : Row} {p i : Nat} {x : Int32} (h1 : i ≠ 14 + p) (h2 : i ≠ 6) : rPay g p x i = g i := by
  unfold rPay
  rw [upd_ne h2, upd_ne h1]
def rSell (g : Row) (p c : Nat) (s : Int32) : Row := rPres (rFall (upd (rPay g p (-s * (20 + 10 * g (37 + 7 * c)))) (18 + 4 * p + c) (g (18 + 4 * p + c) - s)) c) c
theorem rFall_ne {g : Row} {c i : Nat} (h1 : i ≠ 37 + 7 * c) : rFall g c i = g i := by
  unfold rFall
  split
  · rfl
  · exact upd_ne h1
theorem p_sellShares {n : Nat} {h : zH} {b : Nat} {g : Row} {p c s : Int32} (hn : 600 ≤ n) (hp : vp_in p 4) (hc : vp_in c 4) (ho : PresOk g c.toNatClampNeg) : f_X1_sellShares n b p c s (put h b g) = some (put h b (rSell g p.toNatClampNeg c.toNatClampNeg s)) := by
  have hc4 := vp_lt hc
  have hp4 := vp_lt hp
  unfold f_X1_sellShares f_X0_priceAt rSell
  simp only [gR_2, gA_c hc, gC_4 hc4, gK_2 hc4, gK_0, p_playerPays hp, gC_0 hc4, gA_h hc4 hp, sA_h hc4 hp, p_fall hc4, Option.bind_some]
  rw [rPay_ne (by omega) (by omega), p_pres hn hc4 (by unfold PresOk; rw [rFall_ne (by omega), upd_ne (by omega), rPay_ne (by omega) (by omega)]; exact ho)]
  rfl
def rOpen (g : Row) (c : Nat) (x y : Int32) : Row := upd (upd (upd (upd g (34 + 7 * c) 1) (35 + 7 * c) x) (37 + 7 * c) y) (38 + 7 * c) 2
theorem rOpen_ne {g : Row} {c i : Nat} {x y : Int32} (h1 : i ≠ 34 + 7 * c) (h2 : i ≠ 35 + 7 * c) (h3 : i ≠ 37 + 7 * c) (h4 : i ≠ 38 + 7 * c) : rOpen g c x y i = g i := by
  unfold rOpen
  rw [upd_ne h4, upd_ne h3, upd_ne h2, upd_ne h1]
theorem rPres_ne {g : Row} {c i : Nat} (h1 : i ≠ 39 + 7 * c) : rPres g c i = g i := upd_ne h1
def rStart (g : Row) (c : Nat) (x y : Int32) : Row :=
  let p := (g 1).toNatClampNeg
  let g1 := rPres (upd (rPay (rOpen g c x y) p (2 * (20 + 10 * y))) (18 + 4 * p + c) 2) c
  rEnd (upd (upd g1 (36 + 7 * c) (5 * (20 + 10 * y))) 6 (g1 6 - 5 * (20 + 10 * y)))
theorem p_startCompany {n : Nat} {h : zH} {b : Nat} {g : Row} {c x y : Int32} (hn : 600 ≤ n) (hc : vp_in c 4) (ht : vp_in (g 1) 4) (ho : PresOk g c.toNatClampNeg) : f_X1_startCompany n b c x y (put h b g) = some (put h b (rStart g c.toNatClampNeg x y)) := by
  have hc4 := vp_lt hc
  have ht4 := vp_lt ht
  have e0 : rOpen g c.toNatClampNeg x y 1 = g 1 := rOpen_ne (by omega) (by omega) (by omega) (by omega)
  have e1 : rOpen g c.toNatClampNeg x y (37 + 7 * c.toNatClampNeg) = y := by
    unfold rOpen
    rw [upd_ne (by omega), upd_eq]
  unfold f_X1_startCompany rStart
  simp only [gR_2, gA_c hc, gK_2 hc4, p_openAt hc4, Option.bind_some]
  rw [show upd (upd (upd (upd g (34 + 7 * c.toNatClampNeg) 1) (35 + 7 * c.toNatClampNeg) x) (37 + 7 * c.toNatClampNeg) y) (38 + 7 * c.toNatClampNeg) 2 = rOpen g c.toNatClampNeg x y from rfl]
  simp only [p_price hc4, e1, gI_9, e0, gK_0, p_playerPays ht, gC_0 hc4, Option.bind_some]
  rw [rPay_ne (by omega) (by omega), e0]
  simp only [sA_h hc4 ht, Option.bind_some, gK_2 hc4]
  rw [p_pres hn hc4 (by unfold PresOk; rw [upd_ne (by omega), rPay_ne (by omega) (by omega), rOpen_ne (by omega) (by omega) (by omega) (by omega)]; exact ho)]
  simp only [sC_3 hc4, gI_13, gC_3 hc4, sI_13, upd_eq, gK_0, p_endActiveTurn, Option.bind_some]
  rw [upd_ne (by omega)]
theorem zseq_inv {σ : Type} {step : Nat → σ → σ} {s : σ} {P : σ → Prop} (h0 : P s) (hs : ∀ k s, P s → P (step k s)) : ∀ k, P (zseq step s k)
  | 0 => h0
  | k + 1 => hs k _ (zseq_inv h0 hs k)
theorem zseq_lt {σ : Type} {step : Nat → σ → σ} {s : σ} {P : σ → Prop} {N : Nat} (h0 : P s) (hs : ∀ k s, k < N → P s → P (step k s)) : ∀ k, k ≤ N → P (zseq step s k)
  | 0, _ => h0
  | k + 1, h => hs k _ (by omega) (zseq_lt h0 hs k (by omega))
theorem rFill_ne {x : Nat → Nat} {v : Int32} {N : Nat} {g : Row} {i : Nat} (h : ∀ k, k < N → i ≠ x k) : rFill x v N g i = g i := zseq_lt (P := fun r : Row => r i = g i) (N := N) rfl (fun k s hk hs => by show upd s (x k) v i = g i; rw [upd_ne (h k hk), hs]) N (Nat.le_refl N)
theorem rClose_ne {g : Row} {c i : Nat} (h1 : ¬ (34 + 7 * c ≤ i ∧ i < 41 + 7 * c)) (h2 : ∀ p, p < 4 → i ≠ 18 + 4 * p + c) : rClose g c i = g i := by
  unfold rClose
  rw [upd_ne (by omega), upd_ne (by omega), upd_ne (by omega), upd_ne (by omega), upd_ne (by omega), upd_ne (by omega), upd_ne (by omega), rFill_ne h2]
def mstep (x y : Nat) (half : Int32) (p : Nat) (g : Row) : Row := rPay (upd g (18 + 4 * p + x) (g (18 + 4 * p + x) + g (18 + 4 * p + y) / 2)) p (-(zrem (g (18 + 4 * p + y)) 2) * half)
def rMerge (g : Row) (m x y : Nat) : Row :=
  let g1 := zseq (mstep x y ((20 + 10 * g (37 + 7 * y)) / 2)) g m
  rEnd (rPres (rClose (upd g1 (36 + 7 * x) (g1 (36 + 7 * x) + g1 (36 + 7 * y))) y) x)
theorem mstep_ne {x y p i : Nat} {half : Int32} {g : Row} (h : i < 14 ∨ 34 ≤ i) (h6 : i ≠ 6) (hp : p < 4) (hx : x < 4) : mstep x y half p g i = g i := by
  unfold mstep
  rw [rPay_ne (by omega) h6, upd_ne (by omega)]
theorem i32_ge' {N k : Nat} (h : N ≤ k) (hk : k < 600) : Int32.ofNat N ≤ Int32.ofNat k := by
  rw [Int32.le_iff_toInt_le, Int32.toInt_ofNat_of_lt (by omega), Int32.toInt_ofNat_of_lt (by omega)]
  omega
theorem p_mergeCompanies {n : Nat} {h : zH} {b m : Nat} {g : Row} {x y : Int32} (hn : 600 ≤ n) (hx : vp_in x 4) (hy : vp_in y 4) (hm : g 0 = Int32.ofNat m) (hm4 : m ≤ 4) (hxy : x.toNatClampNeg ≠ y.toNatClampNeg) (ho : PresOk g x.toNatClampNeg) : f_X1_mergeCompanies n b x y (put h b g) = some (put h b (rMerge g m x.toNatClampNeg y.toNatClampNeg)) := by
  have hx4 := vp_lt hx
  have hy4 := vp_lt hy
  rw [e_X1_mergeCompanies]
  simp only [gR_2, gA_c hx, gA_c hy, gK_2 hy4, p_price hy4, zlet, Option.bind_some]
  unfold L_X1_mergeCompanies_27 rMerge
  have hq : ∀ k, k ≤ m → ∀ i, i < 14 ∨ 34 ≤ i → i ≠ 6 → zseq (mstep x.toNatClampNeg y.toNatClampNeg ((20 + 10 * g (37 + 7 * y.toNatClampNeg)) / 2)) g k i = g i := fun k hk i hi h6 => zseq_lt (P := fun r : Row => r i = g i) (N := m) rfl (fun k s hk hs => by rw [mstep_ne hi h6 (by omega) hx4, hs]) k hk
  refine zfor2 m (fun k => Int32.ofNat k) (fun k => put h b (zseq (mstep x.toNatClampNeg y.toNatClampNeg ((20 + 10 * g (37 + 7 * y.toNatClampNeg)) / 2)) g k)) (fun k hk rec => ?_) (fun rec => ?_) (by omega)
  · have hk4 : vp_in (Int32.ofNat k) 4 := in_of (by omega) (by omega)
    simp only [gI_8, hq k (by omega) 0 (by omega) (by omega), hm, if_neg (i32_ge hk (by omega)), gC_0 hx4, gC_0 hy4, gA_h hx4 hk4, gA_h hy4 hk4, sA_h hx4 hk4, gK_0, p_playerPays hk4, nn_of (show k < 600 by omega), zlet, Option.bind_some, i32_succ]
    rfl
  · simp only [gI_8, hq m (by omega) 0 (by omega) (by omega), hm, if_pos (Int32.le_refl _), gC_3 hx4, gC_3 hy4, sC_3 hx4, gK_2 hy4, gK_2 hx4, p_close hn hy4, Option.bind_some]
    rw [p_pres hn hx4 (by unfold PresOk; rw [rClose_ne (by omega) (by omega), upd_ne (by omega), hq m (by omega) _ (by omega) (by omega)]; exact ho)]
    simp only [gK_0, p_endActiveTurn, Option.bind_some]
def rOver (g : Row) : Row := if g 4 < g 9 then g else upd (upd (upd g 3 0) 2 0) 5 (g 5 + 1)
theorem p_endOperatingIfOver {n : Nat} {h : zH} {b : Nat} {g : Row} : f_X1_endOperatingIfOver n b (put h b g) = some (put h b (rOver g)) := by
  unfold f_X1_endOperatingIfOver rOver
  simp only [gI_6, gI_5, gI_12, sI_11, sI_10, sI_12, Option.bind_some]
  rw [upd_ne (by omega), upd_ne (by omega)]
  split <;> rfl
def nextC (g : Row) : Int32 := if g 3 = 0 then -1 else if g 9 ≤ g 4 then -1 else g (10 + (g 4).toNatClampNeg)
theorem p_nextCompany {n : Nat} {h : zH} {b : Nat} {g : Row} (hp : ¬ g 9 ≤ g 4 → vp_in (g 4) 4) : f_X1_nextCompany n b (put h b g) = some (nextC g) := by
  unfold f_X1_nextCompany nextC
  simp only [gI_11, gI_6, gI_5, gR_4, zlet, Option.bind_some]
  split
  · rfl
  · split
    · rfl
    · rename_i h1 h2
      simp only [gA_o (hp h2), Option.bind_some]
def rCPay (g : Row) (c : Nat) (x : Int32) : Row := upd (upd g (36 + 7 * c) (g (36 + 7 * c) - x)) 6 (g 6 + x)
theorem rCPay_ne {g : Row} {c i : Nat} {x : Int32} (h1 : i ≠ 36 + 7 * c) (h2 : i ≠ 6) : rCPay g c x i = g i := by
  unfold rCPay
  rw [upd_ne h2, upd_ne h1]
theorem p_companyPays {n : Nat} {h : zH} {b c : Nat} {g : Row} {x : Int32} (hc : c < 4) : f_X1_companyPays n b (b + 15 + 2 * c) x (put h b g) = some (put h b (rCPay g c x)) := by
  unfold f_X1_companyPays rCPay
  simp only [gC_3 hc, sC_3 hc, gI_13, sI_13, Option.bind_some]
  rw [upd_ne (by omega)]
def NextOk (g : Row) : Prop := (¬ g 9 ≤ g 4 → vp_in (g 4) 4) ∧ (nextC g ≠ -1 → vp_in (nextC g) 4)
theorem p_canExtend {n : Nat} {h : zH} {b : Nat} {g : Row} (ho : NextOk g) : f_X1_canExtend n b (put h b g) = some (if nextC g ≠ -1 ∧ g 8 = 0 ∧ ¬ 5 ≤ g (38 + 7 * (nextC g).toNatClampNeg) ∧ ¬ g (36 + 7 * (nextC g).toNatClampNeg) < 60 then 1 else 0) := by
  unfold f_X1_canExtend
  simp only [gK_0, p_nextCompany ho.1, gI_7, gR_2, zlet, Option.bind_some]
  by_cases h1 : nextC g = -1
  · simp [h1]
  · have hc := ho.2 h1
    have hc4 := vp_lt hc
    by_cases h2 : g 8 = 0
    · simp only [gA_c hc, gC_5 hc4, gC_3 hc4, Option.bind_some, if_neg h1, if_pos h2]
      by_cases h3 : 5 ≤ g (38 + 7 * (nextC g).toNatClampNeg)
      · simp [h3]
      · by_cases h4 : g (36 + 7 * (nextC g).toNatClampNeg) < 60
        · simp [h4]
        · simp [h1, h2, h3, h4]
    · simp [h1, h2]
def rExtend (g : Row) : Row := upd (upd (rCPay g (nextC g).toNatClampNeg 60) (38 + 7 * (nextC g).toNatClampNeg) (g (38 + 7 * (nextC g).toNatClampNeg) + 1)) 8 1
theorem p_extendNext {n : Nat} {h : zH} {b : Nat} {g : Row} (ho : NextOk g) (h1 : nextC g ≠ -1) : f_X1_extendNext n b (put h b g) = some (g (38 + 7 * (nextC g).toNatClampNeg) + 1, put h b (rExtend g)) := by
  have hc := ho.2 h1
  have hc4 := vp_lt hc
  unfold f_X1_extendNext rExtend
  simp only [gK_0, p_nextCompany ho.1, gR_2, gA_c hc, p_companyPays hc4, gC_5 hc4, sC_5 hc4, sI_7, Option.bind_some, if_neg h1]
  rw [upd_ne (by omega), upd_eq, rCPay_ne (by omega) (by omega)]
def stepOf (g : Row) (k : Nat) : Int32 := g (37 + 7 * (g (10 + k)).toNatClampNeg)
def insAt (g : Row) (c : Nat) : Nat → Nat
  | 0 => 0
  | k + 1 => if g (37 + 7 * c) ≤ stepOf g k then k + 1 else insAt g c k
theorem insAt_le {g : Row} {c : Nat} : ∀ k, insAt g c k ≤ k
  | 0 => Nat.le_refl 0
  | k + 1 => by
    unfold insAt
    split
    · exact Nat.le_refl _
    · exact Nat.le_succ_of_le (insAt_le k)
theorem insAt_gt {g : Row} {c : Nat} : ∀ k j, insAt g c k ≤ j → j < k → ¬ g (37 + 7 * c) ≤ stepOf g j
  | 0, _, _, h => absurd h (Nat.not_lt_zero _)
  | k + 1, j, h1, h2 => by
    unfold insAt at h1
    split at h1
    · omega
    · rename_i hn
      by_cases h : j = k
      · rw [h]; exact hn
      · exact insAt_gt k j h1 (by omega)
theorem insAt_at {g : Row} {c : Nat} : ∀ k j, insAt g c k = j + 1 → g (37 + 7 * c) ≤ stepOf g j
  | 0, j, h => by simp [insAt] at h
  | k + 1, j, h => by
    unfold insAt at h
    split at h
    · rename_i hn
      rw [show j = k by omega]; exact hn
    · exact insAt_at k j h
def shRow (g : Row) (len : Nat) (k : Nat) : Row := zseq (fun i r => upd r (10 + (len - i)) (r (10 + (len - i - 1)))) g k
theorem shRow_ne {g : Row} {len k i : Nat} (h : i < 10 + (len - k) + 1 ∨ 10 + len < i) (hk : k ≤ len) : shRow g len k i = g i := zseq_lt (P := fun r : Row => r i = g i) (N := k) rfl (fun j s hj hs => by show upd s _ _ i = g i; rw [upd_ne (by omega), hs]) k (Nat.le_refl k)
def rIns (g : Row) (c : Int32) (len : Nat) : Row :=
  let q := insAt g c.toNatClampNeg len
  upd (upd (shRow g len (len - q)) (10 + q) c) 9 (g 9 + 1)
theorem i32_pos (p : Nat) (hp : p < 600) : ¬ Int32.ofNat (p + 1) ≤ 0 := by
  rw [Int32.le_iff_toInt_le, Int32.toInt_ofNat_of_lt (by omega)]
  have : (0 : Int32).toInt = 0 := rfl
  omega
theorem i32_pred (p : Nat) : Int32.ofNat (p + 1) - 1 = Int32.ofNat p := by
  rw [← i32_succ]
  exact Int32.add_sub_cancel _ _
theorem i32_addm (p : Nat) : Int32.ofNat (p + 1) + (-1) = Int32.ofNat p := by
  rw [← Int32.sub_eq_add_neg]
  exact i32_pred p
theorem p_putInOrder {n : Nat} {h : zH} {b len : Nat} {g : Row} {c : Int32} (hn : 600 ≤ n) (hc : vp_in c 4) (hl : g 9 = Int32.ofNat len) (hl4 : len < 4) (ho : ∀ k, k < len → vp_in (g (10 + k)) 4) : f_X1_putInOrder n b c (put h b g) = some (put h b (rIns g c len)) := by
  have hc4 := vp_lt hc
  rw [e_X1_putInOrder]
  simp only [gI_5, Option.bind_some, hl]
  unfold L_X1_putInOrder_5 rIns
  have hq := insAt_le (g := g) (c := c.toNatClampNeg) len
  refine zfor2 (len - insAt g c.toNatClampNeg len) (fun k => Int32.ofNat (len - k)) (fun k => put h b (shRow g len k)) (fun k hk rec => ?_) (fun rec => ?_) (by omega)
  · obtain ⟨p, hp⟩ : ∃ p, len - k = p + 1 := ⟨len - k - 1, by omega⟩
    have hv : vp_in (Int32.ofNat p) 4 := in_of (by omega) (by omega)
    have hw : vp_in (Int32.ofNat (p + 1)) 4 := in_of (by omega) (by omega)
    have e1 : shRow g len k (10 + p) = g (10 + p) := shRow_ne (by omega) (by omega)
    have hz : vp_in (g (10 + p)) 4 := ho p (by omega)
    have hz4 := vp_lt hz
    have e2 : shRow g len k (37 + 7 * (g (10 + p)).toNatClampNeg) = stepOf g p := shRow_ne (by omega) (by omega)
    have e3 : shRow g len k (37 + 7 * c.toNatClampNeg) = g (37 + 7 * c.toNatClampNeg) := shRow_ne (by omega) (by omega)
    have hlt := insAt_gt (g := g) (c := c.toNatClampNeg) len p (by omega) (by omega)
    simp only [hp, zlet, if_neg (i32_pos p (by omega)), gR_2, gR_4, i32_pred, gA_o hv, nn_of (show p < 600 by omega), e1, gA_c hz, gC_4 hz4, e2, gA_c hc, gC_4 hc4, e3, if_neg hlt, sA_o hw, nn_of (show p + 1 < 600 by omega), i32_addm, Option.bind_some]
    rw [show len - (k + 1) = p by omega]
    show rec _ (put h b (upd _ _ _)) = rec _ (put h b (upd _ (10 + (len - k)) (shRow g len k (10 + (len - k - 1)))))
    rw [hp, show p + 1 - 1 = p from rfl, e1]
    rfl
  · have hk : len - (len - insAt g c.toNatClampNeg len) = insAt g c.toNatClampNeg len := by omega
    have hw : vp_in (Int32.ofNat (insAt g c.toNatClampNeg len)) 4 := in_of (by omega) (by omega)
    have e9 : shRow g len (len - insAt g c.toNatClampNeg len) 9 = g 9 := shRow_ne (by omega) (by omega)
    have hend : ((zgR (put h b (shRow g len (len - insAt g c.toNatClampNeg len))) b 1 4).bind fun (v58 : Nat) => (zsi (put h b (shRow g len (len - insAt g c.toNatClampNeg len))) v58 (Int32.ofNat (insAt g c.toNatClampNeg len)) c).bind fun (h63 : zH) => (zgI h63 b 1 5).bind fun (v66 : Int32) => (zp h63 b 1 5 (.int (v66 + (1 : Int32)))).bind fun (h71 : zH) => some h71) = some (put h b (upd (upd (shRow g len (len - insAt g c.toNatClampNeg len)) (10 + insAt g c.toNatClampNeg len) c) 9 (g 9 + 1))) := by
      simp only [gR_4, sA_o hw, gI_5, sI_5, nn_of (show insAt g c.toNatClampNeg len < 600 by omega), Option.bind_some]
      rw [upd_ne (by omega), e9]
    simp only [hk, zlet, hend]
    cases hq0 : insAt g c.toNatClampNeg len with
    | zero => rw [if_pos (by decide)]
    | succ p =>
      have hv : vp_in (Int32.ofNat p) 4 := in_of (by omega) (by omega)
      have e1 : shRow g len (len - (p + 1)) (10 + p) = g (10 + p) := shRow_ne (by omega) (by omega)
      have hz : vp_in (g (10 + p)) 4 := ho p (by omega)
      have hz4 := vp_lt hz
      have e2 : shRow g len (len - (p + 1)) (37 + 7 * (g (10 + p)).toNatClampNeg) = stepOf g p := shRow_ne (by omega) (by omega)
      have e3 : shRow g len (len - (p + 1)) (37 + 7 * c.toNatClampNeg) = g (37 + 7 * c.toNatClampNeg) := shRow_ne (by omega) (by omega)
      have hle := insAt_at (g := g) (c := c.toNatClampNeg) len p hq0
      simp only [if_neg (i32_pos p (by omega)), gR_2, gR_4, i32_pred, gA_o hv, nn_of (show p < 600 by omega), e1, gA_c hz, gC_4 hz4, e2, gA_c hc, gC_4 hc4, e3, if_pos hle, Option.bind_some]
def ordStep (c : Nat) (r : Row) : Row := if r (34 + 7 * c) = 0 then r else rIns r (Int32.ofNat c) (r 9).toNatClampNeg
theorem ordStep_eq {c len : Nat} {r : Row} (h : r 9 = Int32.ofNat len) (hl : len < 600) : ordStep c r = if r (34 + 7 * c) = 0 then r else rIns r (Int32.ofNat c) len := by
  unfold ordStep
  rw [h, nn_of hl]
def OrdOk (k : Nat) (r : Row) : Prop := ∃ len, len ≤ k ∧ r 9 = Int32.ofNat len ∧ ∀ j, j < len → vp_in (r (10 + j)) 4
theorem shRow_in {g : Row} {len j : Nat} : ∀ k, k ≤ len → len - k < j → j ≤ len → shRow g len k (10 + j) = g (10 + (j - 1))
  | 0, _, h1, h2 => by omega
  | k + 1, hk, h1, h2 => by
    show upd (shRow g len k) (10 + (len - k)) (shRow g len k (10 + (len - k - 1))) (10 + j) = _
    by_cases hj : j = len - k
    · rw [hj, upd_eq, shRow_ne (by omega) (by omega)]
    · rw [upd_ne (by omega)]
      exact shRow_in k (by omega) (by omega) h2
theorem rIns_len {g : Row} {c : Int32} {len : Nat} (hl : g 9 = Int32.ofNat len) : rIns g c len 9 = Int32.ofNat (len + 1) := by
  unfold rIns
  simp only [upd_eq, hl, i32_succ]
theorem rIns_ord {g : Row} {c : Int32} {len j : Nat} (hj : j ≤ len) : rIns g c len (10 + j) = if j < insAt g c.toNatClampNeg len then g (10 + j) else if j = insAt g c.toNatClampNeg len then c else g (10 + (j - 1)) := by
  have hq := insAt_le (g := g) (c := c.toNatClampNeg) len
  unfold rIns
  rw [upd_ne (by omega)]
  by_cases h1 : j = insAt g c.toNatClampNeg len
  · rw [h1, upd_eq, if_neg (by omega), if_pos rfl]
  · rw [upd_ne (by omega)]
    by_cases h2 : j < insAt g c.toNatClampNeg len
    · rw [if_pos h2, shRow_ne (by omega) (by omega)]
    · rw [if_neg h2, if_neg h1, shRow_in _ (by omega) (by omega) hj]
theorem rIns_ne {g : Row} {c : Int32} {len i : Nat} (h9 : i ≠ 9) (h : i < 10 ∨ 10 + len < i) : rIns g c len i = g i := by
  have hq := insAt_le (g := g) (c := c.toNatClampNeg) len
  unfold rIns
  rw [upd_ne h9, upd_ne (by omega), shRow_ne (by omega) (by omega)]
theorem ordStep_ok {k : Nat} {r : Row} (hk : k < 4) (h : OrdOk k r) : OrdOk (k + 1) (ordStep k r) := by
  obtain ⟨len, h1, h2, h3⟩ := h
  unfold ordStep
  split
  · exact ⟨len, by omega, h2, h3⟩
  · rw [h2, nn_of (by omega)]
    refine ⟨len + 1, by omega, rIns_len h2, fun j hj => ?_⟩
    rw [rIns_ord (by omega)]
    split
    · exact h3 j (by have := insAt_le (g := r) (c := (Int32.ofNat k).toNatClampNeg) len; omega)
    · split
      · exact in_of hk (by omega)
      · exact h3 (j - 1) (by omega)
def rOrder (g : Row) : Row := zseq ordStep g 4
theorem zseq_ok {σ : Type} {step : Nat → σ → σ} {s : σ} {N : Nat} {P : Nat → σ → Prop} (h0 : P 0 s) (hs : ∀ k s, k < N → P k s → P (k + 1) (step k s)) : ∀ k, k ≤ N → P k (zseq step s k)
  | 0, _ => h0
  | k + 1, h => hs k _ (by omega) (zseq_ok h0 hs k (by omega))
def rBegOp (g : Row) : Row := rOver (rOrder (upd (upd (upd (upd g 3 1) 8 0) 4 0) 9 0))
theorem p_beginOperating {n : Nat} {h : zH} {b : Nat} {g : Row} (hn : 600 ≤ n) : f_X1_beginOperating n b (put h b g) = some (put h b (rBegOp g)) := by
  rw [e_X1_beginOperating]
  simp only [sI_11, sI_7, sI_6, sI_5, Option.bind_some]
  unfold L_X1_beginOperating_22 rBegOp rOrder
  have hOk := zseq_ok (N := 4) (P := OrdOk) (step := ordStep) (s := upd (upd (upd (upd g 3 1) 8 0) 4 0) 9 0) ⟨0, Nat.le_refl 0, upd_eq, fun j hj => absurd hj (Nat.not_lt_zero _)⟩ (fun k s hk hs => ordStep_ok hk hs)
  refine zfor2 4 (fun k => Int32.ofNat k) (fun k => put h b (zseq ordStep (upd (upd (upd (upd g 3 1) 8 0) 4 0) 9 0) k)) (fun k hk rec => ?_) (fun rec => ?_) (by omega)
  · obtain ⟨len, h1, h2, h3⟩ := hOk k (by omega)
    have hk4 : vp_in (Int32.ofNat k) 4 := in_of hk (by omega)
    simp only [zlet, if_neg (of_eq_false (ge4 hk)), gR_2, gA_c hk4, nn_of (show k < 600 by omega), gC_1 hk, gK_0, p_putInOrder hn hk4 h2 (by omega) h3, Option.bind_some, i32_succ]
    show _ = rec _ (put h b (ordStep k (zseq ordStep (upd (upd (upd (upd g 3 1) 8 0) 4 0) 9 0) k)))
    rw [ordStep_eq h2 (by omega)]
    split <;> rfl
  · rw [if_pos (by decide)]
    simp only [gK_0, p_endOperatingIfOver, Option.bind_some]
def rPass (g : Row) : Row :=
  if g 2 + 1 < g 0 then upd (upd g 2 (g 2 + 1)) 1 (nextT g) else rBegOp (upd (upd g 2 (g 2 + 1)) 1 (nextT g))
theorem p_passTurn {n : Nat} {h : zH} {b : Nat} {g : Row} (hn : 600 ≤ n) : f_X1_passTurn n b (put h b g) = some (put h b (rPass g)) := by
  unfold f_X1_passTurn rPass
  simp only [gI_10, sI_10, gK_0, p_nextTurn, gI_8, p_beginOperating hn, Option.bind_some]
  rw [show nextT (upd g 2 (g 2 + 1)) = nextT g from rfl, upd_ne (by omega), upd_eq, upd_ne (by omega), upd_ne (by omega)]
  split <;> rfl
def sput (h : zH) (l : Value) (q : Row) : zH := fun i => if i = 1 then some (.inr (3, [.ref 2, .ref 3, .ref 4, l, .int (q 18), .int (q 19), .int (q 20), .int (q 21)])) else if i = 2 then some (.inl (0, 8, .inl (tr 8 q))) else if i = 3 then some (.inl (0, 5, .inl (tr 5 (fun i => q (8 + i))))) else if i = 4 then some (.inl (0, 5, .inl (tr 5 (fun i => q (13 + i))))) else h i
theorem put_sset {h : zH} {b a : Nat} {g : Row} {e : va_E} (ha : a < b) : zset (put h b g) a e = put (zset h a e) b g := by
  funext i
  unfold zset put
  by_cases h1 : i = a
  · simp only [h1, if_true]
    rw [if_neg (by omega)]
  · simp only [h1, if_false]
theorem sput_ext {h : zH} {l : Value} {q q' : Row} {a : Nat} {e : va_E} (he : sput h l q' a = some e) (ho : ∀ i, i ≠ a → sput h l q' i = sput h l q i) : zset (sput h l q) a e = sput h l q' := by
  funext i
  unfold zset
  by_cases h1 : i = a
  · rw [if_pos h1, h1, he]
  · rw [if_neg h1, ho i h1]
def scell (k : Nat) : Nat := if k < 8 then 2 else if k < 13 then 3 else if k < 18 then 4 else 1
theorem sput_ne {h : zH} {l : Value} {q : Row} {k i : Nat} {x : Int32} (hi : i ≠ scell k) (hk : k < 22) : sput h l (upd q k x) i = sput h l q i := by
  unfold scell at hi
  unfold sput
  by_cases h1 : i = 1
  · subst h1
    have h18 : k < 18 := by
      refine Decidable.byContradiction fun c => hi ?_
      rw [if_neg (by omega), if_neg (by omega), if_neg (by omega)]
    simp only [if_true]
    rw [upd_ne (by omega), upd_ne (by omega), upd_ne (by omega), upd_ne (by omega)]
  · rw [if_neg h1, if_neg h1]
    by_cases h2 : i = 2
    · subst h2
      have h8 : 8 ≤ k := by
        refine Decidable.byContradiction fun c => hi ?_
        rw [if_pos (by omega)]
      simp only [if_true]
      congr 5
      exact tr_congr fun j hj => upd_ne (by omega)
    · rw [if_neg h2, if_neg h2]
      by_cases h3 : i = 3
      · subst h3
        have h8 : k < 8 ∨ 13 ≤ k := by
          refine Decidable.byContradiction fun c => hi ?_
          rw [if_neg (by omega), if_pos (by omega)]
        simp only [if_true]
        congr 5
        exact tr_congr fun j hj => upd_ne (by omega)
      · rw [if_neg h3, if_neg h3]
        by_cases h4 : i = 4
        · subst h4
          have h8 : k < 13 ∨ 18 ≤ k := by
            refine Decidable.byContradiction fun c => hi ?_
            rw [if_neg (by omega), if_neg (by omega), if_pos (by omega)]
          simp only [if_true]
          congr 5
          exact tr_congr fun j hj => upd_ne (by omega)
        · rw [if_neg h4, if_neg h4]
theorem sput_upd {h : zH} {l : Value} {q : Row} {k a : Nat} {x : Int32} {e : va_E} (ha : a = scell k) (hk : k < 22) (he : sput h l (upd q k x) a = some e) : zset (sput h l q) a e = sput h l (upd q k x) := sput_ext he (fun i hi => sput_ne (by rw [← ha]; exact hi) hk)
theorem sp_1 {h : zH} {b : Nat} {g q : Row} {l : Value} (hb5 : 5 ≤ b) : (put (sput h l q) b g) 1 = some (.inr (3, [.ref 2, .ref 3, .ref 4, l, .int (q 18), .int (q 19), .int (q 20), .int (q 21)])) := (put_out (Or.inl (by omega))).trans rfl
theorem sp_2 {h : zH} {b : Nat} {g q : Row} {l : Value} (hb5 : 5 ≤ b) : (put (sput h l q) b g) 2 = some (.inl (0, 8, .inl (tr 8 q))) := (put_out (Or.inl (by omega))).trans rfl
theorem sp_3 {h : zH} {b : Nat} {g q : Row} {l : Value} (hb5 : 5 ≤ b) : (put (sput h l q) b g) 3 = some (.inl (0, 5, .inl (tr 5 (fun i => q (8 + i))))) := (put_out (Or.inl (by omega))).trans rfl
theorem sp_4 {h : zH} {b : Nat} {g q : Row} {l : Value} (hb5 : 5 ≤ b) : (put (sput h l q) b g) 4 = some (.inl (0, 5, .inl (tr 5 (fun i => q (13 + i))))) := (put_out (Or.inl (by omega))).trans rfl
theorem sgR_0 {h : zH} {b : Nat} {g q : Row} {l : Value} (hb5 : 5 ≤ b) : zgR (put (sput h l q) b g) 1 3 0 = some 2 := by
  unfold zgR
  rw [zO_some (sp_1 hb5)]
  rfl
theorem sgR_1 {h : zH} {b : Nat} {g q : Row} {l : Value} (hb5 : 5 ≤ b) : zgR (put (sput h l q) b g) 1 3 1 = some 3 := by
  unfold zgR
  rw [zO_some (sp_1 hb5)]
  rfl
theorem sgR_2 {h : zH} {b : Nat} {g q : Row} {l : Value} (hb5 : 5 ≤ b) : zgR (put (sput h l q) b g) 1 3 2 = some 4 := by
  unfold zgR
  rw [zO_some (sp_1 hb5)]
  rfl
theorem sgR_3 {h : zH} {b : Nat} {g q : Row} {l : Nat} (hb5 : 5 ≤ b) : zgR (put (sput h (.ref l) q) b g) 1 3 3 = some l := by
  unfold zgR
  rw [zO_some (sp_1 hb5)]
  rfl
theorem sgI_4 {h : zH} {b : Nat} {g q : Row} {l : Value} (hb5 : 5 ≤ b) : zgI (put (sput h l q) b g) 1 3 4 = some (q 18) := by
  unfold zgI
  rw [zO_some (sp_1 hb5)]
  rfl
theorem sgI_5 {h : zH} {b : Nat} {g q : Row} {l : Value} (hb5 : 5 ≤ b) : zgI (put (sput h l q) b g) 1 3 5 = some (q 19) := by
  unfold zgI
  rw [zO_some (sp_1 hb5)]
  rfl
theorem sgI_6 {h : zH} {b : Nat} {g q : Row} {l : Value} (hb5 : 5 ≤ b) : zgI (put (sput h l q) b g) 1 3 6 = some (q 20) := by
  unfold zgI
  rw [zO_some (sp_1 hb5)]
  rfl
theorem sgI_7 {h : zH} {b : Nat} {g q : Row} {l : Value} (hb5 : 5 ≤ b) : zgI (put (sput h l q) b g) 1 3 7 = some (q 21) := by
  unfold zgI
  rw [zO_some (sp_1 hb5)]
  rfl
theorem ssR_3 {h : zH} {b : Nat} {g q : Row} {l : Value} {x : Nat} (hb5 : 5 ≤ b) : zp (put (sput h l q) b g) 1 3 3 (.ref x) = some (put (sput h (.ref x) q) b g) := by
  rw [zp_some (sp_1 hb5) (show 3 < 8 by omega), put_sset (by omega)]
  refine congrArg (fun q => some (put q b g)) (funext fun i => ?_)
  unfold zset sput
  by_cases h1 : i = 1
  · rw [if_pos h1, if_pos h1]; rfl
  · rw [if_neg h1, if_neg h1, if_neg h1]
theorem ssI_4 {h : zH} {b : Nat} {g q : Row} {l : Value} {x : Int32} (hb5 : 5 ≤ b) : zp (put (sput h l q) b g) 1 3 4 (.int x) = some (put (sput h l (upd q 18 x)) b g) := by
  rw [zp_some (sp_1 hb5) (show 4 < 8 by omega), put_sset (by omega)]
  exact congrArg (fun q => some (put q b g)) (sput_upd rfl (by omega) rfl)
theorem ssI_5 {h : zH} {b : Nat} {g q : Row} {l : Value} {x : Int32} (hb5 : 5 ≤ b) : zp (put (sput h l q) b g) 1 3 5 (.int x) = some (put (sput h l (upd q 19 x)) b g) := by
  rw [zp_some (sp_1 hb5) (show 5 < 8 by omega), put_sset (by omega)]
  exact congrArg (fun q => some (put q b g)) (sput_upd rfl (by omega) rfl)
theorem ssI_6 {h : zH} {b : Nat} {g q : Row} {l : Value} {x : Int32} (hb5 : 5 ≤ b) : zp (put (sput h l q) b g) 1 3 6 (.int x) = some (put (sput h l (upd q 20 x)) b g) := by
  rw [zp_some (sp_1 hb5) (show 6 < 8 by omega), put_sset (by omega)]
  exact congrArg (fun q => some (put q b g)) (sput_upd rfl (by omega) rfl)
theorem ssI_7 {h : zH} {b : Nat} {g q : Row} {l : Value} {x : Int32} (hb5 : 5 ≤ b) : zp (put (sput h l q) b g) 1 3 7 (.int x) = some (put (sput h l (upd q 21 x)) b g) := by
  rw [zp_some (sp_1 hb5) (show 7 < 8 by omega), put_sset (by omega)]
  exact congrArg (fun q => some (put q b g)) (sput_upd rfl (by omega) rfl)
theorem sga_2 {h : zH} {b : Nat} {g q : Row} {l : Value} {i : Int32} (hb5 : 5 ≤ b) (hi : vp_in i 8) : zai (put (sput h l q) b g) 2 i = some (q i.toNatClampNeg) := zai_some (f := q) (sp_2 hb5) hi
theorem ssa_2 {h : zH} {b : Nat} {g q : Row} {l : Value} {i x : Int32} (hb5 : 5 ≤ b) (hi : vp_in i 8) : zsi (put (sput h l q) b g) 2 i x = some (put (sput h l (upd q i.toNatClampNeg x)) b g) := by
  rw [zsi_some (f := q) (sp_2 hb5) hi, put_sset (by omega)]
  have hl := vp_lt hi
  have hs : 2 = scell i.toNatClampNeg := by
    unfold scell
    rw [if_pos (by omega)]
  refine congrArg (fun q => some (put q b g)) (sput_upd hs (by omega) ?_)
  unfold sput
  simp only [if_true, reduceIte, Nat.reduceEqDiff]
  
  
theorem sga_3 {h : zH} {b : Nat} {g q : Row} {l : Value} {i : Int32} (hb5 : 5 ≤ b) (hi : vp_in i 5) : zai (put (sput h l q) b g) 3 i = some (q (8 + i.toNatClampNeg)) := zai_some (f := (fun i => q (8 + i))) (sp_3 hb5) hi
theorem ssa_3 {h : zH} {b : Nat} {g q : Row} {l : Value} {i x : Int32} (hb5 : 5 ≤ b) (hi : vp_in i 5) : zsi (put (sput h l q) b g) 3 i x = some (put (sput h l (upd q (8 + i.toNatClampNeg) x)) b g) := by
  rw [zsi_some (f := (fun i => q (8 + i))) (sp_3 hb5) hi, put_sset (by omega)]
  have hl := vp_lt hi
  have hs : 3 = scell (8 + i.toNatClampNeg) := by
    unfold scell
    rw [if_neg (by omega), if_pos (by omega)]
  refine congrArg (fun q => some (put q b g)) (sput_upd hs (by omega) ?_)
  unfold sput
  simp only [if_true, reduceIte, Nat.reduceEqDiff]
  congr 5
  refine tr_congr fun j hj => ?_
  unfold upd
  by_cases hc : j = i.toNatClampNeg
  · rw [if_pos hc, if_pos (by omega)]
  · rw [if_neg hc, if_neg (by omega)]
theorem sga_4 {h : zH} {b : Nat} {g q : Row} {l : Value} {i : Int32} (hb5 : 5 ≤ b) (hi : vp_in i 5) : zai (put (sput h l q) b g) 4 i = some (q (13 + i.toNatClampNeg)) := zai_some (f := (fun i => q (13 + i))) (sp_4 hb5) hi
theorem ssa_4 {h : zH} {b : Nat} {g q : Row} {l : Value} {i x : Int32} (hb5 : 5 ≤ b) (hi : vp_in i 5) : zsi (put (sput h l q) b g) 4 i x = some (put (sput h l (upd q (13 + i.toNatClampNeg) x)) b g) := by
  rw [zsi_some (f := (fun i => q (13 + i))) (sp_4 hb5) hi, put_sset (by omega)]
  have hl := vp_lt hi
  have hs : 4 = scell (13 + i.toNatClampNeg) := by
    unfold scell
    rw [if_neg (by omega), if_neg (by omega), if_pos (by omega)]
  refine congrArg (fun q => some (put q b g)) (sput_upd hs (by omega) ?_)
  unfold sput
  simp only [if_true, reduceIte, Nat.reduceEqDiff]
  congr 5
  refine tr_congr fun j hj => ?_
  unfold upd
  by_cases hc : j = i.toNatClampNeg
  · rw [if_pos hc, if_pos (by omega)]
  · rw [if_neg hc, if_neg (by omega)]
theorem sgn_2 {h : zH} {b : Nat} {g q : Row} {l : Value} (hb5 : 5 ≤ b) : zlen (put (sput h l q) b g) 2 = some 8 := zlen_some (sp_2 hb5)
theorem sgK {h : zH} {b : Nat} {g q : Row} {l : Value} {β : Type} {o : Option β} (hb5 : 5 ≤ b) : zrc (put (sput h l q) b g) 1 3 o = o := zrc_some (sp_1 hb5)
def cpT (len : Nat) (q : Row) : Row := fun i => if 13 ≤ i ∧ i < 13 + len then q (i - 5) else q i
theorem scp {h : zH} {b : Nat} {g q : Row} {l : Value} {len : Nat} (hb5 : 5 ≤ b) (hl : len ≤ 5) : zcp (put (sput h l q) b g) 3 0 4 0 (Int32.ofNat len) = some (put (sput h l (cpT len q)) b g) := by
  unfold zcp
  rw [zIA_some (sp_3 hb5), zIA_some (sp_4 hb5)]
  have e : (Int32.ofNat len).toNatClampNeg = len := nn_of (by omega)
  have e2 : ¬ Int32.ofNat len < 0 := fun q => in_of (k := len) (n := 6) (by omega) (by omega) (Or.inl q)
  simp only [e, nn0]
  rw [if_neg (by intro q; rcases q with q | q | q | q | q; exact absurd q (by decide); exact absurd q (by decide); exact e2 q; omega; omega), put_sset (by omega)]
  refine congrArg (fun q => some (put q b g)) (sput_ext ?_ (fun i hi => ?_))
  · unfold sput
    simp only [reduceIte, Nat.reduceEqDiff]
    congr 5
    refine funext fun k => ?_
    unfold va_cpy tr cpT
    by_cases hk : k < len
    · rw [if_pos (by omega)]
      show (if 13 ≤ 13 + k ∧ 13 + k < 13 + len then q (13 + k - 5) else q (13 + k)) = _
      rw [if_pos (by omega), if_pos (by omega), if_pos (by omega)]
      exact congrArg q (by omega)
    · rw [if_neg (show ¬ (0 ≤ k ∧ k < 0 + len) by omega)]
      by_cases h5 : k < 5
      · rw [if_pos h5, if_pos h5]
        exact if_neg (by omega)
      · rw [if_neg h5, if_neg h5]
  · unfold sput cpT
    by_cases h1 : i = 1
    · rw [if_pos h1, if_pos h1, if_neg (by omega), if_neg (by omega), if_neg (by omega), if_neg (by omega)]
    · rw [if_neg h1, if_neg h1]
      by_cases h2 : i = 2
      · rw [if_pos h2, if_pos h2]
        congr 5
        exact tr_congr fun j hj => if_neg (by omega)
      · rw [if_neg h2, if_neg h2]
        by_cases h3 : i = 3
        · rw [if_pos h3, if_pos h3]
          congr 5
          exact tr_congr fun j hj => if_neg (by omega)
        · rw [if_neg h3, if_neg h3, if_neg hi, if_neg hi]
theorem i32_le_of {a b : Nat} (ha : a < 600) (hb : b < 600) : (Int32.ofNat a ≤ Int32.ofNat b) = (a ≤ b) := by
  rw [Int32.le_iff_toInt_le, Int32.toInt_ofNat_of_lt (by omega), Int32.toInt_ofNat_of_lt (by omega)]
  exact propext (by omega)
theorem i32_lt_of {a b : Nat} (ha : a < 600) (hb : b < 600) : (Int32.ofNat a < Int32.ofNat b) = (a < b) := by
  rw [Int32.lt_iff_toInt_lt, Int32.toInt_ofNat_of_lt (by omega), Int32.toInt_ofNat_of_lt (by omega)]
  exact propext (by omega)
theorem i32_eq_of {a b : Nat} (ha : a < 600) (hb : b < 600) : (Int32.ofNat a = Int32.ofNat b) = (a = b) := by
  rw [← Int32.toInt_inj, Int32.toInt_ofNat_of_lt (by omega), Int32.toInt_ofNat_of_lt (by omega)]
  exact propext (by omega)
theorem i32_subm {a b : Nat} (h : b ≤ a) : Int32.ofNat a - Int32.ofNat b = Int32.ofNat (a - b) := (Int32.ofNat_sub a b h).symm
def markStep (g : Row) (t : Nat) (r : Int32) (k : Nat) (s : Int32 × Row) : Int32 × Row := if g (62 + 8 * t + k) ≤ 0 then s else if s.2 k = 8 then (1, upd s.2 k r) else s
def rMark (g : Row) (t : Nat) (r : Int32) (q : Row) : Int32 × Row := zseq (markStep g t r) (0, q) 8
theorem zB01 {x : Int32} (h : x = 0 ∨ x = 1) : zB x = some x := if_pos h
theorem rMark_01 {g : Row} {t : Nat} {r : Int32} {q : Row} : (rMark g t r q).1 = 0 ∨ (rMark g t r q).1 = 1 := by
  refine zseq_inv (P := fun (s : Int32 × Row) => s.1 = 0 ∨ s.1 = 1) (Or.inl rfl) (fun k s hs => ?_) 8
  unfold markStep
  split
  · exact hs
  · split
    · exact Or.inr rfl
    · exact hs
theorem p_mark {n : Nat} {h : zH} {b t : Nat} {g q : Row} {l : Value} {r : Int32} (hn : 600 ≤ n) (hb5 : 5 ≤ b) (ht : t < 8) : f_X3_markNeighbours n 1 (b + 4 + t) r (put (sput h l q) b g) = some ((rMark g t r q).1, put (sput h l (rMark g t r q).2) b g) := by
  rw [e_X3_markNeighbours]
  unfold L_X3_markNeighbours_5
  refine zfor3 8 (fun k => (zseq (markStep g t r) (0, q) k).1) (fun k => Int32.ofNat k) (fun k => put (sput h l (zseq (markStep g t r) (0, q) k).2) b g) (fun k hk rec => ?_) (fun rec => ?_) (by omega)
  · simp only [zlet, if_neg (of_eq_false (ge8 hk)), gA_l ht (in_of hk (by omega)), sga_2 hb5 (in_of hk (by omega)), ssa_2 hb5 (in_of hk (by omega)), sgR_0 hb5, Option.bind_some, nn_of (show k < 600 by omega), i32_succ]
    rw [show zseq (markStep g t r) (0, q) (k + 1) = markStep g t r k (zseq (markStep g t r) (0, q) k) from rfl]
    unfold markStep
    split
    · rfl
    · split <;> rfl
  · rw [if_pos (by decide)]
    show (zB (rMark g t r q).1).bind _ = _
    rw [zB01 rMark_01]
    rfl
def roundStep (g : Row) (r : Int32) (k : Nat) (s : Int32 × Row) : Int32 × Row := if s.2 k = r - 1 then (if (rMark g k r s.2).1 = 0 then s.1 else 1, (rMark g k r s.2).2) else s
def rRound (g : Row) (r : Int32) (q : Row) : Int32 × Row := zseq (roundStep g r) (0, q) 8
def measIt (g : Row) : Nat → Nat → Row → Row
  | 0, _, q => q
  | j + 1, r, q => if (rRound g (Int32.ofNat r) q).1 = 0 then (rRound g (Int32.ofNat r) q).2 else measIt g j (r + 1) (rRound g (Int32.ofNat r) q).2
def rMeasure (g : Row) (home : Nat) (q : Row) : Row := measIt g 7 1 (upd (rFill (fun k => k) 8 8 q) home 0)
theorem p_fillDist {n : Nat} {h : zH} {b : Nat} {g q : Row} {l : Value} {v : Int32} (hn : 600 ≤ n) (hb5 : 5 ≤ b) : f_J7_fill_53178 n 2 v (put (sput h l q) b g) = some (put (sput h l (rFill (fun k => k) v 8 q)) b g) := by
  rw [e_J7_fill_53178]
  simp only [sgn_2 hb5, Option.bind_some]
  unfold L_J7_fill_53178_5 rFill
  refine zfor2 8 (fun k => Int32.ofNat k) (fun k => put (sput h l (zseq (fun k g => upd g k v) q k)) b g) (fun k hk rec => ?_) (fun rec => ?_) (by omega)
  · simp only [zlet, if_neg (of_eq_false (ge8 hk)), ssa_2 hb5 (in_of hk (by omega)), Option.bind_some, nn_of (show k < 600 by omega), i32_succ]
    rfl
  · rw [if_pos (by decide)]
theorem rRound_01 {g : Row} {r : Int32} {q : Row} : (rRound g r q).1 = 0 ∨ (rRound g r q).1 = 1 := by
  refine zseq_inv (P := fun (s : Int32 × Row) => s.1 = 0 ∨ s.1 = 1) (Or.inl rfl) (fun k s hs => ?_) 8
  unfold roundStep
  split
  · show (if _ then _ else _) = _ ∨ (if _ then _ else _) = _
    split
    · exact hs
    · exact Or.inr rfl
  · exact hs
theorem l_measure_37 {n : Nat} {h : zH} {b : Nat} {g q : Row} {l : Value} {r : Int32} {rec : Int32 → Int32 → zH → Option zH} (hn : 600 ≤ n) (hb5 : 5 ≤ b) : L_X3_measure_37 n r rec 1 (b + 1) 0 0 (put (sput h l q) b g) = rec (rRound g r q).1 (r + 1) (put (sput h l (rRound g r q).2) b g) := by
  unfold L_X3_measure_37
  refine zfor3 8 (fun k => (zseq (roundStep g r) (0, q) k).1) (fun k => Int32.ofNat k) (fun k => put (sput h l (zseq (roundStep g r) (0, q) k).2) b g) (fun k hk rec' => ?_) (fun rec' => ?_) (by omega)
  · simp only [zlet, zb2, if_neg (of_eq_false (ge8 hk)), gR_0, gR_1, gL_0, gL_1, gA_r (in_of hk (by omega)), sgK hb5, sga_2 hb5 (in_of hk (by omega)), sgR_0 hb5, Option.bind_some, nn_of (show k < 600 by omega), i32_succ, p_mark hn hb5 hk]
    rw [show zseq (roundStep g r) (0, q) (k + 1) = roundStep g r k (zseq (roundStep g r) (0, q) k) from rfl]
    unfold roundStep
    split
    · split <;> rfl
    · rfl
  · rw [if_pos (by decide)]
    rfl
theorem l_measure_21 {n : Nat} {h : zH} {b : Nat} {g : Row} {l : Value} (hn : 600 ≤ n) (hb5 : 5 ≤ b) {j r : Nat} {q : Row} (hr : r + j = 8) : L_X3_measure_21 n 1 (b + 1) 1 (Int32.ofNat r) (put (sput h l q) b g) = some (put (sput h l (measIt g j r q)) b g) := by
  unfold L_X3_measure_21
  refine zind3 (fun j a1 a2 a3 res => (∃ r q, r + j = 8 ∧ a1 = 1 ∧ a2 = Int32.ofNat r ∧ a3 = put (sput h l q) b g ∧ res = some (put (sput h l (measIt g j r q)) b g)) ∨ (a1 = 0 ∧ res = some a3)) ?_ n j _ _ _ _ (Or.inl ⟨r, q, hr, rfl, rfl, rfl, rfl⟩) (by omega)
  intro j a1 a2 a3 res hP
  rcases hP with ⟨r, q, hr, rfl, rfl, rfl, rfl⟩ | ⟨rfl, rfl⟩
  · cases j with
    | zero =>
      refine Or.inl fun rec => ?_
      rw [show r = 8 by omega, if_pos (by decide)]
      rfl
    | succ j =>
      refine Or.inr ?_
      refine ⟨j, (rRound g (Int32.ofNat r) q).1, Int32.ofNat (r + 1), put (sput h l (rRound g (Int32.ofNat r) q).2) b g, by omega, ?_, fun rec => ?_⟩
      · rcases rRound_01 (g := g) (r := Int32.ofNat r) (q := q) with e | e
        · refine Or.inr ⟨e, ?_⟩
          show some (put (sput h l (if _ then _ else _)) b g) = _
          rw [if_pos e]
        · refine Or.inl ⟨r + 1, _, by omega, e, rfl, rfl, ?_⟩
          show some (put (sput h l (if _ then _ else _)) b g) = _
          rw [if_neg (by rw [e]; decide)]
      · rw [if_neg (of_eq_false (ge8 (show r < 8 by omega))), if_neg (by decide), l_measure_37 hn hb5, i32_succ]
  · refine Or.inl fun rec => ?_
    rw [if_pos rfl]
    split <;> rfl
theorem p_measure {n : Nat} {h : zH} {b c : Nat} {g q : Row} {l : Value} (hn : 600 ≤ n) (hb5 : 5 ≤ b) (hc : c < 8) : f_X3_measure n 1 (b + 1) (Int32.ofNat c) (put (sput h l q) b g) = some (put (sput h l (rMeasure g c q)) b g) := by
  rw [e_X3_measure]
  simp only [sgR_0 hb5, Option.bind_some, p_fillDist hn hb5, ssa_2 hb5 (in_of hc (by omega)), nn_of (show c < 600 by omega)]
  exact l_measure_21 hn hb5 (r := 1) (j := 7) rfl
theorem p_reached {n : Nat} {h : zH} {b : Nat} {g q : Row} {l : Value} {t : Int32} (hb5 : 5 ≤ b) (ht : vp_in t 8) : f_X3_reached n 1 t (put (sput h l q) b g) = some (if 8 ≤ q t.toNatClampNeg then 0 else 1) := by
  unfold f_X3_reached
  simp only [sgR_0 hb5, Option.bind_some, sga_2 hb5 ht]
  split <;> rfl
theorem p_income {n : Nat} {h : zH} {b : Nat} {g q : Row} {l : Value} (hb5 : 5 ≤ b) : f_X3_income n 1 (put (sput h l q) b g) = some (zmax (q 21) 0) := by
  unfold f_X3_income
  simp only [sgI_7 hb5, Option.bind_some]
def rKeep (len : Nat) (x : Int32) (q : Row) : Row := upd (upd (cpT len q) 20 (Int32.ofNat len)) 21 x
theorem p_keep {n : Nat} {h : zH} {b len : Nat} {g q : Row} {l : Value} {x : Int32} (hb5 : 5 ≤ b) (hl : len ≤ 5) : f_X3_keep n 1 (Int32.ofNat len) x (put (sput h l q) b g) = some (put (sput h l (rKeep len x q)) b g) := by
  unfold f_X3_keep rKeep
  simp only [sgR_1 hb5, sgR_2 hb5, Option.bind_some, scp hb5 hl, ssI_6 hb5, ssI_7 hb5]
def growQ (g : Row) (S : Nat) (hb : Int32) (left t : Nat) (used inc : Int32) (q : Row) : Row := if (used ||| 1 <<< (Int32.ofNat t &&& 31)) &&& hb = 0 then upd q (8 + (S - left - 1)) (Int32.ofNat t) else if S - left - 1 = 0 then upd q (8 + (S - left - 1)) (Int32.ofNat t) else if inc + g (126 + t) ≤ q 21 then upd q (8 + (S - left - 1)) (Int32.ofNat t) else rKeep (S - left - 1 + 1) (inc + g (126 + t)) (upd q (8 + (S - left - 1)) (Int32.ofNat t))
def growR (g : Row) (S : Nat) (hb : Int32) : Nat → Nat → Int32 → Int32 → Row → Row
  | 0, t, used, inc, q => if (used ||| 1 <<< (Int32.ofNat t &&& 31)) &&& hb = 0 ∧ ¬ q t ≤ 0 then q else growQ g S hb 0 t used inc q
  | left + 1, t, used, inc, q => if (used ||| 1 <<< (Int32.ofNat t &&& 31)) &&& hb = 0 ∧ ¬ q t ≤ Int32.ofNat (left + 1) then q else
      zseq (fun k q => if g (62 + 8 * t + k) ≤ 0 then q else if (used ||| 1 <<< (Int32.ofNat t &&& 31)) &&& 1 <<< (Int32.ofNat k &&& 31) = 0 then growR g S hb left k (used ||| 1 <<< (Int32.ofNat t &&& 31)) (inc + g (126 + t) + (if g (62 + 8 * t + k) = 2 then 5 else 0)) q else q) (growQ g S hb (left + 1) t used inc q) 8
def L_X3_grow_122 (n dd p0 : Nat) (p2 x14 x24 x79 : Int32) (v116 : Nat) (a : Int32) (h0 : zH) : Option zH := zfix2 (fun rec122 (a10_122 : Int32) (h122 : zH) => if (8 : Int32) ≤ a10_122 then (some h122) else (if x24 ≤ 0 then (some h122) else ((zai h122 v116 a10_122).bind fun (v138 : Int32) => zlet (fun (h184 : zH) => zlet (a10_122 + 1) fun (x184 : Int32) => rec122 x184 h184) fun K184 => if v138 ≤ 0 then (K184 h122) else (if (x14 &&& ((1 : Int32) <<< (a10_122 &&& 31))) = 0 then ((zai h122 v116 a10_122).bind fun (v156 : Int32) => zlet (fun (s0_166 : Int32) => (f_X3_grow n dd p0 a10_122 (p2 + (1 : Int32)) x14 (x79 + s0_166) h122).bind fun (h181 : zH) => K184 h181) fun K166 => if v156 = (2 : Int32) then (K166 (5 : Int32)) else (K166 (0 : Int32))) else (K184 h122))))) n a h0
theorem e_X3_grow (n dd p0 : Nat) (p1 p2 p3 p4 : Int32) (h : zH) : f_X3_grow n (dd + 1) p0 p1 p2 p3 p4 h = ((zgI h p0 3 5).bind fun (v2 : Int32) => if p2 < v2 then (zlet ((p3 ||| ((1 : Int32) <<< (p1 &&& 31)))) fun (x14 : Int32) => (zgI h p0 3 5).bind fun (v17 : Int32) => zlet (((v17 - p2) - (1 : Int32))) fun (x24 : Int32) => (zgI h p0 3 4).bind fun (v29 : Int32) => zlet (fun (s0_41 : Int32) => zlet ((zgR h p0 3 1).bind fun (v61 : Nat) => (zsi h v61 p2 p1).bind fun (h66 : zH) => (zgR h66 p0 3 3).bind fun (v70 : Nat) => (zgR h66 v70 2 0).bind fun (v73 : Nat) => (zai h66 v73 p1).bind fun (v77 : Int32) => zlet ((p4 + v77)) fun (x79 : Int32) => zlet (fun (h108 : zH) => (zgR h108 p0 3 3).bind fun (v109 : Nat) => (zgR h108 v109 2 1).bind fun (v112 : Nat) => (zar h108 v112 2 p1).bind fun (v116 : Nat) => L_X3_grow_122 n dd p0 p2 x14 x24 x79 v116 (0 : Int32) h108) fun K108 => if s0_41 = 0 then (K108 h66) else (if p2 ≤ 0 then (K108 h66) else ((zgI h66 p0 3 7).bind fun (v93 : Int32) => if x79 ≤ v93 then (K108 h66) else (zrc h66 p0 3 <| (f_X3_keep n p0 (p2 + (1 : Int32)) x79 h66).bind fun (h105 : zH) => K108 h105)))) fun K60 => if s0_41 = 0 then ((zgR h p0 3 0).bind fun (v49 : Nat) => (zai h v49 p1).bind fun (v53 : Int32) => if v53 ≤ x24 then (K60) else (some h)) else (K60)) fun K41 => if (x14 &&& v29) = 0 then (K41 (0 : Int32)) else (K41 (1 : Int32))) else (some h)) := rfl
theorem cpT_ne {len k : Nat} {q : Row} (hl : len ≤ 5) (hk : k < 13 ∨ 18 ≤ k) : cpT len q k = q k := if_neg (by omega)
theorem rKeep_ne {len k : Nat} {x : Int32} {q : Row} (hl : len ≤ 5) (hk : k < 13 ∨ k = 18 ∨ k = 19) : rKeep len x q k = q k := by
  unfold rKeep
  rw [upd_ne (by omega), upd_ne (by omega), cpT_ne hl (by omega)]
theorem growQ_ne {g : Row} {S : Nat} {hb : Int32} {left t : Nat} {used inc : Int32} {q : Row} {k : Nat} (hS : S ≤ 5) (hl : left + 1 ≤ S) (hk : k < 8 ∨ k = 18 ∨ k = 19) : growQ g S hb left t used inc q k = q k := by
  have hu : upd q (8 + (S - left - 1)) (Int32.ofNat t) k = q k := upd_ne (by omega)
  unfold growQ
  split
  · exact hu
  · split
    · exact hu
    · split
      · exact hu
      · rw [rKeep_ne (by omega) (by omega), hu]
theorem growR_ne {g : Row} {S : Nat} {hb : Int32} (hS : S ≤ 5) {k : Nat} (hk : k < 8 ∨ k = 18 ∨ k = 19) : ∀ (left t : Nat) (used inc : Int32) (q : Row), left + 1 ≤ S → growR g S hb left t used inc q k = q k := by
  intro left
  induction left with
  | zero =>
    intro t used inc q hl
    unfold growR
    split
    · rfl
    · exact growQ_ne hS hl hk
  | succ left ih =>
    intro t used inc q hl
    unfold growR
    split
    · rfl
    · refine (zseq_inv (P := fun q' : Row => q' k = q k) (growQ_ne hS hl hk) (fun j s hs => ?_) 8)
      show (if _ then s else if _ then _ else s) k = q k
      split
      · exact hs
      · split
        · rw [ih _ _ _ _ (by omega), hs]
        · exact hs
theorem l_grow_0 {n dd : Nat} {h : zH} {p2 x14 x79 : Int32} {v : Nat} (hn : 600 ≤ n) : L_X3_grow_122 n dd 1 p2 x14 (Int32.ofNat 0) x79 v 0 h = some h := by
  unfold L_X3_grow_122
  refine zfor2 0 (fun _ => 0) (fun _ => h) (fun k hk rec => absurd hk (by omega)) (fun rec => ?_) (by omega)
  rw [if_neg (by decide), if_pos (by decide)]
theorem p_grow {n : Nat} {h : zH} {b : Nat} {g : Row} {hb : Int32} {S : Nat} (hn : 600 ≤ n) (hb5 : 5 ≤ b) (hS : S ≤ 5) : ∀ (left dd t : Nat) (used inc : Int32) (q : Row), left < dd → left + 1 ≤ S → t < 8 → q 18 = hb → q 19 = Int32.ofNat S → f_X3_grow n dd 1 (Int32.ofNat t) (Int32.ofNat (S - left - 1)) used inc (put (sput h (.ref (b + 1)) q) b g) = some (put (sput h (.ref (b + 1)) (growR g S hb left t used inc q)) b g) := by
  intro left
  induction left with
  | zero =>
    intro dd t used inc q hd hl ht h18 h19
    obtain ⟨dd, rfl⟩ : ∃ d, dd = d + 1 := ⟨dd - 1, by omega⟩
    rw [e_X3_grow]
    have eL : Int32.ofNat S - Int32.ofNat (S - 0 - 1) - 1 = Int32.ofNat 0 := by
      rw [i32_subm (by omega), show (1 : Int32) = Int32.ofNat 1 from rfl, i32_subm (by omega)]
      exact congrArg _ (by omega)
    have c1 : (Int32.ofNat (S - 0 - 1) < Int32.ofNat S) = True := by rw [i32_lt_of (by omega) (by omega)]; exact eq_true (by omega)
    have c2 : (Int32.ofNat (S - 0 - 1) ≤ 0) = (S - 0 - 1 = 0) := by rw [show (0 : Int32) = Int32.ofNat 0 from rfl, i32_le_of (by omega) (by omega)]; exact propext (by omega)
    simp only [zlet, sgI_5 hb5, sgI_4 hb5, sgI_7 hb5, sgR_0 hb5, sgR_1 hb5, sgR_3 hb5, sgK hb5, Option.bind_some, h18, h19, eL, c1, if_true, sga_2 hb5 (in_of ht (by omega)), ssa_3 hb5 (in_of (show S - 0 - 1 < 5 by omega) (by omega)), nn_of (show t < 600 by omega), nn_of (show S - 0 - 1 < 600 by omega), gL_0, gL_1, gA_w (in_of ht (by omega)), gA_r (in_of ht (by omega)), l_grow_0 hn, c2, i32_succ, p_keep (n := n) (x := inc + g (126 + t)) hb5 (show S - 0 - 1 + 1 ≤ 5 by omega), upd_ne (show 21 ≠ 8 + (S - 0 - 1) by omega)]
    unfold growR growQ
    by_cases k1 : (used ||| 1 <<< (Int32.ofNat t &&& 31)) &&& hb = 0
    · simp only [if_pos k1, if_true]
      by_cases k2 : q t ≤ Int32.ofNat 0
      · rw [if_pos k2, if_neg (fun c => c.2 k2)]
      · rw [if_neg k2, if_pos ⟨k1, k2⟩]
    · simp only [k1, if_false, false_and, show ((1 : Int32) = 0) = False from eq_false (by decide)]
      split
      · rfl
      · split <;> rfl
  | succ left ih =>
    intro dd t used inc q hd hl ht h18 h19
    obtain ⟨dd, rfl⟩ : ∃ d, dd = d + 1 := ⟨dd - 1, by omega⟩
    have eL : Int32.ofNat S - Int32.ofNat (S - (left + 1) - 1) - 1 = Int32.ofNat (left + 1) := by
      rw [i32_subm (by omega), show (1 : Int32) = Int32.ofNat 1 from rfl, i32_subm (by omega)]
      exact congrArg _ (by omega)
    have c1 : (Int32.ofNat (S - (left + 1) - 1) < Int32.ofNat S) = True := by rw [i32_lt_of (by omega) (by omega)]; exact eq_true (by omega)
    have c2 : (Int32.ofNat (S - (left + 1) - 1) ≤ 0) = (S - (left + 1) - 1 = 0) := by rw [show (0 : Int32) = Int32.ofNat 0 from rfl, i32_le_of (by omega) (by omega)]; exact propext (by omega)
    have loop : ∀ q, q 18 = hb → q 19 = Int32.ofNat S → L_X3_grow_122 n dd 1 (Int32.ofNat (S - (left + 1) - 1)) (used ||| 1 <<< (Int32.ofNat t &&& 31)) (Int32.ofNat (left + 1)) (inc + g (126 + t)) (b + 4 + t) 0 (put (sput h (.ref (b + 1)) q) b g) = some (put (sput h (.ref (b + 1)) (zseq (fun k q => if g (62 + 8 * t + k) ≤ 0 then q else if (used ||| 1 <<< (Int32.ofNat t &&& 31)) &&& 1 <<< (Int32.ofNat k &&& 31) = 0 then growR g S hb left k (used ||| 1 <<< (Int32.ofNat t &&& 31)) (inc + g (126 + t) + (if g (62 + 8 * t + k) = 2 then 5 else 0)) q else q) q 8)) b g) := by
      intro q h18 h19
      unfold L_X3_grow_122
      have inv : ∀ k, (zseq (fun k q => if g (62 + 8 * t + k) ≤ 0 then q else if (used ||| 1 <<< (Int32.ofNat t &&& 31)) &&& 1 <<< (Int32.ofNat k &&& 31) = 0 then growR g S hb left k (used ||| 1 <<< (Int32.ofNat t &&& 31)) (inc + g (126 + t) + (if g (62 + 8 * t + k) = 2 then 5 else 0)) q else q) q k) 18 = hb ∧ (zseq (fun k q => if g (62 + 8 * t + k) ≤ 0 then q else if (used ||| 1 <<< (Int32.ofNat t &&& 31)) &&& 1 <<< (Int32.ofNat k &&& 31) = 0 then growR g S hb left k (used ||| 1 <<< (Int32.ofNat t &&& 31)) (inc + g (126 + t) + (if g (62 + 8 * t + k) = 2 then 5 else 0)) q else q) q k) 19 = Int32.ofNat S := by
        refine fun k => zseq_inv (P := fun q : Row => q 18 = hb ∧ q 19 = Int32.ofNat S) ⟨h18, h19⟩ (fun k s hs => ?_) k
        show (if _ then s else if _ then _ else s) 18 = hb ∧ (if _ then s else if _ then _ else s) 19 = Int32.ofNat S
        split
        · exact hs
        · split
          · rw [growR_ne hS (by omega) _ _ _ _ _ (by omega), growR_ne hS (by omega) _ _ _ _ _ (by omega)]
            exact hs
          · exact hs
      refine zfor2 8 (fun k => Int32.ofNat k) (fun k => put (sput h (.ref (b + 1)) (zseq (fun k q => if g (62 + 8 * t + k) ≤ 0 then q else if (used ||| 1 <<< (Int32.ofNat t &&& 31)) &&& 1 <<< (Int32.ofNat k &&& 31) = 0 then growR g S hb left k (used ||| 1 <<< (Int32.ofNat t &&& 31)) (inc + g (126 + t) + (if g (62 + 8 * t + k) = 2 then 5 else 0)) q else q) q k)) b g) (fun k hk rec => ?_) (fun rec => ?_) (by omega)
      · have c3 : ¬ Int32.ofNat (left + 1) ≤ 0 := by
          rw [show (0 : Int32) = Int32.ofNat 0 from rfl, i32_le_of (by omega) (by omega)]
          omega
        have eD : Int32.ofNat (S - (left + 1) - 1) + 1 = Int32.ofNat (S - left - 1) := by
          rw [i32_succ]
          exact congrArg _ (by omega)
        have gr := fun inc' => ih dd k (used ||| 1 <<< (Int32.ofNat t &&& 31)) inc' _ (by omega) (by omega) hk (inv k).1 (inv k).2
        simp only [zlet, if_neg (of_eq_false (ge8 hk)), if_neg c3, gA_l ht (in_of hk (by omega)), Option.bind_some, nn_of (show k < 600 by omega), i32_succ k, eD, gr]
        split
        · rename_i k1
          show rec _ (put (sput h (.ref (b + 1)) _) b g) = rec _ (put (sput h (.ref (b + 1)) (if _ then _ else _)) b g)
          rw [if_pos k1]
        · rename_i k1
          show (if _ then _ else _) = rec _ (put (sput h (.ref (b + 1)) (if _ then _ else if _ then _ else _)) b g)
          rw [if_neg k1]
          split
          · split <;> rfl
          · rfl
      · rw [if_pos (by decide)]
    have hq : growQ g S hb (left + 1) t used inc q 18 = hb ∧ growQ g S hb (left + 1) t used inc q 19 = Int32.ofNat S := by
      rw [growQ_ne hS hl (by omega), growQ_ne hS hl (by omega)]
      exact ⟨h18, h19⟩
    have lq := loop _ hq.1 hq.2
    rw [e_X3_grow]
    simp only [zlet, sgI_5 hb5, sgI_4 hb5, sgI_7 hb5, sgR_0 hb5, sgR_1 hb5, sgR_3 hb5, sgK hb5, Option.bind_some, h18, h19, eL, c1, if_true, sga_2 hb5 (in_of ht (by omega)), ssa_3 hb5 (in_of (show S - (left + 1) - 1 < 5 by omega) (by omega)), nn_of (show t < 600 by omega), nn_of (show S - (left + 1) - 1 < 600 by omega), gL_0, gL_1, gA_w (in_of ht (by omega)), gA_r (in_of ht (by omega)), c2, i32_succ, p_keep (n := n) (x := inc + g (126 + t)) hb5 (show S - (left + 1) - 1 + 1 ≤ 5 by omega), upd_ne (show 21 ≠ 8 + (S - (left + 1) - 1) by omega)]
    unfold growR
    unfold growQ at lq ⊢
    by_cases k1 : (used ||| 1 <<< (Int32.ofNat t &&& 31)) &&& hb = 0
    · simp only [if_pos k1, if_true] at lq ⊢
      by_cases k2 : q t ≤ Int32.ofNat (left + 1)
      · rw [if_pos k2, if_neg (fun c => c.2 k2)]
        exact lq
      · rw [if_neg k2, if_pos ⟨k1, k2⟩]
    · simp only [k1, if_false, false_and, show ((1 : Int32) = 0) = False from eq_false (by decide)] at lq ⊢
      split
      · rename_i k2
        rw [if_pos k2] at lq
        exact lq
      · rename_i k2
        rw [if_neg k2] at lq
        split
        · rename_i k3
          rw [if_pos k3] at lq
          exact lq
        · rename_i k3
          rw [if_neg k3] at lq
          exact lq
abbrev bitOf (k : Nat) : Int32 := 1 <<< (Int32.ofNat k &&& 31)
def tb (u : Int32) (i : Nat) : Bool := u.toBitVec.getLsbD i
theorem tb_ext {u v : Int32} (h : ∀ i, i < 32 → tb u i = tb v i) : u = v := by
  refine Int32.toBitVec_inj.mp (BitVec.eq_of_getLsbD_eq fun i hi => h i hi)
theorem tb_or {u v : Int32} {i : Nat} : tb (u ||| v) i = (tb u i || tb v i) := by
  unfold tb
  rw [Int32.toBitVec_or, BitVec.getLsbD_or]
theorem tb_and {u v : Int32} {i : Nat} : tb (u &&& v) i = (tb u i && tb v i) := by
  unfold tb
  rw [Int32.toBitVec_and, BitVec.getLsbD_and]
theorem tb_zero {i : Nat} : tb 0 i = false := by
  unfold tb
  rw [show (0 : Int32).toBitVec = 0#32 from rfl, BitVec.getLsbD_zero]
theorem tb_bit_all : ∀ k, k < 8 → ∀ i, i < 32 → tb (bitOf k) i = decide (i = k) := by decide
theorem tb_bit {k i : Nat} (hk : k < 8) (hi : i < 32) : tb (bitOf k) i = decide (i = k) := tb_bit_all k hk i hi
theorem and_bit {u : Int32} {k : Nat} (hk : k < 8) : (u &&& bitOf k = 0) = (tb u k = false) := by
  refine propext ⟨fun h => ?_, fun h => ?_⟩
  · have e : tb (u &&& bitOf k) k = false := by rw [h, tb_zero]
    rw [tb_and, tb_bit hk (by omega)] at e
    simpa using e
  · refine tb_ext fun i hi => ?_
    rw [tb_and, tb_bit hk hi, tb_zero]
    by_cases hc : i = k
    · rw [hc, h]; rfl
    · rw [decide_eq_false hc, Bool.and_false]
theorem tb_one {i : Nat} (hi : i < 32) : tb 1 i = decide (i = 0) := tb_bit (k := 0) (by omega) hi
theorem tb_shr {u : Int32} {k : Nat} (hk : k < 8) : tb (u >>> (Int32.ofNat k &&& 31)) 0 = tb u k := by
  have e : ∀ k, k < 8 → ((Int32.ofNat k &&& 31).toBitVec.smod 32).toNat = k := by decide
  unfold tb
  rw [Int32.toBitVec_shiftRight, BitVec.sshiftRight', e k hk, BitVec.getLsbD_sshiftRight]
  simp only [Nat.add_zero]
  rw [if_pos (by omega)]
  simp
theorem has_bit {u : Int32} {k : Nat} (hk : k < 8) : ((u >>> (Int32.ofNat k &&& 31)) &&& 1 = 1) = (tb u k = true) := by
  refine propext ⟨fun h => ?_, fun h => ?_⟩
  · have e : tb ((u >>> (Int32.ofNat k &&& 31)) &&& 1) 0 = true := by rw [h]; rfl
    rw [tb_and, tb_shr hk] at e
    simpa using (Bool.and_eq_true _ _ ▸ e : _ ∧ _).1
  · refine tb_ext fun i hi => ?_
    rw [tb_and, tb_one hi]
    by_cases hc : i = 0
    · rw [hc, tb_shr hk, h]; rfl
    · rw [decide_eq_false hc, Bool.and_false]
def kidsOf (g : Row) (t : Nat) (f : Nat → Int32 → List (List Nat × Int32)) (P : List Nat) (inc : Int32) (k : Nat) : List (List Nat × Int32) := if g (62 + 8 * t + k) ≤ 0 then [] else if k ∈ P then [] else f k (inc + (if g (62 + 8 * t + k) = 2 then 5 else 0))
def nodes (g : Row) : Nat → Nat → List Nat → Int32 → List (List Nat × Int32)
  | 0, t, P, inc => [(t :: P, inc + g (126 + t))]
  | left + 1, t, P, inc => (t :: P, inc + g (126 + t)) :: (List.range 8).flatMap (kidsOf g t (fun k x => nodes g left k (t :: P) x) (t :: P) (inc + g (126 + t)))
def keepS (home : Nat) (s v : List Nat × Int32) : List Nat × Int32 := if home ∈ v.1 ∧ 1 < v.1.length ∧ s.2 < v.2 then v else s
def bestOf (g : Row) (home left : Nat) : List Nat × Int32 := ((List.range 8).flatMap (fun t => nodes g left t [] 0)).foldl (keepS home) ([], -1)
def bestRel (q : Row) (s : List Nat × Int32) : Prop := q 20 = Int32.ofNat s.1.length ∧ q 21 = s.2 ∧ s.1.length ≤ 5 ∧ ∀ i, i < s.1.length → q (13 + i) = Int32.ofNat (s.1.reverse.getD i 0)
def rowOk (q : Row) (P : List Nat) : Prop := ∀ i, i < P.length → q (8 + i) = Int32.ofNat (P.reverse.getD i 0)
def usedOk (u : Int32) (P : List Nat) : Prop := ∀ k, k < 8 → tb u k = decide (k ∈ P)
theorem usedOk_cons {u : Int32} {P : List Nat} {t : Nat} (h : usedOk u P) (ht : t < 8) : usedOk (u ||| 1 <<< (Int32.ofNat t &&& 31)) (t :: P) := by
  intro k hk
  rw [tb_or, h k hk, tb_bit ht (by omega)]
  by_cases h1 : k = t <;> by_cases h2 : k ∈ P <;> simp [h1, h2]
theorem usedOk_nil : usedOk 0 [] := fun k hk => by rw [tb_zero]; rfl
theorem used_and {u : Int32} {P : List Nat} {k : Nat} (h : usedOk u P) (hk : k < 8) : (u &&& 1 <<< (Int32.ofNat k &&& 31) = 0) = (k ∉ P) := by
  rw [and_bit hk, h k hk]
  by_cases h2 : k ∈ P <;> simp [h2]
theorem getD_rev {P : List Nat} {t i : Nat} : (t :: P).reverse.getD i 0 = if i < P.length then P.reverse.getD i 0 else if i = P.length then t else 0 := by
  rw [List.reverse_cons]
  simp only [List.getD_eq_getElem?_getD]
  by_cases h1 : i < P.length
  · rw [if_pos h1, List.getElem?_append_left (by rw [List.length_reverse]; exact h1)]
  · rw [if_neg h1, List.getElem?_append_right (by rw [List.length_reverse]; omega), List.length_reverse]
    by_cases h2 : i = P.length
    · rw [if_pos h2, h2, Nat.sub_self]; rfl
    · rw [if_neg h2]
      obtain ⟨j, hj⟩ : ∃ j, i - P.length = j + 1 := ⟨i - P.length - 1, by omega⟩
      rw [hj]; rfl
theorem rowOk_cons {q : Row} {P : List Nat} {t : Nat} (h : rowOk q P) : rowOk (upd q (8 + P.length) (Int32.ofNat t)) (t :: P) := by
  intro i hi
  rw [List.length_cons] at hi
  rw [getD_rev]
  by_cases h1 : i < P.length
  · rw [if_pos h1, upd_ne (by omega), h i h1]
  · rw [if_neg h1, if_pos (by omega), show 8 + i = 8 + P.length by omega, upd_eq]
theorem rowOk_tail {q : Row} {P : List Nat} {t : Nat} (h : rowOk q (t :: P)) : rowOk q P := by
  intro i hi
  have e := h i (by rw [List.length_cons]; omega)
  rw [getD_rev, if_pos hi] at e
  exact e
theorem bestRel_upd {q : Row} {s : List Nat × Int32} {k : Nat} {x : Int32} (h : bestRel q s) (hk : k < 13) : bestRel (upd q k x) s := by
  obtain ⟨h1, h2, h3, h4⟩ := h
  exact ⟨by rw [upd_ne (by omega), h1], by rw [upd_ne (by omega), h2], h3, fun i hi => by rw [upd_ne (by omega), h4 i hi]⟩
theorem growQ_spec {g : Row} {S : Nat} {home left t : Nat} {used inc : Int32} {q : Row} {P : List Nat} {s : List Nat × Int32} (hS : S ≤ 5) (hl : left + 1 ≤ S) (hP : P.length = S - left - 1) (ht : t < 8) (hh : home < 8) (hu : usedOk used P) (hr : rowOk q P) (hb : bestRel q s) : bestRel (growQ g S (bitOf home) left t used inc q) (keepS home s (t :: P, inc + g (126 + t))) ∧ rowOk (growQ g S (bitOf home) left t used inc q) (t :: P) := by
  have hr1 := rowOk_cons (t := t) hr
  have hb1 : bestRel (upd q (8 + P.length) (Int32.ofNat t)) s := bestRel_upd hb (by omega)
  unfold growQ keepS
  simp only [used_and (usedOk_cons hu ht) hh, ← hP]
  show bestRel _ (if home ∈ t :: P ∧ 1 < (t :: P).length ∧ s.2 < inc + g (126 + t) then _ else _) ∧ _
  rw [List.length_cons]
  by_cases c1 : home ∈ t :: P
  · rw [if_neg (not_not_intro c1)]
    by_cases c2 : P.length = 0
    · rw [if_pos c2, if_neg (by omega)]
      exact ⟨hb1, hr1⟩
    · rw [if_neg c2, ← hb.2.1]
      by_cases c3 : inc + g (126 + t) ≤ q 21
      · rw [if_pos c3, if_neg (fun c => (Int32.not_lt.mpr c3) c.2.2)]
        exact ⟨hb1, hr1⟩
      · rw [if_neg c3, if_pos ⟨c1, by omega, Int32.not_le.mp c3⟩]
        refine ⟨⟨?_, ?_, ?_, fun i hi => ?_⟩, fun i hi => ?_⟩
        · unfold rKeep
          rw [upd_ne (by omega), upd_eq, List.length_cons]
        · unfold rKeep
          rw [upd_eq]
        · rw [List.length_cons]; omega
        · rw [List.length_cons] at hi
          rw [← hr1 i (by rw [List.length_cons]; exact hi)]
          unfold rKeep
          rw [upd_ne (by omega), upd_ne (by omega)]
          unfold cpT
          rw [if_pos (by omega)]
          exact congrArg _ (by omega)
        · rw [← hr1 i hi, rKeep_ne (by omega) (by rw [List.length_cons] at hi; omega)]
  · rw [if_pos c1, if_neg (fun c => c1 c.1)]
    exact ⟨hb1, hr1⟩
theorem mem_kids {g : Row} {t : Nat} {f : Nat → Int32 → List (List Nat × Int32)} {P : List Nat} {inc : Int32} {k : Nat} {v : List Nat × Int32} (h : v ∈ kidsOf g t f P inc k) : ¬ g (62 + 8 * t + k) ≤ 0 ∧ k ∉ P ∧ v ∈ f k (inc + (if g (62 + 8 * t + k) = 2 then 5 else 0)) := by
  unfold kidsOf at h
  split at h
  · exact nomatch h
  · split at h
    · exact nomatch h
    · rename_i h1 h2
      exact ⟨h1, h2, h⟩
theorem nodes_far {g : Row} {home : Nat} {dd : Nat → Nat} (h0 : dd home = 0) (hL : ∀ a b, a < 8 → b < 8 → ¬ g (62 + 8 * a + b) ≤ 0 → dd a ≤ dd b + 1) : ∀ (left t : Nat) (P : List Nat) (inc : Int32) (v : List Nat × Int32), t < 8 → v ∈ nodes g left t P inc → home ∈ v.1 → home ∈ t :: P ∨ dd t ≤ left := by
  intro left
  induction left with
  | zero =>
    intro t P inc v ht hv hh
    unfold nodes at hv
    rw [List.mem_singleton] at hv
    subst hv
    exact Or.inl hh
  | succ left ih =>
    intro t P inc v ht hv hh
    unfold nodes at hv
    rcases List.mem_cons.mp hv with hv | hv
    · subst hv
      exact Or.inl hh
    · obtain ⟨k, hk, hv⟩ := List.mem_flatMap.mp hv
      have hk8 : k < 8 := List.mem_range.mp hk
      obtain ⟨h1, h2, h3⟩ := mem_kids hv
      rcases ih k (t :: P) _ v hk8 h3 hh with e | e
      · rcases List.mem_cons.mp e with e | e
        · subst e
          have := hL t home ht hk8 h1
          exact Or.inr (by omega)
        · exact Or.inl e
      · have := hL t k ht hk8 h1
        exact Or.inr (by omega)
theorem foldl_far {home : Nat} {l : List (List Nat × Int32)} (h : ∀ v, v ∈ l → home ∉ v.1) : ∀ s, l.foldl (keepS home) s = s := by
  induction l with
  | nil => intro s; rfl
  | cons v l ih =>
    intro s
    rw [List.foldl_cons]
    rw [show keepS home s v = s from if_neg (fun c => h v List.mem_cons_self c.1)]
    exact ih (fun w hw => h w (List.mem_cons_of_mem _ hw)) s
theorem growR_spec {g : Row} {S home : Nat} {dd : Nat → Nat} (hS : S ≤ 5) (hh : home < 8) (h0 : dd home = 0) (hL : ∀ a b, a < 8 → b < 8 → ¬ g (62 + 8 * a + b) ≤ 0 → dd a ≤ dd b + 1) (h8 : ∀ a, a < 8 → dd a ≤ 8) : ∀ (left t : Nat) (P : List Nat) (used inc : Int32) (q : Row) (s : List Nat × Int32), left + 1 ≤ S → P.length = S - left - 1 → t < 8 → usedOk used P → rowOk q P → bestRel q s → (∀ k, k < 8 → q k = Int32.ofNat (dd k)) → bestRel (growR g S (bitOf home) left t used inc q) ((nodes g left t P inc).foldl (keepS home) s) ∧ rowOk (growR g S (bitOf home) left t used inc q) P := by
  intro left
  induction left with
  | zero =>
    intro t P used inc q s hl hP ht hu hr hb hd
    unfold growR nodes
    have z0 : (Int32.ofNat (dd t) ≤ 0) = (dd t ≤ 0) := i32_le_of (b := 0) (by have := h8 t ht; omega) (by omega)
    simp only [used_and (usedOk_cons hu ht) hh, hd t ht, z0]
    by_cases c : home ∉ t :: P ∧ ¬ dd t ≤ 0
    · rw [if_pos c]
      refine ⟨?_, hr⟩
      rw [foldl_far]
      · exact hb
      · intro v hv
        rw [List.mem_singleton] at hv
        subst hv
        exact c.1
    · rw [if_neg c]
      have h := growQ_spec (g := g) (inc := inc) hS hl hP ht hh hu hr hb
      exact ⟨h.1, rowOk_tail h.2⟩
  | succ left ih =>
    intro t P used inc q s hl hP ht hu hr hb hd
    unfold growR
    have z0 : (Int32.ofNat (dd t) ≤ Int32.ofNat (left + 1)) = (dd t ≤ left + 1) := i32_le_of (by have := h8 t ht; omega) (by omega)
    simp only [used_and (usedOk_cons hu ht) hh, hd t ht, z0]
    by_cases c : home ∉ t :: P ∧ ¬ dd t ≤ left + 1
    · rw [if_pos c]
      refine ⟨?_, hr⟩
      rw [foldl_far]
      · exact hb
      · intro v hv hv'
        rcases nodes_far h0 hL _ _ _ _ v ht hv hv' with e | e
        · exact c.1 e
        · exact c.2 e
    · rw [if_neg c]
      unfold nodes
      have h := growQ_spec (g := g) (inc := inc) hS hl hP ht hh hu hr hb
      have hu' := usedOk_cons hu ht
      have hq : ∀ k, k < 8 → growQ g S (bitOf home) (left + 1) t used inc q k = Int32.ofNat (dd k) := fun k hk => by rw [growQ_ne hS hl (Or.inl hk), hd k hk]
      rw [List.foldl_cons]
      have key := zseq_ok (N := 8) (P := fun k q' => bestRel q' (((List.range k).flatMap (kidsOf g t (fun k x => nodes g left k (t :: P) x) (t :: P) (inc + g (126 + t)))).foldl (keepS home) (keepS home s (t :: P, inc + g (126 + t)))) ∧ rowOk q' (t :: P) ∧ ∀ k, k < 8 → q' k = Int32.ofNat (dd k)) (step := fun k q => if g (62 + 8 * t + k) ≤ 0 then q else if (used ||| 1 <<< (Int32.ofNat t &&& 31)) &&& 1 <<< (Int32.ofNat k &&& 31) = 0 then growR g S (bitOf home) left k (used ||| 1 <<< (Int32.ofNat t &&& 31)) (inc + g (126 + t) + (if g (62 + 8 * t + k) = 2 then 5 else 0)) q else q) (s := growQ g S (bitOf home) (left + 1) t used inc q) ⟨h.1, h.2, hq⟩ ?_ 8 (by omega)
      · exact ⟨key.1, rowOk_tail key.2.1⟩
      · intro k q' hk hI
        obtain ⟨i1, i2, i3⟩ := hI
        rw [List.range_succ, List.flatMap_append, List.foldl_append, List.flatMap_singleton]
        unfold kidsOf
        simp only [used_and hu' hk]
        by_cases e1 : g (62 + 8 * t + k) ≤ 0
        · rw [if_pos e1, if_pos e1]
          exact ⟨i1, i2, i3⟩
        · rw [if_neg e1, if_neg e1]
          by_cases e2 : k ∈ t :: P
          · rw [if_neg (not_not_intro e2), if_pos e2]
            exact ⟨i1, i2, i3⟩
          · rw [if_pos e2, if_neg e2]
            have r := ih k (t :: P) (used ||| 1 <<< (Int32.ofNat t &&& 31)) (inc + g (126 + t) + (if g (62 + 8 * t + k) = 2 then 5 else 0)) q' _ (by omega) (by rw [List.length_cons]; omega) hk hu' i2 i1 i3
            exact ⟨r.1, r.2, fun j hj => by rw [growR_ne hS (Or.inl hj) _ _ _ _ _ (by omega), i3 j hj]⟩
