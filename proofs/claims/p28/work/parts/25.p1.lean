/-! numbers out of the script -/
theorem i32_div {a b : Nat} (ha : a < 2147483648) (hb : b < 2147483648) : Int32.ofNat a / Int32.ofNat b = Int32.ofNat (a / b) := by
  have hd : a / b < 2147483648 := Nat.lt_of_le_of_lt (Nat.div_le_self a b) ha
  refine Int32.toInt_inj.mp ?_
  rw [Int32.toInt_div, Int32.toInt_ofNat_of_lt ha, Int32.toInt_ofNat_of_lt hb, Int32.toInt_ofNat_of_lt hd]
  rw [show ((a : Int).tdiv (b : Int)) = ((a / b : Nat) : Int) from rfl]
  generalize a / b = d at hd ⊢
  rw [Int.bmod_eq_of_le]
  · omega
  · omega
theorem i32_zrem {a b : Nat} (ha : a < 2147483648) (hb : b < 2147483648) : zrem (Int32.ofNat a) (Int32.ofNat b) = Int32.ofNat (a % b) := by
  unfold zrem
  rw [i32_div ha hb, i32_mulm]
  have h := Nat.div_add_mod a b
  have h2 : a = a / b * b + a % b := by rw [Nat.mul_comm]; exact h.symm
  generalize a / b * b = q at h2 ⊢
  generalize a % b = r at h2 ⊢
  subst h2
  rw [← i32_addn]
  grind
theorem and_max (v : Int32) : ∃ X, X < 2147483648 ∧ v &&& 2147483647 = Int32.ofNat X := by
  refine ⟨v.toBitVec.toNat % 2147483648, Nat.mod_lt _ (by omega), ?_⟩
  refine Int32.toBitVec_inj.mp ?_
  refine BitVec.eq_of_toNat_eq ?_
  rw [Int32.toBitVec_and, BitVec.toNat_and]
  show v.toBitVec.toNat &&& 2147483647 = (BitVec.ofNat 32 _).toNat
  rw [BitVec.toNat_ofNat, show (2147483647 : Nat) = 2 ^ 31 - 1 from rfl, Nat.and_two_pow_sub_one_eq_mod]
  omega
theorem and_max_nat {X : Nat} (h : X < 2147483648) : Int32.ofNat X &&& 2147483647 = Int32.ofNat X := by
  refine Int32.toBitVec_inj.mp ?_
  refine BitVec.eq_of_toNat_eq ?_
  rw [Int32.toBitVec_and, BitVec.toNat_and]
  show (BitVec.ofNat 32 X).toNat &&& 2147483647 = (BitVec.ofNat 32 X).toNat
  rw [BitVec.toNat_ofNat, show (2147483647 : Nat) = 2 ^ 31 - 1 from rfl, Nat.and_two_pow_sub_one_eq_mod]
  omega
theorem low_any {n m : Nat} {v : Int32} {h : zH} (h0 : 0 < m) (hm : m < 2147483648) : ∃ r, r < m ∧ f_L_low n v (Int32.ofNat m) h = some (Int32.ofNat r) := by
  obtain ⟨X, hX, e⟩ := and_max v
  refine ⟨X % m, Nat.mod_lt _ h0, ?_⟩
  unfold f_L_low zdiv
  rw [if_neg (show ¬ Int32.ofNat m = 0 from i32_ne (b := 0) hm (by omega) (by omega)), e, i32_zrem hX hm]
  rfl
theorem low_nat {n m X : Nat} {h : zH} (h0 : 0 < m) (hm : m < 2147483648) (hX : X < 2147483648) : f_L_low n (Int32.ofNat X) (Int32.ofNat m) h = some (Int32.ofNat (X % m)) := by
  unfold f_L_low zdiv
  rw [if_neg (show ¬ Int32.ofNat m = 0 from i32_ne (b := 0) hm (by omega) (by omega)), and_max_nat hX, i32_zrem hX hm]
  rfl
theorem least_eq {n : Nat} {a b : Int32} {h : zH} : f_L_least n a b h = some (if a < b then a else b) := by
  unfold f_L_least
  split
  · rename_i c; rw [if_neg (Int32.not_lt.mpr c)]
  · rename_i c; rw [if_pos (Int32.not_le.mp c)]
