/-! the heap at the start, part 2: the class -/
theorem zs_out {X : zH} {b a : Nat} {g : Row} {e : va_E} (ha : a < b ∨ b + 23 ≤ a) : zset (put X b g) a e = put (zset X a e) b g := by
  funext i
  simp only [zset, put]
  by_cases c : i = a
  · rw [if_pos c, if_neg (by omega), if_pos c]
  · rw [if_neg c, if_neg c]
def g0 : Row := rReset gz 3
def nest : List Nat → zH → zH
  | [], X => X
  | b :: t, X => put (nest t X) b g0
def outB : List Nat → Nat → Bool
  | [], _ => true
  | b :: t, a => (Nat.blt a b || Nat.ble (b + 23) a) && outB t a
theorem out_1 {b a : Nat} (h : (Nat.blt a b || Nat.ble (b + 23) a) = true) : a < b ∨ b + 23 ≤ a := by
  rcases Bool.or_eq_true_iff.mp h with q | q
  · exact Or.inl (Nat.blt_eq.mp q)
  · exact Or.inr (Nat.le_of_ble_eq_true q)
theorem nest_at : ∀ (bs : List Nat) (X : zH) (a : Nat), outB bs a = true → nest bs X a = X a
  | [], _, _, _ => rfl
  | b :: t, X, a, h => by
    obtain ⟨q1, q2⟩ := Bool.and_eq_true_iff.mp h
    show put (nest t X) b g0 a = X a
    rw [put_out (out_1 q1), nest_at t X a q2]
theorem nest_set : ∀ (bs : List Nat) (X : zH) (a : Nat) (e : va_E), outB bs a = true → zset (nest bs X) a e = nest bs (zset X a e)
  | [], _, _, _, _ => rfl
  | b :: t, X, a, e, h => by
    obtain ⟨q1, q2⟩ := Bool.and_eq_true_iff.mp h
    show zset (put (nest t X) b g0) a e = put (nest t (zset X a e)) b g0
    rw [zs_out (out_1 q1), nest_set t X a e q2]
def l0 (l : List (Nat × va_E)) : zH := lput (fun _ => none) 0 l
theorem l0_set {l : List (Nat × va_E)} {a : Nat} {e : va_E} : zset (l0 l) a e = l0 ((a, e) :: l) := lset (Nat.zero_add a).symm
theorem l0_get {l : List (Nat × va_E)} {a : Nat} {e : va_E} (h : lk l a = some e) : l0 l a = some e := lget (Nat.zero_add a).symm h
theorem sn_p {bs : List Nat} {a j ci k : Nat} {l : List (Nat × va_E)} {fs : List Value} {v : Value} {β : Type} {F : zH → Option β} {r : Option β} (ha : a = j) (ho : outB bs j = true) (hl : lk l j = some (.inr (ci, fs))) (hk : Nat.ble (k + 1) fs.length = true) (hn : F (nest bs (l0 ((j, .inr (ci, fs.set k v)) :: l))) = r) : (zp (nest bs (l0 l)) a ci k v).bind F = r := by
  subst ha
  rw [zp_some (show nest bs (l0 l) a = some (.inr (ci, fs)) from by rw [nest_at bs _ a ho, l0_get hl]) (Nat.le_of_ble_eq_true hk), Option.bind_some, nest_set bs _ a _ ho, l0_set]
  exact hn
theorem sn_set {bs : List Nat} {a j : Nat} {l : List (Nat × va_E)} {e : va_E} (ha : a = j) (ho : outB bs j = true) : zset (nest bs (l0 l)) a e = nest bs (l0 ((j, e) :: l)) := by
  subst ha
  rw [nest_set bs _ a _ ho, l0_set]
theorem sn_sp {bs : List Nat} {a a2 i j ci k : Nat} {l : List (Nat × va_E)} {e : va_E} {fs : List Value} {v : Value} {β : Type} {F : zH → Option β} {r : Option β} (h2 : a2 = i) (ho2 : outB bs i = true) (ha : a = j) (ho : outB bs j = true) (hl : lk ((i, e) :: l) j = some (.inr (ci, fs))) (hk : Nat.ble (k + 1) fs.length = true) (hn : F (nest bs (l0 ((j, .inr (ci, fs.set k v)) :: (i, e) :: l))) = r) : (zp (zset (nest bs (l0 l)) a2 e) a ci k v).bind F = r := by
  rw [sn_set h2 ho2]
  exact sn_p ha ho hl hk hn
theorem sn_R {bs : List Nat} {a j ci k x : Nat} {l : List (Nat × va_E)} {fs : List Value} {β : Type} {F : Nat → Option β} {r : Option β} (ha : a = j) (ho : outB bs j = true) (hl : lk l j = some (.inr (ci, fs))) (hk : fs[k]? = some (.ref x)) (hn : F x = r) : (zgR (nest bs (l0 l)) a ci k).bind F = r := by
  subst ha
  unfold zgR
  rw [zO_some (show nest bs (l0 l) a = some (.inr (ci, fs)) from by rw [nest_at bs _ a ho, l0_get hl])]
  simp only [hk]
  exact hn
theorem sn_g {n : Nat} {bs : List Nat} {X : zH} {b a p k : Nat} {e : va_E} {β : Type} {F : zH → Option β} {r : Option β} (hn : 600 ≤ n) (ha : a = b) (hp : p = 1) (hk : k = b + 1) (he : e = fresh) (hF : F (nest (b :: bs) X) = r) : (f_X1_init n a p k (zset (nest bs X) a e)).bind F = r := by
  subst ha
  subst hp
  subst hk
  subst he
  rw [x1_init hn, Option.bind_some]
  exact hF
theorem sn_r {bs : List Nat} {b a j c N p q : Nat} {l : List (Nat × va_E)} {f : Nat → Option Nat} {i : Int32} {β : Type} {F : zH → Option β} {r : Option β} (ha : a = j) (hq : q = b) (ho : outB (b :: bs) j = true) (hl : lk l j = some (.inl (c, N, .inr (.inr (.inr (.inr f)))))) (hi : i = Int32.ofNat p) (hp : p < N) (hp2 : p < 500) (hn : F (nest (b :: bs) (l0 ((j, .inl (c, N, .inr (.inr (.inr (.inr (va_up f p (some b))))))) :: l))) = r) : (zsr (nest (b :: bs) (l0 l)) a c 1 i q).bind F = r := by
  subst ha
  subst hq
  have e : zRA (nest (q :: bs) (l0 l)) a c = some (N, f) := by
    unfold zRA
    rw [nest_at _ _ a ho, l0_get hl]
    exact if_pos rfl
  have eo : zO (nest (q :: bs) (l0 l)) q 1 = some (gobj q g0) := zO_some (show put (nest bs (l0 l)) q g0 q = some (.inr (1, gobj q g0)) from by
    rw [show put (nest bs (l0 l)) q g0 q = put (nest bs (l0 l)) q g0 (q + 0) from rfl, put_in (by omega)]
    rfl)
  have e0 : ¬ i < 0 := by
    rw [hi]
    exact nn_neg (by omega)
  have e1 : i.toNatClampNeg = p := by rw [hi, nn_of (by omega)]
  unfold zsr
  rw [e]
  simp only [eo]
  rw [if_neg (fun q => by rcases q with q | q; exact e0 q; omega), Option.bind_some, nest_set _ _ a _ ho, l0_set, e1]
  exact hn
/-- the class's cells at the start -/
def L5ok (l : List (Nat × va_E)) : Prop := lk l 0 = some (.inr (5, [.ref 5, .ref 28, .int 0, .ref 121])) ∧ lk l 1 = some (.inr (3, [.ref 2, .ref 3, .ref 4, .null, .int 0, .int 0, .int 0, .int 0])) ∧ lk l 2 = some (.inl (0, 8, .inl (fun _ => 0))) ∧ lk l 3 = some (.inl (0, 5, .inl (fun _ => 0))) ∧ lk l 4 = some (.inl (0, 5, .inl (fun _ => 0))) ∧ lk l 28 = some (.inl (4, 4, .inr (.inr (.inr (.inr (va_up (va_up (va_up (va_up (fun _ => none) 0 (some 29)) 1 (some 52)) 2 (some 75)) 3 (some 98))))))) ∧ lk l 121 = some (.inr (4, [.ref 122, .int 0])) ∧ lk l 122 = some (.inl (0, 90, .inl (fun _ => 0)))
theorem x5_init {n : Nat} (hn : 600 ≤ n) : ∃ l, f_X5_init n 0 1 (zset (fun _ => none) 0 (.inr (5, [.null, .null, .int 0, .null]))) = some (nest [98, 75, 52, 29, 5] (l0 l)) ∧ L5ok l ∧ ∀ j, 123 ≤ j → lk l j = none := by
  rw [show zset (fun _ => none) 0 (.inr (5, [.null, .null, .int 0, .null])) = nest [] (l0 [(0, .inr (5, [.null, .null, .int 0, .null]))]) from by
    show zset (fun _ => none) 0 _ = l0 _
    rw [← l0_set (l := [])]
    unfold l0
    rw [lput_nil]]
  unfold f_X5_init f_X3_init f_X4_init
  simp only [zlet, Option.bind_assoc, Option.bind_some]
  rw [sn_set (j := 1) rfl rfl]
  refine ⟨?_, ?_, ?_⟩
  rotate_left
  refine sn_sp (i := 2) (j := 1) rfl rfl rfl rfl rfl rfl ?_
  refine sn_sp (i := 3) (j := 1) rfl rfl rfl rfl rfl rfl ?_
  refine sn_sp (i := 4) (j := 1) rfl rfl rfl rfl rfl rfl ?_
  refine sn_g (b := 5) hn rfl rfl rfl rfl ?_
  refine sn_p (j := 0) rfl rfl rfl rfl ?_
  refine sn_sp (i := 28) (j := 0) rfl rfl rfl rfl rfl rfl ?_
  refine sn_R (j := 0) rfl rfl rfl rfl ?_
  refine sn_g (b := 29) hn rfl rfl rfl rfl ?_
  refine sn_r (b := 29) (j := 28) (p := 0) rfl rfl rfl rfl rfl (by omega) (by omega) ?_
  refine sn_R (j := 0) rfl rfl rfl rfl ?_
  refine sn_g (b := 52) hn rfl rfl rfl rfl ?_
  refine sn_r (b := 52) (j := 28) (p := 1) rfl rfl rfl rfl rfl (by omega) (by omega) ?_
  refine sn_R (j := 0) rfl rfl rfl rfl ?_
  refine sn_g (b := 75) hn rfl rfl rfl rfl ?_
  refine sn_r (b := 75) (j := 28) (p := 2) rfl rfl rfl rfl rfl (by omega) (by omega) ?_
  refine sn_R (j := 0) rfl rfl rfl rfl ?_
  refine sn_g (b := 98) hn rfl rfl rfl rfl ?_
  refine sn_r (b := 98) (j := 28) (p := 3) rfl rfl rfl rfl rfl (by omega) (by omega) ?_
  refine sn_p (j := 0) rfl rfl rfl rfl ?_
  rw [sn_set (j := 121) rfl rfl]
  refine sn_sp (i := 122) (j := 121) rfl rfl rfl rfl rfl rfl ?_
  refine sn_p (j := 0) rfl rfl rfl rfl ?_
  rfl
  refine ⟨⟨rfl, rfl, rfl, rfl, rfl, rfl, rfl, rfl⟩, fun j hj => ?_⟩
  simp only [lk]
  repeat rw [if_neg (by omega)]
