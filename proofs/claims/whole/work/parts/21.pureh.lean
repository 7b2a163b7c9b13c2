def cBuy (g : Row) (t c : Nat) : Prop := g 3 = 0 ∧ ¬ g (34 + 7 * c) = 0 ∧ ¬ bank (fun p => g (18 + 4 * p + c)) ≤ 0 ∧ ¬ 6 ≤ g (18 + 4 * t + c) ∧ ¬ g (14 + t) < 20 + 10 * g (37 + 7 * c)
def cSell (g : Row) (t c : Nat) (s : Int32) : Prop := g 3 = 0 ∧ ¬ g (34 + 7 * c) = 0 ∧ ¬ g (18 + 4 * t + c) < s
def cMerge (g : Row) (x y : Nat) : Prop := g 3 = 0 ∧ ¬ g (34 + 7 * x) = 0 ∧ ¬ g (34 + 7 * y) = 0 ∧ g (39 + 7 * x) = g 1 ∧ g (39 + 7 * y) = g 1 ∧ ¬ bank (fun p => g (18 + 4 * p + x)) < exch (fun p => g (18 + 4 * p + y))
theorem op_one {m : Row} {mm c : Nat} (hw : CoW m mm) (hc : c < 4) : (if m (34 + 7 * c) = 1 then (1 : Int32) else 0) = if m (34 + 7 * c) = 0 then 0 else 1 := by
  rcases (hw c hc).2.2.2 with ⟨a, _⟩ | ⟨a, _⟩
  · rw [a, if_pos rfl, if_neg (by decide)]
  · rw [a, if_neg (by decide), if_pos rfl]
theorem u_canBuy {n : Nat} {h : zH} {m pp tx w : Row} {hs : Int64} {mm t c : Nat} (hn : 600 ≤ n) (h0 : m 0 = Int32.ofNat mm) (hm : mm ≤ 4) (h1 : m 1 = Int32.ofNat t) (ht : t < mm) (hc : c < 4) (hw : CoW m mm) : (cBuy m t c → f_X6_canBuy n 123 (Int32.ofNat c) (mput h m pp tx w hs) = some 1) ∧ (¬ cBuy m t c → f_X6_canBuy n 123 (Int32.ofNat c) (mput h m pp tx w hs) = some 0) := by
  have ht4 : t < 4 := by omega
  have z1 : ¬ (1 : Int32) = 0 := by decide
  have e : f_X6_canBuy n 123 (Int32.ofNat c) (mput h m pp tx w hs) = if m 3 = 0 then (if m (34 + 7 * c) = 0 then some 0 else if bank (fun p => m (18 + 4 * p + c)) ≤ 0 then some 0 else if 6 ≤ m (18 + 4 * t + c) then some 0 else if m (14 + t) < 20 + 10 * m (37 + 7 * c) then some 0 else some 1) else some 0 := by
    unfold f_X6_canBuy
    simp only [mgK, u_isStock, u_isOpen hc, op_one hw hc, u_rest hn h0 hm hc (sh_zero (hw c hc).1), mgR_0, mN_1, h1, u_shares ht4 hc, u_purse ht4 h1, u_price hc, zlet, Option.bind_some]
    by_cases c1 : m 3 = 0
    · simp only [if_pos c1, if_neg z1]
      by_cases c2 : m (34 + 7 * c) = 0
      · simp only [if_pos c2, if_true]
      · simp only [if_neg c2, if_neg z1]
    · simp only [if_neg c1, if_true]
  rw [e]
  unfold cBuy
  constructor
  · rintro ⟨a, b, d, f, g⟩
    rw [if_pos a, if_neg b, if_neg d, if_neg f, if_neg g]
  · intro q
    split
    · split
      · rfl
      · split
        · rfl
        · split
          · rfl
          · split
            · rfl
            · rename_i a b d f g
              exact absurd ⟨a, b, d, f, g⟩ q
    · rfl
theorem u_canSell {n : Nat} {h : zH} {m pp tx w : Row} {hs : Int64} {mm t c : Nat} {s : Int32} (h1 : m 1 = Int32.ofNat t) (ht : t < 4) (hc : c < 4) (hw : CoW m mm) : (cSell m t c s → f_X6_canSell n 123 (Int32.ofNat c) s (mput h m pp tx w hs) = some 1) ∧ (¬ cSell m t c s → f_X6_canSell n 123 (Int32.ofNat c) s (mput h m pp tx w hs) = some 0) := by
  have z1 : ¬ (1 : Int32) = 0 := by decide
  have e : f_X6_canSell n 123 (Int32.ofNat c) s (mput h m pp tx w hs) = if m 3 = 0 then (if m (34 + 7 * c) = 0 then some 0 else if m (18 + 4 * t + c) < s then some 0 else some 1) else some 0 := by
    unfold f_X6_canSell
    simp only [mgK, u_isStock, u_isOpen hc, op_one hw hc, mgR_0, mN_1, h1, u_shares ht hc, zlet, Option.bind_some]
    by_cases c1 : m 3 = 0
    · simp only [if_pos c1, if_neg z1]
      by_cases c2 : m (34 + 7 * c) = 0
      · simp only [if_pos c2, if_true]
      · simp only [if_neg c2, if_neg z1]
    · simp only [if_neg c1, if_true]
  rw [e]
  unfold cSell
  constructor
  · rintro ⟨a, b, d⟩
    rw [if_pos a, if_neg b, if_neg d]
  · intro q
    split
    · split
      · rfl
      · split
        · rfl
        · rename_i a b d
          exact absurd ⟨a, b, d⟩ q
    · rfl
theorem u_canMerge {n : Nat} {h : zH} {m pp tx w : Row} {hs : Int64} {mm x y : Nat} (hn : 600 ≤ n) (h0 : m 0 = Int32.ofNat mm) (hm : mm ≤ 4) (hx : x < 4) (hy : y < 4) (hw : CoW m mm) : (cMerge m x y → f_X6_canMerge n 123 (Int32.ofNat x) (Int32.ofNat y) (mput h m pp tx w hs) = some 1) ∧ (¬ cMerge m x y → f_X6_canMerge n 123 (Int32.ofNat x) (Int32.ofNat y) (mput h m pp tx w hs) = some 0) := by
  have z1 : ¬ (1 : Int32) = 0 := by decide
  have e : f_X6_canMerge n 123 (Int32.ofNat x) (Int32.ofNat y) (mput h m pp tx w hs) = if m 3 = 0 then (if m (34 + 7 * x) = 0 then some 0 else if m (34 + 7 * y) = 0 then some 0 else if m (39 + 7 * x) = m 1 then (if m (39 + 7 * y) = m 1 then (if bank (fun p => m (18 + 4 * p + x)) < exch (fun p => m (18 + 4 * p + y)) then some 0 else some 1) else some 0) else some 0) else some 0 := by
    unfold f_X6_canMerge
    simp only [mgK, u_isStock, u_isOpen hx, u_isOpen hy, op_one hw hx, op_one hw hy, u_rest hn h0 hm hx (sh_zero (hw x hx).1), u_wanted hn h0 hm hy (sh_zero (hw y hy).1), u_of_5 hx, u_of_5 hy, mgR_0, mN_1, zlet, Option.bind_some]
    by_cases c1 : m 3 = 0
    · simp only [if_pos c1, if_neg z1]
      by_cases c2 : m (34 + 7 * x) = 0
      · simp only [if_pos c2, if_true]
      · simp only [if_neg c2, if_neg z1]
        by_cases c3 : m (34 + 7 * y) = 0
        · simp only [if_pos c3, if_true]
        · simp only [if_neg c3, if_neg z1]
    · simp only [if_neg c1, if_true]
  rw [e]
  unfold cMerge
  constructor
  · rintro ⟨a, b, d, f, g, i⟩
    rw [if_pos a, if_neg b, if_neg d, if_pos f, if_pos g, if_neg i]
  · intro q
    split
    · split
      · rfl
      · split
        · rfl
        · split
          · split
            · split
              · rfl
              · rename_i a b d f g i
                exact absurd ⟨a, b, d, f, g, i⟩ q
            · rfl
          · rfl
    · rfl
theorem u_buys {n : Nat} {h : zH} {m pp tx w : Row} {hs : Int64} {mm t c B : Nat} (hn : 600 ≤ n) (hWF : WF m mm) (h1 : m 1 = Int32.ofNat t) (ht : t < mm) (hc : c < 4) (hcb : cBuy m t c) : f_X6_buys n 123 (Int32.ofNat c) (mput h m pp tx w hs) = some (m (18 + 4 * t + c) + 1, mput h (rBuy m c) pp tx w hs) := by
  obtain ⟨⟨b1, b2, h0, _⟩, _, hw, _⟩ := hWF
  obtain ⟨s, s1, s2, s3⟩ := (hw c hc).1
  have hbk : s 0 + s 1 + s 2 + s 3 + 1 ≤ 10 := by
    have q := hcb.2.2.1
    rw [bank_eq (f := fun p => m (18 + 4 * p + c)) (s := s) s1 s2, show (0 : Int32) = Int32.ofNat 0 from rfl, i32_le_of (by omega) (by omega)] at q
    omega
  have ht4 : t < 4 := by omega
  have s1' : ShOk (upd (rPay m t (20 + 10 * m (37 + 7 * c))) (18 + 4 * t + c) (rPay m t (20 + 10 * m (37 + 7 * c)) (18 + 4 * t + c) + 1)) mm c := by
    rw [rPay_ne (by omega) (by omega), s1 t ht4, i32_succ]
    exact ShOk_inc (s := s) ht b2 (fun p hp => by rw [rPay_ne (by omega) (by omega), s1 p hp]) (by omega) s3
  rw [rBuy_eq h1 ht4]
  unfold f_X6_buys
  rw [mgR_0, Option.bind_some, mN_1, Option.bind_some, h1, mgK, u_price hc, Option.bind_some, mgK, u_pays ht4, Option.bind_some, mgK, u_holds (mm := mm) hn (by rw [rPay_ne (by omega) (by omega), h0]) b2 ht4 hc s1' (PrOk_congr (rPay_ne (by omega) (by omega)) (hw c hc).2.1), Option.bind_some, mgK]
  have e1 : rPay m t (20 + 10 * m (37 + 7 * c)) (18 + 4 * t + c) = m (18 + 4 * t + c) := rPay_ne (by omega) (by omega)
  rw [e1]
  have eb : rPres (upd (rPay m t (20 + 10 * m (37 + 7 * c))) (18 + 4 * t + c) (m (18 + 4 * t + c) + 1)) c = buyC m t c := rfl
  rw [eb, u_ends (mm := mm) (t := t) (by rw [buyC_ne (by omega) (by omega) (by omega) (by omega), h0]) (by omega) ht (by rw [buyC_ne (by omega) (by omega) (by omega) (by omega), h1]), Option.bind_some, mgK, u_shares ht4 hc, Option.bind_some]
  have e2 : rEnd (buyC m t c) (18 + 4 * t + c) = m (18 + 4 * t + c) + 1 := by
    rw [rEnd_ne (by omega) (by omega)]
    unfold buyC
    rw [rPres_ne (by omega), upd_eq]
  rw [e2]
theorem u_sells {n : Nat} {h : zH} {m pp tx w : Row} {hs : Int64} {mm t c k a : Nat} {s : Int32} (hn : 600 ≤ n) (hWF : WF m mm) (h1 : m 1 = Int32.ofNat t) (ht : t < mm) (hc : c < 4) (ho : m (34 + 7 * c) = 1) (es : s = Int32.ofNat k) (ha : m (18 + 4 * t + c) = Int32.ofNat a) (ha2 : a < 600) (hk : k ≤ a) : f_X6_sells n 123 (Int32.ofNat c) s (mput h m pp tx w hs) = some (rSell m t c (Int32.ofNat k) (14 + t), mput h (rSell m t c (Int32.ofNat k)) pp tx w hs) := by
  obtain ⟨⟨b1, b2, h0, _⟩, _, hw, _⟩ := hWF
  have ht4 : t < 4 := by omega
  have e1 : rPay m t (-s * (20 + 10 * m (37 + 7 * c))) 1 = Int32.ofNat t := by rw [rPay_ne (by omega) (by omega), h1]
  have sale := u_sale (n := n) (h := h) (pp := pp) (tx := tx) (w := w) (hs := hs) (x := -s * (20 + 10 * m (37 + 7 * c))) (y := -s) (d := -1) (fun h34 => zrc h34 123 6 <| (f_X6_purse n 123 h34).bind fun (r38 : Int32) => some (r38, h34)) hn h0 b2 ht hc hw ho ha ha2 hk (by rw [es]) (by rw [es]) rfl
  unfold f_X6_sells
  rw [mgR_0, Option.bind_some, mN_1, Option.bind_some, h1, mgK, u_price hc, Option.bind_some, mgK]
  rw [u_pays ht4, Option.bind_some, mgR_0, Option.bind_some, mN_1, Option.bind_some, e1]
  rw [u_pays ht4, Option.bind_some] at sale
  rw [sale, mgK, u_purse ht4 (by rw [rSell_ne (by omega) (by omega) (by omega) (by omega) (by omega), h1]), Option.bind_some]
theorem rFall_upd {g : Row} {c i : Nat} {v : Int32} (h : i ≠ 37 + 7 * c) : rFall (upd g i v) c = upd (rFall g c) i v := by
  unfold rFall
  rw [upd_ne (show 37 + 7 * c ≠ i by omega)]
  split
  · rfl
  · rw [upd_comm h]
theorem rRise_upd {g : Row} {c i : Nat} {v : Int32} (h : i ≠ 37 + 7 * c) : rRise (upd g i v) c = upd (rRise g c) i v := by
  unfold rRise
  rw [upd_ne (show 37 + 7 * c ≠ i by omega)]
  split
  · rfl
  · rw [upd_comm h]
theorem rCPay_upd {g : Row} {c i : Nat} {v x : Int32} (h : i ≠ 36 + 7 * c) (h6 : i ≠ 6) : rCPay (upd g i v) c x = upd (rCPay g c x) i v := by
  unfold rCPay
  rw [upd_ne (show 36 + 7 * c ≠ i by omega), upd_ne (show 6 ≠ i by omega), upd_comm h, upd_comm h6]
theorem rPay_upd {g : Row} {p i : Nat} {v x : Int32} (h : i ≠ 14 + p) (h6 : i ≠ 6) : rPay (upd g i v) p x = upd (rPay g p x) i v := by
  unfold rPay
  rw [upd_ne (show 14 + p ≠ i by omega), upd_ne (show 6 ≠ i by omega), upd_comm h, upd_comm h6]
theorem rOut_upd {g : Row} {mm c i : Nat} {v x : Int32} (h : 34 ≤ i) (hc : c < 4) (hm : mm ≤ 4) : rOut (upd g i v) mm c x = upd (rOut g mm c x) i v := by
  unfold rOut
  have : ∀ k, k ≤ mm → zseq (fun p g => rPay g p (-(g (18 + 4 * p + c) * (x / 10)))) (upd g i v) k = upd (zseq (fun p g => rPay g p (-(g (18 + 4 * p + c) * (x / 10)))) g k) i v := by
    intro k
    induction k with
    | zero => intro _; rfl
    | succ k ih =>
      intro hk
      show rPay (zseq (fun p g => rPay g p (-(g (18 + 4 * p + c) * (x / 10)))) (upd g i v) k) k (-((zseq (fun p g => rPay g p (-(g (18 + 4 * p + c) * (x / 10)))) (upd g i v) k) (18 + 4 * k + c) * (x / 10))) = upd (rPay (zseq (fun p g => rPay g p (-(g (18 + 4 * p + c) * (x / 10)))) g k) k (-((zseq (fun p g => rPay g p (-(g (18 + 4 * p + c) * (x / 10)))) g k) (18 + 4 * k + c) * (x / 10)))) i v
      rw [ih (by omega), upd_ne (show 18 + 4 * k + c ≠ i by omega), rPay_upd (by omega) (by omega)]
  exact this mm (Nat.le_refl mm)
theorem earnA_ref {g : Row} {mm c : Nat} {x : Int32} {pays : Bool} (hc : c < 4) (hm : mm ≤ 4) : earnA g mm c x pays = upd (if pays then (if x ≤ 0 then rFall (rOut g mm c x) c else rRise (rOut g mm c x) c) else rFall (rCPay g c (-x)) c) (40 + 7 * c) x := by
  unfold earnA rPaid
  cases pays with
  | true =>
    rw [if_pos rfl, if_pos rfl, rOut_upd (by omega) hc hm]
    split
    · rw [rFall_upd (by omega)]
    · rw [rRise_upd (by omega)]
  | false =>
    rw [if_neg (by decide), if_neg (by decide), rCPay_upd (by omega) (by omega), rFall_upd (by omega)]
def opEnd (n : Nat) (r1 r43 : Int32) (h104 : zH) (s0_121 : Int32) : Option (Int32 × zH) := zrc h104 123 6 <| (f_X6_shifts n 123 r1 s0_121 h104).bind fun (h121 : zH) => (zgR h121 123 6 0).bind fun (v125 : Nat) => (zsi h121 v125 (((34 : Int32) + ((7 : Int32) * r1)) + (6 : Int32)) r43).bind fun (h141 : zH) => zrc h141 123 6 <| (f_X6_upkeep n 123 r1 h141).bind fun (h145 : zH) => (zgR h145 123 6 0).bind fun (v149 : Nat) => (zai h145 v149 (4 : Int32)).bind fun (v154 : Int32) => (zsi h145 v149 (4 : Int32) (v154 + (1 : Int32))).bind fun (h157 : zH) => zrc h157 123 6 <| (f_X6_goesOn n 123 h157).bind fun (h159 : zH) => some (r43, h159)
def opPaid (n : Nat) (r1 r43 p2 : Int32) (h104 : zH) : Option (Int32 × zH) := if p2 = 0 then opEnd n r1 r43 h104 (-1) else if r43 ≤ 0 then opEnd n r1 r43 h104 (-1) else opEnd n r1 r43 h104 1
def opIn (n : Nat) (r1 p2 : Int32) (h40 : zH) : Option (Int32 × zH) := zrc h40 123 6 <| zb2 (f_X6_income n 123 r1 h40) fun (r43 : Int32) (h43 : zH) => if p2 = 0 then (zrc h43 123 6 <| (f_X6_earns n 123 r1 r43 h43).bind fun (h101 : zH) => opPaid n r1 r43 p2 h101) else (L_X6_operates_55 n 123 (opPaid n r1 r43 p2) r1 r43 (0 : Int32) h43)
theorem e_operates {n : Nat} {p0 p1 p2 : Int32} {h : zH} : f_X6_operates n 123 p0 p1 p2 h = (zrc h 123 6 <| (f_X6_next n 123 h).bind fun (r1 : Int32) => if p0 = (-1 : Int32) then opIn n r1 p2 h else (zrc h 123 6 <| (f_X6_level n 123 p0 p1 h).bind fun (r14 : Int32) => zlet ((r14 + (1 : Int32))) fun (x19 : Int32) => zrc h 123 6 <| (f_X6_earns n 123 r1 ((-20 : Int32) * x19) h).bind fun (h29 : zH) => zrc h29 123 6 <| (f_X6_levels n 123 p0 p1 x19 h29).bind fun (h37 : zH) => opIn n r1 p2 h37)) := by
  rw [e_X6_operates]
  rfl
theorem u_opEnd {n : Nat} {h : zH} {m pp tx w : Row} {hs : Int64} {mm c home S X B : Nat} {pays : Bool} {q : Row} {d : Int32} (hn : 600 ≤ n) (hWF : WF m mm) (hM : MonW m mm B) (hB : B ≤ 100000) (h3 : m 3 = 1) (hc : c < 4) (hnc : nextC m = Int32.ofNat c) (hco : CoOk m c home S) (hX : X ≤ 475) (hq : f_X6_shifts n 123 (Int32.ofNat c) d (mput h q pp tx w hs) = some (mput h (if pays then (if Int32.ofNat X ≤ 0 then rFall (rOut m mm c (Int32.ofNat X)) c else rRise (rOut m mm c (Int32.ofNat X)) c) else rFall (rCPay m c (-Int32.ofNat X)) c) pp tx w hs)) : opEnd n (Int32.ofNat c) (Int32.ofNat X) (mput h q pp tx w hs) d = some (Int32.ofNat X, mput h (rEarn m mm c (Int32.ofNat X) pays) pp tx w hs) := by
  obtain ⟨hb, ⟨len, pl, o, hl, hpl, e9, e4, ho, hop⟩, hw, hL⟩ := hWF
  have hm := hb.2.1
  obtain ⟨hp, hopen, hdis⟩ := hop h3
  have hoc : o pl = c := by
    have h3n : ¬ m 3 = 0 := by rw [h3]; decide
    unfold nextC at hnc
    rw [if_neg h3n, e9, e4, if_neg (i32_ge hp (by omega)), nn_of (by omega), (ho pl hp).2, i32_eq_of (by have := (ho pl hp).1; omega) (by omega)] at hnc
    exact hnc
  have oc : m (34 + 7 * c) = 1 := by rw [← hoc]; exact hopen pl (Nat.le_refl _) hp
  obtain ⟨w1, m1, f1, c1, o1⟩ := earnA_spec (pays := pays) hm hc hw oc hco hX hM hB
  obtain ⟨w2, m2, f2, _⟩ := upkeep_spec o1 hm hc c1 w1 m1 (by omega)
  have f := Fr_trans f1 f2
  have ov := over_wf hb h3 hl hp e9 ho hopen hdis hoc f (f.1 4 (by omega) (by omega) (by omega)) e4 w2 hL
  obtain ⟨y, hy1, hy2⟩ := m1.2
  have hyc := mon_y hc hy2
  have b0 : earnA m mm c (Int32.ofNat X) pays 0 = Int32.ofNat mm := by rw [f1.1 0 (by omega) (by omega) (by omega), hb.2.2.1]
  have uk := u_upkeep (n := n) (h := h) (pp := pp) (tx := tx) (w := w) (hs := hs) (X := 500 + 4000 * (B + 1)) hn b0 hm hc w1 c1 (hy1 c hc) (by omega) (by omega) (by omega) m1.1
  unfold opEnd
  rw [mgK, hq, Option.bind_some, mgR_0, Option.bind_some, ixc_6, mNs (show 40 + 7 * c < 134 by omega), Option.bind_some, ← earnA_ref hc hm, mgK, uk, Option.bind_some, mgR_0, Option.bind_some, mN_4, Option.bind_some, mNs_4, Option.bind_some, mgK]
  have e4' : rUpkeep (earnA m mm c (Int32.ofNat X) pays) c 4 + 1 = Int32.ofNat (pl + 1) := by rw [f.1 4 (by omega) (by omega) (by omega), e4, i32_succ]
  rw [rEarn_eq]
  rw [e4'] at ov ⊢
  have k9 : upd (rUpkeep (earnA m mm c (Int32.ofNat X) pays) c) 4 (Int32.ofNat (pl + 1)) 9 = Int32.ofNat len := by rw [upd_ne (by omega), f.1 9 (by omega) (by omega) (by omega), e9]
  rw [u_goesOn hn hl (show pl + 1 ≤ len by omega) k9 upd_eq (fun q => by
    obtain ⟨d, hd, a, b⟩ := ov.2 q
    refine ⟨d, hd, ?_, ?_⟩
    · rw [upd_ne (by omega)] at a ⊢
      rw [upd_ne (by omega)] at a
      exact a
    · rw [upd_ne (by omega)] at b ⊢
      rw [upd_ne (by omega)] at b
      exact b), Option.bind_some, upd_comm (show 4 ≠ 8 by omega)]
theorem u_opIn {n : Nat} {h : zH} {m pp tx w : Row} {hs : Int64} {mm c home S B : Nat} {p2 : Int32} (hn : 50000 ≤ n) (hWF : WF m mm) (hM : MonW m mm B) (hB : B ≤ 100000) (h3 : m 3 = 1) (hc : c < 4) (hnc : nextC m = Int32.ofNat c) (hco : CoOk m c home S) : ∃ w', opIn n (Int32.ofNat c) p2 (mput h m pp tx w hs) = some (incS m home S, mput h (rEarn m mm c (incS m home S) (decide (p2 ≠ 0))) pp tx w' hs) ∧ sameW w w' := by
  obtain ⟨hb, ho, hw, hL⟩ := hWF
  have hm := hb.2.1
  obtain ⟨w', e, hk⟩ := u_income (h := h) (pp := pp) (tx := tx) (w := w) (hs := hs) hn hc hco hL.2.2.2
  obtain ⟨X, hX, eX⟩ := inc_num hc hco hL.2.2.2
  refine ⟨w', ?_, hk⟩
  unfold opIn
  rw [mgK, e]
  show (if p2 = 0 then _ else _) = _
  rw [eX]
  obtain ⟨st, hst, est⟩ := (hw c hc).2.2.1
  by_cases c1 : p2 = 0
  · rw [if_pos c1, mgK, u_earns hc, Option.bind_some]
    unfold opPaid
    rw [if_pos c1, show decide (p2 ≠ 0) = false from decide_eq_false (not_not_intro c1)]
    exact u_opEnd (pays := false) (by omega) ⟨hb, ho, hw, hL⟩ hM hB h3 hc hnc hco hX (by rw [u_shift_dn (s := st) hc hst (by rw [rCPay_ne (by omega) (by omega), est]), if_neg (by decide)])
  · rw [if_neg c1, show decide (p2 ≠ 0) = true from decide_eq_true c1]
    have loop : L_X6_operates_55 n 123 (opPaid n (Int32.ofNat c) (Int32.ofNat X) p2) (Int32.ofNat c) (Int32.ofNat X) 0 (mput h m pp tx w' hs) = opPaid n (Int32.ofNat c) (Int32.ofNat X) p2 (mput h (rOut m mm c (Int32.ofNat X)) pp tx w' hs) := by
      unfold L_X6_operates_55 rOut
      have q0 : ∀ k, k ≤ mm → zseq (fun p g => rPay g p (-(g (18 + 4 * p + c) * (Int32.ofNat X / 10)))) m k 0 = Int32.ofNat mm := fun k hk => zseq_lt (P := fun r : Row => r 0 = Int32.ofNat mm) (N := mm) hb.2.2.1 (fun k s hk hs => by show rPay s k _ 0 = _; rw [rPay_ne (by omega) (by omega), hs]) k hk
      refine zfor2 mm (fun k => Int32.ofNat k) (fun k => mput h (zseq (fun p g => rPay g p (-(g (18 + 4 * p + c) * (Int32.ofNat X / 10)))) m k) pp tx w' hs) (fun k hk rec => ?_) (fun rec => ?_) (by omega)
      · simp only [zlet, mgR_0, mN_0, q0 k (by omega), if_neg (i32_ge hk (show mm < 600 by omega)), mgK, u_shares (show k < 4 by omega) hc, u_pays (show k < 4 by omega), Option.bind_some, i32_succ, Int32.neg_mul]
        rfl
      · simp only [mgR_0, mN_0, q0 mm (Nat.le_refl mm), if_pos (Int32.le_refl _), Option.bind_some]
    rw [loop]
    unfold opPaid
    rw [if_neg c1]
    have ro : rOut m mm c (Int32.ofNat X) (37 + 7 * c) = Int32.ofNat st := by rw [(rOut_spec hm hc hw hX hM hB).2 _ (by omega) (fun p hp => by omega), est]
    by_cases c2 : Int32.ofNat X ≤ 0
    · rw [if_pos c2]
      exact u_opEnd (pays := true) (by omega) ⟨hb, ho, hw, hL⟩ hM hB h3 hc hnc hco hX (by rw [u_shift_dn (s := st) hc hst ro, if_pos rfl, if_pos c2])
    · rw [if_neg c2]
      exact u_opEnd (pays := true) (by omega) ⟨hb, ho, hw, hL⟩ hM hB h3 hc hnc hco hX (by rw [u_shift_up (s := st) hc hst ro, if_pos rfl, if_neg c2])
theorem ofNat_ne_neg {k : Nat} (hk : k < 599) : ¬ Int32.ofNat k = -1 := by
  intro q
  have := in_of (show k < k + 1 by omega) (show k + 1 < 600 by omega)
  rw [q] at this
  exact this (Or.inl (by decide))
theorem u_canOperate0 {n : Nat} {h : zH} {m pp tx w : Row} {hs : Int64} {y z : Int32} (hy : y = -1) : f_X6_canOperate n 123 y z (mput h m pp tx w hs) = some (if m 3 = 0 then 0 else 1) := by
  have z1 : ¬ (1 : Int32) = 0 := by decide
  unfold f_X6_canOperate
  rw [mgK, u_isStock, Option.bind_some]
  simp only [zlet, if_pos hy]
  by_cases c1 : m 3 = 0
  · simp only [if_pos c1, if_neg z1]
  · simp only [if_neg c1, if_true]
theorem u_canOperate1 {n : Nat} {h : zH} {m pp tx w : Row} {hs : Int64} {c home S i j : Nat} (hn : 600 ≤ n) (hOrd : OrdW m) (h3 : m 3 = 1) (hc : c < 4) (hnc : nextC m = Int32.ofNat c) (ho : CoOk m c home S) (hi : i < 8) (hj : j < 8) : f_X6_canOperate n 123 (Int32.ofNat i) (Int32.ofNat j) (mput h m pp tx w hs) = some (if layB m c home i j = true then 1 else 0) := by
  have z3 : ¬ m 3 = 0 := by rw [h3]; decide
  have z1 : ¬ (1 : Int32) = 0 := by decide
  unfold f_X6_canOperate
  rw [mgK, u_isStock, Option.bind_some, if_neg z3]
  simp only [zlet, if_true, if_neg (ofNat_ne_neg (show i < 599 by omega)), mgK, u_next hOrd (Or.inr h3), hnc, u_canLay hn hc ho hi hj, Option.bind_some]
  by_cases c1 : layB m c home i j = true
  · simp only [if_pos c1, if_neg z1]
  · simp only [if_neg c1, if_true]
theorem u_canOperate_stock {n : Nat} {h : zH} {m pp tx w : Row} {hs : Int64} {y z : Int32} (h3 : m 3 = 0) : f_X6_canOperate n 123 y z (mput h m pp tx w hs) = some 0 := by
  have z1 : ¬ (1 : Int32) = 0 := by decide
  unfold f_X6_canOperate
  rw [mgK, u_isStock, Option.bind_some, if_pos h3]
  simp only [zlet, if_neg z1]
theorem u_operates0 {n : Nat} {h : zH} {m pp tx w : Row} {hs : Int64} {mm c home S B : Nat} {y z p2 : Int32} (hy : y = -1) (hn : 50000 ≤ n) (hWF : WF m mm) (hM : MonW m mm B) (hB : B ≤ 100000) (h3 : m 3 = 1) (hc : c < 4) (hnc : nextC m = Int32.ofNat c) (hco : CoOk m c home S) : ∃ w', f_X6_operates n 123 y z p2 (mput h m pp tx w hs) = some (incS m home S, mput h (rEarn m mm c (incS m home S) (decide (p2 ≠ 0))) pp tx w' hs) ∧ sameW w w' := by
  obtain ⟨w', e, hk⟩ := u_opIn (h := h) (pp := pp) (tx := tx) (w := w) (hs := hs) (p2 := p2) hn hWF hM hB h3 hc hnc hco
  refine ⟨w', ?_, hk⟩
  rw [e_operates, mgK, u_next hWF.2.1 (Or.inr h3), hnc, Option.bind_some, if_pos hy, e]
theorem nextC_congr {g m : Row} (h3 : m 3 = g 3) (h9 : m 9 = g 9) (h4 : m 4 = g 4) (ho : ∀ i, i < 4 → m (10 + i) = g (10 + i)) (hp : ∃ pl, pl < 4 ∧ g 4 = Int32.ofNat pl) : nextC m = nextC g := by
  obtain ⟨pl, h, e⟩ := hp
  unfold nextC
  rw [h3, h9, h4, e, nn_of (by omega), ho pl h]
theorem u_operates1 {n : Nat} {h : zH} {m pp tx w : Row} {hs : Int64} {mm c home S B i j : Nat} {p2 : Int32} (hn : 50000 ≤ n) (hWF : WF m mm) (hM : MonW m mm B) (hB : B ≤ 100000) (h3 : m 3 = 1) (hc : c < 4) (hi : i < 8) (hj : j < 8) (hnc : nextC m = Int32.ofNat c) (hco : CoOk m c home S) (hlay : layB m c home i j = true) : ∃ w', f_X6_operates n 123 (Int32.ofNat i) (Int32.ofNat j) p2 (mput h m pp tx w hs) = some (incS (rTrack m c i j) home S, mput h (rEarn (rTrack m c i j) mm c (incS (rTrack m c i j) home S) (decide (p2 ≠ 0))) pp tx w' hs) ∧ sameW w w' := by
  obtain ⟨tw, tm⟩ := track_wf hWF hM hc hi hj hB hlay
  have ne : ∀ k, k ≠ 6 → k ≠ 36 + 7 * c → k < 62 → rTrack m c i j k = m k := fun k a b d => by
    unfold rTrack
    rw [rCPay_ne b a, rLev_ne hi hj (Or.inl d)]
  have hpl : ∃ pl, pl < 4 ∧ m 4 = Int32.ofNat pl := by
    obtain ⟨_, ⟨len, pl, o, hl, hpl, e9, e4, ho, hop⟩, _⟩ := hWF
    exact ⟨pl, by have := (hop h3).1; omega, e4⟩
  obtain ⟨w', e, hk⟩ := u_opIn (h := h) (pp := pp) (tx := tx) (w := w) (hs := hs) (p2 := p2) (home := home) (S := S) hn tw tm hB (by rw [ne 3 (by omega) (by omega) (by omega), h3]) hc (by rw [nextC_congr (ne 3 (by omega) (by omega) (by omega)) (ne 9 (by omega) (by omega) (by omega)) (ne 4 (by omega) (by omega) (by omega)) (fun k hk => ne _ (by omega) (by omega) (by omega)) hpl, hnc]) (CoOk_congr (ne _ (by omega) (by omega) (by omega)) (ne _ (by omega) (by omega) (by omega)) hco)
  refine ⟨w', ?_, hk⟩
  have e20 : ∀ x : Int32, -((-20 : Int32) * x) = 20 * x := fun x => by
    rw [show (-20 : Int32) = -(20 : Int32) from rfl, Int32.neg_mul, Int32.neg_neg]
  rw [e_operates, mgK, u_next hWF.2.1 (Or.inr h3), hnc, Option.bind_some, if_neg (ofNat_ne_neg (by omega)), mgK, u_level hi hj, Option.bind_some]
  show (zrc (mput h m pp tx w hs) 123 6 _) = _
  rw [mgK, u_earns hc, Option.bind_some, mgK, e20, u_levels hi hj, Option.bind_some]
  rw [← e]
  refine congrArg (fun r => opIn n (Int32.ofNat c) p2 (mput h r pp tx w hs)) ?_
  unfold rTrack rLev
  rw [rCPay_upd (by omega) (by omega), rCPay_upd (by omega) (by omega)]
theorem mput_congr {h : zH} {m m' pp tx w : Row} {hs : Int64} (e : ∀ k, k < 134 → m k = m' k) : mput h m pp tx w hs = mput h m' pp tx w hs := by
  unfold mput mcell
  rw [show tr 134 m = tr 134 m' from tr_congr e]
theorem ix134 {k j : Nat} : (134 : Int32) * Int32.ofNat k + Int32.ofNat j = Int32.ofNat (134 * k + j) := by
  rw [show (134 : Int32) = Int32.ofNat 134 from rfl, i32_mulm, i32_addn]
def ppW (m : Row) (k : Nat) (pp : Row) : Row := zseq (fun j p => upd p (134 * k + j) (m j)) pp 134
def ppS (pp : Row) : Row := zseq (fun j p => upd p j (p (j + 134))) pp 402
theorem ppW_at {m pp : Row} {k : Nat} : (∀ j, j < 134 → ppW m k pp (134 * k + j) = m j) ∧ ∀ i, i < 134 * k ∨ 134 * k + 134 ≤ i → ppW m k pp i = pp i := by
  unfold ppW
  have key := zseq_ok (N := 134) (P := fun a (p : Row) => (∀ j, j < a → p (134 * k + j) = m j) ∧ ∀ i, i < 134 * k ∨ 134 * k + a ≤ i → p i = pp i) (step := fun j p => upd p (134 * k + j) (m j)) (s := pp) ⟨fun j hj => by omega, fun _ _ => rfl⟩ (fun a p ha hp => ⟨fun j hj => by
    show upd p (134 * k + a) (m a) (134 * k + j) = m j
    by_cases e : j = a
    · rw [e, upd_eq]
    · rw [upd_ne (by omega), hp.1 j (by omega)], fun i hi => by
    show upd p (134 * k + a) (m a) i = pp i
    rw [upd_ne (by omega), hp.2 i (by omega)]⟩) 134 (Nat.le_refl _)
  exact ⟨key.1, key.2⟩
theorem ppS_at {pp : Row} : ∀ i, i < 402 → ppS pp i = pp (i + 134) := by
  unfold ppS
  have key := zseq_ok (N := 402) (P := fun a (p : Row) => (∀ j, j < a → p j = pp (j + 134)) ∧ ∀ i, a ≤ i → p i = pp i) (step := fun j p => upd p j (p (j + 134))) (s := pp) ⟨fun j hj => by omega, fun _ _ => rfl⟩ (fun a p ha hp => ⟨fun j hj => by
    show upd p a (p (a + 134)) j = _
    by_cases e : j = a
    · rw [e, upd_eq, hp.2 _ (by omega)]
    · rw [upd_ne (by omega), hp.1 j (by omega)], fun i hi => by
    show upd p a (p (a + 134)) i = pp i
    rw [upd_ne (by omega), hp.2 i (by omega)]⟩) 402 (Nat.le_refl _)
  exact key.1
theorem u_saves1 {n : Nat} {h : zH} {m pp tx w : Row} {hs : Int64} {k : Nat} (hn : 600 ≤ n) (hk : k < 4) (ek : w 20 = Int32.ofNat k) : L_X6_saves_51 n 123 0 (mput h m pp tx w hs) = some (mput h m (ppW m k pp) tx (upd w 20 (Int32.ofNat (k + 1))) hs) := by
  unfold L_X6_saves_51 ppW
  refine zfor2 134 (fun j => Int32.ofNat j) (fun j => mput h m (zseq (fun j p => upd p (134 * k + j) (m j)) pp j) tx w hs) (fun j hj rec => ?_) (fun rec => ?_) (by omega)
  · have c1 : ¬ (134 : Int32) ≤ Int32.ofNat j := i32_ge (N := 134) hj (by omega)
    simp only [zlet, if_neg c1, mgR_1, mgR_0, mgI_2, ek, ix134, mN hj, mPs (show 134 * k + j < 536 by omega), Option.bind_some, i32_succ]
    rfl
  · rw [if_pos (by decide)]
    simp only [mgI_2, ek, msI_2, Option.bind_some, i32_succ]
theorem u_saves {n : Nat} {h : zH} {m pp tx w : Row} {hs : Int64} {k : Nat} (hn : 600 ≤ n) (hk : k ≤ 4) (ek : w 20 = Int32.ofNat k) : ∃ pp' w', f_X6_saves n 123 (mput h m pp tx w hs) = some (mput h m pp' tx w' hs) ∧ w' 20 = Int32.ofNat (pushK k) ∧ (∀ i, i ≠ 20 → w' i = w i) ∧ ∀ i, i < pushK k → ∀ j, j < 134 → pp' (134 * i + j) = pushSt (fun i j => pp (134 * i + j)) k m i j := by
  rw [e_X6_saves]
  have e4 : (Int32.ofNat k = 4) = (k = 4) := i32_eq_of (b := 4) (by omega) (by omega)
  unfold pushK pushSt
  rw [mgI_2, Option.bind_some, ek]
  show ∃ pp' w', (if Int32.ofNat k = 4 then _ else _) = _ ∧ _
  by_cases c : k = 4
  · subst c
    refine ⟨ppW m 3 (ppS pp), upd (upd w 20 (Int32.ofNat 3)) 20 (Int32.ofNat 4), ?_, upd_eq, fun i hi => by rw [upd_ne hi, upd_ne hi], fun i hi j hj => ?_⟩
    · rw [if_pos (e4 ▸ rfl)]
      unfold L_X6_saves_10 ppS
      refine zfor2 402 (fun j => Int32.ofNat j) (fun j => mput h m (zseq (fun j p => upd p j (p (j + 134))) pp j) tx w hs) (fun j hj rec => ?_) (fun rec => ?_) (by omega)
      · have c1 : ¬ (402 : Int32) ≤ Int32.ofNat j := i32_ge (N := 402) hj (by omega)
        have ej : Int32.ofNat j + 134 = Int32.ofNat (j + 134) := by rw [show (134 : Int32) = Int32.ofNat 134 from rfl, i32_addn]
        simp only [zlet, if_neg c1, mgR_1, ej, mP (show j + 134 < 536 by omega), mPs (show j < 536 by omega), Option.bind_some, i32_succ]
        rfl
      · rw [if_pos (by decide)]
        have e3 : Int32.ofNat 4 - 1 = Int32.ofNat 3 := by decide
        rw [mgI_2, Option.bind_some, msI_2, Option.bind_some, ek, e3]
        exact u_saves1 hn (by omega) upd_eq
    · rw [if_pos rfl] at hi
      rw [if_pos rfl]
      have a := ppW_at (m := m) (pp := ppS pp) (k := 3)
      by_cases e : i = 3
      · rw [if_pos e, e, a.1 j hj]
      · rw [if_neg e, a.2 _ (by omega), ppS_at _ (by omega)]
        exact congrArg pp (by omega)
  · refine ⟨ppW m k pp, upd w 20 (Int32.ofNat (k + 1)), ?_, by rw [upd_eq, if_neg c], fun i hi => upd_ne hi, fun i hi j hj => ?_⟩
    · rw [if_neg (fun q => c (e4 ▸ q))]
      exact u_saves1 hn (by omega) ek
    · rw [if_neg c] at hi
      rw [if_neg c]
      have a := ppW_at (m := m) (pp := pp) (k := k)
      by_cases e : i = k
      · rw [if_pos e, e, a.1 j hj]
      · rw [if_neg e, a.2 _ (by omega)]
theorem u_undoes {n : Nat} {h : zH} {m pp tx w : Row} {hs : Int64} {k : Nat} (hn : 600 ≤ n) (hk : k < 4) (ek : w 20 = Int32.ofNat k) : L_X6_undo_33 n 123 0 (mput h m pp tx w hs) = some (Int32.ofNat k, mput h (fun j => pp (134 * k + j)) pp tx w hs) := by
  unfold L_X6_undo_33
  refine zfor2 134 (fun j => Int32.ofNat j) (fun j => mput h (fun i => if i < j then pp (134 * k + i) else m i) pp tx w hs) (fun j hj rec => ?_) (fun rec => ?_) (by omega)
  · have c1 : ¬ (134 : Int32) ≤ Int32.ofNat j := i32_ge (N := 134) hj (by omega)
    simp only [zlet, if_neg c1, mgR_1, mgR_0, mgI_2, ek, ix134, mP (show 134 * k + j < 536 by omega), mNs hj, Option.bind_some, i32_succ]
    refine congrArg (fun r => rec _ (mput h r pp tx w hs)) (funext fun i => ?_)
    unfold upd
    by_cases q : i = j
    · rw [if_pos q, if_pos (by omega), q]
    · rw [if_neg q]
      show (if i < j then pp (134 * k + i) else m i) = _
      by_cases q2 : i < j
      · rw [if_pos q2, if_pos (by omega)]
      · rw [if_neg q2, if_neg (by omega)]
  · rw [if_pos (by decide)]
    simp only [mgI_2, ek, Option.bind_some]
    rw [mput_congr (m' := fun j => pp (134 * k + j)) fun i hi => if_pos hi]
theorem u_begins {n : Nat} {h : zH} {m pp tx w : Row} {hs : Int64} {mm : Nat} (hn : 600 ≤ n) (hm : mm ≤ 4) : ∃ m', f_X6_begins n 123 (Int32.ofNat mm) (mput h m pp tx w hs) = some (mput h m' pp tx w hs) ∧ m' 0 = Int32.ofNat mm ∧ (∀ p, p < mm → m' (14 + p) = 500) ∧ (∀ c, c < 4 → m' (39 + 7 * c) = -1) ∧ (∀ i, 126 ≤ i → m' i = m i) ∧ ∀ i, i < 126 → i ≠ 0 → (∀ p, p < mm → i ≠ 14 + p) → (∀ c, c < 4 → i ≠ 39 + 7 * c) → m' i = 0 := by
  rw [e_X6_begins]
  have l1 := zseq_ok (N := 126) (P := fun a (x : Row) => (∀ j, j < a → x j = 0) ∧ ∀ i, a ≤ i → x i = m i) (step := fun j x => upd x j 0) (s := m) ⟨fun j hj => by omega, fun _ _ => rfl⟩ (fun a p ha hp => ⟨fun j hj => by
    show upd p a 0 j = 0
    by_cases e : j = a
    · rw [e, upd_eq]
    · rw [upd_ne (by omega), hp.1 j (by omega)], fun i hi => by
    show upd p a 0 i = m i
    rw [upd_ne (by omega), hp.2 i (by omega)]⟩) 126 (Nat.le_refl _)
  have l2 := zseq_ok (N := mm) (P := fun a (x : Row) => (∀ p, p < a → x (14 + p) = 500) ∧ ∀ i, (∀ p, p < a → i ≠ 14 + p) → x i = upd (zseq (fun j x => upd x j 0) m 126) 0 (Int32.ofNat mm) i) (step := fun p x => upd x (14 + p) 500) (s := upd (zseq (fun j x => upd x j 0) m 126) 0 (Int32.ofNat mm)) ⟨fun j hj => by omega, fun _ _ => rfl⟩ (fun a p ha hp => ⟨fun j hj => by
    show upd p (14 + a) 500 (14 + j) = 500
    by_cases e : j = a
    · rw [e, upd_eq]
    · rw [upd_ne (by omega), hp.1 j (by omega)], fun i hi => by
    show upd p (14 + a) 500 i = _
    rw [upd_ne (hi a (by omega)), hp.2 i (fun q hq => hi q (by omega))]⟩) mm (Nat.le_refl _)
  have l3 := zseq_ok (N := 4) (P := fun a (x : Row) => (∀ c, c < a → x (39 + 7 * c) = -1) ∧ ∀ i, (∀ c, c < a → i ≠ 39 + 7 * c) → x i = zseq (fun p x => upd x (14 + p) 500) (upd (zseq (fun j x => upd x j 0) m 126) 0 (Int32.ofNat mm)) mm i) (step := fun c x => upd x (39 + 7 * c) (-1)) (s := zseq (fun p x => upd x (14 + p) 500) (upd (zseq (fun j x => upd x j 0) m 126) 0 (Int32.ofNat mm)) mm) ⟨fun j hj => by omega, fun _ _ => rfl⟩ (fun a p ha hp => ⟨fun j hj => by
    show upd p (39 + 7 * a) (-1) (39 + 7 * j) = -1
    by_cases e : j = a
    · rw [e, upd_eq]
    · rw [upd_ne (by omega), hp.1 j (by omega)], fun i hi => by
    show upd p (39 + 7 * a) (-1) i = _
    rw [upd_ne (hi a (by omega)), hp.2 i (fun q hq => hi q (by omega))]⟩) 4 (Nat.le_refl _)
  refine ⟨zseq (fun c x => upd x (39 + 7 * c) (-1)) (zseq (fun p x => upd x (14 + p) 500) (upd (zseq (fun j x => upd x j 0) m 126) 0 (Int32.ofNat mm)) mm) 4, ?_, ?_, fun p hp => ?_, l3.1, fun i hi => ?_, fun i h1 h2 h3 h4 => ?_⟩
  · unfold L_X6_begins_2
    refine zfor2 126 (fun j => Int32.ofNat j) (fun j => mput h (zseq (fun j x => upd x j 0) m j) pp tx w hs) (fun j hj rec => ?_) (fun rec => ?_) (by omega)
    · have c1 : ¬ (126 : Int32) ≤ Int32.ofNat j := i32_ge (N := 126) hj (by omega)
      simp only [zlet, if_neg c1, mgR_0, mNs (show j < 134 by omega), Option.bind_some, i32_succ]
      rfl
    · rw [if_pos (by decide), mgR_0, Option.bind_some, mNs_0, Option.bind_some]
      unfold L_X6_begins_30
      refine zfor2 mm (fun j => Int32.ofNat j) (fun j => mput h (zseq (fun p x => upd x (14 + p) 500) (upd (zseq (fun j x => upd x j 0) m 126) 0 (Int32.ofNat mm)) j) pp tx w hs) (fun j hj rec => ?_) (fun rec => ?_) (by omega)
      · simp only [zlet, if_neg (i32_ge hj (show mm < 600 by omega)), mgR_0, ixm, mNs (show 14 + j < 134 by omega), Option.bind_some, i32_succ]
        rfl
      · rw [if_pos (Int32.le_refl _)]
        unfold L_X6_begins_55
        refine zfor2 4 (fun j => Int32.ofNat j) (fun j => mput h (zseq (fun c x => upd x (39 + 7 * c) (-1)) (zseq (fun p x => upd x (14 + p) 500) (upd (zseq (fun j x => upd x j 0) m 126) 0 (Int32.ofNat mm)) mm) j) pp tx w hs) (fun j hj rec => ?_) (fun rec => ?_) (by omega)
        · rw [if_neg (of_eq_false (ge4 hj)), mgR_0, Option.bind_some, ixc_5, mNs (show 39 + 7 * j < 134 by omega), Option.bind_some]
          show rec (Int32.ofNat j + 1) _ = _
          rw [i32_succ]
          rfl
        · rw [if_pos (by decide)]
  · rw [l3.2 0 (fun c hc => by omega), l2.2 0 (fun p hp => by omega), upd_eq]
  · rw [l3.2 _ (fun c hc => by omega), l2.1 p hp]
  · rw [l3.2 i (fun c hc => by omega), l2.2 i (fun p hp => by omega), upd_ne (by omega), l1.2 i hi]
  · rw [l3.2 i h4, l2.2 i h3, upd_ne h2, l1.1 i h1]
theorem rClose_z {g : Row} {c d : Nat} (hd : d < 7) (h5 : d ≠ 5) : rClose g c (34 + d + 7 * c) = 0 := by
  unfold rClose
  obtain rfl | rfl | rfl | rfl | rfl | rfl : d = 0 ∨ d = 1 ∨ d = 2 ∨ d = 3 ∨ d = 4 ∨ d = 6 := by omega
  all_goals simp [upd]
theorem rReset0_z {g : Row} : ∀ c d, c < 4 → d < 7 → d ≠ 5 → rReset0 g (34 + d + 7 * c) = 0 := by
  unfold rReset0
  have key := zseq_ok (N := 4) (P := fun k (r : Row) => ∀ c d, c < k → d < 7 → d ≠ 5 → r (34 + d + 7 * c) = 0) (step := fun k g => upd (rClose g k) (10 + k) 0) (s := g) (fun c d hc => by omega) (fun k r hk hr c d hc hd h5 => by
    show upd (rClose r k) (10 + k) 0 (34 + d + 7 * c) = 0
    rw [upd_ne (by omega)]
    by_cases e : c = k
    · rw [e]
      exact rClose_z hd h5
    · rw [rClose_ne (by omega) (fun p hp => by omega)]
      exact hr c d (by omega) hd h5) 4 (Nat.le_refl 4)
  exact key
theorem begin_ag {g m m' : Row} {mm : Nat} (hm : mm ≤ 4) (hl : ∀ i, 126 ≤ i → i < 134 → g i = m i) (a0 : m' 0 = Int32.ofNat mm) (a1 : ∀ p, p < mm → m' (14 + p) = 500) (a2 : ∀ c, c < 4 → m' (39 + 7 * c) = -1) (a3 : ∀ i, 126 ≤ i → m' i = m i) (a4 : ∀ i, i < 126 → i ≠ 0 → (∀ p, p < mm → i ≠ 14 + p) → (∀ c, c < 4 → i ≠ 39 + 7 * c) → m' i = 0) : AgW mm (rReset g (Int32.ofNat mm)) m' := by
  have ra := rReset_at (g := g) (m := Int32.ofNat mm)
  have rb := rReset0_at (g := rClear g)
  have rc := rClear_at (g := g)
  refine AgW_of (len := 0) (by omega) (ra.2.1 9 (by omega) (by omega)) fun i hi hd => ?_
  unfold dead at hd
  by_cases q0 : i = 0
  · rw [q0, ra.1, a0]
  · by_cases q1 : i < 10
    · rw [ra.2.1 i q1 q0, a4 i (by omega) q0 (fun p hp => by omega) (fun c hc => by omega)]
    · by_cases q2 : i < 18
      · obtain ⟨p, rfl⟩ : ∃ p, i = 14 + p := ⟨i - 14, by omega⟩
        rw [ra.2.2.1 p (by omega), a1 p (by omega)]
      · rw [ra.2.2.2 i (by omega)]
        by_cases q3 : i < 34
        · have e := (rb.1 ((i - 18) % 4) (by omega)).2.2.2.2 ((i - 18) / 4) (by omega)
          rw [show 18 + 4 * ((i - 18) / 4) + (i - 18) % 4 = i by omega] at e
          rw [e, a4 i (by omega) q0 (fun p hp => by omega) (fun c hc => by omega)]
        · by_cases q4 : i < 62
          · obtain ⟨c, d, hc, hd7, rfl⟩ : ∃ c d, c < 4 ∧ d < 7 ∧ i = 34 + d + 7 * c := ⟨(i - 34) / 7, (i - 34) % 7, by omega, by omega, by omega⟩
            by_cases q5 : d = 5
            · subst q5
              rw [show 34 + 5 + 7 * c = 39 + 7 * c by omega, (rb.1 c hc).2.2.2.1, a2 c hc]
            · rw [a4 _ (by omega) q0 (fun p hp => by omega) (fun e he => by omega)]
              exact rReset0_z c d hc hd7 q5
          · by_cases q6 : i < 126
            · have e := rc.1 ((i - 62) / 8) ((i - 62) % 8) (by omega) (by omega)
              rw [show 62 + 8 * ((i - 62) / 8) + (i - 62) % 8 = i by omega] at e
              rw [rb.2 i (by omega), e, a4 i (by omega) q0 (fun p hp => by omega) (fun c hc => by omega)]
            · rw [rb.2 i (by omega), rc.2 i (by omega), hl i (by omega) hi, a3 i (by omega)]
def MonZ (g : Row) (mm B : Nat) : Prop := MonW g mm B ∧ ZW g
theorem monz_mono {g : Row} {mm B B' : Nat} (h : MonZ g mm B) (hB : B ≤ B') : MonZ g mm B' := ⟨mon_mono h.1 hB, h.2⟩
theorem zw_congr {g g' : Row} (h : ZW g) (h1 : ∀ c, c < 4 → g' (34 + 7 * c) = g (34 + 7 * c)) (h2 : ∀ c, c < 4 → g' (36 + 7 * c) = g (36 + 7 * c)) : ZW g' := fun c hc q => by
  rw [h1 c hc] at q
  rw [h2 c hc]
  exact h c hc q
theorem zw_one {g g' : Row} {x : Nat} (h : ZW g) (hx : ZC x g') (h1 : ∀ c, c < 4 → c ≠ x → g' (34 + 7 * c) = g (34 + 7 * c)) (h2 : ∀ c, c < 4 → c ≠ x → g' (36 + 7 * c) = g (36 + 7 * c)) : ZW g' := fun c hc => by
  by_cases e : c = x
  · rw [e]
    exact hx
  · intro q
    rw [h1 c hc e] at q
    rw [h2 c hc e]
    exact h c hc q
theorem zw_buy {g : Row} {t c : Nat} (e1 : g 1 = Int32.ofNat t) (ht : t < 4) (hc : c < 4) (h : ZW g) : ZW (rBuy g c) := by
  rw [rBuy_eq e1 ht]
  exact zw_congr h (fun d hd => by rw [rEnd_ne (by omega) (by omega), buyC_ne (by omega) (by omega) (by omega) (by omega)]) (fun d hd => by rw [rEnd_ne (by omega) (by omega), buyC_ne (by omega) (by omega) (by omega) (by omega)])
theorem zw_sell {g : Row} {t c : Nat} {s : Int32} (ht : t < 4) (hc : c < 4) (h : ZW g) : ZW (rSell g t c s) := zw_congr h (fun d hd => rSell_ne (by omega) (by omega) (by omega) (by omega) (by omega)) (fun d hd => rSell_ne (by omega) (by omega) (by omega) (by omega) (by omega))
theorem zw_14 {g g' : Row} (h : ZW g) (hn : ∀ i, 14 ≤ i → g' i = g i) : ZW g' := zw_congr h (fun c hc => hn _ (by omega)) (fun c hc => hn _ (by omega))
theorem zw_town {g : Row} {t : Nat} {v : Int32} (h : ZW g) : ZW (upd g (126 + t) v) := zw_congr h (fun c hc => upd_ne (by omega)) (fun c hc => upd_ne (by omega))
theorem zw_reset {g : Row} {m : Int32} : ZW (rReset g m) := fun c hc _ => by
  rw [(rReset_at (g := g) (m := m)).2.2.2 _ (by omega), ((rReset0_at (g := rClear g)).1 c hc).2.1]
theorem zw_start {g : Row} {t c home st : Nat} (e1 : g 1 = Int32.ofNat t) (ht : t < 4) (hc : c < 4) (h : ZW g) : ZW (rStart g c (Int32.ofNat home) (Int32.ofNat st)) := by
  rw [rStart_eq e1 ht]
  refine zw_one (x := c) h (ZC_open ?_) (fun d hd e => by rw [rEnd_ne (by omega) (by omega), startD_ne (by omega) (by omega) (by omega) (by omega)]) (fun d hd e => by rw [rEnd_ne (by omega) (by omega), startD_ne (by omega) (by omega) (by omega) (by omega)])
  rw [rEnd_ne (by omega) (by omega)]
  unfold startD startC
  rw [upd_ne (by omega), upd_ne (by omega), rPres_ne (by omega), upd_ne (by omega), rPay_ne (by omega) (by omega), rOpen_at.1]
theorem zw_ext {g : Row} {c : Nat} (ho : g (34 + 7 * c) = 1) (hc : c < 4) (h : ZW g) : ZW (extC g c) := zw_one (x := c) h (ZC_open (by rw [extC_ne (by omega) (by omega) (by omega) (by omega), ho])) (fun d hd e => extC_ne (by omega) (by omega) (by omega) (by omega)) (fun d hd e => extC_ne (by omega) (by omega) (by omega) (by omega))
theorem zw_track {g : Row} {c i j : Nat} (ho : g (34 + 7 * c) = 1) (hc : c < 4) (hi : i < 8) (hj : j < 8) (h : ZW g) : ZW (rTrack g c i j) := by
  have ne : ∀ k, k ≠ 6 → k ≠ 36 + 7 * c → k < 62 → rTrack g c i j k = g k := fun k a b d => by
    unfold rTrack
    rw [rCPay_ne b a, rLev_ne hi hj (Or.inl d)]
  exact zw_one (x := c) h (ZC_open (by rw [ne _ (by omega) (by omega) (by omega), ho])) (fun d hd e => ne _ (by omega) (by omega) (by omega)) (fun d hd e => ne _ (by omega) (by omega) (by omega))
theorem zw_merge {g : Row} {mm x y : Nat} (hm : mm ≤ 4) (hx : x < 4) (hy : y < 4) (hxy : x ≠ y) (ox : g (34 + 7 * x) = 1) (h : ZW g) : ZW (rMerge g mm x y) := by
  rw [rMerge_eq]
  have a2 : ∀ i, 34 ≤ i → mergeA g mm x y i = g i := by
    intro i hi
    unfold mergeA
    exact zseq_lt (P := fun r : Row => r i = g i) (N := mm) rfl (fun k s hk hs => by rw [mstep_ne (Or.inr hi) (by omega) (by omega) hx, hs]) mm (Nat.le_refl mm)
  have hcl := rClose_at (g := upd (mergeA g mm x y) (36 + 7 * x) (mergeA g mm x y (36 + 7 * x) + mergeA g mm x y (36 + 7 * y))) hy
  have e : ∀ i, 34 ≤ i → ¬ (34 + 7 * y ≤ i ∧ i < 41 + 7 * y) → i ≠ 36 + 7 * x → i ≠ 39 + 7 * x → rEnd (mergeC g mm x y) i = g i := fun i h0 h3 h4 h5 => by
    rw [rEnd_ne (by omega) (by omega)]
    unfold mergeC
    rw [rPres_ne h5, rClose_ne h3 (fun p hp => by omega), upd_ne h4, a2 i h0]
  intro c hc
  by_cases c1 : c = y
  · subst c1
    intro _
    rw [rEnd_ne (by omega) (by omega)]
    unfold mergeC
    rw [rPres_ne (by omega), hcl.2.1]
  · by_cases c2 : c = x
    · subst c2
      exact ZC_open (by rw [e _ (by omega) (by omega) (by omega) (by omega), ox])
    · intro q
      rw [e _ (by omega) (by omega) (by omega) (by omega)] at q
      rw [e _ (by omega) (by omega) (by omega) (by omega)]
      exact h c hc q
theorem CS_split {b : zH} {m pp tm w : Row} {hs : Int64} {st : Nat → Row} {k : Nat} {len : Int32} {tx g : Row} {H : zH} (h : CS (mput b m pp tm w hs) st k len tx g H) : ∃ Hb, H = mput Hb m pp tm w hs ∧ ∀ m' pp' tm' w' hs', CS (mput b m' pp' tm' w' hs') st k len tx g (mput Hb m' pp' tm' w' hs') := by
  obtain ⟨sg, p, hp, hst, l, q, rfl⟩ := h
  have key : ∀ m' pp' tm' w' hs', put (sput (oput (sgs (mput b m' pp' tm' w' hs') sg) (fun i => 29 + 23 * p i) (Int32.ofNat k) len tx) l q) 5 g = mput (put (sput (oput (sgs b sg) (fun i => 29 + 23 * p i) (Int32.ofNat k) len tx) l q) 5 g) m' pp' tm' w' hs' := by
    intro m' pp' tm' w' hs'
    funext i
    by_cases c : 123 ≤ i ∧ i < 131
    · rw [mput_in c, put_out (by omega)]
      unfold sput oput sgs
      rw [if_neg (by omega), if_neg (by omega), if_neg (by omega), if_neg (by omega), if_neg (by omega), if_neg (by omega), if_neg (by omega), if_neg (by omega), if_neg (by omega), mput_in c]
    · rw [mput_out (by omega)]
      unfold put
      by_cases d : 5 ≤ i ∧ i < 5 + 23
      · rw [if_pos d, if_pos d]
      · rw [if_neg d, if_neg d]
        have e : sgs (mput b m' pp' tm' w' hs') sg i = sgs b sg i := by
          unfold sgs
          by_cases f : 29 ≤ i ∧ i < 121
          · rw [if_pos f, if_pos f]
          · rw [if_neg f, if_neg f, mput_out (by omega)]
        have e' : oput (sgs (mput b m' pp' tm' w' hs') sg) (fun i => 29 + 23 * p i) (Int32.ofNat k) len tx i = oput (sgs b sg) (fun i => 29 + 23 * p i) (Int32.ofNat k) len tx i := by
          unfold oput
          rw [e]
        unfold sput
        rw [e']
  refine ⟨put (sput (oput (sgs b sg) (fun i => 29 + 23 * p i) (Int32.ofNat k) len tx) l q) 5 g, key _ _ _ _ _, fun m' pp' tm' w' hs' => ?_⟩
  exact ⟨sg, p, hp, hst, l, q, (key _ _ _ _ _).symm⟩
theorem CS_131 {h : zH} {st : Nat → Row} {k : Nat} {len : Int32} {tx g : Row} {H : zH} (hC : CS h st k len tx g H) : H 131 = h 131 ∧ ∀ e, CS (zset h 131 e) st k len tx g (zset H 131 e) := by
  obtain ⟨sg, p, hp, hst, l, q, rfl⟩ := hC
  have e1 : ∀ h : zH, put (sput (oput (sgs h sg) (fun i => 29 + 23 * p i) (Int32.ofNat k) len tx) l q) 5 g 131 = h 131 := fun h => by
    rw [put_out (by omega)]
    unfold sput oput sgs
    rw [if_neg (by omega), if_neg (by omega), if_neg (by omega), if_neg (by omega), if_neg (by omega), if_neg (by omega), if_neg (by omega), if_neg (by omega), if_neg (by omega)]
  refine ⟨e1 h, fun e => ⟨sg, p, hp, hst, l, q, ?_⟩⟩
  refine oset (Or.inr (by omega)) ?_
  funext i
  unfold zset oput sgs
  by_cases c : i = 131
  · subst c
    rw [if_pos rfl, if_neg (by omega), if_neg (by omega), if_neg (by omega), if_neg (by omega), if_neg (by omega)]
    exact (if_pos rfl).symm
  · simp only [if_neg c]
def Bout (b : zH) (f : Nat → Int64) : Prop := b 131 = some (.inl (1, 1, .inr (.inl f)))
def SavedOk (B : Nat) (s p : Row) : Prop := ∃ mm, WF s mm ∧ MonZ s mm B ∧ AgW mm s p
def Rel (B mm k L : Nat) (g m pp tx w : Row) (st : Nat → Row) : Prop := WF g mm ∧ MonZ g mm B ∧ AgW mm g m ∧ k ≤ 4 ∧ w 20 = Int32.ofNat k ∧ L ≤ 90 ∧ w 21 = Int32.ofNat L ∧ ∀ i, i < k → SavedOk B (st i) (fun j => pp (134 * i + j))
def REL (B : Nat) (H : zH) : Prop := ∃ (mm k L : Nat) (g m pp tx w : Row) (st : Nat → Row) (hs : Int64) (b : zH) (f : Nat → Int64), Bout b f ∧ CS (mput b m pp tx w hs) st k (Int32.ofNat L) tx g H ∧ Rel B mm k L g m pp tx w st
theorem SavedOk_mono {B B' : Nat} {s p : Row} (h : SavedOk B s p) (hB : B ≤ B') : SavedOk B' s p := by
  obtain ⟨mm, a, b, c⟩ := h
  exact ⟨mm, a, monz_mono b hB, c⟩
theorem Rel_mono {B B' mm k L : Nat} {g m pp tx w : Row} {st : Nat → Row} (h : Rel B mm k L g m pp tx w st) (hB : B ≤ B') : Rel B' mm k L g m pp tx w st := by
  obtain ⟨a, b, c, d, e, f, i, j⟩ := h
  exact ⟨a, monz_mono b hB, c, d, e, f, i, fun q hq => SavedOk_mono (j q hq) hB⟩
theorem REL_mono {B B' : Nat} {H : zH} (h : REL B H) (hB : B ≤ B') : REL B' H := by
  obtain ⟨mm, k, L, g, m, pp, tx, w, st, hs, b, f, h1, h2, h3⟩ := h
  exact ⟨mm, k, L, g, m, pp, tx, w, st, hs, b, f, h1, h2, Rel_mono h3 hB⟩
theorem pushK_le {k : Nat} (h : k ≤ 4) : pushK k ≤ 4 := by
  unfold pushK
  split <;> omega
theorem AgW_congr {mm : Nat} {g m m' : Row} (h : AgW mm g m) (e : ∀ j, j < 134 → m' j = m j) : AgW mm g m' := by
  obtain ⟨len, a, b, c⟩ := h
  exact ⟨len, a, b, fun i hi hd => by rw [c i hi hd, e i hi]⟩
theorem saved_push {B k mm : Nat} {st : Nat → Row} {g m pp pp' : Row} (hk : k ≤ 4) (hg : WF g mm) (hM : MonZ g mm B) (hA : AgW mm g m) (hs : ∀ i, i < k → SavedOk B (st i) (fun j => pp (134 * i + j))) (hp : ∀ i, i < pushK k → ∀ j, j < 134 → pp' (134 * i + j) = pushSt (fun i j => pp (134 * i + j)) k m i j) : ∀ i, i < pushK k → SavedOk B (pushSt st k g i) (fun j => pp' (134 * i + j)) := by
  intro i hi
  have hc := hp i hi
  unfold pushSt at hc ⊢
  unfold pushK at hi
  by_cases c : k = 4
  · rw [if_pos c] at hi
    simp only [if_pos c] at hc ⊢
    by_cases d : i = 3
    · simp only [if_pos d] at hc ⊢
      exact ⟨mm, hg, hM, AgW_congr hA hc⟩
    · simp only [if_neg d] at hc ⊢
      obtain ⟨mi, a, b, e⟩ := hs (i + 1) (by omega)
      exact ⟨mi, a, b, AgW_congr e hc⟩
  · rw [if_neg c] at hi
    simp only [if_neg c] at hc ⊢
    by_cases d : i = k
    · simp only [if_pos d] at hc ⊢
      exact ⟨mm, hg, hM, AgW_congr hA hc⟩
    · simp only [if_neg d] at hc ⊢
      obtain ⟨mi, a, b, e⟩ := hs i (by omega)
      exact ⟨mi, a, b, AgW_congr e hc⟩
theorem WF_bools {g : Row} {mm : Nat} (h : WF g mm) : Bools g := ⟨h.1.2.2.2.2.1, h.1.2.2.2.2.2.1, fun c hc => by
  rcases (h.2.2.1 c hc).2.2.2 with ⟨a, _⟩ | ⟨a, _⟩
  · exact Or.inr a
  · exact Or.inl a⟩
def Lw (H : zH) (o : Option zO2) (X : Nat → zH → Option (Int32 × zH)) : Option (Int32 × zH) := zrc H 0 5 <| o.bind fun (u : zO2) => zcs u (fun (r : Int32) (h1 : zH) => (zsl h1 131 (0 : Int32) (Int32.toInt64 r)).bind fun (h8 : zH) => some ((0 : Int32), h8)) X
def CallOk (n : Nat) (o : Option (Int32 × zH)) (mf : zH → Option (Int32 × zH)) (B : Nat) : Prop := ∃ code H1 r H2, o = some (code, H1) ∧ mf H1 = some (r, H2) ∧ f_X6_thrown n 123 H2 = some code ∧ (code = 0 → zal H2 131 0 = some (Int32.toInt64 r)) ∧ REL B H2 ∧ (∀ {β : Type} (o : Option β), zrc H1 123 6 o = o) ∧ ∀ {β : Type} (o : Option β), zrc H2 123 6 o = o
theorem u_thrown {n : Nat} {h : zH} {m pp tx w : Row} {hs : Int64} : f_X6_thrown n 123 (mput h m pp tx w hs) = some (w 22) := by
  unfold f_X6_thrown
  simp only [mgI_5, Option.bind_some]
theorem call_throw {n B mm k L e : Nat} {g m pp tx w : Row} {st : Nat → Row} {hs : Int64} {b H : zH} {f : Nat → Int64} {o : Option zO2} {X : Nat → zH → Option (Int32 × zH)} {mf : zH → Option (Int32 × zH)} {code : Int32} (hb : Bout b f) (hC : CS (mput b m pp tx w hs) st k (Int32.ofNat L) tx g H) (hR : Rel B mm k L g m pp tx w st) (ho : o = some (.inl e, H)) (hX : X e H = some (code, H)) (hc : code ≠ 0) (hm : ∀ Hb, mf (mput Hb m pp tx w hs) = some (0, mput Hb m pp tx (upd w 22 code) hs)) : CallOk n (Lw H o X) mf B := by
  obtain ⟨Hb, hH, hCC⟩ := CS_split hC
  have hz : zrc H 0 5 (some (code, H)) = some (code, H) := by
    obtain ⟨sg, p, _, _, l, q, rfl⟩ := hC
    exact ogK_5
  refine ⟨code, H, 0, mput Hb m pp tx (upd w 22 code) hs, ?_, by rw [hH]; exact hm Hb, by rw [u_thrown, upd_eq], fun q => absurd q hc, ⟨mm, k, L, g, m, pp, tx, upd w 22 code, st, hs, b, f, hb, hCC _ _ _ _ _, ?_⟩, fun o => by rw [hH]; exact mgK, fun o => mgK⟩
  · unfold Lw
    rw [ho]
    show zrc H 0 5 (X e H) = _
    rw [hX, hz]
  · obtain ⟨a1, a2, a3, a4, a5, a6, a7, a8⟩ := hR
    exact ⟨a1, a2, a3, a4, by rw [upd_ne (by omega), a5], a6, by rw [upd_ne (by omega), a7], a8⟩
theorem call_okE {n B' mm' k k' L L' : Nat} {g g' m pp tx tx' w : Row} {st st' : Nat → Row} {hs : Int64} {b H H' : zH} {f : Nat → Int64} {o : Option zO2} {X : Nat → zH → Option (Int32 × zH)} {mf : zH → Option (Int32 × zH)} {v : Int32} (hb : Bout b f) (hC : CS (mput b m pp tx w hs) st k (Int32.ofNat L) tx g H) (hC' : CS (mput b m pp tx w hs) st' k' (Int32.ofNat L') tx' g' H') (ho : o = some (.inr v, H')) (hm : ∀ Hb, ∃ (m' pp' w' : Row) (hs' : Int64), mf (mput Hb m pp tx w hs) = some (v, mput Hb m' pp' tx' w' hs') ∧ w' 22 = 0 ∧ Rel B' mm' k' L' g' m' pp' tx' w' st') : CallOk n (Lw H o X) mf B' := by
  have hz : ∀ {β : Type} (o : Option β), zrc H 0 5 o = o := by
    intro β o
    obtain ⟨sg, p, _, _, l, q, rfl⟩ := hC
    exact ogK_5
  have e131 := CS_131 hC'
  have hcell : H' 131 = some (.inl (1, 1, .inr (.inl f))) := by rw [e131.1, mput_out (by omega)]; exact hb
  have hs131 : zsl H' 131 0 (Int32.toInt64 v) = some (zset H' 131 (.inl (1, 1, .inr (.inl (vp_updL f 0 (Int32.toInt64 v)))))) := by
    unfold zsl zLA
    rw [hcell]
    rfl
  have hC2 := e131.2 (.inl (1, 1, .inr (.inl (vp_updL f 0 (Int32.toInt64 v)))))
  have hmz : ∀ e, zset (mput b m pp tx w hs) 131 e = mput (zset b 131 e) m pp tx w hs := by
    intro e
    funext i
    unfold zset mput
    by_cases c : i = 131
    · subst c
      rw [if_pos rfl, if_neg (by omega)]
      exact (if_pos rfl).symm
    · simp only [if_neg c]
  rw [hmz] at hC2
  obtain ⟨Hb, hH, hCC⟩ := CS_split hC2
  obtain ⟨m', pp', w', hs', hm, h22, hR⟩ := hm Hb
  have hC3 := hCC m' pp' tx' w' hs'
  have c3 : mput Hb m' pp' tx' w' hs' 131 = some (.inl (1, 1, .inr (.inl (vp_updL f 0 (Int32.toInt64 v))))) := (CS_131 hC3).1.trans (by
    rw [mput_out (by omega)]
    exact if_pos rfl)
  refine ⟨0, mput Hb m pp tx w hs, v, mput Hb m' pp' tx' w' hs', ?_, hm, by rw [u_thrown, h22], fun _ => ?_, ⟨mm', k', L', g', m', pp', tx', w', st', hs', _, vp_updL f 0 (Int32.toInt64 v), ?_, hC3, hR⟩, fun o => mgK, fun o => mgK⟩
  · unfold Lw
    rw [hz, ho]
    show (zsl H' 131 0 (Int32.toInt64 v)).bind _ = _
    rw [hs131, Option.bind_some, hH]
  · unfold zal zLA
    rw [c3]
    rfl
  · show zset b 131 _ 131 = _
    exact if_pos rfl
theorem call_ok {n B' mm' k k' L L' : Nat} {g g' m m' pp pp' tx tx' w w' : Row} {st st' : Nat → Row} {hs hs' : Int64} {b H H' : zH} {f : Nat → Int64} {o : Option zO2} {X : Nat → zH → Option (Int32 × zH)} {mf : zH → Option (Int32 × zH)} {v : Int32} (hb : Bout b f) (hC : CS (mput b m pp tx w hs) st k (Int32.ofNat L) tx g H) (hC' : CS (mput b m pp tx w hs) st' k' (Int32.ofNat L') tx' g' H') (ho : o = some (.inr v, H')) (hm : ∀ Hb, mf (mput Hb m pp tx w hs) = some (v, mput Hb m' pp' tx' w' hs')) (h22 : w' 22 = 0) (hR : Rel B' mm' k' L' g' m' pp' tx' w' st') : CallOk n (Lw H o X) mf B' := call_okE hb hC hC' ho (fun Hb => ⟨m', pp', w', hs', hm Hb, h22, hR⟩)
def playerS (g : Row) (p k : Nat) : Int32 := if k = 0 then g (14 + p) else if k ≤ 4 then g (18 + 4 * p + (k - 1)) else if k = 5 then worthS g p else presS g (Int32.ofNat p)
def companyS (g : Row) (c home S k : Nat) : Int32 := if k = 0 then (if g (34 + 7 * c) = 0 then 0 else 1) else if g (34 + 7 * c) = 0 then -1 else if k = 7 then incS g home S else cnumS g c (Int32.ofNat k)
theorem ag_worth {D : Nat → Prop} {mm p : Nat} {g m : Row} (hD : DOk D mm) (hA : AgD D g m) (hp : p < mm) (hm : mm ≤ 4) : worthS g p = worthS m p := by
  unfold worthS
  rw [ag14 hD hA hp hm]
  exact zseq_congr 4 fun j x hj => by rw [ag0 hD hA (show 18 + 4 * p + j < 134 by omega) (by omega), ag0 hD hA (show 37 + 7 * j < 134 by omega) (by omega)]
theorem ag_presS {D : Nat → Prop} {mm : Nat} {g m : Row} {p : Int32} (hD : DOk D mm) (hA : AgD D g m) : presS g p = presS m p := by
  unfold presS
  exact zseq_congr 4 fun j x hj => by unfold prStep; rw [ag0 hD hA (show 39 + 7 * j < 134 by omega) (by omega)]
theorem ag_player {D : Nat → Prop} {mm p k : Nat} {g m : Row} (hD : DOk D mm) (hA : AgD D g m) (hp : p < mm) (hm : mm ≤ 4) : playerS g p k = playerS m p k := by
  unfold playerS
  rw [ag14 hD hA hp hm, ag_worth hD hA hp hm, ag_presS hD hA]
  split
  · rfl
  · split
    · rw [ag0 hD hA (by omega) (by omega)]
    · rfl
theorem ag_bank {D : Nat → Prop} {mm c : Nat} {g m : Row} (hD : DOk D mm) (hA : AgD D g m) (hc : c < 4) : bank (fun p => g (18 + 4 * p + c)) = bank (fun p => m (18 + 4 * p + c)) := by
  unfold bank
  exact zseq_congr 4 fun j x hj => by
    show x - g (18 + 4 * j + c) = x - m (18 + 4 * j + c)
    rw [ag0 hD hA (show 18 + 4 * j + c < 134 by omega) (by omega)]
theorem ag_exch {D : Nat → Prop} {mm c : Nat} {g m : Row} (hD : DOk D mm) (hA : AgD D g m) (hc : c < 4) : exch (fun p => g (18 + 4 * p + c)) = exch (fun p => m (18 + 4 * p + c)) := by
  unfold exch
  exact zseq_congr 4 fun j x hj => by
    show x + g (18 + 4 * j + c) / 2 = x + m (18 + 4 * j + c) / 2
    rw [ag0 hD hA (show 18 + 4 * j + c < 134 by omega) (by omega)]
theorem ag_company {D : Nat → Prop} {mm c home S k : Nat} {g m : Row} (hD : DOk D mm) (hA : AgD D g m) (hc : c < 4) : companyS g c home S k = companyS m c home S k := by
  unfold companyS cnumS
  rw [ag_bank hD hA hc, inc_congr (ag_land hD hA), ag0 hD hA (show 34 + 7 * c < 134 by omega) (by omega), ag0 hD hA (show 35 + 7 * c < 134 by omega) (by omega), ag0 hD hA (show 36 + 7 * c < 134 by omega) (by omega), ag0 hD hA (show 37 + 7 * c < 134 by omega) (by omega), ag0 hD hA (show 38 + 7 * c < 134 by omega) (by omega), ag0 hD hA (show 39 + 7 * c < 134 by omega) (by omega), ag0 hD hA (show 40 + 7 * c < 134 by omega) (by omega)]
theorem u_worth {n : Nat} {h : zH} {m pp tx w : Row} {hs : Int64} {p : Nat} (hn : 600 ≤ n) (hp : p < 4) : f_X6_worth n 123 (Int32.ofNat p) (mput h m pp tx w hs) = some (worthS m p) := by
  rw [e_X6_worth, mgR_0, Option.bind_some, ixm, mN (show 14 + p < 134 by omega), Option.bind_some]
  unfold L_X6_worth_12 worthS
  refine zfor2 4 (fun k => zseq (fun k s => s + m (18 + 4 * p + k) * (20 + 10 * m (37 + 7 * k))) (m (14 + p)) k) (fun k => Int32.ofNat k) (fun k hk rec => ?_) (fun rec => ?_) (by omega)
  · simp only [zlet, if_neg (of_eq_false (ge4 hk)), mgK, u_shares hp hk, u_price hk, Option.bind_some, i32_succ]
    rfl
  · rw [if_pos (by decide)]
theorem u_presid {n : Nat} {h : zH} {m pp tx w : Row} {hs : Int64} {p : Int32} (hn : 600 ≤ n) : f_X6_presidencies n 123 p (mput h m pp tx w hs) = some (presS m p) := by
  rw [e_X6_presidencies]
  unfold L_X6_presidencies_4 presS
  refine zfor2 4 (fun k => zseq (prStep m p) 0 k) (fun k => Int32.ofNat k) (fun k hk rec => ?_) (fun rec => ?_) (by omega)
  · rw [show zseq (prStep m p) 0 (k + 1) = prStep m p k (zseq (prStep m p) 0 k) from rfl]
    unfold prStep
    simp only [zlet, if_neg (of_eq_false (ge4 hk)), mgK, u_of_5 hk, Option.bind_some, i32_succ]
    split
    · rfl
    · rw [Int32.or_zero]
  · rw [if_pos (by decide)]
theorem u_openOnes {n : Nat} {h : zH} {m pp tx w : Row} {hs : Int64} {mm : Nat} (hn : 600 ≤ n) (hw : CoW m mm) : f_X6_openOnes n 123 (mput h m pp tx w hs) = some (openS m) := by
  rw [e_X6_openOnes]
  unfold L_X6_openOnes_4 openS
  refine zfor2 4 (fun k => zseq (fun k s => s + (if m (34 + 7 * k) = 0 then 0 else 1)) 0 k) (fun k => Int32.ofNat k) (fun k hk rec => ?_) (fun rec => ?_) (by omega)
  · have e : m (34 + 7 * k) = if m (34 + 7 * k) = 0 then 0 else 1 := by
      rcases (hw k hk).2.2.2 with ⟨a, _⟩ | ⟨a, _⟩
      · rw [a, if_neg (by decide)]
      · rw [a, if_pos rfl]
    rw [show ∀ s : Int32, zseq (fun k s => s + (if m (34 + 7 * k) = 0 then 0 else 1)) s (k + 1) = zseq (fun k s => s + (if m (34 + 7 * k) = 0 then 0 else 1)) s k + (if m (34 + 7 * k) = 0 then 0 else 1) from fun _ => rfl, ← e]
    simp only [zlet, if_neg (of_eq_false (ge4 hk)), mgK, u_of_0 hk, Option.bind_some, i32_succ]
  · rw [if_pos (by decide)]
def trB (g : Row) (i : Nat) : Nat := if g (62 + i) ≤ 0 then 0 else 1
theorem tracks_n {g : Row} : tracksS g = Int32.ofNat (sumTo 64 (fun k => if k / 8 < k % 8 then trB g k else 0)) := by
  unfold tracksS
  have key : ∀ k, zseq (trStep g) 0 k = Int32.ofNat (sumTo k (fun k => if k / 8 < k % 8 then trB g k else 0)) := by
    intro k
    induction k with
    | zero => rfl
    | succ k ih =>
      show trStep g k (zseq (trStep g) 0 k) = Int32.ofNat (sumTo k _ + if k / 8 < k % 8 then trB g k else 0)
      rw [ih]
      unfold trStep trB
      rw [show 62 + 8 * (k / 8) + k % 8 = 62 + k by omega]
      split
      · split
        · rw [show (0 : Int32) = Int32.ofNat 0 from rfl, i32_addn]
        · rw [show (1 : Int32) = Int32.ofNat 1 from rfl, i32_addn]
      · rfl
  exact key 64
theorem two_sums {f : Nat → Nat} (hs : ∀ a b, a < 8 → b < 8 → f (8 * a + b) = f (8 * b + a)) (hd : ∀ a, a < 8 → f (8 * a + a) = 0) : sumTo 64 f = 2 * sumTo 64 (fun k => if k / 8 < k % 8 then f k else 0) := by
  have row : ∀ a, a < 8 → sumTo 8 (fun b => if a < b then f (8 * a + b) else 0) + sumTo 8 (fun b => if b < a then f (8 * a + b) else 0) = sumTo 8 (fun b => f (8 * a + b)) := by
    intro a ha
    have add : ∀ k (u v : Nat → Nat), sumTo k u + sumTo k v = sumTo k (fun b => u b + v b) := by
      intro k u v
      induction k with
      | zero => rfl
      | succ k ih =>
        show sumTo k u + u k + (sumTo k v + v k) = sumTo k (fun b => u b + v b) + (u k + v k)
        rw [← ih]
        omega
    rw [add]
    refine sumTo_congr 8 fun b hb => ?_
    by_cases c1 : a < b
    · rw [if_pos c1, if_neg (by omega), Nat.add_zero]
    · by_cases c2 : b < a
      · rw [if_neg c1, if_pos c2, Nat.zero_add]
      · rw [if_neg c1, if_neg c2, show b = a by omega, hd a ha]
  have split8 : ∀ u : Nat → Nat, sumTo 64 u = sumTo 8 (fun a => sumTo 8 (fun b => u (8 * a + b))) := by
    intro u
    have : ∀ k, sumTo (8 * k) u = sumTo k (fun a => sumTo 8 (fun b => u (8 * a + b))) := by
      intro k
      induction k with
      | zero => rfl
      | succ k ih =>
        show sumTo (8 * k + 8) u = sumTo k _ + sumTo 8 (fun b => u (8 * k + b))
        rw [← ih]
        show sumTo (8 * k) u + u (8 * k) + u (8 * k + 1) + u (8 * k + 2) + u (8 * k + 3) + u (8 * k + 4) + u (8 * k + 5) + u (8 * k + 6) + u (8 * k + 7) = sumTo (8 * k) u + (0 + u (8 * k) + u (8 * k + 1) + u (8 * k + 2) + u (8 * k + 3) + u (8 * k + 4) + u (8 * k + 5) + u (8 * k + 6) + u (8 * k + 7))
        omega
    exact this 8
  have addf : ∀ k (u v : Nat → Nat), sumTo k u + sumTo k v = sumTo k (fun b => u b + v b) := by
    intro k u v
    induction k with
    | zero => rfl
    | succ k ih =>
      show sumTo k u + u k + (sumTo k v + v k) = sumTo k (fun b => u b + v b) + (u k + v k)
      rw [← ih]
      omega
  have swap : ∀ (F : Nat → Nat → Nat) (k j : Nat), sumTo k (fun a => sumTo j (fun b => F a b)) = sumTo j (fun b => sumTo k (fun a => F a b)) := by
    intro F k j
    induction k with
    | zero =>
      induction j with
      | zero => rfl
      | succ j ih =>
        show 0 = sumTo j (fun _ => 0) + 0
        rw [Nat.add_zero]
        exact ih
    | succ k ih =>
      show sumTo k (fun a => sumTo j (fun b => F a b)) + sumTo j (fun b => F k b) = _
      rw [ih, addf]
      rfl
  have e1 : sumTo 64 (fun k => if k / 8 < k % 8 then f k else 0) = sumTo 8 (fun a => sumTo 8 (fun b => if a < b then f (8 * a + b) else 0)) := by
    rw [split8]
    refine sumTo_congr 8 fun a ha => sumTo_congr 8 fun b hb => ?_
    rw [show (8 * a + b) / 8 = a by omega, show (8 * a + b) % 8 = b by omega]
  have e2 : sumTo 8 (fun a => sumTo 8 (fun b => if b < a then f (8 * a + b) else 0)) = sumTo 8 (fun a => sumTo 8 (fun b => if a < b then f (8 * a + b) else 0)) := by
    rw [swap]
    refine sumTo_congr 8 fun a ha => sumTo_congr 8 fun b hb => ?_
    rw [hs b a hb ha]
  rw [split8, e1, sumTo_congr 8 (fun a ha => (row a ha).symm), ← addf, e2]
  omega
theorem u_tracks {n : Nat} {h : zH} {m pp tx w : Row} {hs : Int64} (hn : 600 ≤ n) (hL : LandW m) : f_X6_tracks n 123 (mput h m pp tx w hs) = some (tracksS m) := by
  rw [e_X6_tracks, tracks_n]
  unfold L_X6_tracks_4
  refine zfor2 64 (fun k => Int32.ofNat (sumTo k (trB m))) (fun k => Int32.ofNat k) (fun k hk rec => ?_) (fun rec => ?_) (by omega)
  · have ix : (62 : Int32) + Int32.ofNat k = Int32.ofNat (62 + k) := by rw [show (62 : Int32) = Int32.ofNat 62 from rfl, i32_addn]
    have c64 : ¬ (64 : Int32) ≤ Int32.ofNat k := i32_ge (N := 64) hk (by omega)
    show _ = rec (Int32.ofNat (sumTo k (trB m) + trB m k)) _
    simp only [zlet, if_neg c64, mgR_0, ix, mN (show 62 + k < 134 by omega), Option.bind_some, i32_succ]
    unfold trB
    split
    · rw [show (0 : Int32) = Int32.ofNat 0 from rfl, i32_addn]
    · rfl
  · rw [if_pos (by decide)]
    have e := two_sums (f := trB m) (fun a b ha hb => by
      unfold trB
      rw [show 62 + (8 * a + b) = 62 + 8 * a + b by omega, show 62 + (8 * b + a) = 62 + 8 * b + a by omega, hL.1 a b ha hb]) (fun a ha => by
      unfold trB
      rw [show 62 + (8 * a + a) = 62 + 8 * a + a by omega, hL.2.2.1 a ha, if_pos (by decide)])
    rw [e]
    have le : sumTo 64 (fun k => if k / 8 < k % 8 then trB m k else 0) ≤ 64 := by
      have : ∀ k, sumTo k (fun k => if k / 8 < k % 8 then trB m k else 0) ≤ k := by
        intro k
        induction k with
        | zero => exact Nat.le_refl 0
        | succ k ih =>
          show sumTo k _ + (if k / 8 < k % 8 then trB m k else 0) ≤ k + 1
          have : (if k / 8 < k % 8 then trB m k else 0) ≤ 1 := by
            unfold trB
            split
            · split <;> omega
            · omega
          omega
      exact this 64
    have hv : ∀ c, c ≤ 64 → Int32.ofNat (2 * c) / 2 = Int32.ofNat c := by decide
    rw [hv _ le]
theorem u_tellPlayer {n : Nat} {h : zH} {m pp tx w : Row} {hs : Int64} {p k : Nat} (hn : 600 ≤ n) (hp : p < 4) (hk : k < 7) : f_X6_tellPlayer n 123 (Int32.ofNat p) (Int32.ofNat k) (mput h m pp tx w hs) = some (playerS m p k) := by
  unfold f_X6_tellPlayer playerS
  have e0 : (Int32.ofNat k = 0) = (k = 0) := i32_eq_of (b := 0) (by omega) (by omega)
  have e5 : ((5 : Int32) ≤ Int32.ofNat k) = (5 ≤ k) := i32_le_of (a := 5) (by omega) (by omega)
  have e5' : (Int32.ofNat k = 5) = (k = 5) := i32_eq_of (b := 5) (by omega) (by omega)
  simp only [e0, e5, e5', mgR_0, ixm, mN (show 14 + p < 134 by omega), mgK, u_worth hn hp, u_presid hn, Option.bind_some]
  by_cases c0 : k = 0
  · rw [if_pos c0, if_pos c0]
  · rw [if_neg c0, if_neg c0]
    by_cases c5 : 5 ≤ k
    · rw [if_pos c5, if_neg (show ¬ k ≤ 4 by omega)]
      split <;> rfl
    · rw [if_neg c5, if_pos (show k ≤ 4 by omega)]
      obtain ⟨j, rfl⟩ : ∃ j, k = j + 1 := ⟨k - 1, by omega⟩
      rw [i32_pred, u_shares hp (show j < 4 by omega), Option.bind_some]
      rfl
theorem u_tellValue {n : Nat} {h : zH} {m pp tx w : Row} {hs : Int64} {mm : Nat} {v : Int32} (hn : 600 ≤ n) (hWF : WF m mm) : f_X6_tellValue n 123 v (mput h m pp tx w hs) = some (numS m v) := by
  have h3 := hWF.1.2.2.2.2.1
  have e3 : m 3 = if m 3 = 0 then 0 else 1 := by
    rcases h3 with a | a
    · rw [a, if_pos rfl]
    · rw [a, if_neg (by decide)]
  unfold f_X6_tellValue numS
  rw [← e3]
  simp only [mgR_0, mN_0, mN_1, mN_2, mN_3, mN_5, mN_6, mN_7, mgK, u_next hWF.2.1 h3, u_tracks hn hWF.2.2.2, u_openOnes hn hWF.2.2.1, Option.bind_some]
  repeat' split
  all_goals first | rfl | contradiction
theorem u_tellCompany {n : Nat} {h : zH} {m pp tx w : Row} {hs : Int64} {mm c k : Nat} (hn : 50000 ≤ n) (hWF : WF m mm) (hc : c < 4) (hk : k < 9) : ∃ home S w', f_X6_tellCompany n 123 (Int32.ofNat c) (Int32.ofNat k) (mput h m pp tx w hs) = some (companyS m c home S k, mput h m pp tx w' hs) ∧ sameW w w' ∧ (m (34 + 7 * c) = 1 → CoOk m c home S) := by
  have hw := hWF.2.2.1
  have e : ∀ j, j < 9 → (Int32.ofNat k = Int32.ofNat j) = (k = j) := fun j hj => i32_eq_of (by omega) (by omega)
  rcases (hw c hc).2.2.2 with ⟨ho, home, S, hco, _⟩ | ⟨ho, _⟩
  · have on : ¬ m (34 + 7 * c) = 0 := by rw [ho]; decide
    obtain ⟨w', ei, hs'⟩ := u_income (h := h) (pp := pp) (tx := tx) (w := w) (hs := hs) hn hc hco hWF.2.2.2.2.2.2
    refine ⟨home, S, if k = 7 then w' else w, ?_, by split; exact hs'; exact fun i _ _ _ => rfl, fun _ => hco⟩
    unfold f_X6_tellCompany companyS
    rw [mgK, u_isOpen hc, if_pos ho, Option.bind_some, if_neg (show ¬ (1 : Int32) = 0 by decide)]
    simp only [mgK, u_of_1 hc, u_of_2 hc, u_price hc, u_of_4 hc, u_of_5 hc, u_rest (show 600 ≤ n by omega) hWF.1.2.2.1 hWF.1.2.1 hc (sh_zero (hw c hc).1), ei, u_of_6 hc, zb2, Option.bind_some]
    unfold cnumS
    obtain rfl | rfl | rfl | rfl | rfl | rfl | rfl | rfl | rfl : k = 0 ∨ k = 1 ∨ k = 2 ∨ k = 3 ∨ k = 4 ∨ k = 5 ∨ k = 6 ∨ k = 7 ∨ k = 8 := by omega
    all_goals simp only [show Int32.ofNat 0 = (0 : Int32) from rfl, show Int32.ofNat 1 = (1 : Int32) from rfl, show Int32.ofNat 2 = (2 : Int32) from rfl, show Int32.ofNat 3 = (3 : Int32) from rfl, show Int32.ofNat 4 = (4 : Int32) from rfl, show Int32.ofNat 5 = (5 : Int32) from rfl, show Int32.ofNat 6 = (6 : Int32) from rfl, show Int32.ofNat 7 = (7 : Int32) from rfl, show Int32.ofNat 8 = (8 : Int32) from rfl]
    all_goals simp [on]
  · refine ⟨0, 0, w, ?_, fun i _ _ _ => rfl, fun q => by rw [ho] at q; exact absurd q (by decide)⟩
    have on : ¬ m (34 + 7 * c) = 1 := by rw [ho]; decide
    unfold f_X6_tellCompany companyS
    rw [mgK, u_isOpen hc, if_neg on, Option.bind_some, if_pos rfl, if_pos ho, if_pos ho]
    have e0 := e 0 (by omega)
    by_cases c0 : k = 0
    · rw [if_pos (show Int32.ofNat k = 0 from e0 ▸ c0), if_pos c0]
    · rw [if_neg (show ¬ Int32.ofNat k = 0 from fun q => c0 (e0 ▸ q)), if_neg c0]
theorem u_ref0 {n : Nat} {h : zH} {m pp tx w : Row} {hs : Int64} : f_X6_refused n 123 0 (mput h m pp tx w hs) = some (0, mput h m pp tx (upd w 22 0) hs) := by
  unfold f_X6_refused
  rw [msI_5, Option.bind_some, if_pos (by decide)]
theorem u_refk {n : Nat} {h : zH} {m pp tx w : Row} {hs : Int64} {x : Int32} (hx : ¬ x ≤ 0) : f_X6_refused n 123 x (mput h m pp tx w hs) = some (1, mput h m pp tx (upd w 22 x) hs) := by
  unfold f_X6_refused
  rw [msI_5, Option.bind_some, if_neg hx]
theorem u_in {n : Nat} {x lo hi : Int32} {h : zH} : f_X6_in n x lo hi h = some (if x < lo then 0 else if hi < x then 0 else 1) := by
  unfold f_X6_in
  simp only [zlet]
  split
  · rfl
  · split <;> rfl
theorem u_vp_y {n k : Nat} {x : Int32} {h : zH} (hk : k < 599) (hx : vp_in x (k + 1)) : f_X6_in n x 0 (Int32.ofNat k) h = some 1 := by
  obtain ⟨i, hi, rfl⟩ := vp_ex hx
  rw [u_in, if_neg (fun c => hx (Or.inl c)), if_neg (by rw [i32_lt_of (by omega) (by omega)]; omega)]
theorem u_vp_n {n k : Nat} {x : Int32} {h : zH} (hk : k < 599) (hx : ¬ vp_in x (k + 1)) : f_X6_in n x 0 (Int32.ofNat k) h = some 0 := by
  rw [u_in]
  rcases vp_no (by omega) hx with c | c
  · rw [if_pos c]
  · split
    · rfl
    · rw [if_pos]
      rw [Int32.lt_iff_toInt_lt]
      rw [Int32.le_iff_toInt_le, Int32.toInt_ofNat_of_lt (by omega)] at c
      rw [Int32.toInt_ofNat_of_lt (by omega)]
      omega
theorem u_company_y {n : Nat} {x : Int32} {h : zH} (hx : vp_in x 4) : f_X6_isCompany n x h = some 1 := by
  unfold f_X6_isCompany
  rw [show (3 : Int32) = Int32.ofNat 3 from rfl, u_vp_y (by omega) hx, Option.bind_some, zB01 (Or.inr rfl), Option.bind_some]
theorem u_company_n {n : Nat} {x : Int32} {h : zH} (hx : ¬ vp_in x 4) : f_X6_isCompany n x h = some 0 := by
  unfold f_X6_isCompany
  rw [show (3 : Int32) = Int32.ofNat 3 from rfl, u_vp_n (by omega) hx, Option.bind_some, zB01 (Or.inl rfl), Option.bind_some]
theorem u_town_y {n : Nat} {x : Int32} {h : zH} (hx : vp_in x 8) : f_X6_isTown n x h = some 1 := by
  unfold f_X6_isTown
  rw [show (7 : Int32) = Int32.ofNat 7 from rfl, u_vp_y (by omega) hx, Option.bind_some, zB01 (Or.inr rfl), Option.bind_some]
theorem u_town_n {n : Nat} {x : Int32} {h : zH} (hx : ¬ vp_in x 8) : f_X6_isTown n x h = some 0 := by
  unfold f_X6_isTown
  rw [show (7 : Int32) = Int32.ofNat 7 from rfl, u_vp_n (by omega) hx, Option.bind_some, zB01 (Or.inl rfl), Option.bind_some]
theorem Rel_w {B mm k L : Nat} {g m pp tx w w' : Row} {st : Nat → Row} (h : Rel B mm k L g m pp tx w st) (e20 : w' 20 = w 20) (e21 : w' 21 = w 21) : Rel B mm k L g m pp tx w' st := by
  obtain ⟨a1, a2, a3, a4, a5, a6, a7, a8⟩ := h
  exact ⟨a1, a2, a3, a4, by rw [e20, a5], a6, by rw [e21, a7], a8⟩
theorem Rel_22 {B mm k L : Nat} {g m pp tx w : Row} {st : Nat → Row} {x : Int32} (h : Rel B mm k L g m pp tx w st) : Rel B mm k L g m pp tx (upd w 22 x) st := Rel_w h (upd_ne (by omega)) (upd_ne (by omega))
theorem Rel_sw {B mm k L : Nat} {g m pp tx w w' : Row} {st : Nat → Row} (h : Rel B mm k L g m pp tx w st) (hs : sameW w w') : Rel B mm k L g m pp tx w' st := Rel_w h (hs 20 (by omega) (by omega) (by omega)) (hs 21 (by omega) (by omega) (by omega))
theorem CS_H {h : zH} {st : Nat → Row} {k : Nat} {len : Int32} {tx g : Row} {H : zH} (hC : CS h st k len tx g H) : ∃ h' : zH, H = put h' 5 g ∧ zgR H 0 5 0 = some 5 := by
  obtain ⟨sg, p, _, _, l, q, rfl⟩ := hC
  exact ⟨_, rfl, ogR_0⟩
theorem CS_cur {h : zH} {st : Nat → Row} {k : Nat} {len : Int32} {tx g : Row} {H : zH} (hC : CS h st k len tx g H) : ∃ h0 : zH, Cur h0 5 g H ∧ ∀ g' H', Cur h0 5 g' H' → CS h st k len tx g' H' := by
  obtain ⟨sg, p, hp, hst, hc⟩ := hC
  exact ⟨_, hc, fun g' H' h' => ⟨sg, p, hp, hst, h'⟩⟩
theorem Lw_town {n : Nat} {x : Int32} {H : zH} : f_L_town n 0 x 131 H = Lw H (f_X5_town n 0 x H) (fun e h1 => if e = 1 then some (1, h1) else none) := rfl
theorem call_town {n B : Nat} {x : Int32} {H : zH} (hR : REL B H) : CallOk n (f_L_town n 0 x 131 H) (f_X6_town n 123 x) B := by
  obtain ⟨mm, k, L, g, m, pp, tx, w, st, hs, b, f, hb, hC, hR⟩ := hR
  obtain ⟨h', hH, h05⟩ := CS_H hC
  obtain ⟨len, hl, h9, hA⟩ := hR.2.2.1
  rw [Lw_town]
  by_cases hx : vp_in x 8
  · obtain ⟨t, ht, rfl⟩ := vp_ex hx
    refine call_ok (v := g (126 + t)) (w' := upd w 22 0) (hs' := hs) hb hC hC ?_ (fun Hb => ?_) upd_eq (Rel_22 hR)
    · unfold f_X5_town
      rw [town_y hx, Option.bind_some, if_neg (by decide), h05, Option.bind_some, hH, gR_1, Option.bind_some, gL_0, Option.bind_some, gA_w hx, nn_of (by omega), Option.bind_some]
    · unfold f_X6_town
      rw [u_town_y hx, Option.bind_some]
      simp only [zlet, if_neg (show ¬ (1 : Int32) = 0 by decide), mgK, u_ref0, zb2, Option.bind_some, if_true, mgR_0, ixt, mN (show 126 + t < 134 by omega)]
      rw [ag0 dead_ok hA (by omega) (by omega)]
  · refine call_throw (e := 1) (code := 1) hb hC hR ?_ rfl (by decide) (fun Hb => ?_)
    · unfold f_X5_town
      rw [town_n hx, Option.bind_some, if_pos rfl]
    · unfold f_X6_town
      rw [u_town_n hx, Option.bind_some]
      simp only [zlet, if_true, mgK, u_refk (show ¬ (1 : Int32) ≤ 0 by decide), zb2, Option.bind_some, if_neg (show ¬ (1 : Int32) = 0 by decide)]
theorem Lw_track {n : Nat} {x y : Int32} {H : zH} : f_L_track n 0 x y 131 H = Lw H (f_X5_track n 0 x y H) (fun e h1 => if e = 1 then some (1, h1) else none) := rfl
theorem call_track {n B : Nat} {x y : Int32} {H : zH} (hR : REL B H) : CallOk n (f_L_track n 0 x y 131 H) (f_X6_track n 123 x y) B := by
  obtain ⟨mm, k, L, g, m, pp, tx, w, st, hs, b, f, hb, hC, hR⟩ := hR
  obtain ⟨h', hH, h05⟩ := CS_H hC
  obtain ⟨len, hl, h9, hA⟩ := hR.2.2.1
  have z1 : ¬ (1 : Int32) = 0 := by decide
  rw [Lw_track]
  have bad : ¬ (vp_in x 8 ∧ vp_in y 8) → CallOk n (Lw H (f_X5_track n 0 x y H) (fun e h1 => if e = 1 then some (1, h1) else none)) (f_X6_track n 123 x y) B := by
    intro q
    refine call_throw (e := 1) (code := 1) hb hC hR ?_ rfl (by decide) (fun Hb => ?_)
    · unfold f_X5_track
      by_cases hx : vp_in x 8
      · rw [town_y hx, Option.bind_some]
        simp only [zlet, if_neg z1, town_n (fun hy => q ⟨hx, hy⟩), Option.bind_some, if_true]
      · rw [town_n hx, Option.bind_some]
        simp only [zlet, if_true]
    · unfold f_X6_track
      by_cases hx : vp_in x 8
      · rw [u_town_y hx, Option.bind_some]
        simp only [zlet, if_neg z1, u_town_n (fun hy => q ⟨hx, hy⟩), Option.bind_some, if_true, mgK, u_refk (show ¬ (1 : Int32) ≤ 0 by decide), zb2]
      · rw [u_town_n hx, Option.bind_some]
        simp only [zlet, if_true, mgK, u_refk (show ¬ (1 : Int32) ≤ 0 by decide), zb2, Option.bind_some, if_neg z1]
  by_cases hq : vp_in x 8 ∧ vp_in y 8
  · obtain ⟨hx, hy⟩ := hq
    obtain ⟨i, hi, rfl⟩ := vp_ex hx
    obtain ⟨j, hj, rfl⟩ := vp_ex hy
    refine call_ok (v := g (62 + 8 * i + j)) (w' := upd w 22 0) (hs' := hs) hb hC hC ?_ (fun Hb => ?_) upd_eq (Rel_22 hR)
    · unfold f_X5_track
      rw [town_y hx, Option.bind_some]
      simp only [zlet, if_neg z1, town_y hy, Option.bind_some]
      rw [h05, Option.bind_some, hH, gR_1, Option.bind_some, gL_1, Option.bind_some, gA_r hx, nn_of (by omega), Option.bind_some, gA_l hi hy, nn_of (by omega), Option.bind_some]
    · unfold f_X6_track
      rw [u_town_y hx, Option.bind_some]
      simp only [zlet, if_neg z1, u_town_y hy, mgK, u_ref0, zb2, Option.bind_some, if_true, u_level hi hj]
      rw [ag0 dead_ok hA (by omega) (by omega)]
  · exact bad hq
theorem NextOk_of {g : Row} {mm : Nat} (h : WF g mm) : NextOk g := by
  obtain ⟨hb, ⟨len, pl, o, hl, hpl, e9, e4, ho, hop⟩, hw, hL⟩ := h
  unfold NextOk
  rw [e9, e4]
  refine ⟨fun q => ?_, fun q => ?_⟩
  · rw [i32_le_of (by omega) (by omega)] at q
    exact in_of (by omega) (by omega)
  · unfold nextC at q ⊢
    rw [e9, e4] at q ⊢
    by_cases c1 : g 3 = 0
    · rw [if_pos c1] at q
      exact absurd rfl q
    · by_cases c2 : Int32.ofNat len ≤ Int32.ofNat pl
      · rw [if_neg c1, if_pos c2] at q
        exact absurd rfl q
      · rw [if_neg c1, if_neg c2, nn_of (by omega)]
        rw [i32_le_of (by omega) (by omega)] at c2
        have := ho pl (by omega)
        rw [this.2]
        exact in_of this.1 (by omega)
theorem ag_nextC {mm : Nat} {g m : Row} (hm : WF g mm) (hA : AgW mm g m) : nextC g = nextC m := by
  obtain ⟨len, hl, h9, hA⟩ := hA
  obtain ⟨hb, ⟨len', pl, o, hl', hpl, e9, e4, ho, hop⟩, hw, hL⟩ := hm
  have e : len = len' := ofNat_inj (by omega) (by omega) (by rw [← h9, e9])
  subst e
  unfold nextC
  rw [← ag0 dead_ok hA (show 3 < 134 by omega) (by omega), ← ag0 dead_ok hA (show 9 < 134 by omega) (by omega), ← ag0 dead_ok hA (show 4 < 134 by omega) (by omega), e9, e4, nn_of (by omega)]
  split
  · rfl
  · split
    · rfl
    · rename_i q
      rw [i32_le_of (by omega) (by omega)] at q
      exact hA _ (by omega) (fun z => by unfold dead at z; omega)
theorem ag_num {mm : Nat} {g m : Row} {v : Int32} (h : WF g mm) (hA : AgW mm g m) : numS g v = numS m v := by
  have e := ag_nextC h hA
  obtain ⟨len, hl, h9, hA⟩ := hA
  have a := fun i (h1 : i < 134) (h2 : i < 10 ∨ 18 ≤ i) => ag0 dead_ok hA h1 h2
  have t : tracksS g = tracksS m := by
    unfold tracksS
    exact zseq_congr 64 fun j x hj => by unfold trStep; rw [a (62 + 8 * (j / 8) + j % 8) (by omega) (by omega)]
  have o : openS g = openS m := by
    unfold openS
    exact zseq_congr 4 fun j x hj => by rw [a (34 + 7 * j) (by omega) (by omega)]
  unfold numS
  rw [e, t, o, a 0 (by omega) (by omega), a 1 (by omega) (by omega), a 2 (by omega) (by omega), a 3 (by omega) (by omega), a 5 (by omega) (by omega), a 6 (by omega) (by omega), a 7 (by omega) (by omega)]
theorem Lw_value {n : Nat} {x : Int32} {H : zH} : f_L_value n 0 x 131 H = Lw H (f_X5_value n 0 x H) (fun e h1 => if e = 0 then some (1, h1) else none) := rfl
theorem vp_lt_iff {x : Int32} {k : Nat} (hk : k < 600) (hx : vp_in x k) : ¬ x < 0 ∧ x < Int32.ofNat k := by
  obtain ⟨i, hi, rfl⟩ := vp_ex hx
  refine ⟨fun c => hx (Or.inl c), ?_⟩
  rw [i32_lt_of (by omega) hk]
  exact hi
theorem call_value {n B : Nat} {x : Int32} {H : zH} (hn : 50000 ≤ n) (hR : REL B H) : CallOk n (f_L_value n 0 x 131 H) (f_X6_value n 123 x) B := by
  obtain ⟨mm, k, L, g, m, pp, tx, w, st, hs, b, f, hb, hC, hR⟩ := hR
  obtain ⟨h', hH, h05⟩ := CS_H hC
  have z1 : ¬ (1 : Int32) = 0 := by decide
  rw [Lw_value]
  by_cases hx : vp_in x 10
  · obtain ⟨q1, q2⟩ := vp_lt_iff (by omega) hx
    refine call_ok (v := numS g x) (w' := upd w 22 0) (hs' := hs) hb hC hC ?_ (fun Hb => ?_) upd_eq (Rel_22 hR)
    · unfold f_X5_value
      simp only [zlet, if_neg q1, if_pos (show x < (10 : Int32) from q2)]
      rw [h05, Option.bind_some, hH, gK_0, p_number (by omega) (NextOk_of hR.1), Option.bind_some]
    · unfold f_X6_value
      rw [show (9 : Int32) = Int32.ofNat 9 from rfl, u_vp_y (by omega) hx, Option.bind_some]
      simp only [zlet, if_neg z1, mgK, u_ref0, zb2, Option.bind_some, if_true, u_tellValue (show 600 ≤ n by omega) (WF_ag hR.2.2.1 hR.1)]
      rw [ag_num hR.1 hR.2.2.1]
  · refine call_throw (e := 0) (code := 1) hb hC hR ?_ rfl (by decide) (fun Hb => ?_)
    · unfold f_X5_value
      simp only [zlet]
      rcases vp_no (by omega) hx with c | c
      · rw [if_pos c]
      · have : ¬ x < (10 : Int32) := Int32.not_lt.mpr c
        rw [if_neg this]
        split <;> rfl
    · unfold f_X6_value
      rw [show (9 : Int32) = Int32.ofNat 9 from rfl, u_vp_n (by omega) hx, Option.bind_some]
      simp only [zlet, if_true, mgK, u_refk (show ¬ (1 : Int32) ≤ 0 by decide), zb2, Option.bind_some, if_neg z1]
theorem Lw_player {n : Nat} {x y : Int32} {H : zH} : f_L_player n 0 x y 131 H = Lw H (f_X5_player n 0 x y H) (fun e h1 => if e = 1 then some (1, h1) else if e = 0 then some (2, h1) else none) := rfl
theorem p_player {n mm p k : Nat} {H h' : zH} {g : Row} (hn : 600 ≤ n) (hH : H = put h' 5 g) (h05 : zgR H 0 5 0 = some 5) (hg0 : g 0 = Int32.ofNat mm) (hm : mm ≤ 4) (hp : p < mm) (hk : k < 7) : f_X5_player n 0 (Int32.ofNat p) (Int32.ofNat k) H = some (.inr (playerS g p k), H) := by
  unfold f_X5_player playerS
  have e0 : (Int32.ofNat k = 0) = (k = 0) := i32_eq_of (b := 0) (by omega) (by omega)
  have e4 : ((4 : Int32) < Int32.ofNat k) = (4 < k) := i32_lt_of (a := 4) (by omega) (by omega)
  have e5 : (Int32.ofNat k = 5) = (k = 5) := i32_eq_of (b := 5) (by omega) (by omega)
  have hp4 : vp_in (Int32.ofNat p) 4 := in_of (by omega) (by omega)
  simp only [zlet]
  rw [if_neg (fun q => hp4 (Or.inl q)), h05, Option.bind_some]
  have e8 : zgI H 5 1 8 = some (Int32.ofNat mm) := by rw [hH, gI_8, hg0]
  rw [e8, Option.bind_some, if_pos (by rw [i32_lt_of (by omega) (by omega)]; omega), if_neg (fun q => in_of (show k < 7 by omega) (show 7 < 600 by omega) (Or.inl q)), if_pos (show Int32.ofNat k < (7 : Int32) from by rw [show (7 : Int32) = Int32.ofNat 7 from rfl, i32_lt_of (by omega) (by omega)]; omega)]
  simp only [e0, e4, e5]
  by_cases c0 : k = 0
  · rw [if_pos c0, if_pos c0, Option.bind_some, hH, gR_3, Option.bind_some, gA_m hp4, nn_of (by omega), Option.bind_some]
  · rw [if_neg c0, if_neg c0]
    by_cases c4 : 4 < k
    · rw [if_pos c4, if_neg (show ¬ k ≤ 4 by omega)]
      by_cases c5 : k = 5
      · rw [if_pos c5, if_pos c5, Option.bind_some, hH, gK_0, p_worthOf hn hp4, nn_of (by omega), Option.bind_some]
      · rw [if_neg c5, if_neg c5, Option.bind_some, hH, gK_0, p_presidenciesOf hn, Option.bind_some]
    · rw [if_neg c4, if_pos (show k ≤ 4 by omega)]
      obtain ⟨j, rfl⟩ : ∃ j, k = j + 1 := ⟨k - 1, by omega⟩
      rw [Option.bind_some, hH, gR_2, Option.bind_some, i32_pred, gA_c (in_of (show j < 4 by omega) (by omega)), nn_of (by omega), Option.bind_some, gC_0 (show j < 4 by omega), Option.bind_some, gA_h (show j < 4 by omega) hp4, nn_of (by omega), Option.bind_some]
      rfl
theorem call_player {n B : Nat} {x y : Int32} {H : zH} (hn : 50000 ≤ n) (hR : REL B H) : CallOk n (f_L_player n 0 x y 131 H) (f_X6_player n 123 x y) B := by
  obtain ⟨mm, k, L, g, m, pp, tx, w, st, hs, b, f, hb, hC, hR⟩ := hR
  obtain ⟨h', hH, h05⟩ := CS_H hC
  have hWF := hR.1
  have hA := hR.2.2.1
  have hm4 := hWF.1.2.1
  have hm2 := hWF.1.1
  have hg0 := hWF.1.2.2.1
  have hm0 := (WF_ag hA hWF).1.2.2.1
  have z1 : ¬ (1 : Int32) = 0 := by decide
  have e8 : zgI H 5 1 8 = some (Int32.ofNat mm) := by rw [hH, gI_8, hg0]
  have em1 : Int32.ofNat mm - 1 = Int32.ofNat (mm - 1) := by
    obtain ⟨j, rfl⟩ : ∃ j, mm = j + 1 := ⟨mm - 1, by omega⟩
    exact i32_pred j
  rw [Lw_player]
  by_cases hx : vp_in x mm
  · obtain ⟨p, hp, rfl⟩ := vp_ex hx
    have uy : ∀ Hb, f_X6_isPlayer n 123 (Int32.ofNat p) (mput Hb m pp tx w hs) = some 1 := fun Hb => by
      unfold f_X6_isPlayer
      rw [mgR_0, Option.bind_some, mN_0, Option.bind_some, hm0, em1, u_vp_y (by omega) (by rw [show mm - 1 + 1 = mm by omega]; exact hx), Option.bind_some, zB01 (Or.inr rfl), Option.bind_some]
    by_cases hy : vp_in y 7
    · obtain ⟨j, hj, rfl⟩ := vp_ex hy
      refine call_ok (v := playerS g p j) (w' := upd w 22 0) (hs' := hs) hb hC hC (p_player (by omega) hH h05 hg0 hm4 hp hj) (fun Hb => ?_) upd_eq (Rel_22 hR)
      obtain ⟨len, hl, h9, hA⟩ := hA
      unfold f_X6_player
      rw [mgK, uy, Option.bind_some]
      simp only [zlet, if_neg z1]
      rw [show (6 : Int32) = Int32.ofNat 6 from rfl, u_vp_y (by omega) hy, Option.bind_some]
      simp only [if_neg z1, mgK, u_ref0, zb2, Option.bind_some, if_true, u_tellPlayer (show 600 ≤ n by omega) (show p < 4 by omega) hj]
      rw [ag_player dead_ok hA hp hm4]
    · refine call_throw (e := 0) (code := 2) hb hC hR ?_ rfl (by decide) (fun Hb => ?_)
      · unfold f_X5_player
        have hp4 : vp_in (Int32.ofNat p) 4 := in_of (by omega) (by omega)
        simp only [zlet]
        rw [if_neg (fun q => hp4 (Or.inl q)), h05, Option.bind_some, e8, Option.bind_some, if_pos (by rw [i32_lt_of (by omega) (by omega)]; omega)]
        rcases vp_no (by omega) hy with c | c
        · rw [if_pos c]
        · have : ¬ y < (7 : Int32) := Int32.not_lt.mpr c
          rw [if_neg this]
          split <;> rfl
      · unfold f_X6_player
        rw [mgK, uy, Option.bind_some]
        simp only [zlet, if_neg z1]
        rw [show (6 : Int32) = Int32.ofNat 6 from rfl, u_vp_n (by omega) hy, Option.bind_some]
        simp only [if_true, mgK, u_refk (show ¬ (2 : Int32) ≤ 0 by decide), zb2, Option.bind_some, if_neg z1]
  · refine call_throw (e := 1) (code := 1) hb hC hR ?_ rfl (by decide) (fun Hb => ?_)
    · unfold f_X5_player
      simp only [zlet]
      rw [h05, Option.bind_some, e8, Option.bind_some]
      rcases vp_no (by omega) hx with c | c
      · rw [if_pos c]
      · rw [if_neg (Int32.not_lt.mpr c)]
        split <;> rfl
    · unfold f_X6_player f_X6_isPlayer
      rw [mgK, mgR_0, Option.bind_some, mN_0, Option.bind_some, hm0, em1, u_vp_n (by omega) (by rw [show mm - 1 + 1 = mm by omega]; exact hx), Option.bind_some, zB01 (Or.inl rfl), Option.bind_some, Option.bind_some]
      simp only [zlet, if_true, mgK, u_refk (show ¬ (1 : Int32) ≤ 0 by decide), zb2, Option.bind_some, if_neg z1]
theorem Lw_company {n : Nat} {x y : Int32} {H : zH} : f_L_company n 0 x y 131 H = Lw H (f_X5_company n 0 x y H) (fun e h1 => if e = 1 then some (1, h1) else if e = 0 then some (2, h1) else none) := rfl
theorem p_company {n mm c home S k : Nat} {h0 H : zH} {g : Row} (hn : 600 ≤ n) (hH : Cur h0 5 g H) (h05 : zgR H 0 5 0 = some 5) (hL : SymL g) (hc : c < 4) (hk : k < 9) (hw : CoW g mm) (ho : g (34 + 7 * c) = 1 → CoOk g c home S) : ∃ H', f_X5_company n 0 (Int32.ofNat c) (Int32.ofNat k) H = some (.inr (companyS g c home S k), H') ∧ Cur h0 5 g H' := by
  obtain ⟨h', hput, hCu⟩ := Cur_mk hH
  have z1 : ¬ (1 : Int32) = 0 := by decide
  have e0 : (Int32.ofNat k = 0) = (k = 0) := i32_eq_of (b := 0) (by omega) (by omega)
  have e7 : (Int32.ofNat k = 7) = (k = 7) := i32_eq_of (b := 7) (by omega) (by omega)
  have hc4 : vp_in (Int32.ofNat c) 4 := in_of hc (by omega)
  have start : f_X5_company n 0 (Int32.ofNat c) (Int32.ofNat k) H = if k = 0 then (if g (34 + 7 * c) = 0 then some (.inr 0, H) else some (.inr 1, H)) else if g (34 + 7 * c) = 0 then some (.inr (-1), H) else if k = 7 then ((zgR H 0 5 0).bind fun v76 => zrc H v76 1 <| zb2 (f_X1_incomeOf n v76 (5 + 15 + 2 * c) H) fun r80 h80 => some (.inr r80, h80)) else (zrc H (5 + 15 + 2 * c) 0 <| (f_X0_number n (5 + 15 + 2 * c) (Int32.ofNat k) H).bind fun r88 => some (.inr r88, H)) := by
    unfold f_X5_company
    rw [company_y hc4, Option.bind_some, if_neg z1]
    simp only [zlet]
    rw [if_neg (fun q => in_of hk (show 9 < 600 by omega) (Or.inl q)), if_pos (show Int32.ofNat k < (9 : Int32) from by rw [show (9 : Int32) = Int32.ofNat 9 from rfl, i32_lt_of (by omega) (by omega)]; omega), h05, Option.bind_some]
    have r1 : zgR H 5 1 2 = some (5 + 12) := by rw [hput, gR_2]
    have r2 : zar H (5 + 12) 3 (Int32.ofNat c) = some (5 + 15 + 2 * c) := by rw [hput, gA_c hc4, nn_of (by omega)]
    have r3 : zgI H (5 + 15 + 2 * c) 0 1 = some (g (34 + 7 * c)) := by rw [hput, gC_1 hc]
    rw [r1, Option.bind_some, r2, Option.bind_some, r3]
    simp only [e0, e7, Option.bind_some]
  rw [start]
  unfold companyS
  by_cases c0 : k = 0
  · rw [if_pos c0, if_pos c0]
    refine ⟨H, ?_, hH⟩
    split <;> rfl
  · rw [if_neg c0, if_neg c0]
    rcases (hw c hc).2.2.2 with ⟨a, _⟩ | ⟨a, _⟩
    · have on : ¬ g (34 + 7 * c) = 0 := by rw [a]; decide
      rw [if_neg on, if_neg on]
      by_cases c7 : k = 7
      · obtain ⟨H', e, hC'⟩ := p_incomeOf (n := n) hn (by omega) hc hL (ho a) hH
        refine ⟨H', ?_, hC'⟩
        rw [if_pos c7, if_pos c7, h05, Option.bind_some, e]
        rw [hput, gK_0]
        rfl
      · refine ⟨H, ?_, hH⟩
        rw [if_neg c7, if_neg c7, hput, gK_2 hc, p_cnumber hn hc, Option.bind_some]
    · refine ⟨H, ?_, hH⟩
      rw [if_pos a, if_pos a]
theorem open_co {g : Row} {mm c : Nat} (hw : CoW g mm) (hc : c < 4) : ∃ home S, g (34 + 7 * c) = 1 → CoOk g c home S := by
  rcases (hw c hc).2.2.2 with ⟨_, home, S, h, _⟩ | ⟨a, _⟩
  · exact ⟨home, S, fun _ => h⟩
  · exact ⟨0, 0, fun q => by rw [a] at q; exact absurd q (by decide)⟩
theorem CoOk_one {g : Row} {c home S home' S' : Nat} (h : CoOk g c home S) (h' : CoOk g c home' S') : home = home' ∧ S = S' := by
  obtain ⟨a1, a2, a3, a4, a5⟩ := h
  obtain ⟨b1, b2, b3, b4, b5⟩ := h'
  exact ⟨ofNat_inj (by omega) (by omega) (by rw [← a1, b1]), ofNat_inj (by omega) (by omega) (by rw [← a2, b2])⟩
theorem company_eq {g m : Row} {mm c home S home' S' k : Nat} (hWF : WF g mm) (hA : AgW mm g m) (hc : c < 4) (h1 : g (34 + 7 * c) = 1 → CoOk g c home S) (h2 : m (34 + 7 * c) = 1 → CoOk m c home' S') : companyS g c home S k = companyS m c home' S' k := by
  obtain ⟨len, hl, h9, hA⟩ := hA
  rcases (hWF.2.2.1 c hc).2.2.2 with ⟨a, _⟩ | ⟨a, _⟩
  · have a' : m (34 + 7 * c) = 1 := by rw [← ag0 dead_ok hA (by omega) (by omega), a]
    have e := CoOk_one (h1 a) (CoOk_congr (g := m) (ag0 dead_ok hA (by omega) (by omega)) (ag0 dead_ok hA (by omega) (by omega)) (h2 a'))
    rw [ag_company dead_ok hA hc, e.1, e.2]
  · have a' : m (34 + 7 * c) = 0 := by rw [← ag0 dead_ok hA (by omega) (by omega), a]
    unfold companyS
    rw [a, a']
    rfl
theorem call_company {n B : Nat} {x y : Int32} {H : zH} (hn : 50000 ≤ n) (hR : REL B H) : CallOk n (f_L_company n 0 x y 131 H) (f_X6_company n 123 x y) B := by
  obtain ⟨mm, k, L, g, m, pp, tx, w, st, hs, b, f, hb, hC, hR⟩ := hR
  obtain ⟨h', hH, h05⟩ := CS_H hC
  obtain ⟨h0, hcur, hcc⟩ := CS_cur hC
  have hWF := hR.1
  have hA := hR.2.2.1
  have z1 : ¬ (1 : Int32) = 0 := by decide
  rw [Lw_company]
  by_cases hx : vp_in x 4
  · obtain ⟨c, hc, rfl⟩ := vp_ex hx
    by_cases hy : vp_in y 9
    · obtain ⟨j, hj, rfl⟩ := vp_ex hy
      obtain ⟨home, S, hco⟩ := open_co hWF.2.2.1 hc
      obtain ⟨H', e1, hC1⟩ := p_company (n := n) (k := j) (by omega) hcur h05 hWF.2.2.2.1 hc hj hWF.2.2.1 hco
      refine call_okE (mm' := mm) (v := companyS g c home S j) hb hC (hcc g H' hC1) e1 (fun Hb => ?_)
      obtain ⟨mH, mS, w', e, hs', hco'⟩ := u_tellCompany (h := Hb) (pp := pp) (tx := tx) (w := upd w 22 0) (hs := hs) (n := n) (k := j) hn (WF_ag hA hWF) hc hj
      refine ⟨m, pp, w', hs, ?_, by rw [hs' 22 (by omega) (by omega) (by omega), upd_eq], Rel_sw (Rel_22 hR) hs'⟩
      unfold f_X6_company
      rw [u_company_y hx, Option.bind_some]
      simp only [zlet, if_neg z1]
      rw [show (8 : Int32) = Int32.ofNat 8 from rfl, u_vp_y (by omega) hy, Option.bind_some]
      simp only [if_neg z1, mgK, u_ref0, zb2, Option.bind_some, if_true, e]
      rw [company_eq hWF hA hc hco hco']
    · refine call_throw (e := 0) (code := 2) hb hC hR ?_ rfl (by decide) (fun Hb => ?_)
      · unfold f_X5_company
        rw [company_y hx, Option.bind_some, if_neg z1]
        simp only [zlet]
        rcases vp_no (by omega) hy with c | c
        · rw [if_pos c]
        · have : ¬ y < (9 : Int32) := Int32.not_lt.mpr c
          rw [if_neg this]
          split <;> rfl
      · unfold f_X6_company
        rw [u_company_y hx, Option.bind_some]
        simp only [zlet, if_neg z1]
        rw [show (8 : Int32) = Int32.ofNat 8 from rfl, u_vp_n (by omega) hy, Option.bind_some]
        simp only [if_true, mgK, u_refk (show ¬ (2 : Int32) ≤ 0 by decide), zb2, Option.bind_some, if_neg z1]
  · refine call_throw (e := 1) (code := 1) hb hC hR ?_ rfl (by decide) (fun Hb => ?_)
    · unfold f_X5_company
      rw [company_n hx, Option.bind_some, if_pos rfl]
    · unfold f_X6_company
      rw [u_company_n hx, Option.bind_some]
      simp only [zlet, if_true, mgK, u_refk (show ¬ (1 : Int32) ≤ 0 by decide), zb2, Option.bind_some, if_neg z1]
