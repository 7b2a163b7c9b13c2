/-! WHAT ELSE HOLDS: who presides holds most; the money adds up; who has passed -/
def Hold (g : Row) (mm c : Nat) : Prop := (g (39 + 7 * c) = -1 ∧ ∀ p, p < 4 → g (18 + 4 * p + c) = 0) ∨ (∃ i, i < mm ∧ g (39 + 7 * c) = Int32.ofNat i ∧ 0 < g (18 + 4 * i + c) ∧ ∀ p, p < 4 → g (18 + 4 * p + c) ≤ g (18 + 4 * i + c))
def HoldA (g : Row) (mm : Nat) : Prop := ∀ c, c < 4 → Hold g mm c
theorem hold_congr {g g' : Row} {mm c : Nat} (hm : mm ≤ 4) (h1 : ∀ p, p < 4 → g' (18 + 4 * p + c) = g (18 + 4 * p + c)) (h2 : g' (39 + 7 * c) = g (39 + 7 * c)) (h : Hold g mm c) : Hold g' mm c := by
  rcases h with ⟨a, b⟩ | ⟨i, hi, a, b, d⟩
  · exact Or.inl ⟨by rw [h2, a], fun p hp => by rw [h1 p hp, b p hp]⟩
  · exact Or.inr ⟨i, hi, by rw [h2, a], by rw [h1 i (by omega)]; exact b, fun p hp => by rw [h1 p hp, h1 i (by omega)]; exact d p hp⟩
theorem hold_all {g g' : Row} {mm : Nat} (hm : mm ≤ 4) (h1 : ∀ i, 18 ≤ i → i < 34 → g' i = g i) (h2 : ∀ c, c < 4 → g' (39 + 7 * c) = g (39 + 7 * c)) (h : HoldA g mm) : HoldA g' mm := fun c hc => hold_congr hm (fun p hp => h1 _ (by omega) (by omega)) (h2 c hc) (h c hc)
theorem hold_one {g g' : Row} {mm x : Nat} (hm : mm ≤ 4) (h : HoldA g mm) (hx : Hold g' mm x) (h1 : ∀ d, d < 4 → d ≠ x → (∀ p, p < 4 → g' (18 + 4 * p + d) = g (18 + 4 * p + d)) ∧ g' (39 + 7 * d) = g (39 + 7 * d)) : HoldA g' mm := fun d hd => by
  by_cases e : d = x
  · rw [e]; exact hx
  · exact hold_congr hm (h1 d hd e).1 (h1 d hd e).2 (h d hd)
theorem hold_pres {r : Row} {mm c : Nat} (hm : mm ≤ 4) (hc : c < 4) (hS : ShOk (rPres r c) mm c) (hP : PrOk r mm c) : Hold (rPres r c) mm c := by
  obtain ⟨s, h1, h2, h3⟩ := hS
  have hs := sh_lt h2
  have h1' : ∀ p, p < 4 → r (18 + 4 * p + c) = Int32.ofNat (s p) := fun p hp => by rw [← h1 p hp]; exact (rPres_ne (by omega)).symm
  have hsp := pres_spec (f := fun p => r (18 + 4 * p + c)) h1' (fun p hp => by have := hs p hp; omega) (PrOk_4 hm hP)
  have e : rPres r c (39 + 7 * c) = pres (fun p => r (18 + 4 * p + c)) (r (39 + 7 * c)) := upd_eq
  obtain ⟨M, -, hM, hF⟩ := hsp
  rw [← e] at hF
  have fin : ∀ i, i < 4 → 0 < M → s i = M → rPres r c (39 + 7 * c) = Int32.ofNat i → Hold (rPres r c) mm c := fun i hi h0 hsi he => by
    have him : i < mm := by
      by_cases q : i < mm
      · exact q
      · have := h3 i (by omega) hi
        omega
    have hi10 := hs i hi
    refine Or.inr ⟨i, him, he, ?_, fun p hp => ?_⟩
    · rw [h1 i hi, show (0 : Int32) = Int32.ofNat 0 from rfl, i32_lt_b (by omega) (by omega)]
      omega
    · have hp10 := hs p hp
      rw [h1 p hp, h1 i hi, i32_le_b (by omega) (by omega)]
      have := hM p hp
      omega
  rcases hF with ⟨m0, hf⟩ | ⟨h0, ⟨i, hi, he, hsi⟩, hf⟩ | ⟨h0, -, p, hp, hf, hsp, -⟩
  · left
    exact ⟨hf, fun p hp => by rw [h1 p hp, show s p = 0 by have := hM p hp; omega]; rfl⟩
  · exact fin i hi h0 hsi (by rw [hf, he])
  · exact fin p hp h0 hsp hf
theorem hold_shutc {g : Row} {mm c : Nat} (h0 : g (34 + 7 * c) = 0) (ho : OpOk g c) : Hold g mm c := by
  rcases ho with ⟨a, -⟩ | ⟨-, -, b, d⟩
  · rw [a] at h0
    exact absurd h0 (by decide)
  · exact Or.inl ⟨b, d⟩
theorem hold_buy {g : Row} {mm t c : Nat} (hm : mm ≤ 4) (hc : c < 4) (e1 : g 1 = Int32.ofNat t) (ht : t < mm) (hh : HoldA g mm) (hw : CoW g mm) (hw' : CoW (rBuy g c) mm) : HoldA (rBuy g c) mm := by
  rw [rBuy_eq e1 (by omega)] at hw' ⊢
  refine hold_one hm hh (x := c) ?_ (fun d hd hdc => ⟨fun p hp => ?_, ?_⟩)
  · refine hold_congr (g := buyC g t c) hm (fun p hp => rEnd_ne (by omega) (by omega)) (rEnd_ne (by omega) (by omega)) ?_
    refine hold_pres hm hc (ShOk_congr (fun p hp => (rEnd_ne (by omega) (by omega)).symm) (hw' c hc).1) ?_
    exact PrOk_congr (by rw [upd_ne (by omega), rPay_ne (by omega) (by omega)]) (hw c hc).2.1
  · rw [rEnd_ne (by omega) (by omega), buyC_ne (by omega) (by omega) (by omega) (by omega)]
  · rw [rEnd_ne (by omega) (by omega), buyC_ne (by omega) (by omega) (by omega) (by omega)]
theorem hold_sell {g : Row} {mm p c : Nat} {s : Int32} (hm : mm ≤ 4) (hp : p < mm) (hc : c < 4) (hh : HoldA g mm) (hw : CoW g mm) (hw' : CoW (rSell g p c s) mm) : HoldA (rSell g p c s) mm := by
  refine hold_one hm hh (x := c) ?_ (fun d hd hdc => ⟨fun q hq => ?_, ?_⟩)
  · refine hold_pres hm hc (hw' c hc).1 ?_
    exact PrOk_congr (by rw [rFall_ne (by omega), upd_ne (by omega), rPay_ne (by omega) (by omega)]) (hw c hc).2.1
  · exact rSell_ne (by omega) (by omega) (by omega) (by omega) (by omega)
  · exact rSell_ne (by omega) (by omega) (by omega) (by omega) (by omega)
theorem hold_start {g : Row} {mm t c : Nat} {x y : Int32} (hm : mm ≤ 4) (hc : c < 4) (e1 : g 1 = Int32.ofNat t) (ht : t < mm) (hh : HoldA g mm) (hw : CoW g mm) (hw' : CoW (rStart g c x y) mm) : HoldA (rStart g c x y) mm := by
  rw [rStart_eq e1 (by omega)] at hw' ⊢
  refine hold_one hm hh (x := c) ?_ (fun d hd hdc => ⟨fun p hp => ?_, ?_⟩)
  · refine hold_congr (g := startC g t c x y) hm (fun p hp => ?_) ?_ ?_
    · rw [rEnd_ne (by omega) (by omega)]
      unfold startD
      rw [upd_ne (by omega), upd_ne (by omega)]
    · rw [rEnd_ne (by omega) (by omega)]
      unfold startD
      rw [upd_ne (by omega), upd_ne (by omega)]
    · refine hold_pres hm hc (ShOk_congr (fun p hp => ?_) (hw' c hc).1) ?_
      · rw [rEnd_ne (by omega) (by omega)]
        unfold startD
        rw [upd_ne (by omega), upd_ne (by omega)]
        rfl
      · exact PrOk_congr (by rw [upd_ne (by omega), rPay_ne (by omega) (by omega), rOpen_ne (by omega) (by omega) (by omega) (by omega)]) (hw c hc).2.1
  · rw [rEnd_ne (by omega) (by omega), startD_ne (by omega) (by omega) (by omega) (by omega)]
  · rw [rEnd_ne (by omega) (by omega), startD_ne (by omega) (by omega) (by omega) (by omega)]
theorem hold_merge {g : Row} {mm x y : Nat} (hm : mm ≤ 4) (hx : x < 4) (hy : y < 4) (hxy : x ≠ y) (hh : HoldA g mm) (hw : CoW g mm) (hbk : ¬ bank (fun p => g (18 + 4 * p + x)) < exch (fun p => g (18 + 4 * p + y))) (hw' : CoW (rMerge g mm x y) mm) : HoldA (rMerge g mm x y) mm := by
  obtain ⟨-, hA⟩ := mergeA_sh hm hx hy hxy hw hbk
  rw [rMerge_eq] at hw' ⊢
  intro d hd
  by_cases dy : d = y
  · subst dy
    refine hold_shutc ?_ (hw' d hd).2.2.2
    rw [rEnd_ne (by omega) (by omega)]
    unfold mergeC
    rw [rPres_ne (by omega)]
    exact (rClose_at hd).1
  · by_cases dx : d = x
    · subst dx
      refine hold_congr (g := mergeC g mm d y) hm (fun p hp => rEnd_ne (by omega) (by omega)) (rEnd_ne (by omega) (by omega)) ?_
      refine hold_pres hm hd (ShOk_congr (fun p hp => (rEnd_ne (by omega) (by omega)).symm) (hw' d hd).1) ?_
      refine PrOk_congr ?_ (hw d hd).2.1
      rw [rClose_ne (by omega) (fun p hp => by omega), upd_ne (by omega), hA _ (by omega) (by omega) (fun p hp => by omega)]
    · refine hold_congr hm (fun p hp => ?_) ?_ (hh d hd)
      · rw [rEnd_ne (by omega) (by omega)]
        unfold mergeC
        rw [rPres_ne (by omega), rClose_ne (by omega) (fun p hp => by omega), upd_ne (by omega), hA _ (by omega) (by omega) (fun p hp => by omega)]
      · rw [rEnd_ne (by omega) (by omega)]
        unfold mergeC
        rw [rPres_ne (by omega), rClose_ne (by omega) (fun p hp => by omega), upd_ne (by omega), hA _ (by omega) (by omega) (fun p hp => by omega)]
theorem hold_rPay {g : Row} {mm p : Nat} {x : Int32} (hm : mm ≤ 4) (hp : p < 4) (h : HoldA g mm) : HoldA (rPay g p x) mm := hold_all hm (fun i h1 h2 => rPay_ne (by omega) (by omega)) (fun c hc => rPay_ne (by omega) (by omega)) h
theorem hold_rCPay {g : Row} {mm c : Nat} {x : Int32} (hm : mm ≤ 4) (hc : c < 4) (h : HoldA g mm) : HoldA (rCPay g c x) mm := hold_all hm (fun i h1 h2 => rCPay_ne (by omega) (by omega)) (fun d hd => rCPay_ne (by omega) (by omega)) h
theorem hold_shut {g : Row} {mm c : Nat} (hm : mm ≤ 4) (hc : c < 4) (h : HoldA g mm) : HoldA (rShut g c) mm := by
  refine hold_one hm h (x := c) ?_ (fun d hd hdc => ⟨fun p hp => ?_, ?_⟩)
  · unfold rShut
    obtain ⟨-, -, -, c4, c5⟩ := rClose_at (g := rCPay g c (g (36 + 7 * c))) hc
    exact Or.inl ⟨by rw [upd_ne (by omega)]; exact c4, fun p hp => by rw [upd_ne (by omega)]; exact c5 p hp⟩
  · unfold rShut
    rw [upd_ne (by omega), rClose_ne (by omega) (fun p hp => by omega), rCPay_ne (by omega) (by omega)]
  · unfold rShut
    rw [upd_ne (by omega), rClose_ne (by omega) (fun p hp => by omega), rCPay_ne (by omega) (by omega)]
theorem sell1 {g : Row} {mm p i : Nat} (hm : mm ≤ 4) (hp : p < mm) (hi : i < 4) (hw : CoW g mm) (h1 : ¬ g (34 + 7 * i) = 0) (h2 : ¬ g (18 + 4 * p + i) ≤ 0) : CoW (rSell g p i 1) mm := by
  obtain ⟨⟨s, s1, s2, s3⟩, -, -, ho⟩ := hw i hi
  have ho1 : g (34 + 7 * i) = 1 := by
    rcases ho with ⟨a, -⟩ | ⟨a, -⟩
    · exact a
    · exact absurd a h1
  have hs := sh_lt s2 p (by omega)
  refine rSell_co (a := s p) (k := 1) hm hp hi hw ho1 (s1 p (by omega)) (by omega) ?_
  rw [s1 p (by omega), show (0 : Int32) = Int32.ofNat 0 from rfl, i32_le_b (by omega) (by omega)] at h2
  omega
theorem hold_rest {mm p : Nat} {due : Int32} (hm : mm ≤ 4) (hp : p < mm) : ∀ (j : Nat) (g : Row), CoW g mm → HoldA g mm → HoldA (rRest p due j g) mm
  | 0, _, _, h => h
  | j + 1, g, hw, h => by
    unfold rRest
    by_cases c1 : due ≤ g (14 + p)
    · rw [if_pos c1]; exact h
    · rw [if_neg c1]
      by_cases c2 : chp g p = -1
      · rw [if_pos c2]; exact h
      · rw [if_neg c2]
        rcases chp_spec (g := g) (p := p) with q | ⟨i, hi, q, q1, q2⟩
        · exact absurd q c2
        · rw [q, nn_of (by omega)]
          have hw2 := sell1 hm hp hi hw q1 q2
          exact hold_rest hm hp j _ hw2 (hold_sell hm hp hi h hw hw2)
theorem hold_upk2 {g : Row} {mm c : Nat} {due : Int32} (hm : mm ≤ 4) (hc : c < 4) (hw : CoW g mm) (h : HoldA g mm) : HoldA (upk2 g c due) mm := by
  unfold upk2
  by_cases c1 : due ≤ 0
  · rw [if_pos c1]; exact h
  · rw [if_neg c1]
    by_cases c2 : g (39 + 7 * c) = -1
    · rw [if_pos c2]; exact hold_shut hm hc h
    · rw [if_neg c2]
      rcases (hw c hc).2.1 with q | ⟨i, hi, q⟩
      · exact absurd q c2
      · rw [q, nn_of (by omega)]
        have h2 := hold_rest (due := due) hm hi 40 g hw h
        unfold upk4
        split
        · exact hold_rPay hm (by omega) h2
        · exact hold_shut hm hc (hold_rPay hm (by omega) h2)
/-! the money -/
def led (g : Row) (mm : Nat) : Int32 := g 6 + (g 14 + g 15 + (if 2 < mm then g 16 else 0) + (if 3 < mm then g 17 else 0)) + (g 36 + g 43 + g 50 + g 57)
def LedOk (g : Row) (mm : Nat) : Prop := led g mm = Int32.ofNat (500 * mm)
theorem led_congr {g g' : Row} {mm : Nat} (h : ∀ i, i = 6 ∨ (14 ≤ i ∧ i < 18) ∨ (36 ≤ i ∧ i < 58 ∧ (i - 36) % 7 = 0) → g' i = g i) : led g' mm = led g mm := by
  unfold led
  rw [h 6 (by omega), h 14 (by omega), h 15 (by omega), h 16 (by omega), h 17 (by omega), h 36 (by omega), h 43 (by omega), h 50 (by omega), h 57 (by omega)]
theorem led_pay {g : Row} {mm p : Nat} {x : Int32} (h2 : 2 ≤ mm) (hm : mm ≤ 4) (hp : p < mm) : led (rPay g p x) mm = led g mm := by
  unfold led rPay
  rcases (show mm = 2 ∨ mm = 3 ∨ mm = 4 by omega) with rfl | rfl | rfl <;> rcases (show p = 0 ∨ p = 1 ∨ p = 2 ∨ p = 3 by omega) with rfl | rfl | rfl | rfl <;> first | omega | (simp [upd]; grind)
theorem led_cpay {g : Row} {mm c : Nat} {x : Int32} (hc : c < 4) : led (rCPay g c x) mm = led g mm := by
  unfold led rCPay
  rcases (show c = 0 ∨ c = 1 ∨ c = 2 ∨ c = 3 by omega) with rfl | rfl | rfl | rfl <;> simp [upd] <;> grind
theorem led_cash {g : Row} {mm c : Nat} {v : Int32} (hc : c < 4) : led (upd g (36 + 7 * c) v) mm = led g mm + (v - g (36 + 7 * c)) := by
  unfold led
  rcases (show c = 0 ∨ c = 1 ∨ c = 2 ∨ c = 3 by omega) with rfl | rfl | rfl | rfl <;> simp [upd] <;> grind
theorem led_bank {g : Row} {mm : Nat} {v : Int32} : led (upd g 6 v) mm = led g mm + (v - g 6) := by
  unfold led
  simp [upd]
  grind
