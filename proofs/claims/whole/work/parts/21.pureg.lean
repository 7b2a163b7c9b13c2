theorem rEnd_ne {g : Row} {i : Nat} (h1 : i ≠ 1) (h2 : i ≠ 2) : rEnd g i = g i := by
  unfold rEnd
  rw [upd_ne h1, upd_ne h2]
theorem BaseW_end {g : Row} {mm : Nat} (hb : BaseW g mm) : BaseW (rEnd g) mm := by
  obtain ⟨b1, b2, b3, ⟨t, ht, e1⟩, b5, b6, b7⟩ := hb
  refine ⟨b1, b2, by rw [rEnd_ne (by omega) (by omega), b3], ?_, by rw [rEnd_ne (by omega) (by omega)]; exact b5, by rw [rEnd_ne (by omega) (by omega)]; exact b6, fun _ => ⟨0, by omega, ?_⟩⟩
  · unfold rEnd nextT
    rw [upd_eq, b3, e1, i32_succ]
    split
    · exact ⟨0, by omega, rfl⟩
    · rename_i q
      rw [i32_le_of (by omega) (by omega)] at q
      exact ⟨t + 1, by omega, rfl⟩
  · unfold rEnd
    rw [upd_ne (by omega), upd_eq]
    rfl
theorem mon_cash {g g' : Row} {mm B B' : Nat} (h : MonW g mm B) (hB : B ≤ B') (h2 : ∀ c, c < 4 → g' (36 + 7 * c) = g (36 + 7 * c)) (h1 : ∀ p, p < mm → ∃ x, x ≤ 500 + 4000 * B' ∧ g' (14 + p) = Int32.ofNat x) : MonW g' mm B' := by
  obtain ⟨_, y, hy, hs⟩ := h
  exact ⟨h1, y, fun c hc => by rw [h2 c hc, hy c hc], by omega⟩
theorem mon_mono {g : Row} {mm B B' : Nat} (h : MonW g mm B) (hB : B ≤ B') : MonW g mm B' := by
  refine mon_cash h hB (fun _ _ => rfl) fun p hp => ?_
  obtain ⟨x, hx, e⟩ := h.1 p hp
  exact ⟨x, by omega, e⟩
theorem mon_one {g g' : Row} {mm B B' t x' : Nat} (h : MonW g mm B) (hB : B ≤ B') (h2 : ∀ c, c < 4 → g' (36 + 7 * c) = g (36 + 7 * c)) (h3 : ∀ p, p < mm → p ≠ t → g' (14 + p) = g (14 + p)) (h4 : g' (14 + t) = Int32.ofNat x') (h5 : x' ≤ 500 + 4000 * B') : MonW g' mm B' := by
  refine mon_cash h hB h2 fun p hp => ?_
  by_cases e : p = t
  · exact ⟨x', h5, by rw [e, h4]⟩
  · obtain ⟨x, hx, ex⟩ := h.1 p hp
    exact ⟨x, by omega, by rw [h3 p hp e, ex]⟩
theorem mon_co {g g' : Row} {mm B c v : Nat} {y : Nat → Nat} (hc : c < 4) (h : ∀ p, p < mm → ∃ x, x ≤ 500 + 4000 * B ∧ g' (14 + p) = Int32.ofNat x) (hy : ∀ d, d < 4 → g (36 + 7 * d) = Int32.ofNat (y d)) (h2 : ∀ d, d < 4 → d ≠ c → g' (36 + 7 * d) = g (36 + 7 * d)) (h4 : g' (36 + 7 * c) = Int32.ofNat v) (h5 : y 0 + y 1 + y 2 + y 3 + v ≤ 4000 * B + y c) : MonW g' mm B := by
  refine ⟨h, fun d => if d = c then v else y d, fun d hd => ?_, ?_⟩
  · show g' (36 + 7 * d) = Int32.ofNat (if d = c then v else y d)
    by_cases e : d = c
    · rw [e, if_pos rfl, h4]
    · rw [if_neg e, h2 d hd e, hy d hd]
  · have := sum4_upd (s := y) (p := c) (v := v) hc
    show (if 0 = c then v else y 0) + (if 1 = c then v else y 1) + (if 2 = c then v else y 2) + (if 3 = c then v else y 3) ≤ 4000 * B
    omega
def buyC (g : Row) (t c : Nat) : Row := rPres (upd (rPay g t (20 + 10 * g (37 + 7 * c))) (18 + 4 * t + c) (g (18 + 4 * t + c) + 1)) c
theorem rBuy_eq {g : Row} {t c : Nat} (h1 : g 1 = Int32.ofNat t) (ht : t < 4) : rBuy g c = rEnd (buyC g t c) := by
  unfold rBuy buyC
  rw [h1, nn_of (by omega)]
theorem buyC_ne {g : Row} {t c i : Nat} (h1 : i ≠ 14 + t) (h2 : i ≠ 6) (h3 : i ≠ 18 + 4 * t + c) (h5 : i ≠ 39 + 7 * c) : buyC g t c i = g i := by
  unfold buyC
  rw [rPres_ne h5, upd_ne h3, rPay_ne h1 h2]
theorem buy_co {g : Row} {mm t c : Nat} {s : Nat → Nat} (hm : mm ≤ 4) (ht : t < mm) (hc : c < 4) (hw : CoW g mm) (ho : g (34 + 7 * c) = 1) (h1 : ∀ p, p < 4 → g (18 + 4 * p + c) = Int32.ofNat (s p)) (h2 : s 0 + s 1 + s 2 + s 3 + 1 ≤ 10) (h3 : ∀ p, mm ≤ p → p < 4 → s p = 0) : CoW (buyC g t c) mm := by
  intro d hd
  by_cases e : d = c
  · subst e
    have h0 := hw d hd
    have s1 : ShOk (upd (rPay g t (20 + 10 * g (37 + 7 * d))) (18 + 4 * t + d) (g (18 + 4 * t + d) + 1)) mm d := by
      rw [h1 t (by omega), i32_succ]
      exact ShOk_inc (s := s) ht hm (fun p hp => by rw [rPay_ne (by omega) (by omega), h1 p hp]) (by omega) h3
    have p1 : PrOk (upd (rPay g t (20 + 10 * g (37 + 7 * d))) (18 + 4 * t + d) (g (18 + 4 * t + d) + 1)) mm d := PrOk_congr (by rw [upd_ne (by omega), rPay_ne (by omega) (by omega)]) h0.2.1
    refine ⟨?_, ?_, StOk_congr (buyC_ne (by omega) (by omega) (by omega) (by omega)) h0.2.2.1, OpOk_open ho (buyC_ne (by omega) (by omega) (by omega) (by omega)) (buyC_ne (by omega) (by omega) (by omega) (by omega)) (buyC_ne (by omega) (by omega) (by omega) (by omega)) h0.2.2.2⟩
    · unfold buyC
      exact ShOk_congr (fun q hq => rPres_ne (by omega)) s1
    · unfold buyC
      exact pres_mm hm s1 p1
  · exact Co1_congr (fun q hq => buyC_ne (by omega) (by omega) (by omega) (by omega)) (fun k h1 h2 => buyC_ne (by omega) (by omega) (by omega) (by omega)) (hw d hd)
theorem end_wf {g : Row} {mm : Nat} (h : WF g mm) : WF (rEnd g) mm := ⟨BaseW_end h.1, OrdW_congr (fun k hk => rEnd_ne (by omega) (by omega)) (fun c hc => rEnd_ne (by omega) (by omega)) h.2.1, fun c hc => Co1_congr (fun p hp => rEnd_ne (by omega) (by omega)) (fun k h1 h2 => rEnd_ne (by omega) (by omega)) (h.2.2.1 c hc), LandW_congr (fun k hk => rEnd_ne (by omega) (by omega)) h.2.2.2⟩
theorem end_mon {g : Row} {mm B : Nat} (hm : mm ≤ 4) (h : MonW g mm B) : MonW (rEnd g) mm B := mon_cash h (Nat.le_refl B) (fun c hc => rEnd_ne (by omega) (by omega)) fun p hp => by rw [rEnd_ne (by omega) (by omega)]; exact h.1 p hp
theorem buy_wf {g : Row} {mm t c B : Nat} {s : Nat → Nat} (h : WF g mm) (hM : MonW g mm B) (hB : B ≤ 100000) (e1 : g 1 = Int32.ofNat t) (ht : t < mm) (hc : c < 4) (ho : g (34 + 7 * c) = 1) (h1 : ∀ p, p < 4 → g (18 + 4 * p + c) = Int32.ofNat (s p)) (h2 : s 0 + s 1 + s 2 + s 3 + 1 ≤ 10) (h3 : ∀ p, mm ≤ p → p < 4 → s p = 0) (hpr : ¬ g (14 + t) < 20 + 10 * g (37 + 7 * c)) : WF (rBuy g c) mm ∧ MonW (rBuy g c) mm B := by
  obtain ⟨hb, ho', hw, hl⟩ := h
  have hm := hb.2.1
  rw [rBuy_eq e1 (by omega)]
  refine ⟨end_wf ⟨BaseW_congr (fun k hk => buyC_ne (by omega) (by omega) (by omega) (by omega)) hb, OrdW_congr (fun k hk => buyC_ne (by omega) (by omega) (by omega) (by omega)) (fun d hd => buyC_ne (by omega) (by omega) (by omega) (by omega)) ho', buy_co hm ht hc hw ho h1 h2 h3, LandW_congr (fun k hk => buyC_ne (by omega) (by omega) (by omega) (by omega)) hl⟩, end_mon hm ?_⟩
  obtain ⟨st, hst, est⟩ := (hw c hc).2.2.1
  obtain ⟨x, hx, ex⟩ := hM.1 t ht
  rw [ex, est, price_n, i32_lt_b (by omega) (by omega)] at hpr
  refine mon_one (t := t) (x' := x - (20 + 10 * st)) hM (Nat.le_refl B) (fun d hd => buyC_ne (by omega) (by omega) (by omega) (by omega)) (fun p hp e => buyC_ne (by omega) (by omega) (by omega) (by omega)) ?_ (by omega)
  unfold buyC
  rw [rPres_ne (by omega), upd_ne (by omega)]
  unfold rPay
  rw [upd_ne (by omega), upd_eq, ex, est, price_n, i32_subm (by omega)]
theorem sell_wf {g : Row} {mm t c k a B : Nat} (h : WF g mm) (hM : MonW g mm B) (hB : B ≤ 100000) (ht : t < mm) (hc : c < 4) (ho : g (34 + 7 * c) = 1) (ha : g (18 + 4 * t + c) = Int32.ofNat a) (ha2 : a < 600) (hk : k ≤ a) (hk10 : k ≤ 10) : WF (rSell g t c (Int32.ofNat k)) mm ∧ MonW (rSell g t c (Int32.ofNat k)) mm (B + 1) := by
  obtain ⟨hb, ho', hw, hl⟩ := h
  have hm := hb.2.1
  refine ⟨⟨BaseW_congr (fun k hk => rSell_ne (by omega) (by omega) (by omega) (by omega) (by omega)) hb, OrdW_congr (fun k hk => rSell_ne (by omega) (by omega) (by omega) (by omega) (by omega)) (fun d hd => rSell_ne (by omega) (by omega) (by omega) (by omega) (by omega)) ho', rSell_co hm ht hc hw ho ha ha2 hk, LandW_congr (fun k hk => rSell_ne (by omega) (by omega) (by omega) (by omega) (by omega)) hl⟩, ?_⟩
  obtain ⟨st, hst, est⟩ := (hw c hc).2.2.1
  obtain ⟨x, hx, ex⟩ := hM.1 t ht
  have e := sell_cash (k := k) (show t < 4 by omega) ex est
  have : k * (20 + 10 * st) ≤ 10 * 130 := Nat.mul_le_mul hk10 (by omega)
  exact mon_one (t := t) hM (by omega) (fun d hd => rSell_ne (by omega) (by omega) (by omega) (by omega) (by omega)) (fun p hp e => rSell_ne (by omega) (by omega) (by omega) (by omega) (by omega)) e (by omega)
def startC (g : Row) (t c : Nat) (x y : Int32) : Row := rPres (upd (rPay (rOpen g c x y) t (2 * (20 + 10 * y))) (18 + 4 * t + c) 2) c
def startD (g : Row) (t c : Nat) (x y : Int32) : Row := upd (upd (startC g t c x y) (36 + 7 * c) (5 * (20 + 10 * y))) 6 (startC g t c x y 6 - 5 * (20 + 10 * y))
theorem rStart_eq {g : Row} {t c : Nat} {x y : Int32} (h1 : g 1 = Int32.ofNat t) (ht : t < 4) : rStart g c x y = rEnd (startD g t c x y) := by
  unfold rStart startD startC
  rw [h1, nn_of (by omega)]
theorem startC_ne {g : Row} {t c i : Nat} {x y : Int32} (h1 : i ≠ 14 + t) (h2 : i ≠ 6) (h3 : i ≠ 18 + 4 * t + c) (h4 : i ≠ 34 + 7 * c) (h5 : i ≠ 35 + 7 * c) (h6 : i ≠ 37 + 7 * c) (h7 : i ≠ 38 + 7 * c) (h8 : i ≠ 39 + 7 * c) : startC g t c x y i = g i := by
  unfold startC
  rw [rPres_ne h8, upd_ne h3, rPay_ne h1 h2, rOpen_ne h4 h5 h6 h7]
theorem startD_ne {g : Row} {t c i : Nat} {x y : Int32} (h1 : i ≠ 14 + t) (h2 : i ≠ 6) (h3 : i ≠ 18 + 4 * t + c) (h4 : ¬ (34 ≤ i - 7 * c ∧ i - 7 * c < 40)) : startD g t c x y i = g i := by
  unfold startD
  rw [upd_ne h2, upd_ne (by omega), startC_ne h1 h2 h3 (by omega) (by omega) (by omega) (by omega) (by omega)]
theorem rOpen_at {g : Row} {c : Nat} {x y : Int32} : rOpen g c x y (34 + 7 * c) = 1 ∧ rOpen g c x y (35 + 7 * c) = x ∧ rOpen g c x y (37 + 7 * c) = y ∧ rOpen g c x y (38 + 7 * c) = 2 := by
  unfold rOpen
  exact ⟨by rw [upd_ne (by omega), upd_ne (by omega), upd_ne (by omega), upd_eq], by rw [upd_ne (by omega), upd_ne (by omega), upd_eq], by rw [upd_ne (by omega), upd_eq], upd_eq⟩
theorem start_co {g : Row} {mm t c home st : Nat} (hm : mm ≤ 4) (ht : t < mm) (hc : c < 4) (hw : CoW g mm) (ho : g (34 + 7 * c) = 0) (hh : home < 8) (hs : st ≤ 11) : CoW (startD g t c (Int32.ofNat home) (Int32.ofNat st)) mm := by
  intro d hd
  by_cases e : d = c
  · subst e
    have h0 := hw d hd
    have hz : ∀ p, p < 4 → g (18 + 4 * p + d) = Int32.ofNat 0 := by
      rcases h0.2.2.2 with ⟨q, _⟩ | ⟨_, _, _, q⟩
      · rw [ho] at q
        exact absurd q (by decide)
      · exact q
    have hat := rOpen_at (g := g) (c := d) (x := Int32.ofNat home) (y := Int32.ofNat st)
    have s1 : ShOk (upd (rPay (rOpen g d (Int32.ofNat home) (Int32.ofNat st)) t (2 * (20 + 10 * Int32.ofNat st))) (18 + 4 * t + d) 2) mm d := ShOk_inc (s := fun _ => 0) (v := 2) ht hm (fun p hp => by rw [rPay_ne (by omega) (by omega), rOpen_ne (by omega) (by omega) (by omega) (by omega), hz p hp]) (by omega) (fun _ _ _ => rfl)
    have p1 : PrOk (upd (rPay (rOpen g d (Int32.ofNat home) (Int32.ofNat st)) t (2 * (20 + 10 * Int32.ofNat st))) (18 + 4 * t + d) 2) mm d := PrOk_congr (by rw [upd_ne (by omega), rPay_ne (by omega) (by omega), rOpen_ne (by omega) (by omega) (by omega) (by omega)]) h0.2.1
    have eC : ∀ i, i ≠ 36 + 7 * d → i ≠ 6 → startD g t d (Int32.ofNat home) (Int32.ofNat st) i = startC g t d (Int32.ofNat home) (Int32.ofNat st) i := fun i h1 h2 => by
      unfold startD
      rw [upd_ne h2, upd_ne h1]
    have eO : ∀ i, i ≠ 14 + t → i ≠ 6 → i ≠ 18 + 4 * t + d → i ≠ 39 + 7 * d → startC g t d (Int32.ofNat home) (Int32.ofNat st) i = rOpen g d (Int32.ofNat home) (Int32.ofNat st) i := fun i h1 h2 h3 h4 => by
      unfold startC
      rw [rPres_ne h4, upd_ne h3, rPay_ne h1 h2]
    refine ⟨ShOk_congr (fun p hp => eC _ (by omega) (by omega)) ?_, PrOk_congr (eC _ (by omega) (by omega)) ?_, ⟨st, hs, ?_⟩, Or.inl ⟨?_, home, 2, ⟨?_, ?_, hh, by omega, by omega⟩, Nat.le_refl 2⟩⟩
    · unfold startC
      exact ShOk_congr (fun q hq => rPres_ne (by omega)) s1
    · unfold startC
      exact pres_mm hm s1 p1
    · rw [eC _ (by omega) (by omega), eO _ (by omega) (by omega) (by omega) (by omega), hat.2.2.1]
    · rw [eC _ (by omega) (by omega), eO _ (by omega) (by omega) (by omega) (by omega), hat.1]
    · rw [eC _ (by omega) (by omega), eO _ (by omega) (by omega) (by omega) (by omega), hat.2.1]
    · rw [eC _ (by omega) (by omega), eO _ (by omega) (by omega) (by omega) (by omega), hat.2.2.2]
      rfl
  · exact Co1_congr (fun q hq => startD_ne (by omega) (by omega) (by omega) (by omega)) (fun k h1 h2 => startD_ne (by omega) (by omega) (by omega) (by omega)) (hw d hd)
theorem ord_open {g g' : Row} {c : Nat} (h3 : g 3 = 0) (h : ∀ k, k = 3 ∨ k = 4 ∨ (9 ≤ k ∧ k < 14) → g' k = g k) (hb : OrdW g) : OrdW g' := by
  obtain ⟨len, pl, o, h4, hpl, e9, e4, ho, hop⟩ := hb
  refine ⟨len, pl, o, h4, hpl, by rw [h 9 (by omega), e9], by rw [h 4 (by omega), e4], fun j hj => ⟨(ho j hj).1, by rw [h _ (by omega), (ho j hj).2]⟩, fun q => ?_⟩
  rw [h 3 (by omega), h3] at q
  exact absurd q (by decide)
theorem start_wf {g : Row} {mm t c home st B : Nat} (h : WF g mm) (hM : MonW g mm B) (hB : B ≤ 100000) (h3 : g 3 = 0) (e1 : g 1 = Int32.ofNat t) (ht : t < mm) (hc : c < 4) (ho : g (34 + 7 * c) = 0) (hh : home < 8) (hs : st ≤ 8) (hpr : ¬ g (14 + t) < 2 * (20 + 10 * Int32.ofNat st)) : WF (rStart g c (Int32.ofNat home) (Int32.ofNat st)) mm ∧ MonW (rStart g c (Int32.ofNat home) (Int32.ofNat st)) mm (B + 1) := by
  obtain ⟨hb, ho', hw, hl⟩ := h
  have hm := hb.2.1
  rw [rStart_eq e1 (by omega)]
  refine ⟨end_wf ⟨BaseW_congr (fun k hk => startD_ne (by omega) (by omega) (by omega) (by omega)) hb, ord_open (c := c) h3 (fun k hk => startD_ne (by omega) (by omega) (by omega) (by omega)) ho', start_co hm ht hc hw ho hh (by omega), LandW_congr (fun k hk => startD_ne (by omega) (by omega) (by omega) (by omega)) hl⟩, end_mon hm ?_⟩
  obtain ⟨x, hx, ex⟩ := hM.1 t ht
  have p2 : (2 : Int32) * (20 + 10 * Int32.ofNat st) = Int32.ofNat (2 * (20 + 10 * st)) := by rw [price_n, show (2 : Int32) = Int32.ofNat 2 from rfl, i32_mulm]
  have p5 : (5 : Int32) * (20 + 10 * Int32.ofNat st) = Int32.ofNat (5 * (20 + 10 * st)) := by rw [price_n, show (5 : Int32) = Int32.ofNat 5 from rfl, i32_mulm]
  rw [ex, p2, i32_lt_b (by omega) (by omega)] at hpr
  obtain ⟨y, hy, hsum⟩ := (mon_mono hM (Nat.le_succ B)).2
  have hy4 : y 0 + y 1 + y 2 + y 3 ≤ 4000 * B := by
    obtain ⟨y', hy', hs'⟩ := hM.2
    have e : ∀ d, d < 4 → y d = y' d := fun d hd => by
      have e := hy d hd
      rw [hy' d hd] at e
      have h0 : y' d ≤ 4000 * B := by
        obtain rfl | rfl | rfl | rfl : d = 0 ∨ d = 1 ∨ d = 2 ∨ d = 3 := by omega
        all_goals omega
      have h1 : y d ≤ 4000 * (B + 1) := by
        obtain rfl | rfl | rfl | rfl : d = 0 ∨ d = 1 ∨ d = 2 ∨ d = 3 := by omega
        all_goals omega
      exact (ofNat_inj (by omega) (by omega) e).symm
    have := e 0 (by omega); have := e 1 (by omega); have := e 2 (by omega); have := e 3 (by omega)
    omega
  refine mon_co (c := c) (v := 5 * (20 + 10 * st)) (y := y) hc (fun p hp => ?_) hy (fun d hd e => startD_ne (by omega) (by omega) (by omega) (by omega)) ?_ (by omega)
  · by_cases e : p = t
    · refine ⟨x - 2 * (20 + 10 * st), by omega, ?_⟩
      subst e
      unfold startD startC
      rw [upd_ne (by omega), upd_ne (by omega), rPres_ne (by omega), upd_ne (by omega)]
      unfold rPay
      rw [upd_ne (by omega), upd_eq, rOpen_ne (by omega) (by omega) (by omega) (by omega), ex, p2, i32_subm (by omega)]
    · obtain ⟨x', hx', ex'⟩ := hM.1 p hp
      exact ⟨x', by omega, by rw [startD_ne (by omega) (by omega) (by omega) (by omega), ex']⟩
  · unfold startD
    rw [upd_ne (by omega), upd_eq, p5]
def extC (g : Row) (c : Nat) : Row := upd (upd (rCPay g c 60) (38 + 7 * c) (g (38 + 7 * c) + 1)) 8 1
theorem rExtend_eq {g : Row} {c : Nat} (h : nextC g = Int32.ofNat c) (hc : c < 4) : rExtend g = extC g c := by
  unfold rExtend extC
  rw [h, nn_of (by omega)]
theorem extC_ne {g : Row} {c i : Nat} (h1 : i ≠ 36 + 7 * c) (h2 : i ≠ 6) (h3 : i ≠ 38 + 7 * c) (h4 : i ≠ 8) : extC g c i = g i := by
  unfold extC
  rw [upd_ne h4, upd_ne h3, rCPay_ne h1 h2]
theorem ext_wf {g : Row} {mm c home S B : Nat} (h : WF g mm) (hM : MonW g mm B) (hB : B ≤ 100000) (hc : c < 4) (ho : g (34 + 7 * c) = 1) (hco : CoOk g c home S) (hS2 : 2 ≤ S) (hS : S < 5) (hm60 : ¬ g (36 + 7 * c) < 60) : WF (extC g c) mm ∧ MonW (extC g c) mm B := by
  obtain ⟨hb, ho', hw, hl⟩ := h
  have e38 : extC g c (38 + 7 * c) = Int32.ofNat (S + 1) := by
    unfold extC
    rw [upd_ne (by omega), upd_eq, hco.2.1, i32_succ]
  refine ⟨⟨?_, OrdW_congr (fun k hk => extC_ne (by omega) (by omega) (by omega) (by omega)) (fun d hd => extC_ne (by omega) (by omega) (by omega) (by omega)) ho', fun d hd => ?_, LandW_congr (fun k hk => extC_ne (by omega) (by omega) (by omega) (by omega)) hl⟩, ?_⟩
  · obtain ⟨b1, b2, b3, ⟨t, ht, e1⟩, b5, b6, b7⟩ := hb
    refine ⟨b1, b2, by rw [extC_ne (by omega) (by omega) (by omega) (by omega), b3], ⟨t, ht, by rw [extC_ne (by omega) (by omega) (by omega) (by omega), e1]⟩, by rw [extC_ne (by omega) (by omega) (by omega) (by omega)]; exact b5, Or.inr upd_eq, fun q => ?_⟩
    rw [extC_ne (by omega) (by omega) (by omega) (by omega)] at q
    rw [extC_ne (by omega) (by omega) (by omega) (by omega)]
    exact b7 q
  · by_cases e : d = c
    · subst e
      have h0 := hw d hd
      exact ⟨ShOk_congr (fun q hq => extC_ne (by omega) (by omega) (by omega) (by omega)) h0.1, PrOk_congr (extC_ne (by omega) (by omega) (by omega) (by omega)) h0.2.1, StOk_congr (extC_ne (by omega) (by omega) (by omega) (by omega)) h0.2.2.1, Or.inl ⟨by rw [extC_ne (by omega) (by omega) (by omega) (by omega), ho], home, S + 1, ⟨by rw [extC_ne (by omega) (by omega) (by omega) (by omega), hco.1], e38, hco.2.2.1, by omega, by omega⟩, by omega⟩⟩
    · exact Co1_congr (fun q hq => extC_ne (by omega) (by omega) (by omega) (by omega)) (fun k h1 h2 => extC_ne (by omega) (by omega) (by omega) (by omega)) (hw d hd)
  · obtain ⟨y, hy, hs⟩ := hM.2
    have hyc : y c ≤ 4000 * B := by
      obtain rfl | rfl | rfl | rfl : c = 0 ∨ c = 1 ∨ c = 2 ∨ c = 3 := by omega
      all_goals omega
    rw [hy c hc, show (60 : Int32) = Int32.ofNat 60 from rfl, i32_lt_b (by omega) (by omega)] at hm60
    refine mon_co (c := c) (v := y c - 60) (y := y) hc (fun p hp => by
      rw [extC_ne (by have := hb.2.1; omega) (by omega) (by have := hb.2.1; omega) (by omega)]
      exact hM.1 p hp) hy (fun d hd e => extC_ne (by omega) (by omega) (by omega) (by omega)) ?_ (by omega)
    unfold extC rCPay
    rw [upd_ne (by omega), upd_ne (by omega), upd_ne (by omega), upd_eq, hy c hc, show (60 : Int32) = Int32.ofNat 60 from rfl, i32_subm (by omega)]
def mergeA (g : Row) (mm x y : Nat) : Row := zseq (mstep x y ((20 + 10 * g (37 + 7 * y)) / 2)) g mm
def mergeC (g : Row) (mm x y : Nat) : Row := rPres (rClose (upd (mergeA g mm x y) (36 + 7 * x) (mergeA g mm x y (36 + 7 * x) + mergeA g mm x y (36 + 7 * y))) y) x
theorem rMerge_eq {g : Row} {mm x y : Nat} : rMerge g mm x y = rEnd (mergeC g mm x y) := rfl
theorem half_n : ∀ s, s ≤ 11 → (20 + 10 * Int32.ofNat s) / 2 = Int32.ofNat (10 + 5 * s) := by decide
theorem zrem_2 : ∀ a, a ≤ 10 → zrem (Int32.ofNat a) 2 = Int32.ofNat (a % 2) ∧ Int32.ofNat a / 2 = Int32.ofNat (a / 2) := by decide
theorem mergeA_spec {g : Row} {mm x y st : Nat} {sx sy cash : Nat → Nat} (hm : mm ≤ 4) (hx : x < 4) (hy : y < 4) (hxy : x ≠ y) (h1 : ∀ p, p < 4 → g (18 + 4 * p + x) = Int32.ofNat (sx p)) (h2 : ∀ p, p < 4 → g (18 + 4 * p + y) = Int32.ofNat (sy p) ∧ sy p ≤ 10) (h3 : ∀ p, p < mm → g (14 + p) = Int32.ofNat (cash p)) (h4 : g (37 + 7 * y) = Int32.ofNat st) (h5 : st ≤ 11) : (∀ p, p < mm → mergeA g mm x y (18 + 4 * p + x) = Int32.ofNat (sx p + sy p / 2) ∧ mergeA g mm x y (14 + p) = Int32.ofNat (cash p + sy p % 2 * (10 + 5 * st))) ∧ ∀ i, i ≠ 6 → (∀ p, p < mm → i ≠ 18 + 4 * p + x ∧ i ≠ 14 + p) → mergeA g mm x y i = g i := by
  unfold mergeA
  rw [h4, half_n st h5]
  have key := zseq_ok (N := mm) (P := fun k (r : Row) => (∀ p, p < k → r (18 + 4 * p + x) = Int32.ofNat (sx p + sy p / 2) ∧ r (14 + p) = Int32.ofNat (cash p + sy p % 2 * (10 + 5 * st))) ∧ ∀ i, i ≠ 6 → (∀ p, p < k → i ≠ 18 + 4 * p + x ∧ i ≠ 14 + p) → r i = g i) (step := mstep x y (Int32.ofNat (10 + 5 * st))) (s := g) ⟨fun p hp => by omega, fun _ _ _ => rfl⟩ (fun k r hk hr => by
    obtain ⟨r1, r2⟩ := hr
    have ex : r (18 + 4 * k + x) = Int32.ofNat (sx k) := by rw [r2 _ (by omega) (fun p hp => by omega), h1 k (by omega)]
    have ey : r (18 + 4 * k + y) = Int32.ofNat (sy k) := by rw [r2 _ (by omega) (fun p hp => by omega), (h2 k (by omega)).1]
    have ec : r (14 + k) = Int32.ofNat (cash k) := by rw [r2 _ (by omega) (fun p hp => by omega), h3 k hk]
    have z := zrem_2 (sy k) (h2 k (by omega)).2
    have hne : ∀ i, i ≠ 6 → i ≠ 18 + 4 * k + x → i ≠ 14 + k → mstep x y (Int32.ofNat (10 + 5 * st)) k r i = r i := fun i a b c => by
      unfold mstep
      rw [rPay_ne c a, upd_ne b]
    refine ⟨fun p hp => ?_, fun i a b => ?_⟩
    · by_cases e : p = k
      · subst e
        constructor
        · unfold mstep
          rw [rPay_ne (by omega) (by omega), upd_eq, ex, ey, z.2, i32_addn]
        · unfold mstep rPay
          rw [upd_ne (by omega), upd_eq, upd_ne (by omega), ec, ey, z.1, Int32.neg_mul, Int32.sub_neg, i32_mulm, i32_addn]
      · rw [hne _ (by omega) (by omega) (by omega), hne _ (by omega) (by omega) (by omega)]
        exact r1 p (by omega)
    · rw [hne i a (b k (by omega)).1 (b k (by omega)).2]
      exact r2 i a fun p hp => b p (by omega)) mm (Nat.le_refl mm)
  exact key
theorem rClose_at {g : Row} {c : Nat} (hc : c < 4) : rClose g c (34 + 7 * c) = 0 ∧ rClose g c (36 + 7 * c) = 0 ∧ rClose g c (37 + 7 * c) = 0 ∧ rClose g c (39 + 7 * c) = -1 ∧ ∀ p, p < 4 → rClose g c (18 + 4 * p + c) = 0 := by
  unfold rClose
  refine ⟨?_, ?_, ?_, ?_, fun p hp => ?_⟩
  · rw [upd_ne (by omega), upd_ne (by omega), upd_ne (by omega), upd_ne (by omega), upd_ne (by omega), upd_ne (by omega), upd_eq]
  · rw [upd_ne (by omega), upd_ne (by omega), upd_ne (by omega), upd_ne (by omega), upd_eq]
  · rw [upd_ne (by omega), upd_ne (by omega), upd_ne (by omega), upd_eq]
  · rw [upd_ne (by omega), upd_eq]
  · rw [upd_ne (by omega), upd_ne (by omega), upd_ne (by omega), upd_ne (by omega), upd_ne (by omega), upd_ne (by omega), upd_ne (by omega), rFill_at ⟨p, hp, rfl⟩]
theorem closed_co {g' : Row} {mm c : Nat} (h : g' (34 + 7 * c) = 0 ∧ g' (37 + 7 * c) = 0 ∧ g' (39 + 7 * c) = -1 ∧ ∀ p, p < 4 → g' (18 + 4 * p + c) = 0) : ShOk g' mm c ∧ PrOk g' mm c ∧ StOk g' c ∧ OpOk g' c :=
  ⟨⟨fun _ => 0, fun p hp => h.2.2.2 p hp, Nat.zero_le 10, fun _ _ _ => rfl⟩, Or.inl h.2.2.1, ⟨0, by omega, h.2.1⟩, Or.inr h⟩
theorem merge_wf {g : Row} {mm x y B : Nat} (h : WF g mm) (hM : MonW g mm B) (hB : B ≤ 100000) (h3 : g 3 = 0) (hx : x < 4) (hy : y < 4) (hxy : x ≠ y) (ox : g (34 + 7 * x) = 1) (hbk : ¬ bank (fun p => g (18 + 4 * p + x)) < exch (fun p => g (18 + 4 * p + y))) : WF (rMerge g mm x y) mm ∧ MonW (rMerge g mm x y) mm (B + 1) := by
  obtain ⟨hb, ho', hw, hl⟩ := h
  have hm := hb.2.1
  obtain ⟨sx, sx1, sx2, sx3⟩ := (hw x hx).1
  obtain ⟨sy, sy1, sy2, sy3⟩ := (hw y hy).1
  obtain ⟨st, st1, st2⟩ := (hw y hy).2.2.1
  have hcash : ∃ cash : Nat → Nat, ∀ p, p < mm → g (14 + p) = Int32.ofNat (cash p) ∧ cash p ≤ 500 + 4000 * B := by
    have : ∀ p, ∃ x, p < mm → g (14 + p) = Int32.ofNat x ∧ x ≤ 500 + 4000 * B := fun p => by
      by_cases hp : p < mm
      · obtain ⟨x, a, b⟩ := hM.1 p hp
        exact ⟨x, fun _ => ⟨b, a⟩⟩
      · exact ⟨0, fun q => absurd q hp⟩
    exact ⟨fun p => Classical.choose (this p), fun p hp => Classical.choose_spec (this p) hp⟩
  obtain ⟨cash, hcash⟩ := hcash
  obtain ⟨a1, a2⟩ := mergeA_spec (sx := sx) (sy := sy) (cash := cash) hm hx hy hxy sx1 (fun p hp => ⟨sy1 p hp, sh_lt sy2 p hp⟩) (fun p hp => (hcash p hp).1) st2 st1
  have hsum : sx 0 + sx 1 + sx 2 + sx 3 + (sy 0 / 2 + sy 1 / 2 + sy 2 / 2 + sy 3 / 2) ≤ 10 := by
    rw [bank_eq (f := fun p => g (18 + 4 * p + x)) (s := sx) sx1 sx2, exch_eq (f := fun p => g (18 + 4 * p + y)) (s := sy) sy1 (fun p hp => sh_lt sy2 p hp), i32_lt_of (by omega) (by omega)] at hbk
    omega
  have hall : ∀ p, p < 4 → mergeA g mm x y (18 + 4 * p + x) = Int32.ofNat (sx p + sy p / 2) := by
    intro p hp
    by_cases q : p < mm
    · exact (a1 p q).1
    · rw [a2 _ (by omega) (fun r hr => by omega), sx1 p hp, sy3 p (by omega) hp]
      rfl
  have cne : ∀ i, i ≠ 6 → ¬ (14 ≤ i ∧ i < 34) → ¬ (34 + 7 * y ≤ i ∧ i < 41 + 7 * y) → i ≠ 36 + 7 * x → i ≠ 39 + 7 * x → mergeC g mm x y i = g i := fun i h1 h2 h3 h4 h5 => by
    unfold mergeC
    rw [rPres_ne h5, rClose_ne h3 (fun p hp => by omega), upd_ne h4, a2 i h1 (fun p hp => by omega)]
  have csh : ∀ p d, p < 4 → d < 4 → d ≠ x → d ≠ y → mergeC g mm x y (18 + 4 * p + d) = g (18 + 4 * p + d) := fun p d hp hd e1 e2 => by
    unfold mergeC
    rw [rPres_ne (by omega), rClose_ne (by omega) (fun q hq => by omega), upd_ne (by omega), a2 _ (by omega) (fun q hq => by omega)]
  have hcl := rClose_at (g := upd (mergeA g mm x y) (36 + 7 * x) (mergeA g mm x y (36 + 7 * x) + mergeA g mm x y (36 + 7 * y))) hy
  rw [rMerge_eq]
  refine ⟨end_wf ⟨BaseW_congr (fun k hk => cne k (by omega) (by omega) (by omega) (by omega) (by omega)) hb, ord_open (c := 0) h3 (fun k hk => cne k (by omega) (by omega) (by omega) (by omega) (by omega)) ho', fun d hd => ?_, LandW_congr (fun k hk => cne k (by omega) (by omega) (by omega) (by omega) (by omega)) hl⟩, end_mon hm ?_⟩
  · by_cases e1 : d = y
    · subst e1
      have f : ∀ i, i ≠ 39 + 7 * x → mergeC g mm x d i = rClose (upd (mergeA g mm x d) (36 + 7 * x) (mergeA g mm x d (36 + 7 * x) + mergeA g mm x d (36 + 7 * d))) d i := fun i hi => by
        unfold mergeC
        rw [rPres_ne hi]
      exact closed_co ⟨by rw [f _ (by omega), hcl.1], by rw [f _ (by omega), hcl.2.2.1], by rw [f _ (by omega), hcl.2.2.2.1], fun p hp => by rw [f _ (by omega), hcl.2.2.2.2 p hp]⟩
    · by_cases e2 : d = x
      · subst e2
        have h0 := hw d hd
        have s1 : ShOk (rClose (upd (mergeA g mm d y) (36 + 7 * d) (mergeA g mm d y (36 + 7 * d) + mergeA g mm d y (36 + 7 * y))) y) mm d := by
          refine ⟨fun p => sx p + sy p / 2, fun p hp => ?_, (by show sx 0 + sy 0 / 2 + (sx 1 + sy 1 / 2) + (sx 2 + sy 2 / 2) + (sx 3 + sy 3 / 2) ≤ 10; omega), fun p q1 q2 => ?_⟩
          · rw [rClose_ne (by omega) (fun q hq => by omega), upd_ne (by omega), hall p hp]
          · show sx p + sy p / 2 = 0
            rw [sx3 p q1 q2, sy3 p q1 q2]
        have p1 : PrOk (rClose (upd (mergeA g mm d y) (36 + 7 * d) (mergeA g mm d y (36 + 7 * d) + mergeA g mm d y (36 + 7 * y))) y) mm d := PrOk_congr (by rw [rClose_ne (by omega) (fun q hq => by omega), upd_ne (by omega), a2 _ (by omega) (fun q hq => by omega)]) h0.2.1
        refine ⟨?_, ?_, StOk_congr (cne _ (by omega) (by omega) (by omega) (by omega) (by omega)) h0.2.2.1, OpOk_open ox (cne _ (by omega) (by omega) (by omega) (by omega) (by omega)) (cne _ (by omega) (by omega) (by omega) (by omega) (by omega)) (cne _ (by omega) (by omega) (by omega) (by omega) (by omega)) h0.2.2.2⟩
        · unfold mergeC
          exact ShOk_congr (fun q hq => rPres_ne (by omega)) s1
        · unfold mergeC
          exact pres_mm hm s1 p1
      · exact Co1_congr (fun p hp => csh p d hp hd e2 e1) (fun k h1 h2 => cne k (by omega) (by omega) (by omega) (by omega) (by omega)) (hw d hd)
  · obtain ⟨yy, hy1, hy2⟩ := hM.2
    have e36 : mergeC g mm x y (36 + 7 * x) = Int32.ofNat (yy x + yy y) := by
      unfold mergeC
      rw [rPres_ne (by omega), rClose_ne (by omega) (fun q hq => by omega), upd_eq, a2 _ (by omega) (fun q hq => by omega), a2 _ (by omega) (fun q hq => by omega), hy1 x hx, hy1 y hy, i32_addn]
    have e36y : mergeC g mm x y (36 + 7 * y) = Int32.ofNat 0 := by
      unfold mergeC
      rw [rPres_ne (by omega), hcl.2.1]
      rfl
    refine ⟨fun p hp => ⟨cash p + sy p % 2 * (10 + 5 * st), ?_, ?_⟩, fun d => if d = x then yy x + yy y else if d = y then 0 else yy d, fun d hd => ?_, ?_⟩
    · have q1 := (hcash p hp).2
      have q2 : sy p % 2 * (10 + 5 * st) ≤ 1 * 65 := Nat.mul_le_mul (by omega) (by omega)
      omega
    · unfold mergeC
      rw [rPres_ne (by omega), rClose_ne (by omega) (fun q hq => by omega), upd_ne (by omega), (a1 p hp).2]
    · show mergeC g mm x y (36 + 7 * d) = Int32.ofNat (if d = x then yy x + yy y else if d = y then 0 else yy d)
      by_cases q1 : d = x
      · rw [q1, if_pos rfl, e36]
      · rw [if_neg q1]
        by_cases q2 : d = y
        · rw [q2, if_pos rfl, e36y]
        · rw [if_neg q2, cne _ (by omega) (by omega) (by omega) (by omega) (by omega), hy1 d hd]
    · show (if 0 = x then yy x + yy y else if 0 = y then 0 else yy 0) + (if 1 = x then yy x + yy y else if 1 = y then 0 else yy 1) + (if 2 = x then yy x + yy y else if 2 = y then 0 else yy 2) + (if 3 = x then yy x + yy y else if 3 = y then 0 else yy 3) ≤ 4000 * (B + 1)
      obtain rfl | rfl | rfl | rfl : x = 0 ∨ x = 1 ∨ x = 2 ∨ x = 3 := by omega
      all_goals obtain rfl | rfl | rfl | rfl : y = 0 ∨ y = 1 ∨ y = 2 ∨ y = 3 := by omega
      all_goals simp at hxy ⊢
      all_goals omega
theorem town_wf {g : Row} {mm t v B : Nat} (h : WF g mm) (hM : MonW g mm B) (ht : t < 8) (hv : v ≤ 90) : WF (upd g (126 + t) (Int32.ofNat v)) mm ∧ MonW (upd g (126 + t) (Int32.ofNat v)) mm B := by
  obtain ⟨hb, ho', hw, hl⟩ := h
  have hm := hb.2.1
  refine ⟨⟨BaseW_congr (fun k hk => upd_ne (by omega)) hb, OrdW_congr (fun k hk => upd_ne (by omega)) (fun d hd => upd_ne (by omega)) ho', fun d hd => Co1_congr (fun p hp => upd_ne (by omega)) (fun k h1 h2 => upd_ne (by omega)) (hw d hd), ?_⟩, mon_cash hM (Nat.le_refl B) (fun c hc => upd_ne (by omega)) fun p hp => by rw [upd_ne (by omega)]; exact hM.1 p hp⟩
  obtain ⟨l1, l2, l3, l4⟩ := hl
  refine ⟨fun a b ha hb => by rw [upd_ne (by omega), upd_ne (by omega), l1 a b ha hb], fun a b ha hb => by rw [upd_ne (by omega)]; exact l2 a b ha hb, fun a ha => by rw [upd_ne (by omega), l3 a ha], fun s hs => ?_⟩
  by_cases e : s = t
  · exact ⟨v, hv, by rw [e, upd_eq]⟩
  · rw [upd_ne (by omega)]
    exact l4 s hs
theorem rClear_at {g : Row} : (∀ a b, a < 8 → b < 8 → rClear g (62 + 8 * a + b) = 0) ∧ ∀ i, i < 62 ∨ 126 ≤ i → rClear g i = g i := by
  unfold rClear
  have key := zseq_ok (N := 8) (P := fun k (r : Row) => (∀ a b, a < k → b < 8 → r (62 + 8 * a + b) = 0) ∧ ∀ i, i < 62 ∨ 126 ≤ i → r i = g i) (step := fun t g => rFill (fun i => 62 + 8 * t + i) 0 8 g) (s := g) ⟨fun a b ha => by omega, fun _ _ => rfl⟩ (fun k r hk hr => ⟨fun a b ha hb => by
    show rFill (fun i => 62 + 8 * k + i) 0 8 r (62 + 8 * a + b) = 0
    by_cases e : a = k
    · rw [e]
      exact rFill_at ⟨b, hb, rfl⟩
    · rw [rFill_ne (fun j hj => by omega)]
      exact hr.1 a b (by omega) hb, fun i hi => by
    show rFill (fun i => 62 + 8 * k + i) 0 8 r i = g i
    rw [rFill_ne (fun j hj => by omega)]
    exact hr.2 i hi⟩) 8 (Nat.le_refl 8)
  exact key
theorem rReset0_at {g : Row} : (∀ c, c < 4 → rReset0 g (34 + 7 * c) = 0 ∧ rReset0 g (36 + 7 * c) = 0 ∧ rReset0 g (37 + 7 * c) = 0 ∧ rReset0 g (39 + 7 * c) = -1 ∧ ∀ p, p < 4 → rReset0 g (18 + 4 * p + c) = 0) ∧ ∀ i, i < 10 ∨ 62 ≤ i → rReset0 g i = g i := by
  unfold rReset0
  have key := zseq_ok (N := 4) (P := fun k (r : Row) => (∀ c, c < k → r (34 + 7 * c) = 0 ∧ r (36 + 7 * c) = 0 ∧ r (37 + 7 * c) = 0 ∧ r (39 + 7 * c) = -1 ∧ ∀ p, p < 4 → r (18 + 4 * p + c) = 0) ∧ ∀ i, i < 10 ∨ 62 ≤ i → r i = g i) (step := fun k g => upd (rClose g k) (10 + k) 0) (s := g) ⟨fun c hc => by omega, fun _ _ => rfl⟩ (fun k r hk hr => ⟨fun c hc => by
    have hcl := rClose_at (g := r) hk
    have ne : ∀ i, i ≠ 10 + k → upd (rClose r k) (10 + k) 0 i = rClose r k i := fun i hi => upd_ne hi
    show upd (rClose r k) (10 + k) 0 (34 + 7 * c) = 0 ∧ upd (rClose r k) (10 + k) 0 (36 + 7 * c) = 0 ∧ upd (rClose r k) (10 + k) 0 (37 + 7 * c) = 0 ∧ upd (rClose r k) (10 + k) 0 (39 + 7 * c) = -1 ∧ ∀ p, p < 4 → upd (rClose r k) (10 + k) 0 (18 + 4 * p + c) = 0
    by_cases e : c = k
    · subst e
      exact ⟨by rw [ne _ (by omega), hcl.1], by rw [ne _ (by omega), hcl.2.1], by rw [ne _ (by omega), hcl.2.2.1], by rw [ne _ (by omega), hcl.2.2.2.1], fun p hp => by rw [ne _ (by omega), hcl.2.2.2.2 p hp]⟩
    · have q := hr.1 c (by omega)
      have ne2 : ∀ i, ¬ (34 + 7 * k ≤ i ∧ i < 41 + 7 * k) → (∀ p, p < 4 → i ≠ 18 + 4 * p + k) → i ≠ 10 + k → upd (rClose r k) (10 + k) 0 i = r i := fun i a b d => by rw [ne i d, rClose_ne a b]
      exact ⟨by rw [ne2 _ (by omega) (fun p hp => by omega) (by omega), q.1], by rw [ne2 _ (by omega) (fun p hp => by omega) (by omega), q.2.1], by rw [ne2 _ (by omega) (fun p hp => by omega) (by omega), q.2.2.1], by rw [ne2 _ (by omega) (fun p hp => by omega) (by omega), q.2.2.2.1], fun p hp => by rw [ne2 _ (by omega) (fun p hp => by omega) (by omega), q.2.2.2.2 p hp]⟩, fun i hi => by
    show upd (rClose r k) (10 + k) 0 i = g i
    rw [upd_ne (by omega), rClose_ne (by omega) (fun p hp => by omega)]
    exact hr.2 i hi⟩) 4 (Nat.le_refl 4)
  exact key
theorem rReset_at {g : Row} {m : Int32} : rReset g m 0 = m ∧ (∀ i, i < 10 → i ≠ 0 → rReset g m i = 0) ∧ (∀ p, p < 4 → rReset g m (14 + p) = 500) ∧ ∀ i, 18 ≤ i → rReset g m i = rReset0 (rClear g) i := by
  unfold rReset
  refine ⟨?_, fun i h1 h2 => ?_, fun p hp => ?_, fun i hi => ?_⟩
  · simp [upd]
  · obtain rfl | rfl | rfl | rfl | rfl | rfl | rfl | rfl | rfl : i = 1 ∨ i = 2 ∨ i = 3 ∨ i = 4 ∨ i = 5 ∨ i = 6 ∨ i = 7 ∨ i = 8 ∨ i = 9 := by omega
    all_goals simp [upd]
  · rw [upd_ne (by omega), upd_ne (by omega), upd_ne (by omega), upd_ne (by omega), upd_ne (by omega), upd_ne (by omega), upd_ne (by omega), upd_ne (by omega), upd_ne (by omega), upd_ne (by omega), rFill_at ⟨p, hp, rfl⟩]
  · rw [upd_ne (by omega), upd_ne (by omega), upd_ne (by omega), upd_ne (by omega), upd_ne (by omega), upd_ne (by omega), upd_ne (by omega), upd_ne (by omega), upd_ne (by omega), upd_ne (by omega), rFill_ne (fun p hp => by omega)]
theorem reset_wf {g : Row} {mm : Nat} (h1 : 2 ≤ mm) (h2 : mm ≤ 4) (hl : ∀ t, t < 8 → ∃ v, v ≤ 90 ∧ g (126 + t) = Int32.ofNat v) (B : Nat) : WF (rReset g (Int32.ofNat mm)) mm ∧ MonW (rReset g (Int32.ofNat mm)) mm B := by
  have ra := rReset_at (g := g) (m := Int32.ofNat mm)
  have rb := rReset0_at (g := rClear g)
  have rc := rClear_at (g := g)
  have z : ∀ i, i < 10 → i ≠ 0 → rReset g (Int32.ofNat mm) i = Int32.ofNat 0 := ra.2.1
  refine ⟨⟨⟨h1, h2, ra.1, ⟨0, by omega, z 1 (by omega) (by omega)⟩, Or.inl (z 3 (by omega) (by omega)), Or.inl (z 8 (by omega) (by omega)), fun _ => ⟨0, by omega, z 2 (by omega) (by omega)⟩⟩, ?_, fun c hc => closed_co ⟨by rw [ra.2.2.2 _ (by omega), (rb.1 c hc).1], by rw [ra.2.2.2 _ (by omega), (rb.1 c hc).2.2.1], by rw [ra.2.2.2 _ (by omega), (rb.1 c hc).2.2.2.1], fun p hp => by rw [ra.2.2.2 _ (by omega), (rb.1 c hc).2.2.2.2 p hp]⟩, ?_⟩, ?_⟩
  · refine ⟨0, 0, fun _ => 0, by omega, by omega, z 9 (by omega) (by omega), z 4 (by omega) (by omega), fun j hj => by omega, fun q => ?_⟩
    rw [z 3 (by omega) (by omega)] at q
    exact absurd q (by decide)
  · have lev : ∀ a b, a < 8 → b < 8 → rReset g (Int32.ofNat mm) (62 + 8 * a + b) = 0 := fun a b ha hb => by rw [ra.2.2.2 _ (by omega), rb.2 _ (by omega), rc.1 a b ha hb]
    refine ⟨fun a b ha hb => by rw [lev a b ha hb, lev b a hb ha], fun a b ha hb => ⟨0, by omega, lev a b ha hb⟩, fun a ha => lev a a ha ha, fun t ht => ?_⟩
    rw [ra.2.2.2 _ (by omega), rb.2 _ (by omega), rc.2 _ (by omega)]
    exact hl t ht
  · refine ⟨fun p hp => ⟨500, by omega, ra.2.2.1 p (by omega)⟩, fun _ => 0, fun c hc => by rw [ra.2.2.2 _ (by omega), (rb.1 c hc).2.1]; rfl, Nat.zero_le _⟩
def FrC (c : Nat) (g g' : Row) : Prop := ∀ i, i < 14 → i ≠ 6 → i ≠ 7 → g' i = g i
def FrL (g g' : Row) : Prop := ∀ i, 62 ≤ i → g' i = g i
def FrO (c : Nat) (g g' : Row) : Prop := ∀ d, d < 4 → d ≠ c → g' (34 + 7 * d) = g (34 + 7 * d) ∧ g' (36 + 7 * d) = g (36 + 7 * d)
def Fr (c : Nat) (g g' : Row) : Prop := FrC c g g' ∧ FrL g g' ∧ FrO c g g'
theorem Fr_trans {c : Nat} {g g' g'' : Row} (h : Fr c g g') (h' : Fr c g' g'') : Fr c g g'' := ⟨fun i a b d => by rw [h'.1 i a b d, h.1 i a b d], fun i a => by rw [h'.2.1 i a, h.2.1 i a], fun d a b => ⟨by rw [(h'.2.2 d a b).1, (h.2.2 d a b).1], by rw [(h'.2.2 d a b).2, (h.2.2 d a b).2]⟩⟩
theorem Fr_of {c : Nat} {g g' : Row} (h : ∀ i, (i < 14 ∧ i ≠ 6 ∧ i ≠ 7) ∨ 62 ≤ i ∨ (34 ≤ i ∧ i < 62 ∧ (((i - 34) % 7 = 0 ∧ i ≠ 34 + 7 * c) ∨ ((i - 34) % 7 = 2 ∧ i ≠ 36 + 7 * c))) → g' i = g i) : Fr c g g' := ⟨fun i a b d => h i (Or.inl ⟨a, b, d⟩), fun i a => h i (Or.inr (Or.inl a)), fun d a b => ⟨h _ (Or.inr (Or.inr (by omega))), h _ (Or.inr (Or.inr (by omega)))⟩⟩
theorem div_10 : ∀ k, k ≤ 475 → Int32.ofNat k / 10 = Int32.ofNat (k / 10) := by decide +kernel
theorem rOut_spec {g : Row} {mm c X B : Nat} (hm : mm ≤ 4) (hc : c < 4) (hw : CoW g mm) (hX : X ≤ 475) (hM : MonW g mm B) (hB : B ≤ 100000) : (∀ p, p < mm → ∃ x, x ≤ 500 + 4000 * (B + 1) ∧ rOut g mm c (Int32.ofNat X) (14 + p) = Int32.ofNat x) ∧ ∀ i, i ≠ 6 → (∀ p, p < mm → i ≠ 14 + p) → rOut g mm c (Int32.ofNat X) i = g i := by
  unfold rOut
  rw [div_10 X hX]
  obtain ⟨s, s1, s2, s3⟩ := (hw c hc).1
  have key := zseq_ok (N := mm) (P := fun k (r : Row) => (∀ p, p < k → ∃ x, x ≤ 500 + 4000 * (B + 1) ∧ r (14 + p) = Int32.ofNat x) ∧ ∀ i, i ≠ 6 → (∀ p, p < k → i ≠ 14 + p) → r i = g i) (step := fun p g => rPay g p (-(g (18 + 4 * p + c) * Int32.ofNat (X / 10)))) (s := g) ⟨fun p hp => by omega, fun _ _ _ => rfl⟩ (fun k r hk hr => by
    obtain ⟨r1, r2⟩ := hr
    obtain ⟨x, hx, ex⟩ := hM.1 k hk
    have hne : ∀ i, i ≠ 6 → i ≠ 14 + k → rPay r k (-(r (18 + 4 * k + c) * Int32.ofNat (X / 10))) i = r i := fun i a b => rPay_ne b a
    refine ⟨fun p hp => ?_, fun i a b => ?_⟩
    · by_cases e : p = k
      · subst e
        have q := sh_lt s2 p (by omega)
        have q2 : s p * (X / 10) ≤ 10 * 47 := Nat.mul_le_mul q (by omega)
        refine ⟨x + s p * (X / 10), by omega, ?_⟩
        show rPay r p _ (14 + p) = _
        unfold rPay
        rw [upd_ne (by omega), upd_eq, r2 _ (by omega) (fun j hj => by omega), ex, r2 _ (by omega) (fun j hj => by omega), s1 p (by omega), Int32.sub_neg, i32_mulm, i32_addn]
      · obtain ⟨x', hx', ex'⟩ := r1 p (by omega)
        exact ⟨x', hx', (hne _ (by omega) (by omega)).trans ex'⟩
    · exact (hne i a (b k (by omega))).trans (r2 i a fun p hp => b p (by omega))) mm (Nat.le_refl mm)
  exact key
theorem paid_spec {g : Row} {mm c X B : Nat} (hm : mm ≤ 4) (hc : c < 4) (hw : CoW g mm) (ho : g (34 + 7 * c) = 1) (hX : X ≤ 475) (hM : MonW g mm B) (hB : B ≤ 100000) : CoW (rPaid g mm c (Int32.ofNat X)) mm ∧ MonW (rPaid g mm c (Int32.ofNat X)) mm (B + 1) ∧ ∀ i, i ≠ 6 → ¬ (14 ≤ i ∧ i < 18) → i ≠ 37 + 7 * c → rPaid g mm c (Int32.ofNat X) i = g i := by
  obtain ⟨h1, h2⟩ := rOut_spec hm hc hw hX hM hB
  have hne : ∀ i, i ≠ 37 + 7 * c → rPaid g mm c (Int32.ofNat X) i = rOut g mm c (Int32.ofNat X) i := fun i hi => by
    unfold rPaid
    split
    · exact rFall_ne hi
    · exact rRise_ne hi
  have hall : ∀ i, i ≠ 6 → ¬ (14 ≤ i ∧ i < 18) → i ≠ 37 + 7 * c → rPaid g mm c (Int32.ofNat X) i = g i := fun i a b d => by rw [hne i d, h2 i a fun p hp => by omega]
  refine ⟨fun d hd => ?_, mon_cash hM (by omega) (fun d hd => hall _ (by omega) (by omega) (by omega)) fun p hp => ?_, hall⟩
  · by_cases e : d = c
    · subst e
      have h0 := hw d hd
      refine ⟨ShOk_congr (fun p hp => hall _ (by omega) (by omega) (by omega)) h0.1, PrOk_congr (hall _ (by omega) (by omega) (by omega)) h0.2.1, ?_, OpOk_open ho (hall _ (by omega) (by omega) (by omega)) (hall _ (by omega) (by omega) (by omega)) (hall _ (by omega) (by omega) (by omega)) h0.2.2.2⟩
      have s0 : StOk (rOut g mm d (Int32.ofNat X)) d := StOk_congr (h2 _ (by omega) (fun p hp => by omega)) h0.2.2.1
      unfold rPaid
      split
      · exact StOk_fall s0
      · exact StOk_rise s0
    · exact Co1_congr (fun p hp => hall _ (by omega) (by omega) (by omega)) (fun k a b => hall _ (by omega) (by omega) (by omega)) (hw d hd)
  · rw [hne _ (by omega)]
    exact h1 p hp
def ZC (c : Nat) (g : Row) : Prop := g (34 + 7 * c) = 0 → g (36 + 7 * c) = 0
def ZW (g : Row) : Prop := ∀ c, c < 4 → ZC c g
theorem ZC_open {c : Nat} {g : Row} (h : g (34 + 7 * c) = 1) : ZC c g := fun q => by rw [h] at q; exact absurd q (by decide)
theorem shut_spec {g : Row} {mm c B : Nat} (hm : mm ≤ 4) (hc : c < 4) (hw : CoW g mm) (hM : MonW g mm B) : CoW (rShut g c) mm ∧ MonW (rShut g c) mm B ∧ Fr c g (rShut g c) ∧ ZC c (rShut g c) := by
  have hcl := rClose_at (g := rCPay g c (g (36 + 7 * c))) hc
  have h7 : ∀ i, i ≠ 7 → rShut g c i = rClose (rCPay g c (g (36 + 7 * c))) c i := fun i hi => by
    unfold rShut
    rw [upd_ne hi]
  have hne : ∀ i, i ≠ 6 → i ≠ 7 → ¬ (34 + 7 * c ≤ i ∧ i < 41 + 7 * c) → (∀ p, p < 4 → i ≠ 18 + 4 * p + c) → rShut g c i = g i := fun i a b d e => by rw [h7 i b, rClose_ne d e, rCPay_ne (by omega) a]
  refine ⟨fun d hd => ?_, ?_, Fr_of fun i hi => hne i (by omega) (by omega) (by omega) (fun p hp => by omega), fun _ => by rw [h7 _ (by omega), hcl.2.1]⟩
  · by_cases e : d = c
    · subst e
      exact closed_co ⟨by rw [h7 _ (by omega), hcl.1], by rw [h7 _ (by omega), hcl.2.2.1], by rw [h7 _ (by omega), hcl.2.2.2.1], fun p hp => by rw [h7 _ (by omega), hcl.2.2.2.2 p hp]⟩
    · exact Co1_congr (fun p hp => hne _ (by omega) (by omega) (by omega) (fun q hq => by omega)) (fun k a b => hne _ (by omega) (by omega) (by omega) (fun q hq => by omega)) (hw d hd)
  · obtain ⟨y, hy1, hy2⟩ := hM.2
    refine mon_co (c := c) (v := 0) (y := y) hc (fun p hp => by rw [hne _ (by omega) (by omega) (by omega) (fun q hq => by omega)]; exact hM.1 p hp) hy1 (fun d hd e => hne _ (by omega) (by omega) (by omega) (fun q hq => by omega)) ?_ (by omega)
    rw [h7 _ (by omega), hcl.2.1]
    rfl
theorem mon_y {y : Nat → Nat} {Z c : Nat} (hc : c < 4) (h : y 0 + y 1 + y 2 + y 3 ≤ Z) : y c ≤ Z := by
  obtain rfl | rfl | rfl | rfl : c = 0 ∨ c = 1 ∨ c = 2 ∨ c = 3 := by omega
  all_goals omega
theorem upk4_spec {g : Row} {mm c p d B : Nat} (ho : g (34 + 7 * c) = 1) (hm : mm ≤ 4) (hc : c < 4) (hp : p < mm) (hd : d ≤ 200) (hw : CoW g mm) (hM : MonW g mm B) (hB : B ≤ 100001) : CoW (upk4 g c p (Int32.ofNat d)) mm ∧ MonW (upk4 g c p (Int32.ofNat d)) mm B ∧ Fr c g (upk4 g c p (Int32.ofNat d)) ∧ ZC c (upk4 g c p (Int32.ofNat d)) := by
  obtain ⟨x, hx, ex⟩ := hM.1 p hp
  unfold upk4
  rw [ex, zmin_b (by omega) (by omega)]
  have w1 : CoW (rPay g p (Int32.ofNat (min d x))) mm := fun e he => Co1_congr (fun q hq => rPay_ne (by omega) (by omega)) (fun k a b => rPay_ne (by omega) (by omega)) (hw e he)
  have m1 : MonW (rPay g p (Int32.ofNat (min d x))) mm B := by
    refine mon_one (t := p) (x' := x - min d x) hM (Nat.le_refl B) (fun e he => rPay_ne (by omega) (by omega)) (fun q hq e => rPay_ne (by omega) (by omega)) ?_ (by omega)
    unfold rPay
    rw [upd_ne (by omega), upd_eq, ex, i32_subm (Nat.min_le_right _ _)]
  have f1 : Fr c g (rPay g p (Int32.ofNat (min d x))) := Fr_of fun i hi => rPay_ne (by omega) (by omega)
  split
  · exact ⟨w1, m1, f1, ZC_open (by rw [rPay_ne (by omega) (by omega), ho])⟩
  · obtain ⟨a, b, e, z⟩ := shut_spec hm hc w1 m1
    exact ⟨a, b, Fr_trans f1 e, z⟩
theorem rest_spec {g : Row} {mm c p d B j : Nat} (hm : mm ≤ 4) (hc : c < 4) (hp : p < mm) (hd : d ≤ 200) (hw : CoW g mm) (hM : MonW g mm B) (hB : B ≤ 100001) : CoW (rRest p (Int32.ofNat d) j g) mm ∧ MonW (rRest p (Int32.ofNat d) j g) mm B ∧ Fr c g (rRest p (Int32.ofNat d) j g) ∧ rRest p (Int32.ofNat d) j g (34 + 7 * c) = g (34 + 7 * c) := by
  obtain ⟨x, hx, ex⟩ := hM.1 p hp
  obtain ⟨a, ⟨x', b1, b2⟩, e⟩ := rRest_spec (X := 500 + 4000 * B) hm hp hd (by omega) (by omega) j g x hw ex hx
  exact ⟨a, mon_one (t := p) hM (Nat.le_refl B) (fun q hq => e _ (by omega) (by omega) (by omega) (fun r hr => by omega)) (fun q hq n => e _ (by omega) (by omega) (by omega) (fun r hr => by omega)) b2 b1, Fr_of fun i hi => e i (by omega) (by omega) (by omega) (fun r hr => by omega), e _ (by omega) (by omega) (by omega) (fun r hr => by omega)⟩
theorem upkeep_spec {g : Row} {mm c home S B : Nat} (ho : g (34 + 7 * c) = 1) (hm : mm ≤ 4) (hc : c < 4) (hco : CoOk g c home S) (hw : CoW g mm) (hM : MonW g mm B) (hB : B ≤ 100001) : CoW (rUpkeep g c) mm ∧ MonW (rUpkeep g c) mm B ∧ Fr c g (rUpkeep g c) ∧ ZC c (rUpkeep g c) := by
  obtain ⟨y, hy1, hy2⟩ := hM.2
  have hyc := mon_y hc hy2
  have h5 := hco.2.2.2.2
  have e5 : (5 : Int32) * g (38 + 7 * c) = Int32.ofNat (5 * S) := by rw [hco.2.1, show (5 : Int32) = Int32.ofNat 5 from rfl, i32_mulm]
  rw [rUpkeep_eq, e5, hy1 c hc, zmin_b (by omega) (by omega), i32_subm (Nat.min_le_left _ _)]
  have w1 : CoW (rCPay g c (Int32.ofNat (min (5 * S) (y c)))) mm := fun e he => Co1_congr (fun q hq => rCPay_ne (by omega) (by omega)) (fun k a b => rCPay_ne (by omega) (by omega)) (hw e he)
  have m1 : MonW (rCPay g c (Int32.ofNat (min (5 * S) (y c)))) mm B := by
    refine mon_co (c := c) (v := y c - min (5 * S) (y c)) (y := y) hc (fun p hp => by rw [rCPay_ne (by omega) (by omega)]; exact hM.1 p hp) hy1 (fun d hd e => rCPay_ne (by omega) (by omega)) ?_ (by omega)
    unfold rCPay
    rw [upd_ne (by omega), upd_eq, hy1 c hc, i32_subm (Nat.min_le_right _ _)]
  have f1 : Fr c g (rCPay g c (Int32.ofNat (min (5 * S) (y c)))) := Fr_of fun i hi => rCPay_ne (by omega) (by omega)
  obtain ⟨d, hd⟩ : ∃ d, 5 * S - min (5 * S) (y c) = d := ⟨_, rfl⟩
  rw [hd]
  have o1 : rCPay g c (Int32.ofNat (min (5 * S) (y c))) (34 + 7 * c) = 1 := by rw [rCPay_ne (by omega) (by omega), ho]
  generalize rCPay g c (Int32.ofNat (min (5 * S) (y c))) = g1 at w1 m1 f1 o1 ⊢
  unfold upk2
  split
  · exact ⟨w1, m1, f1, ZC_open o1⟩
  · split
    · obtain ⟨a, b, e, z⟩ := shut_spec hm hc w1 m1
      exact ⟨a, b, Fr_trans f1 e, z⟩
    · rename_i q
      obtain ⟨p, hp, ep⟩ := ((w1 c hc).2.1).resolve_left q
      rw [ep, nn_of (by omega)]
      obtain ⟨a, b, e, z⟩ := rest_spec (j := 40) hm hc hp (show d ≤ 200 by omega) w1 m1 hB
      obtain ⟨a', b', e', z'⟩ := upk4_spec (by rw [z, o1]) hm hc hp (show d ≤ 200 by omega) a b hB
      exact ⟨a', b', Fr_trans f1 (Fr_trans e e'), z'⟩
theorem over_wf {g g' : Row} {mm c len pl : Nat} {o : Nat → Nat} (hb : BaseW g mm) (h3 : g 3 = 1) (hl : len ≤ 4) (hp : pl < len) (e9 : g 9 = Int32.ofNat len) (ho : ∀ j, j < len → o j < 4 ∧ g (10 + j) = Int32.ofNat (o j)) (hop : ∀ j, pl ≤ j → j < len → g (34 + 7 * o j) = 1) (hd : ∀ i j, pl ≤ i → i < j → j < len → o i ≠ o j) (hc : o pl = c) (hf : Fr c g g') (h4 : g' 4 = g 4) (e4 : g 4 = Int32.ofNat pl) (hw : CoW g' mm) (hL : LandW g) : WF (rOver (upd (upd g' 8 0) 4 (g' 4 + 1))) mm ∧ (pl + 1 < len → ∃ d, d < 4 ∧ upd (upd g' 8 0) 4 (g' 4 + 1) (10 + (pl + 1)) = Int32.ofNat d ∧ upd (upd g' 8 0) 4 (g' 4 + 1) (34 + 7 * d) = 1) := by
  obtain ⟨b1, b2, b3, ⟨t, ht, b4⟩, b5, b6, b7⟩ := hb
  have e4' : g' 4 + 1 = Int32.ofNat (pl + 1) := by rw [h4, e4, i32_succ]
  rw [e4']
  have ne : ∀ i, i ≠ 8 → i ≠ 4 → upd (upd g' 8 0) 4 (Int32.ofNat (pl + 1)) i = g' i := fun i a b => by rw [upd_ne b, upd_ne a]
  have lo : ∀ i, i < 14 → i ≠ 6 → i ≠ 7 → i ≠ 8 → i ≠ 4 → upd (upd g' 8 0) 4 (Int32.ofNat (pl + 1)) i = g i := fun i a b c d e => by rw [ne i d e, hf.1 i a b c]
  have co : ∀ j, pl < j → j < len → upd (upd g' 8 0) 4 (Int32.ofNat (pl + 1)) (34 + 7 * o j) = 1 := fun j h1 h2 => by
    rw [ne _ (by omega) (by omega), (hf.2.2 _ (ho j h2).1 (by rw [← hc]; exact (hd pl j (Nat.le_refl _) h1 h2).symm)).1, hop j (by omega) h2]
  have cw : ∀ x : Row, (∀ i, 14 ≤ i → x i = g' i) → CoW x mm := fun x hx d hd => Co1_congr (fun p hp => hx _ (by omega)) (fun k h1 h2 => hx _ (by omega)) (hw d hd)
  have lw : ∀ x : Row, (∀ i, 14 ≤ i → x i = g' i) → LandW x := fun x hx => LandW_congr (fun k hk => by rw [hx k (by omega), hf.2.1 k (by omega)]) hL
  refine ⟨?_, fun h => ⟨o (pl + 1), (ho _ h).1, by rw [lo _ (by omega) (by omega) (by omega) (by omega) (by omega), (ho _ h).2], co _ (by omega) h⟩⟩
  have q9 : upd (upd g' 8 0) 4 (Int32.ofNat (pl + 1)) 9 = Int32.ofNat len := by rw [lo _ (by omega) (by omega) (by omega) (by omega) (by omega), e9]
  have q4 : upd (upd g' 8 0) 4 (Int32.ofNat (pl + 1)) 4 = Int32.ofNat (pl + 1) := upd_eq
  have q8 : upd (upd g' 8 0) 4 (Int32.ofNat (pl + 1)) 8 = 0 := by rw [upd_ne (by omega), upd_eq]
  have q0 : upd (upd g' 8 0) 4 (Int32.ofNat (pl + 1)) 0 = Int32.ofNat mm := by rw [lo _ (by omega) (by omega) (by omega) (by omega) (by omega), b3]
  have q1 : upd (upd g' 8 0) 4 (Int32.ofNat (pl + 1)) 1 = Int32.ofNat t := by rw [lo _ (by omega) (by omega) (by omega) (by omega) (by omega), b4]
  have q3 : upd (upd g' 8 0) 4 (Int32.ofNat (pl + 1)) 3 = 1 := by rw [lo _ (by omega) (by omega) (by omega) (by omega) (by omega), h3]
  have qo : ∀ j, j < len → o j < 4 ∧ upd (upd g' 8 0) 4 (Int32.ofNat (pl + 1)) (10 + j) = Int32.ofNat (o j) := fun j hj => ⟨(ho j hj).1, by rw [lo _ (by omega) (by omega) (by omega) (by omega) (by omega), (ho j hj).2]⟩
  have qn : ∀ i, 14 ≤ i → upd (upd g' 8 0) 4 (Int32.ofNat (pl + 1)) i = g' i := fun i hi => ne i (by omega) (by omega)
  generalize upd (upd g' 8 0) 4 (Int32.ofNat (pl + 1)) = r at q9 q4 q8 q0 q1 q3 qo qn co ⊢
  unfold rOver
  have hlt : (r 4 < r 9) = (pl + 1 < len) := by rw [q4, q9]; exact i32_lt_of (by omega) (by omega)
  by_cases c1 : pl + 1 < len
  · rw [if_pos (hlt ▸ c1)]
    refine ⟨⟨b1, b2, q0, ⟨t, ht, q1⟩, Or.inr q3, Or.inl q8, fun z => ?_⟩, ⟨len, pl + 1, o, hl, by omega, q9, q4, qo, fun _ => ⟨c1, fun j h1 h2 => co j (by omega) h2, fun i j h1 h2 h3 => hd i j (by omega) h2 h3⟩⟩, cw r qn, lw r qn⟩
    rw [q3] at z
    exact absurd z (by decide)
  · rw [if_neg (fun z => c1 (hlt ▸ z))]
    have un : ∀ i, i ≠ 3 → i ≠ 2 → i ≠ 5 → upd (upd (upd r 3 0) 2 0) 5 (r 5 + 1) i = r i := fun i a b d => by rw [upd_ne d, upd_ne b, upd_ne a]
    have u3 : upd (upd (upd r 3 0) 2 0) 5 (r 5 + 1) 3 = 0 := by rw [upd_ne (by omega), upd_ne (by omega), upd_eq]
    refine ⟨⟨b1, b2, by rw [un _ (by omega) (by omega) (by omega), q0], ⟨t, ht, by rw [un _ (by omega) (by omega) (by omega), q1]⟩, Or.inl u3, Or.inl (by rw [un _ (by omega) (by omega) (by omega), q8]), fun _ => ⟨0, by omega, ?_⟩⟩, ⟨len, pl + 1, o, hl, by omega, by rw [un _ (by omega) (by omega) (by omega), q9], by rw [un _ (by omega) (by omega) (by omega), q4], fun j hj => ⟨(qo j hj).1, by rw [un _ (by omega) (by omega) (by omega), (qo j hj).2]⟩, fun z => ?_⟩, cw _ (fun i hi => by rw [un _ (by omega) (by omega) (by omega), qn i hi]), lw _ (fun i hi => by rw [un _ (by omega) (by omega) (by omega), qn i hi])⟩
    · rw [upd_ne (by omega), upd_eq]
      rfl
    · rw [u3] at z
      exact absurd z (by decide)
theorem mon_over {g : Row} {mm B : Nat} (hm : mm ≤ 4) (h : MonW g mm B) : MonW (rOver (upd (upd g 8 0) 4 (g 4 + 1))) mm B := by
  have hn : ∀ i, 14 ≤ i → rOver (upd (upd g 8 0) 4 (g 4 + 1)) i = g i := fun i hi => by
    unfold rOver
    split
    · rw [upd_ne (by omega), upd_ne (by omega)]
    · rw [upd_ne (by omega), upd_ne (by omega), upd_ne (by omega), upd_ne (by omega), upd_ne (by omega)]
  exact mon_cash h (Nat.le_refl B) (fun c hc => hn _ (by omega)) fun p hp => by rw [hn _ (by omega)]; exact h.1 p hp
def earnA (g : Row) (mm c : Nat) (x : Int32) (pays : Bool) : Row := if pays then rPaid (upd g (40 + 7 * c) x) mm c x else rFall (rCPay (upd g (40 + 7 * c) x) c (-x)) c
theorem rEarn_eq {g : Row} {mm c : Nat} {x : Int32} {pays : Bool} : rEarn g mm c x pays = rOver (upd (upd (rUpkeep (earnA g mm c x pays) c) 8 0) 4 (rUpkeep (earnA g mm c x pays) c 4 + 1)) := by
  unfold rEarn earnA
  dsimp only
  rw [upd_ne (show 4 ≠ 8 by omega)]
theorem earnA_spec {g : Row} {mm c home S X B : Nat} {pays : Bool} (hm : mm ≤ 4) (hc : c < 4) (hw : CoW g mm) (ho : g (34 + 7 * c) = 1) (hco : CoOk g c home S) (hX : X ≤ 475) (hM : MonW g mm B) (hB : B ≤ 100000) : CoW (earnA g mm c (Int32.ofNat X) pays) mm ∧ MonW (earnA g mm c (Int32.ofNat X) pays) mm (B + 1) ∧ Fr c g (earnA g mm c (Int32.ofNat X) pays) ∧ CoOk (earnA g mm c (Int32.ofNat X) pays) c home S ∧ earnA g mm c (Int32.ofNat X) pays (34 + 7 * c) = 1 := by
  have w0 : CoW (upd g (40 + 7 * c) (Int32.ofNat X)) mm := fun d hd => Co1_congr (fun p hp => upd_ne (by omega)) (fun k a b => upd_ne (by omega)) (hw d hd)
  have m0 : MonW (upd g (40 + 7 * c) (Int32.ofNat X)) mm B := mon_cash hM (Nat.le_refl B) (fun d hd => upd_ne (by omega)) fun p hp => by rw [upd_ne (by omega)]; exact hM.1 p hp
  have o0 : upd g (40 + 7 * c) (Int32.ofNat X) (34 + 7 * c) = 1 := by rw [upd_ne (by omega), ho]
  unfold earnA
  cases pays with
  | true =>
    rw [if_pos rfl]
    obtain ⟨a, b, e⟩ := paid_spec hm hc w0 o0 hX m0 hB
    have hne : ∀ i, i ≠ 6 → ¬ (14 ≤ i ∧ i < 18) → i ≠ 37 + 7 * c → i ≠ 40 + 7 * c → rPaid (upd g (40 + 7 * c) (Int32.ofNat X)) mm c (Int32.ofNat X) i = g i := fun i p q r s => by rw [e i p q r, upd_ne s]
    exact ⟨a, b, Fr_of fun i hi => hne i (by omega) (by omega) (by omega) (by omega), CoOk_congr (hne _ (by omega) (by omega) (by omega) (by omega)) (hne _ (by omega) (by omega) (by omega) (by omega)) hco, by rw [hne _ (by omega) (by omega) (by omega) (by omega), ho]⟩
  | false =>
    rw [if_neg (by decide)]
    have hne : ∀ i, i ≠ 6 → i ≠ 36 + 7 * c → i ≠ 37 + 7 * c → i ≠ 40 + 7 * c → rFall (rCPay (upd g (40 + 7 * c) (Int32.ofNat X)) c (-Int32.ofNat X)) c i = g i := fun i p q r s => by rw [rFall_ne r, rCPay_ne q p, upd_ne s]
    refine ⟨fun d hd => ?_, ?_, Fr_of fun i hi => hne i (by omega) (by omega) (by omega) (by omega), CoOk_congr (hne _ (by omega) (by omega) (by omega) (by omega)) (hne _ (by omega) (by omega) (by omega) (by omega)) hco, by rw [hne _ (by omega) (by omega) (by omega) (by omega), ho]⟩
    · by_cases e : d = c
      · subst e
        have h0 := hw d hd
        exact ⟨ShOk_congr (fun p hp => hne _ (by omega) (by omega) (by omega) (by omega)) h0.1, PrOk_congr (hne _ (by omega) (by omega) (by omega) (by omega)) h0.2.1, StOk_fall (StOk_congr (g := g) (by rw [rCPay_ne (by omega) (by omega), upd_ne (by omega)]) h0.2.2.1), OpOk_open ho (hne _ (by omega) (by omega) (by omega) (by omega)) (hne _ (by omega) (by omega) (by omega) (by omega)) (hne _ (by omega) (by omega) (by omega) (by omega)) h0.2.2.2⟩
      · exact Co1_congr (fun p hp => hne _ (by omega) (by omega) (by omega) (by omega)) (fun k a b => hne _ (by omega) (by omega) (by omega) (by omega)) (hw d hd)
    · obtain ⟨y, hy1, hy2⟩ := hM.2
      refine mon_co (c := c) (v := y c + X) (y := y) hc (fun p hp => ?_) hy1 (fun d hd e => hne _ (by omega) (by omega) (by omega) (by omega)) ?_ (by omega)
      · obtain ⟨x, hx, ex⟩ := hM.1 p hp
        exact ⟨x, by omega, by rw [hne _ (by omega) (by omega) (by omega) (by omega), ex]⟩
      · rw [rFall_ne (by omega)]
        unfold rCPay
        rw [upd_ne (by omega), upd_eq, upd_ne (by omega), hy1 c hc, Int32.sub_neg, i32_addn]
theorem earn_wf {g : Row} {mm c home S X B : Nat} {pays : Bool} (h : WF g mm) (hM : MonW g mm B) (hB : B ≤ 100000) (h3 : g 3 = 1) (hc : c < 4) (hnc : nextC g = Int32.ofNat c) (hco : CoOk g c home S) (hX : X ≤ 475) (hz : ZW g) : WF (rEarn g mm c (Int32.ofNat X) pays) mm ∧ MonW (rEarn g mm c (Int32.ofNat X) pays) mm (B + 1) ∧ ZW (rEarn g mm c (Int32.ofNat X) pays) := by
  obtain ⟨hb, ⟨len, pl, o, hl, hpl, e9, e4, ho, hop⟩, hw, hL⟩ := h
  have hm := hb.2.1
  obtain ⟨hp, hopen, hdis⟩ := hop h3
  have hoc : o pl = c := by
    have h3n : ¬ g 3 = 0 := by rw [h3]; decide
    unfold nextC at hnc
    rw [if_neg h3n, e9, e4, if_neg (i32_ge hp (by omega)), nn_of (by omega), (ho pl hp).2, i32_eq_of (by have := (ho pl hp).1; omega) (by omega)] at hnc
    exact hnc
  have oc : g (34 + 7 * c) = 1 := by rw [← hoc]; exact hopen pl (Nat.le_refl _) hp
  obtain ⟨w1, m1, f1, c1, o1⟩ := earnA_spec (pays := pays) hm hc hw oc hco hX hM hB
  obtain ⟨w2, m2, f2, z2⟩ := upkeep_spec o1 hm hc c1 w1 m1 (by omega)
  have f := Fr_trans f1 f2
  rw [rEarn_eq]
  refine ⟨(over_wf hb h3 hl hp e9 ho hopen hdis hoc f (f.1 4 (by omega) (by omega) (by omega)) e4 w2 hL).1, mon_over hm m2, fun d hd => ?_⟩
  have hn : ∀ i, 14 ≤ i → rOver (upd (upd (rUpkeep (earnA g mm c (Int32.ofNat X) pays) c) 8 0) 4 (rUpkeep (earnA g mm c (Int32.ofNat X) pays) c 4 + 1)) i = rUpkeep (earnA g mm c (Int32.ofNat X) pays) c i := fun i hi => by
    unfold rOver
    split
    · rw [upd_ne (by omega), upd_ne (by omega)]
    · rw [upd_ne (by omega), upd_ne (by omega), upd_ne (by omega), upd_ne (by omega), upd_ne (by omega)]
  unfold ZC
  rw [hn _ (by omega), hn _ (by omega)]
  by_cases e : d = c
  · rw [e]
    exact z2
  · rw [(f.2.2 d hd e).1, (f.2.2 d hd e).2]
    exact hz d hd
def dead (mm len i : Nat) : Prop := (14 + mm ≤ i ∧ i < 18) ∨ (10 + len ≤ i ∧ i < 14)
theorem dead_ok {mm len : Nat} : DOk (dead mm len) mm := ⟨fun i h => by unfold dead at h; omega, fun p hp h => by unfold dead at h; omega⟩
def AgW (mm : Nat) (g m : Row) : Prop := ∃ len, len ≤ 4 ∧ g 9 = Int32.ofNat len ∧ AgD (dead mm len) g m
theorem AgW_of {mm len : Nat} {g m : Row} (hl : len ≤ 4) (h9 : g 9 = Int32.ofNat len) (h : AgD (dead mm len) g m) : AgW mm g m := ⟨len, hl, h9, h⟩
theorem BaseW_ag {mm : Nat} {g m : Row} (hA : AgW mm g m) (hb : BaseW g mm) : BaseW m mm := by
  obtain ⟨len, hl, h9, hA⟩ := hA
  exact BaseW_congr (fun k hk => (ag0 dead_ok hA (by omega) (by omega)).symm) hb
theorem CoW_ag {mm : Nat} {g m : Row} (hA : AgW mm g m) (hb : CoW g mm) : CoW m mm := by
  obtain ⟨len, hl, h9, hA⟩ := hA
  exact fun c hc => Co1_congr (fun p hp => (ag0 dead_ok hA (by omega) (by omega)).symm) (fun k h1 h2 => (ag0 dead_ok hA (by omega) (by omega)).symm) (hb c hc)
theorem LandW_ag {mm : Nat} {g m : Row} (hA : AgW mm g m) (hb : LandW g) : LandW m := by
  obtain ⟨len, hl, h9, hA⟩ := hA
  exact LandW_congr (fun k hk => (ag0 dead_ok hA (by omega) (by omega)).symm) hb
theorem OrdW_ag {mm : Nat} {g m : Row} (hA : AgW mm g m) (hb : OrdW g) : OrdW m := by
  obtain ⟨len, hl, h9, hA⟩ := hA
  obtain ⟨len', pl, o, h4, hpl, e9, e4, ho, hop⟩ := hb
  have e : len = len' := ofNat_inj (by omega) (by omega) (by rw [← h9, e9])
  subst e
  refine ⟨len, pl, o, h4, hpl, by rw [← ag0 dead_ok hA (by omega) (by omega), e9], by rw [← ag0 dead_ok hA (by omega) (by omega), e4], fun j hj => ⟨(ho j hj).1, by rw [← hA (10 + j) (by omega) (fun q => by unfold dead at q; omega), (ho j hj).2]⟩, fun h3 => ?_⟩
  rw [← ag0 dead_ok hA (by omega) (by omega)] at h3
  obtain ⟨q1, q2, q3⟩ := hop h3
  exact ⟨q1, fun j a b => by rw [← ag0 dead_ok hA (by have := (ho j b).1; omega) (by omega), q2 j a b], q3⟩
theorem WF_ag {mm : Nat} {g m : Row} (hA : AgW mm g m) (h : WF g mm) : WF m mm := ⟨BaseW_ag hA h.1, OrdW_ag hA h.2.1, CoW_ag hA h.2.2.1, LandW_ag hA h.2.2.2⟩
theorem MonW_ag {mm B : Nat} {g m : Row} (hm : mm ≤ 4) (hA : AgW mm g m) (h : MonW g mm B) : MonW m mm B := by
  obtain ⟨len, hl, h9, hA⟩ := hA
  exact mon_cash h (Nat.le_refl B) (fun c hc => (ag0 dead_ok hA (by omega) (by omega)).symm) fun p hp => by rw [← ag14 dead_ok hA hp hm]; exact h.1 p hp
theorem mOrd_spec {op : Nat → Bool} {st : Nat → Nat} {len : Nat} {m r : Row} (hi : OrdInv op st 4 len r) : mOrd op st m 9 = Int32.ofNat len ∧ ∀ j, j < len → mOrd op st m (10 + j) = r (10 + j) := by
  obtain ⟨h1, h2, h3, h4, h5, h6⟩ := hi
  have cnt : sumTo 4 (fun d => if op d = true then 1 else 0) = len := by
    rw [← h4 len (Nat.le_refl _)]
    refine sumTo_congr 4 fun d hd => ?_
    by_cases o : op d = true
    · rw [if_pos o, if_pos ⟨o, (h3 d hd o).1⟩]
    · rw [if_neg o, if_neg (fun q => o q.1)]
  unfold mOrd
  have key := zseq_ok (N := 4) (P := fun k (x : Row) => x 9 = Int32.ofNat (sumTo k (fun d => if op d = true then 1 else 0)) ∧ ∀ c, c < k → op c = true → x (10 + placeN op st 4 c) = Int32.ofNat c) (step := mOrdStep op st) (s := rFill (fun k => 10 + k) 0 4 (upd m 9 0)) ⟨by rw [rFill_ne (fun j hj => by omega), upd_eq]; rfl, fun c hc => by omega⟩ (fun k x hk hx => by
    obtain ⟨x1, x2⟩ := hx
    unfold mOrdStep
    show (if op k = true then _ else x) 9 = Int32.ofNat (sumTo k (fun d => if op d = true then 1 else 0) + if op k = true then 1 else 0) ∧ ∀ c, c < k + 1 → op c = true → (if op k = true then upd (upd x (10 + placeN op st 4 k) (Int32.ofNat k)) 9 (x 9 + 1) else x) (10 + placeN op st 4 c) = Int32.ofNat c
    by_cases o : op k = true
    · rw [if_pos o, if_pos o]
      refine ⟨by rw [upd_eq, x1, i32_succ], fun c hc oc => ?_⟩
      rw [upd_ne (by omega)]
      by_cases e : c = k
      · rw [e, upd_eq]
      · have a := (h3 c (by omega) oc).2
        have b := (h3 k hk o).2
        rw [upd_ne (fun q => ?_), x2 c (by omega) oc]
        have q' : placeN op st 4 c = placeN op st 4 k := by omega
        rw [q', b, i32_eq_of (by omega) (by omega)] at a
        exact e a.symm
    · rw [if_neg o, if_neg o]
      refine ⟨x1, fun c hc oc => ?_⟩
      refine x2 c ?_ oc
      rcases Nat.lt_or_ge c k with q | q
      · exact q
      · rw [show c = k by omega] at oc
        exact absurd oc o) 4 (Nat.le_refl 4)
  refine ⟨by rw [key.1, cnt], fun j hj => ?_⟩
  obtain ⟨c, hc, oc, ec⟩ := h6 j hj
  rw [← ec, key.2 c hc oc, (h3 c hc oc).2]
theorem row_ops {g : Row} {mm : Nat} (hw : CoW g mm) : ∃ (op : Nat → Bool) (st : Nat → Nat), (∀ c, c < 4 → (op c = true ∧ g (34 + 7 * c) = 1) ∨ (op c = false ∧ g (34 + 7 * c) = 0)) ∧ ∀ c, c < 4 → g (37 + 7 * c) = Int32.ofNat (st c) ∧ st c ≤ 11 := by
  have hs : ∀ c, ∃ s : Nat, c < 4 → g (37 + 7 * c) = Int32.ofNat s ∧ s ≤ 11 := fun c => by
    by_cases hc : c < 4
    · obtain ⟨s, a, b⟩ := (hw c hc).2.2.1
      exact ⟨s, fun _ => ⟨b, a⟩⟩
    · exact ⟨0, fun q => absurd q hc⟩
  refine ⟨fun c => decide (g (34 + 7 * c) = 1), fun c => Classical.choose (hs c), fun c hc => ?_, fun c hc => Classical.choose_spec (hs c) hc⟩
  rcases (hw c hc).2.2.2 with ⟨a, _⟩ | ⟨a, _⟩
  · exact Or.inl ⟨decide_eq_true a, a⟩
  · exact Or.inr ⟨decide_eq_false (by rw [a]; decide), a⟩
theorem pass_all {g m : Row} {mm : Nat} {op : Nat → Bool} {st : Nat → Nat} (h : WF g mm) (h3 : g 3 = 0) (hA : AgW mm g m) (hop : ∀ c, c < 4 → (op c = true ∧ g (34 + 7 * c) = 1) ∨ (op c = false ∧ g (34 + 7 * c) = 0)) (hst : ∀ c, c < 4 → g (37 + 7 * c) = Int32.ofNat (st c) ∧ st c ≤ 11) : WF (rPass g) mm ∧ AgW mm (rPass g) (mPass op st m) ∧ ∀ i, 14 ≤ i → rPass g i = g i := by
  obtain ⟨hb, ho, hw, hL⟩ := h
  obtain ⟨b1, b2, b3, ⟨t, ht, b4⟩, b5, b6, b7⟩ := hb
  obtain ⟨p, hp, e2⟩ := b7 h3
  obtain ⟨len0, hl0, h90, hA0⟩ := hA
  have m2 : m 2 = Int32.ofNat p := by rw [← ag0 dead_ok hA0 (by omega) (by omega), e2]
  have m0 : m 0 = Int32.ofNat mm := by rw [← ag0 dead_ok hA0 (by omega) (by omega), b3]
  have nt : nextT m = nextT g := by
    unfold nextT
    rw [ag0 dead_ok hA0 (show 0 < 134 by omega) (by omega), ag0 dead_ok hA0 (show 1 < 134 by omega) (by omega)]
  have ntn : ∃ t', t' < mm ∧ nextT g = Int32.ofNat t' := by
    unfold nextT
    rw [b3, b4, i32_succ]
    split
    · exact ⟨0, by omega, rfl⟩
    · rename_i q
      rw [i32_le_of (by omega) (by omega)] at q
      exact ⟨t + 1, by omega, rfl⟩
  obtain ⟨t', ht', et'⟩ := ntn
  unfold rPass mPass
  rw [e2, b3, m2, m0, i32_succ, nt]
  have c1 : (Int32.ofNat (p + 1) < Int32.ofNat mm) = (p + 1 < mm) := i32_lt_of (by omega) (by omega)
  have c2 : (Int32.ofNat (p + 1) = Int32.ofNat mm) = (p + 1 = mm) := i32_eq_of (by omega) (by omega)
  dsimp only
  by_cases c : p + 1 < mm
  · rw [if_pos (c1 ▸ c), if_neg (fun q => by rw [c2] at q; omega), upd_comm (g := m) (by omega)]
    have ne : ∀ i, i ≠ 1 → i ≠ 2 → upd (upd g 2 (Int32.ofNat (p + 1))) 1 (nextT g) i = g i := fun i a b => by rw [upd_ne a, upd_ne b]
    refine ⟨⟨⟨b1, b2, by rw [ne _ (by omega) (by omega), b3], ⟨t', ht', by rw [upd_eq, et']⟩, by rw [ne _ (by omega) (by omega)]; exact b5, by rw [ne _ (by omega) (by omega)]; exact b6, fun _ => ⟨p + 1, c, by rw [upd_ne (by omega), upd_eq]⟩⟩, OrdW_congr (fun k hk => ne _ (by omega) (by omega)) (fun d hd => ne _ (by omega) (by omega)) ho, fun d hd => Co1_congr (fun q hq => ne _ (by omega) (by omega)) (fun k a b => ne _ (by omega) (by omega)) (hw d hd), LandW_congr (fun k hk => ne _ (by omega) (by omega)) hL⟩, AgW_of hl0 (by rw [ne _ (by omega) (by omega), h90]) (ag_upd (ag_upd hA0 rfl) rfl), fun i hi => ne i (by omega) (by omega)⟩
  · rw [if_neg (fun q => c (c1 ▸ q)), if_pos (by rw [c2]; omega)]
    unfold rBegOp
    have g2n : ∀ i, i ≠ 1 → i ≠ 2 → i ≠ 3 → i ≠ 4 → i ≠ 8 → i ≠ 9 → upd (upd (upd (upd (upd (upd g 2 (Int32.ofNat (p + 1))) 1 (nextT g)) 3 1) 8 0) 4 0) 9 0 i = g i := fun i a1 a2 a3 a4 a8 a9 => by rw [upd_ne a9, upd_ne a4, upd_ne a8, upd_ne a3, upd_ne a1, upd_ne a2]
    have g2_1 : upd (upd (upd (upd (upd (upd g 2 (Int32.ofNat (p + 1))) 1 (nextT g)) 3 1) 8 0) 4 0) 9 0 1 = nextT g := by rw [upd_ne (by omega), upd_ne (by omega), upd_ne (by omega), upd_ne (by omega), upd_eq]
    have g2_2 : upd (upd (upd (upd (upd (upd g 2 (Int32.ofNat (p + 1))) 1 (nextT g)) 3 1) 8 0) 4 0) 9 0 2 = Int32.ofNat (p + 1) := by rw [upd_ne (by omega), upd_ne (by omega), upd_ne (by omega), upd_ne (by omega), upd_ne (by omega), upd_eq]
    have g2_3 : upd (upd (upd (upd (upd (upd g 2 (Int32.ofNat (p + 1))) 1 (nextT g)) 3 1) 8 0) 4 0) 9 0 3 = 1 := by rw [upd_ne (by omega), upd_ne (by omega), upd_ne (by omega), upd_eq]
    have g2_4 : upd (upd (upd (upd (upd (upd g 2 (Int32.ofNat (p + 1))) 1 (nextT g)) 3 1) 8 0) 4 0) 9 0 4 = Int32.ofNat 0 := by rw [upd_ne (by omega), upd_eq]; rfl
    have g2_8 : upd (upd (upd (upd (upd (upd g 2 (Int32.ofNat (p + 1))) 1 (nextT g)) 3 1) 8 0) 4 0) 9 0 8 = 0 := by rw [upd_ne (by omega), upd_ne (by omega), upd_eq]
    have g2_9 : upd (upd (upd (upd (upd (upd g 2 (Int32.ofNat (p + 1))) 1 (nextT g)) 3 1) 8 0) 4 0) 9 0 9 = 0 := upd_eq
    generalize upd (upd (upd (upd (upd (upd g 2 (Int32.ofNat (p + 1))) 1 (nextT g)) 3 1) 8 0) 4 0) 9 0 = g2 at g2n g2_1 g2_2 g2_3 g2_4 g2_8 g2_9 ⊢
    obtain ⟨⟨len, hinv⟩, hfr⟩ := rOrder_inv (g := g2) (op := op) (st := st) g2_9 (fun c hc => by
      rw [g2n _ (by omega) (by omega) (by omega) (by omega) (by omega) (by omega)]
      rcases hop c hc with ⟨a, b⟩ | ⟨a, b⟩
      · rw [a, b]
        exact ⟨fun q => absurd q (by decide), fun q => absurd q (by decide)⟩
      · rw [a, b]
        exact ⟨fun _ => rfl, fun _ => rfl⟩) (fun c hc => by
      rw [g2n _ (by omega) (by omega) (by omega) (by omega) (by omega) (by omega)]
      exact ⟨(hst c hc).1, by have := (hst c hc).2; omega⟩)
    obtain ⟨i1, i2, i3, i4, i5, i6⟩ := hinv
    have ms := mOrd_spec (m := upd (upd (upd (upd m 1 (nextT g)) 2 (Int32.ofNat (p + 1))) 3 1) 4 0) ⟨i1, i2, i3, i4, i5, i6⟩
    have mne : ∀ i, i ≠ 9 → i < 10 ∨ 14 ≤ i → mOrd op st (upd (upd (upd (upd m 1 (nextT g)) 2 (Int32.ofNat (p + 1))) 3 1) 4 0) i = upd (upd (upd (upd m 1 (nextT g)) 2 (Int32.ofNat (p + 1))) 3 1) 4 0 i := fun i a b => by
      unfold mOrd
      exact mOrd_ne (by omega) a b
    have hAg : AgD (dead mm len) (rOrder g2) (upd (mOrd op st (upd (upd (upd (upd m 1 (nextT g)) 2 (Int32.ofNat (p + 1))) 3 1) 4 0)) 8 0) := by
      intro i hi hd
      by_cases q9 : i = 9
      · subst q9
        rw [upd_ne (by omega), i1, ms.1]
      · by_cases qo : 10 ≤ i ∧ i < 14
        · obtain ⟨j, rfl⟩ : ∃ j, i = 10 + j := ⟨i - 10, by omega⟩
          rw [upd_ne (by omega), ms.2 j (by unfold dead at hd; omega)]
        · rw [hfr i q9 (by omega)]
          by_cases q8 : i = 8
          · rw [q8, upd_eq, g2_8]
          · rw [upd_ne q8, mne i q9 (by omega)]
            by_cases q4 : i = 4
            · rw [q4, upd_eq, g2_4]; rfl
            · rw [upd_ne q4]
              by_cases q3 : i = 3
              · rw [q3, upd_eq, g2_3]
              · rw [upd_ne q3]
                by_cases q2 : i = 2
                · rw [q2, upd_eq, g2_2]
                · rw [upd_ne q2]
                  by_cases q1 : i = 1
                  · rw [q1, upd_eq, g2_1]
                  · rw [upd_ne q1, g2n i q1 q2 q3 q4 q8 q9]
                    exact hA0 i hi fun q => hd (by unfold dead at q ⊢; omega)
    have hov := ag_rOver dead_ok hAg
    have r0 := hfr 0 (by omega) (by omega)
    rw [g2n _ (by omega) (by omega) (by omega) (by omega) (by omega) (by omega), b3] at r0
    have r1 := hfr 1 (by omega) (by omega)
    rw [g2_1, et'] at r1
    have r3 := hfr 3 (by omega) (by omega)
    rw [g2_3] at r3
    have r4 := hfr 4 (by omega) (by omega)
    rw [g2_4] at r4
    have r8 := hfr 8 (by omega) (by omega)
    rw [g2_8] at r8
    have rn : ∀ i, 14 ≤ i → rOrder g2 i = g i := fun i hi => by rw [hfr i (by omega) (by omega), g2n i (by omega) (by omega) (by omega) (by omega) (by omega) (by omega)]
    have hcho : ∃ o : Nat → Nat, ∀ j, j < len → o j < 4 ∧ op (o j) = true ∧ placeN op st 4 (o j) = j := by
      have : ∀ j, ∃ c, j < len → c < 4 ∧ op c = true ∧ placeN op st 4 c = j := fun j => by
        by_cases q : j < len
        · obtain ⟨c, a, b, d⟩ := i6 j q
          exact ⟨c, fun _ => ⟨a, b, d⟩⟩
        · exact ⟨0, fun x => absurd x q⟩
      exact ⟨fun j => Classical.choose (this j), fun j hj => Classical.choose_spec (this j) hj⟩
    obtain ⟨o, hoj⟩ := hcho
    have ro : ∀ j, j < len → o j < 4 ∧ rOrder g2 (10 + j) = Int32.ofNat (o j) := fun j hj => by
      obtain ⟨a, b, d⟩ := hoj j hj
      have e := (i3 (o j) a b).2
      rw [d] at e
      exact ⟨a, e⟩
    have oo : ∀ j, j < len → g (34 + 7 * o j) = 1 := fun j hj => by
      obtain ⟨a, b, d⟩ := hoj j hj
      rcases hop (o j) a with ⟨_, q⟩ | ⟨q, _⟩
      · exact q
      · rw [b] at q
        exact absurd q (by decide)
    have od : ∀ i j, i < j → j < len → o i ≠ o j := fun i j h1 h2 q => by
      have a := (hoj i (by omega)).2.2
      have b := (hoj j h2).2.2
      rw [q, b] at a
      omega
    generalize rOrder g2 = r at i1 hov r0 r1 r3 r4 r8 rn ro ⊢
    have cw : ∀ x : Row, (∀ i, 14 ≤ i → x i = r i) → CoW x mm := fun x hx d hd => Co1_congr (fun p hp => by rw [hx _ (by omega), rn _ (by omega)]) (fun k h1 h2 => by rw [hx _ (by omega), rn _ (by omega)]) (hw d hd)
    have lw : ∀ x : Row, (∀ i, 14 ≤ i → x i = r i) → LandW x := fun x hx => LandW_congr (fun k hk => by rw [hx k (by omega), rn k (by omega)]) hL
    have hlt : (r 4 < r 9) = (0 < len) := by rw [r4, i1]; exact i32_lt_of (by omega) (by omega)
    have un : ∀ i, i ≠ 3 → i ≠ 2 → i ≠ 5 → upd (upd (upd r 3 0) 2 0) 5 (r 5 + 1) i = r i := fun i a b d => by rw [upd_ne d, upd_ne b, upd_ne a]
    have hov9 : rOver r 9 = Int32.ofNat len := by
      unfold rOver
      split
      · exact i1
      · rw [un _ (by omega) (by omega) (by omega), i1]
    refine ⟨?_, AgW_of i2 hov9 hov, fun i hi => ?_⟩
    · unfold rOver
      by_cases cl : 0 < len
      · rw [if_pos (hlt ▸ cl)]
        refine ⟨⟨b1, b2, r0, ⟨t', ht', r1⟩, Or.inr r3, Or.inl r8, fun z => ?_⟩, ⟨len, 0, o, i2, by omega, i1, r4, ro, fun _ => ⟨cl, fun j _ hj => by rw [rn _ (by omega)]; exact oo j hj, fun i j _ h1 h2 => od i j h1 h2⟩⟩, cw r fun _ _ => rfl, lw r fun _ _ => rfl⟩
        rw [r3] at z
        exact absurd z (by decide)
      · rw [if_neg (fun z => cl (hlt ▸ z))]
        have u3 : upd (upd (upd r 3 0) 2 0) 5 (r 5 + 1) 3 = 0 := by rw [upd_ne (by omega), upd_ne (by omega), upd_eq]
        refine ⟨⟨b1, b2, by rw [un _ (by omega) (by omega) (by omega), r0], ⟨t', ht', by rw [un _ (by omega) (by omega) (by omega), r1]⟩, Or.inl u3, Or.inl (by rw [un _ (by omega) (by omega) (by omega), r8]), fun _ => ⟨0, by omega, ?_⟩⟩, ⟨len, 0, o, i2, by omega, by rw [un _ (by omega) (by omega) (by omega), i1], by rw [un _ (by omega) (by omega) (by omega), r4], fun j hj => ⟨(ro j hj).1, by rw [un _ (by omega) (by omega) (by omega), (ro j hj).2]⟩, fun z => ?_⟩, cw _ (fun i hi => un _ (by omega) (by omega) (by omega)), lw _ (fun i hi => un _ (by omega) (by omega) (by omega))⟩
        · rw [upd_ne (by omega), upd_eq]
          rfl
        · rw [u3] at z
          exact absurd z (by decide)
    · unfold rOver
      split
      · exact rn i hi
      · rw [un _ (by omega) (by omega) (by omega), rn i hi]
theorem track_wf {g : Row} {mm c home i j B : Nat} (h : WF g mm) (hM : MonW g mm B) (hc : c < 4) (hi : i < 8) (hj : j < 8) (hB : B ≤ 100000) (hlay : layB g c home i j = true) : WF (rTrack g c i j) mm ∧ MonW (rTrack g c i j) mm B := by
  obtain ⟨hb, ho, hw, l1, l2, l3, l4⟩ := h
  obtain ⟨q1, q2, q3, _⟩ := of_decide_eq_true (show decide _ = true from hlay)
  obtain ⟨l, hl, el⟩ := l2 i j hi hj
  have hl1 : l ≤ 1 := by
    refine Nat.le_of_not_lt fun q => q2 ?_
    rw [el, show l = 2 by omega]
    decide
  have ne : ∀ k, k ≠ 6 → k ≠ 36 + 7 * c → k < 62 ∨ 126 ≤ k → rTrack g c i j k = g k := fun k a b d => by
    unfold rTrack
    rw [rCPay_ne b a, rLev_ne hi hj d]
  have lev : ∀ k, 62 ≤ k → rTrack g c i j k = rLev g i j (Int32.ofNat (l + 1)) k := fun k hk => by
    unfold rTrack
    rw [rCPay_ne (by omega) (by omega), el, i32_succ]
  refine ⟨⟨BaseW_congr (fun k hk => ne k (by omega) (by omega) (by omega)) hb, OrdW_congr (fun k hk => ne k (by omega) (by omega) (by omega)) (fun d hd => ne _ (by omega) (by omega) (by omega)) ho, fun d hd => Co1_congr (fun p hp => ne _ (by omega) (by omega) (by omega)) (fun k a b => ne _ (by omega) (by omega) (by omega)) (hw d hd), ?_⟩, ?_⟩
  · refine ⟨fun a b ha hb => by rw [lev _ (by omega), lev _ (by omega)]; exact rLev_sym l1 hi hj a b ha hb, fun a b ha hb => ?_, fun a ha => ?_, fun t ht => by rw [ne _ (by omega) (by omega) (by omega)]; exact l4 t ht⟩
    · rw [lev _ (by omega)]
      unfold rLev upd
      split
      · exact ⟨l + 1, by omega, rfl⟩
      · split
        · exact ⟨l + 1, by omega, rfl⟩
        · exact l2 a b ha hb
    · rw [lev _ (by omega)]
      unfold rLev
      rw [upd_ne (by omega), upd_ne (by omega), l3 a ha]
  · obtain ⟨y, hy1, hy2⟩ := hM.2
    have hyc := mon_y hc hy2
    have e20 : (20 : Int32) * (g (62 + 8 * i + j) + 1) = Int32.ofNat (20 * (l + 1)) := by rw [el, i32_succ, show (20 : Int32) = Int32.ofNat 20 from rfl, i32_mulm]
    rw [e20, hy1 c hc, i32_le_b (by omega) (by omega)] at q3
    refine mon_co (c := c) (v := y c - 20 * (l + 1)) (y := y) hc (fun p hp => by rw [ne _ (by have := hb.2.1; omega) (by have := hb.2.1; omega) (by have := hb.2.1; omega)]; exact hM.1 p hp) hy1 (fun d hd e => ne _ (by omega) (by omega) (by omega)) ?_ (by omega)
    unfold rTrack rCPay
    rw [upd_ne (by omega), upd_eq, rLev_ne hi hj (by omega), e20, hy1 c hc, i32_subm q3]
