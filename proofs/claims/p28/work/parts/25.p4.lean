section P4
variable {st : Nat → Row} {k n mm B : Nat} {g : Row} {H : zH}
theorem ne_succ {x : Int32} : ¬ x = x + 1 := fun h => by
  have : (0 : Int32) = 1 := by grind
  exact absurd this (by decide)
theorem nm1 {a : Nat} (h : a < 600) : ¬ Int32.ofNat a < 0 := i32_nlt (b := 0) (by omega) (by omega) (by omega)
theorem np0 {a : Nat} : a < 600 → 0 ≤ Int32.ofNat a := fun h => by
  rw [show (0 : Int32) = Int32.ofNat 0 from rfl, i32_le_b (by omega) (by omega)]
  omega
theorem w_isOperated {x y : Int32} (hn : 50000 ≤ n) (hB : B ≤ 100000) (hI : Inv B mm g) (hS : SvI B k st) (hC : ST st k g H) : Gd (Mv B) (f_L_isOperated n 0 x y H) := by
  have hw := hI.1
  unfold f_L_isOperated
  refine q_bind (r_va (j := 3) hn hw hC (by omega)) ?_
  rw [nv3 hw]
  rcases next_co hw with ⟨h3, hnc⟩ | ⟨h3, c, home, S, hc, hnc, ho, hco, hS2⟩
  · refine q_t h3 ?_
    exact q_b2 (w_op_st0 hn hw hC hnc) (q_t rfl (gd_end ⟨rfl, _, _, _, _, hC, inv_mono hI (by omega), svi_mono hS (by omega)⟩))
  · refine q_f (by rw [h3]; decide) ?_
    refine q_bind (r_va (j := 4) hn hw hC (by omega)) ?_
    rw [nv4, hnc]
    obtain ⟨r34, hr34, e34⟩ := low_any (n := n) (m := 3) (v := x) (h := H) (by omega) (by omega)
    refine q_bind e34 ?_
    refine q_letk (fun K => ∀ st g k H, Inv B mm g → SvI B k st → ST st k g H → nextC g = Int32.ofNat c → g (34 + 7 * c) = 1 → g 3 = 1 → Gd (Mv B) (K H)) ?_ (fun K hK => ?_)
    · clear hS2 hco ho hnc h3 hw hC hS hI e34 hr34
      intro st g k H hI hS hC hnc ho h3
      have hw := hI.1
      have hL := hw.2.2.2
      have hm := hw.1.2.1
      obtain ⟨hco, h2⟩ := open_ok hw.2.2.1 hc ho
      obtain ⟨r124, hr, e124⟩ := low_any (n := n) (m := 3) (v := x >>> ((2 : Int32) &&& 31)) (h := H) (by omega) (by omega)
      refine q_bind e124 ?_
      refine q_letk (fun K => ∀ (s : Int32) (H : zH), (s = -1 ∨ ∃ a b, a < 8 ∧ b < 8 ∧ s = Int32.ofNat (10 * a + b)) → ST st k g H → Gd (Mv B) (K s H)) ?_ (fun K hK => ?_)
      · intro s H2 hs hC2
        have huv : ∃ u v, ((u = -1 ∧ v = -1) ∨ ∃ a b, a < 8 ∧ b < 8 ∧ u = Int32.ofNat a ∧ v = Int32.ofNat b) ∧ ((0 ≤ s ∧ s / 10 = u ∧ zrem s 10 = v) ∨ (¬ 0 ≤ s ∧ u = -1 ∧ v = -1)) := by
          rcases hs with rfl | ⟨a, b, ha, hb, rfl⟩
          · exact ⟨_, _, Or.inl ⟨rfl, rfl⟩, Or.inr ⟨by decide, rfl, rfl⟩⟩
          · obtain ⟨d1, d2⟩ := d10 a ha b hb
            exact ⟨_, _, Or.inr ⟨a, b, ha, hb, rfl, rfl⟩, Or.inl ⟨np0 (by omega), d1, d2⟩⟩
        obtain ⟨u, v, huv, hsv⟩ := huv
        refine q_letk (fun K => Gd (Mv B) (K u)) ?_ (fun K hK => ?_)
        rotate_left
        · rcases hsv with ⟨q, q1, -⟩ | ⟨q, q1, -⟩
          · exact q_t q (by rw [q1]; exact hK)
          · exact q_f q (by rw [← q1]; exact hK)
        refine q_letk (fun K => Gd (Mv B) (K v)) ?_ (fun K hK => ?_)
        rotate_left
        · rcases hsv with ⟨q, -, q1⟩ | ⟨q, -, q1⟩
          · exact q_t q (by rw [q1]; exact hK)
          · exact q_f q (by rw [← q1]; exact hK)
        clear hsv hs
        obtain ⟨r209, hr2, e209⟩ := low_any (n := n) (m := 2) (v := x >>> ((5 : Int32) &&& 31)) (h := H2) (by omega) (by omega)
        refine q_bind e209 ?_
        refine q_letk (fun K => ∀ z : Int32, (z = 1 ∨ z = 0) → Gd (Mv B) (K z)) (fun z hz => ?_) (fun K hK => ?_)
        rotate_left
        · by_cases q : Int32.ofNat r209 = 0
          · exact q_t q (hK 1 (Or.inl rfl))
          · exact q_f q (hK 0 (Or.inr rfl))
        have hu0 : (u = -1 ∧ v = -1 ∧ u < 0 ∧ ¬ 0 ≤ u) ∨ ((∃ a b, a < 8 ∧ b < 8 ∧ u = Int32.ofNat a ∧ v = Int32.ofNat b) ∧ ¬ u < 0 ∧ 0 ≤ u) := by
          rcases huv with ⟨q1, q2⟩ | ⟨a, b, ha, hb, q1, q2⟩
          · exact Or.inl ⟨q1, q2, by rw [q1]; decide, by rw [q1]; decide⟩
          · exact Or.inr ⟨⟨a, b, ha, hb, q1, q2⟩, by rw [q1]; exact nm1 (by omega), by rw [q1]; exact np0 (by omega)⟩
        refine q_letk (fun K => ∀ sh H, (((u = -1 ∨ u = v) ∧ sh = coD g c 7) ∨ ∃ a b, a < 8 ∧ b < 8 ∧ a ≠ b ∧ u = Int32.ofNat a ∧ v = Int32.ofNat b ∧ sh = wtV g c a b) → ST st k g H → Gd (Mv B) (K sh H)) (fun sh H3 hsh hC3 => ?_) (fun K hK => ?_)
        rotate_left
        · refine q_letk (fun K => (u = -1 ∨ u = v) → Gd (Mv B) K) (fun hq => q_b2e (r_co (j := 7) hn hw hC2 hc (by omega)) fun w hw' => hK _ _ (Or.inl ⟨hq, rfl⟩) hw') (fun K hK' => ?_)
          rcases hu0 with ⟨q1, -, q3, -⟩ | ⟨⟨a, b, ha, hb, q1, q2⟩, q3, -⟩
          · exact q_t q3 (hK' (Or.inl q1))
          · refine q_f q3 ?_
            by_cases q : u = v
            · exact q_t q (hK' (Or.inr q))
            · have hab : a ≠ b := fun e => q (by rw [q1, q2, e])
              refine q_f q ?_
              rw [q1, q2]
              exact q_b2e (r_wt hn hw hC2 hc ha hb hab) fun w hw' => hK _ _ (Or.inr ⟨a, b, ha, hb, hab, q1, q2, rfl⟩) hw'
        refine q_letk (fun K => ∀ lv, ((u = -1 ∧ lv = 0) ∨ ∃ a b, a < 8 ∧ b < 8 ∧ u = Int32.ofNat a ∧ v = Int32.ofNat b ∧ lv = g (62 + 8 * a + b)) → Gd (Mv B) (K lv)) (fun lv hlv => ?_) (fun K hK => ?_)
        rotate_left
        · rcases hu0 with ⟨q1, -, -, q3⟩ | ⟨⟨a, b, ha, hb, q1, q2⟩, -, q3⟩
          · exact q_f q3 (hK _ (Or.inl ⟨q1, rfl⟩))
          · exact q_t q3 (q_bind (by rw [q1, q2]; exact r_tr hC3 ha hb) (hK _ (Or.inr ⟨a, b, ha, hb, q1, q2, rfl⟩)))
        refine q_b2e (r_co (j := 2) hn hw hC3 hc (by omega)) fun H4 hC4 => ?_
        refine q_b2e (r_co (j := 4) hn hw hC4 hc (by omega)) fun H5 hC5 => ?_
        refine q_b2e (r_co (j := 3) hn hw hC5 hc (by omega)) fun H6 hC6 => ?_
        refine q_b2e (r_co (j := 5) hn hw hC6 hc (by omega)) fun H7 hC7 => ?_
        rw [ca_2 ho, ca_4 ho, ca_3 ho, ca_5 ho]
        refine q_bind (r_va (j := 9) hn hw hC7 (by omega)) (q_bind (r_va (j := 5) hn hw hC7 (by omega)) ?_)
        rw [nv9, nv5]
        refine q_fix3 (fun j a16 a17 a18 => ∃ i, i ≤ mm ∧ j = mm - i ∧ a16 = zseq (fun p s => s + g (14 + p)) 0 i ∧ a17 = zseq (fun p s => s + g (18 + 4 * p + c)) 0 i ∧ a18 = Int32.ofNat i) ?_ n mm _ _ _ ⟨0, by omega, rfl, rfl, rfl, rfl⟩ (by omega)
        intro rec330 j a16 a17 a18 ih330 hp
        obtain ⟨i, hi, rfl, rfl, rfl, rfl⟩ := hp
        refine q_bind (r_va (j := 0) hn hw hC7 (by omega)) ?_
        rw [nv0, hw.1.2.2.1]
        by_cases him : i = mm
        rotate_left
        · have hi2 : i < mm := by omega
          refine q_f (i32_nle (by omega) (by omega) hi2) ?_
          refine q_bind (r_pl0 hn hw hC7 hi2) (q_let ?_)
          refine q_bind (r_plh hn hw hC7 hi2 hc) (q_let (q_let ?_))
          refine ih330 (mm - (i + 1)) _ _ _ (by omega) ⟨i + 1, by omega, rfl, rfl, rfl, ?_⟩
          exact i32_succ i
        subst i
        refine q_t (Int32.le_refl _) ?_
        rcases op_told hn hB hI hS hC7 hc hnc ho h3 (z := z) huv with ⟨H8, e8, hC8, q1, q2⟩ | ⟨H8, e8, hC8, q2⟩ | ⟨H8, X, g', laid, hX, e8, hC8, hI8, hF, hU⟩
        · refine q_b2 e8 (q_f (by decide) (q_let (q_f q2 (q_let (q_t q1 ?_)))))
          exact gd_end ⟨rfl, _, _, _, _, hC8, inv_mono hI (by omega), svi_mono hS (by omega)⟩
        · have hend : Gd (Mv B) (some ((1 : Int32), H8)) := gd_end ⟨rfl, _, _, _, _, hC8, inv_mono hI (by omega), svi_mono hS (by omega)⟩
          refine q_b2 e8 (q_f (by decide) (q_let (q_f q2 (q_letk (fun K => Gd (Mv B) K) hend (fun K hK => ?_)))))
          by_cases q3 : u = v
          · exact q_t q3 hK
          · refine q_f q3 ?_
            by_cases q4 : lv = 2
            · exact q_t q4 hK
            · refine q_f q4 ?_
              by_cases q5 : g (36 + 7 * c) < 20 * (lv + 1)
              · exact q_t q5 hK
              · exact q_f q5 (q_t rfl hK)
        · have hend : ∀ H9, ST (pushSt st k g) (pushK k) g' H9 → Gd (Mv B) (some ((1 : Int32), H9)) := fun H9 h9 => gd_end ⟨rfl, _, _, _, _, h9, inv_mono hI8 (by omega), svi_mono (svi_push hS hI) (by omega)⟩
          have hw8 := hI8.1
          have hlv2 : (u = -1 ∧ u < 0 ∧ ¬ 0 ≤ u ∧ laid = 0 ∧ Int32.ofNat X = sh) ∨ (¬ u < 0 ∧ 0 ≤ u ∧ laid = 20 * (lv + 1) ∧ Int32.ofNat X = sh ∧ f_L_tracks' n 0 u v H8 = some (lv + 1)) := by
            rcases hU with ⟨q1, q2, q3, q4⟩ | ⟨a, b, ha, hb, hab, q1, q2, q3, q4, q5⟩
            · refine Or.inl ⟨q1, by rw [q1]; decide, by rw [q1]; decide, q3, ?_⟩
              rcases hsh with ⟨-, e⟩ | ⟨a', b', ha', -, -, e, -⟩
              · rw [q4, e]
              · exact absurd (e.symm.trans q1) (ofNat_ne_neg (by omega))
            · have hun : ¬ u = -1 := fun e => ofNat_ne_neg (by omega) (q1.symm.trans e)
              refine Or.inr ⟨by rw [q1]; exact nm1 (by omega), by rw [q1]; exact np0 (by omega), ?_, ?_, ?_⟩
              · rcases hlv with ⟨e, -⟩ | ⟨a', b', ha', hb', e1, e2, e3⟩
                · exact absurd e hun
                · have ea := ofNat_inj (by omega) (by omega) (e1.symm.trans q1)
                  have eb := ofNat_inj (by omega) (by omega) (e2.symm.trans q2)
                  subst ea eb
                  rw [q3, e3]
              · rcases hsh with ⟨e | e, -⟩ | ⟨a', b', ha', hb', -, e1, e2, e3⟩
                · exact absurd e hun
                · exact absurd (ofNat_inj (by omega) (by omega) (q1.symm.trans (e.trans q2))) hab
                · have ea := ofNat_inj (by omega) (by omega) (e1.symm.trans q1)
                  have eb := ofNat_inj (by omega) (by omega) (e2.symm.trans q2)
                  subst ea eb
                  rw [q4, e3]
              · rcases hlv with ⟨e, -⟩ | ⟨a', b', ha', hb', e1, e2, e3⟩
                · exact absurd e hun
                · have ea := ofNat_inj (by omega) (by omega) (e1.symm.trans q1)
                  have eb := ofNat_inj (by omega) (by omega) (e2.symm.trans q2)
                  subst ea eb
                  rw [q1, q2, r_tr hC8 ha hb, q5, e3]
          obtain ⟨fP, fH, fL⟩ := hF
          refine q_b2 e8 (q_t (np0 (by omega)) ?_)
          refine q_letk (fun K => Gd (Mv B) (K laid)) ?_ (fun K hK => ?_)
          rotate_left
          · rcases hlv2 with ⟨-, -, q, q1, -⟩ | ⟨-, q, q1, -⟩
            · exact q_f q (by rw [← q1]; exact hK)
            · exact q_t q (by rw [← q1]; exact hK)
          refine q_letk (fun K => Gd (Mv B) (K (keptV X (decide (z ≠ 0))))) ?_ (fun K hK => ?_)
          rotate_left
          · rcases hz with rfl | rfl
            · exact q_f (by decide) hK
            · exact q_t rfl hK
          refine q_let (q_let ?_)
          refine q_letk (fun K => Gd (Mv B) (K 1)) ?_ (fun K hK => ?_)
          rotate_left
          · refine q_let (q_t ?_ ?_)
            · rcases hlv2 with ⟨-, -, -, -, q⟩ | ⟨-, -, -, q, -⟩
              · exact q
              · exact q
            refine q_letk (fun K => Gd (Mv B) K) ?_ (fun K2 hK2 => ?_)
            · refine q_bind (r_va (j := 3) hn hw8 hC8 (by omega)) (q_letk (fun K => Gd (Mv B) K) hK (fun K3 hK3 => ?_))
              rw [nv3 hw8]
              rcases fP with ⟨p1, p2⟩ | ⟨p1, p2, p3⟩
              · exact q_t p1 (q_bind (r_va (j := 5) hn hw8 hC8 (by omega)) (by rw [nv5]; exact q_t p2 hK3))
              · refine q_f (by rw [p1]; decide) (q_bind (r_va (j := 5) hn hw8 hC8 (by omega)) ?_)
                rw [nv5]
                refine q_t p2 (q_bind (r_va (j := 2) hn hw8 hC8 (by omega)) ?_)
                rw [nv2]
                exact q_t p3 hK3
            · rcases hlv2 with ⟨-, q, -, -, -⟩ | ⟨q, -, -, -, q1⟩
              · exact q_t q hK2
              · exact q_f q (q_bind q1 (q_t rfl hK2))
          by_cases hlt : g (36 + 7 * c) - laid + keptV X (decide (z ≠ 0)) < 5 * g (38 + 7 * c)
          · refine q_t hlt (q_let (q_f (by decide) (q_bind (r_va (j := 9) hn hw8 hC8 (by omega)) (q_let ?_))))
            rw [nv9]
            rcases fL hlt with ⟨p1, p2, p3⟩ | ⟨p1, p2⟩
            · refine q_t p1 (q_b2e (r_co (j := 2) hn hw8 hC8 hc (by omega)) fun H9 h9 => ?_)
              rw [ca_2 p2]
              exact q_t p3 (hend H9 h9)
            · refine q_f (fun e => ne_succ (e.symm.trans p1)) (q_bind (r_va (j := 9) hn hw8 hC8 (by omega)) ?_)
              rw [nv9]
              refine q_t p1 (q_b2e (r_co (j := 0) hn hw8 hC8 hc (by omega)) fun H9 h9 => ?_)
              rw [ca_00 p2]
              exact q_t rfl (hend H9 h9)
          · obtain ⟨p7, p34, p36, p37, p40, p39, p14⟩ := fH hlt
            have hsum := sum_pay p14 mm (Nat.le_refl mm)
            refine q_f hlt ?_
            refine q_fix2 (fun j a22 a23 => ∃ q, q ≤ mm ∧ j = mm - q ∧ a22 = zseq (fun p s => s + g' (14 + p)) 0 q ∧ a23 = Int32.ofNat q) ?_ n mm _ _ ⟨0, by omega, rfl, rfl, rfl⟩ (by omega)
            intro rec560 j a22 a23 ih560 hp
            obtain ⟨q, hq, rfl, rfl, rfl⟩ := hp
            refine q_bind (r_va (j := 0) hn hw8 hC8 (by omega)) ?_
            rw [nv0, hw8.1.2.2.1]
            by_cases hqi : q = mm
            rotate_left
            · have hq2 : q < mm := by omega
              refine q_f (i32_nle (by omega) (by omega) hq2) ?_
              refine q_bind (r_pl0 hn hw8 hC8 hq2) (q_let (q_let ?_))
              refine ih560 (mm - (q + 1)) _ _ (by omega) ⟨q + 1, by omega, rfl, rfl, ?_⟩
              exact i32_succ q
            subst q
            refine q_t (Int32.le_refl _) ?_
            refine q_letk (fun K => Gd (Mv B) (K (20 + 10 * g' (37 + 7 * c)))) ?_ (fun K hK => ?_)
            rotate_left
            · refine q_letk (fun K => ¬ (decide (z ≠ 0) = true ∧ ¬ Int32.ofNat X ≤ 0) → Gd (Mv B) K) (fun hq => ?_) (fun K2 hK2 => ?_)
              · rw [p37] at hK
                unfold prV at hK
                rw [if_neg hq] at hK
                by_cases c2 : 20 + 10 * g (37 + 7 * c) ≤ 20
                · rw [if_pos c2] at hK
                  exact q_t c2 hK
                · rw [if_neg c2] at hK
                  exact q_f c2 hK
              · rcases hz with rfl | rfl
                · refine q_f (by decide) ?_
                  by_cases c2 : Int32.ofNat X ≤ 0
                  · exact q_t c2 (hK2 fun q => q.2 c2)
                  · refine q_f c2 (q_bind least_eq ?_)
                    rw [p37] at hK
                    unfold prV at hK
                    rw [if_pos (show decide ((1 : Int32) ≠ 0) = true ∧ ¬ Int32.ofNat X ≤ 0 from ⟨rfl, c2⟩)] at hK
                    exact hK
                · exact q_t rfl (hK2 fun q => by cases q.1)
            refine q_let (q_f (by decide) (q_bind (r_va (j := 9) hn hw8 hC8 (by omega)) ?_))
            rw [nv9]
            refine q_t p7 (q_b2e (r_co (j := 2) hn hw8 hC8 hc (by omega)) fun H9 h9 => ?_)
            rw [ca_2 p34]
            refine q_t p36 (q_b2e (r_co (j := 3) hn hw8 h9 hc (by omega)) fun H10 h10 => ?_)
            rw [ca_3 p34]
            refine q_t rfl (q_b2e (r_co (j := 8) hn hw8 h10 hc (by omega)) fun H11 h11 => ?_)
            rw [ca_8 p34]
            refine q_t p40 (q_b2e (r_co (j := 5) hn hw8 h11 hc (by omega)) fun H12 h12 => ?_)
            rw [ca_5 p34]
            refine q_t p39 ?_
            refine q_letk (fun K => Gd (Mv B) (K (if decide (z ≠ 0) then zseq (fun p s => s + g (18 + 4 * p + c)) 0 mm * (Int32.ofNat X / 10) else 0))) ?_ (fun K hK => ?_)
            · exact q_t hsum (hend _ h12)
            · rcases hz with rfl | rfl
              · exact q_f (by decide) hK
              · exact q_t rfl hK
      · by_cases q : Int32.ofNat r124 = 0
        · exact q_t q (hK _ _ (Or.inl rfl) hC)
        · refine q_f q (q_bind e124 ?_)
          by_cases q1 : Int32.ofNat r124 = 1
          · refine q_t q1 (q_b2e (r_bt hn hw hC hc) fun w hw' => hK _ _ ?_ hw')
            unfold btV
            rw [if_neg (by rw [ho]; decide)]
            rcases btS_spec hL (c := c) (home := hmN g c) hco.2.2.2.1 hco.2.2.2.2 with ⟨e, -⟩ | ⟨a, b, hab, hb, -, e, -⟩
            · exact Or.inl e
            · exact Or.inr ⟨a, b, by omega, hb, e⟩
          · refine q_f q1 ?_
            obtain ⟨a, ha, ea⟩ := low_any (n := n) (m := 8) (v := y) (h := H) (by omega) (by omega)
            obtain ⟨b, hb, eb⟩ := low_any (n := n) (m := 8) (v := y >>> ((3 : Int32) &&& 31)) (h := H) (by omega) (by omega)
            refine q_bind ea (q_bind eb (hK _ _ (Or.inr ⟨a, b, ha, hb, ?_⟩) hC))
            rw [show (10 : Int32) = Int32.ofNat 10 from rfl, i32_mulm, i32_addn]
    · by_cases q : Int32.ofNat r34 = 0
      rotate_left
      · exact q_f q (hK _ _ _ _ hI hS hC hnc ho h3)
      refine q_t q (q_b2e (r_co (j := 4) hn hw hC hc (by omega)) fun H1 hC1 => ?_)
      refine q_b2e (r_co (j := 2) hn hw hC1 hc (by omega)) fun H2 hC2 => ?_
      rw [ca_4 ho, ca_2 ho]
      by_cases hE : cExt g
      rotate_left
      · exact q_b2 (w_ext_st hw hC2 hE) (q_t (by decide) (hK _ _ _ _ hI hS hC2 hnc ho h3))
      obtain ⟨H3, e3, hC3⟩ := w_ext hn hS.1 hw hC2 hnc hc hE
      obtain ⟨-, -, hE3, hE4⟩ := hE
      rw [hnc, nn_of (by omega)] at hE3 hE4
      have hS5 : S < 5 := by
        rw [hco.2.1, show (5 : Int32) = Int32.ofNat 5 from rfl, i32_le_of (by omega) (by have := hco.2.2.2.2; omega)] at hE3
        omega
      have hv1 : ∀ i, i ≠ 36 + 7 * c → i ≠ 6 → i ≠ 38 + 7 * c → i ≠ 8 → extC g c i = g i := fun i a b d e => extC_ne a b d e
      obtain ⟨wa, wb⟩ := ext_wf hw hI.2.1.1 hB hc ho hco hS2 hS5 hE4
      have hIe : Inv B mm (extC g c) := ⟨wa, ⟨wb, zw_ext ho hc hI.2.1.2⟩, x_ext hw hI.2.2.1 hc, ph_eq hI.2.2.2 (hv1 5 (by omega) (by omega) (by omega) (by omega))⟩
      have hoe : extC g c (34 + 7 * c) = 1 := (hv1 _ (by omega) (by omega) (by omega) (by omega)).trans ho
      have h3e : extC g c 3 = 1 := (hv1 3 (by omega) (by omega) (by omega) (by omega)).trans h3
      have hnce : nextC (extC g c) = Int32.ofNat c := by
        rw [← hnc]
        obtain ⟨len, pl, o, hlen, -, -, e4, -, q⟩ := hw.2.1
        exact nextC_congr (hv1 3 (by omega) (by omega) (by omega) (by omega)) (hv1 9 (by omega) (by omega) (by omega) (by omega)) (hv1 4 (by omega) (by omega) (by omega) (by omega)) (fun i hi => hv1 _ (by omega) (by omega) (by omega) (by omega)) ⟨pl, by have := (q h3).1; omega, e4⟩
      have h36e : extC g c (36 + 7 * c) = g (36 + 7 * c) - 60 := by
        unfold extC rCPay
        rw [upd_ne (by omega), upd_ne (by omega), upd_ne (by omega), upd_eq]
      have h8e : extC g c 8 = 1 := by
        unfold extC
        rw [upd_eq]
      refine q_b2 e3 (q_f ?_ ?_)
      · rw [hco.2.1, i32_succ]
        exact i32_nle (b := 0) (by omega) (by omega) (by omega)
      refine q_letk (fun K => ∀ h, ST (pushSt st k g) (pushK k) (extC g c) h → Gd (Mv B) (K 1 h)) (fun h hh => q_f (by decide) (hK _ _ _ _ hIe (svi_push hS hI) hh hnce hoe h3e)) (fun K1 hK1 => q_let (q_t rfl (q_f hE4 ?_)))
      refine q_b2e (r_co (j := 2) hn wa hC3 hc (by omega)) fun H4 hC4 => ?_
      rw [ca_2 hoe]
      refine q_t h36e (q_b2 (w_ext_st wa hC4 (fun q => ?_)) (q_t rfl (hK1 _ hC4)))
      have := q.2.1
      rw [h8e] at this
      exact absurd this (by decide)
end P4
