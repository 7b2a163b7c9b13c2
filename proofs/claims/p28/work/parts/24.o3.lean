theorem d10 : ∀ a, a < 8 → ∀ b, b < 8 → Int32.ofNat (10 * a + b) / 10 = Int32.ofNat a ∧ zrem (Int32.ofNat (10 * a + b)) 10 = Int32.ofNat b := by decide +kernel
section O3
variable {st : Nat → Row} {k n mm : Nat} {g : Row} {H : zH}
theorem wt_shut {c i j : Nat} (ho : g (34 + 7 * c) = 0) : wtV g c i j = -1 := if_pos ho
theorem wt_lo {c i j : Nat} (hL : LandW g) (ho : g (34 + 7 * c) = 1) (h1 : 1 ≤ spN g c) (h5 : spN g c ≤ 5) (hi : i < 8) (hj : j < 8) (hij : i ≠ j) (hl : lev g i j < 2) : wtV g c i j = Int32.ofNat (rU g (hmN g c) (spN g c) i j) := by
  unfold wtV
  rw [if_neg (by rw [ho]; decide), if_pos, (incUp_eq hL h1 h5 hi hj hij hl).1]
  rw [(lev_eq hL hi hj).1, show (2 : Int32) = Int32.ofNat 2 from rfl, i32_lt_b (by omega) (by omega)]
  exact hl
theorem wt_hi {c i j : Nat} (hL : LandW g) (ho : g (34 + 7 * c) = 1) (hi : i < 8) (hj : j < 8) (hl : lev g i j = 2) : wtV g c i j = -1 := by
  unfold wtV
  rw [if_neg (by rw [ho]; decide), if_neg]
  rw [(lev_eq hL hi hj).1, hl]
  decide
theorem lay_lev {c home i j : Nat} (hL : LandW g) (hi : i < 8) (hj : j < 8) (h : layB g c home i j = true) : lev g i j < 2 ∧ i ≠ j ∧ ¬ g (36 + 7 * c) < 20 * (Int32.ofNat (lev g i j) + 1) := by
  obtain ⟨l1, l2, l3, -⟩ := layB_iff.mp h
  have := (lev_eq hL hi hj).2
  rw [(lev_eq hL hi hj).1] at l2 l3
  rw [show (2 : Int32) = Int32.ofNat 2 from rfl, i32_le_b (by omega) (by omega)] at l2
  exact ⟨by omega, l1, Int32.not_lt.mpr l3⟩
theorem w_isForetold {c : Nat} (hn : 50000 ≤ n) (hw : WF g mm) (hC : ST st k g H) (hc : c < 4) : Gd (One st k g) (f_L_isForetold n 0 (Int32.ofNat c) H) := by
  have hL := hw.2.2.2
  unfold f_L_isForetold
  refine q_b2e (r_co (j := 0) hn hw hC hc (by omega)) (fun Ha ha => ?_)
  rcases open_or hw.2.2.1 hc with ho | ho
  · rw [ca_0 ho]
    refine q_f (by decide) ?_
    obtain ⟨hco, h2⟩ := open_ok hw.2.2.1 hc ho
    obtain ⟨e35, e38, hh8, hs1, hs5⟩ := hco
    obtain ⟨hI, hI4⟩ := incS_eq (home := hmN g c) hL hs1 hs5
    have hlo := fun i j (hi : i < 8) (hj : j < 8) (hij : i ≠ j) (hl : lev g i j < 2) => wt_lo (c := c) hL ho hs1 hs5 hi hj hij hl
    have hge := fun i j (hi : i < 8) (hj : j < 8) (hij : i ≠ j) (hl : lev g i j < 2) => rU_ge (home := hmN g c) hL hs1 hs5 hi hj hij hl
    have hub := fun i j (hi : i < 8) (hj : j < 8) (hij : i ≠ j) (hl : lev g i j < 2) => (incUp_eq (home := hmN g c) hL hs1 hs5 hi hj hij hl).2
    have hcm := fun i j (hi : i < 8) (hj : j < 8) (hij : i ≠ j) => rU_comm (home := hmN g c) (S := spN g c) hL hi hj hij
    have hbt := btS_spec (c := c) (home := hmN g c) hL hs1 hs5
    have e7 := (ca_7 ho).trans hI
    have eb : btV g c = btS g c (hmN g c) (spN g c) := if_neg (by rw [ho]; decide)
    rw [← eb] at hbt
    generalize spN g c = sp at *
    generalize rI g (hmN g c) sp = told at *
    refine q_b2e (r_co (j := 7) hn hw ha hc (by omega)) (fun Hb hb => ?_)
    refine q_b2e (r_bt hn hw hb hc) (fun Hc hc' => ?_)
    rw [e7]
    generalize btV g c = bt at *
    refine q_letk (fun K => ∀ top h', ST st k g h' → ((bt = -1 ∧ ∀ a b, a < b → b < 8 → layB g c (hmN g c) a b = false) ∨ ∃ a b, a < b ∧ b < 8 ∧ layB g c (hmN g c) a b = true ∧ bt = Int32.ofNat (10 * a + b) ∧ top = Int32.ofNat (rU g (hmN g c) sp a b) ∧ ∀ x y, x < y → y < 8 → layB g c (hmN g c) x y = true → rU g (hmN g c) sp x y ≤ rU g (hmN g c) sp a b ∧ (rU g (hmN g c) sp x y < rU g (hmN g c) sp a b ∨ 10 * a + b ≤ 10 * x + y)) → Gd (One st k g) (K top h')) (fun top h' hS' htop => ?_) (fun K hK => ?_)
    · refine q_letk (fun K => ∀ h'', ST st k g h'' → Gd (One st k g) (K 1 h'')) (fun h'' hS'' => ?_) (fun K hK => ?_)
      · refine q_b2e (r_co (j := 1) hn hw hS'' hc (by omega)) (fun Hd hd => ?_)
        rw [ca_1 ho, e35]
        refine q_fix3 (fun j a5 a7 h => ∃ i, i ≤ 64 ∧ j = 64 - i ∧ a5 = 1 ∧ a7 = Int32.ofNat i ∧ ST st k g h) ?_ n 64 _ _ _ ⟨0, by omega, rfl, rfl, rfl, hd⟩ (by omega)
        intro rec j a5 a7 h ih hp
        obtain ⟨i, hi, rfl, rfl, rfl, hS⟩ := hp
        by_cases h64 : i = 64
        · subst h64
          exact q_t (by decide) (q_bind (v := 1) rfl (gd_end ⟨rfl, hS⟩))
        · refine q_f (i32_nle (a := 64) (by omega) (by omega) (by omega)) (q_f (by decide) ?_)
          obtain ⟨d1, d2⟩ := d8 i (by omega)
          rw [d1, d2]
          have ha8 : i / 8 < 8 := by omega
          have hb8 : i % 8 < 8 := by omega
          generalize i / 8 = a at *
          generalize i % 8 = b at *
          refine q_let (q_let ?_)
          refine q_letk (fun K => ∀ h', ST st k g h' → Gd (One st k g) (K 1 h')) (fun h' hS' => q_let (ih (64 - (i + 1)) _ _ _ (by omega) ⟨i + 1, by omega, rfl, rfl, i32_succ i, hS'⟩)) (fun K hK334 => ?_)
          by_cases hab : b ≤ a
          · exact q_t ((i32_le_b (by omega) (by omega)).mpr hab) (hK334 _ hS)
          · refine q_f (i32_nle (by omega) (by omega) (by omega)) (q_bind (r_trn hL hS ha8 hb8) ?_)
            refine q_b2e (r_wt hn hw hS hc ha8 hb8 (by omega)) (fun He he => ?_)
            have l2 := (lev_eq hL ha8 hb8).2
            have lsy := lev_sym hL ha8 hb8
            refine q_letk (fun K => ∀ s h', ST st k g h' → (s = 0 ∨ (s = 1 ∧ layB g c (hmN g c) a b = true)) → Gd (One st k g) (K s h')) (fun s h' hS' hs => ?_) (fun K hK255 => ?_)
            · refine q_b2e (r_wt hn hw hS' hc hb8 ha8 (by omega)) (fun Hf hf => ?_)
              refine q_letk (fun K => Gd (One st k g) (K 1)) (hK334 _ hf) (fun K hK332 => ?_)
              refine q_let ?_
              have hsame : wtV g c a b = wtV g c b a := by
                by_cases lv2 : lev g a b = 2
                · rw [wt_hi hL ho ha8 hb8 lv2, wt_hi hL ho hb8 ha8 (by omega)]
                · rw [hlo a b ha8 hb8 (by omega) (by omega), hlo b a hb8 ha8 (by omega) (by omega), hcm a b ha8 hb8 (by omega)]
              refine q_t hsame ?_
              refine q_letk (fun K => Gd (One st k g) K) ?_ (fun K hK292 => ?_)
              · refine q_let ?_
                rcases hs with rfl | ⟨rfl, hlay⟩
                · exact q_t rfl hK332
                · obtain ⟨y1, y2, -⟩ := lay_lev hL ha8 hb8 hlay
                  have eab := hlo a b ha8 hb8 y2 y1
                  have uab := hub a b ha8 hb8 y2 y1
                  rcases htop with ⟨-, hno⟩ | ⟨ta, tb, t1, t2, t3, eb1, et, hmx⟩
                  · rw [hno a b (by omega) hb8] at hlay
                    exact absurd hlay (by decide)
                  · obtain ⟨z1, z2, -⟩ := lay_lev hL (show ta < 8 by omega) t2 t3
                    have utt := hub ta tb (by omega) t2 z2 z1
                    obtain ⟨m1, m2⟩ := hmx a b (by omega) hb8 hlay
                    refine q_f (by decide) (q_f (by rw [eb1]; exact i32_nlt (b := 0) (by omega) (by omega) (by omega)) (q_f (by rw [et, eab]; exact i32_nlt (by omega) (by omega) m1) ?_))
                    by_cases q : rU g (hmN g c) sp a b < rU g (hmN g c) sp ta tb
                    · exact q_t (by rw [et, eab, i32_lt_b (by omega) (by omega)]; exact q) hK332
                    · refine q_f (by rw [et, eab]; exact i32_nlt (by omega) (by omega) (by omega)) (q_f ?_ hK332)
                      rw [eb1, show (10 : Int32) = Int32.ofNat 10 from rfl, i32_mulm, i32_addn]
                      exact i32_nlt (by omega) (by omega) (by omega)
              · by_cases lv2 : lev g a b = 2
                · exact q_t (by rw [lv2]; rfl) (q_t (wt_hi hL ho ha8 hb8 lv2) hK292)
                · refine q_f (i32_ne (b := 2) (by omega) (by omega) lv2) (q_f ?_ hK292)
                  rw [hlo a b ha8 hb8 (by omega) (by omega)]
                  have uab := hub a b ha8 hb8 (by omega) (by omega)
                  exact i32_nlt (by omega) (by omega) (hge a b ha8 hb8 (by omega) (by omega))
            · refine q_let ?_
              by_cases lv2 : lev g a b = 2
              · exact q_t (by rw [lv2]; decide) (hK255 0 _ he (Or.inl rfl))
              · refine q_f (i32_nle (a := 2) (by omega) (by omega) (by omega)) ?_
                refine q_b2e (r_co (j := 2) hn hw he hc (by omega)) (fun Hg hg => ?_)
                rw [ca_2 ho]
                by_cases cs : g (36 + 7 * c) < 20 * (Int32.ofNat (lev g a b) + 1)
                · exact q_t cs (hK255 0 _ hg (Or.inl rfl))
                · have hlay : (lvl g (hmN g c) 7 a ≠ 8 ∨ lvl g (hmN g c) 7 b ≠ 8) → layB g c (hmN g c) a b = true := fun q => layB_iff.mpr ⟨by omega, by rw [(lev_eq hL ha8 hb8).1, show (2 : Int32) = Int32.ofNat 2 from rfl]; exact i32_nle (by omega) (by omega) (by omega), by rw [(lev_eq hL ha8 hb8).1]; exact Int32.not_lt.mp cs, q⟩
                  have hh0 := lvl_home (g := g) (home := hmN g c) 7
                  have hedge : ∀ t, t < 8 → lev g (hmN g c) t ≠ 0 → lvl g (hmN g c) 7 t ≠ 8 := fun t ht q => by
                    have := lvl_edge (g := g) (home := hmN g c) (a := hmN g c) (b := t) hh8 (by show ¬ g _ ≤ 0; rw [lev_pos hL hh8 ht]; exact q)
                    omega
                  refine q_f cs (q_let ?_)
                  by_cases q1 : a = hmN g c
                  · exact q_t (by rw [q1]) (hK255 1 _ hg (Or.inr ⟨rfl, hlay (Or.inl (by rw [q1, hh0]; decide))⟩))
                  · refine q_f (i32_ne (by omega) (by omega) q1) ?_
                    by_cases q2 : b = hmN g c
                    · exact q_t (by rw [q2]) (hK255 1 _ hg (Or.inr ⟨rfl, hlay (Or.inr (by rw [q2, hh0]; decide))⟩))
                    · refine q_f (i32_ne (by omega) (by omega) q2) (q_bind (r_trn hL hg hh8 ha8) ?_)
                      have la := (lev_eq hL hh8 ha8).2
                      have lb := (lev_eq hL hh8 hb8).2
                      by_cases q3 : lev g (hmN g c) a = 0
                      · refine q_f (by rw [q3]; decide) (q_bind (r_trn hL hg hh8 hb8) ?_)
                        by_cases q4 : lev g (hmN g c) b = 0
                        · exact q_t (by rw [q4]; decide) (hK255 0 _ hg (Or.inl rfl))
                        · exact q_f (i32_nle (b := 0) (by omega) (by omega) (by omega)) (hK255 1 _ hg (Or.inr ⟨rfl, hlay (Or.inr (hedge b hb8 q4))⟩))
                      · exact q_t ((i32_lt_b (a := 0) (by omega) (by omega)).mpr (by omega)) (hK255 1 _ hg (Or.inr ⟨rfl, hlay (Or.inl (hedge a ha8 q3))⟩))
      · refine q_let ?_
        rcases htop with ⟨e, -⟩ | ⟨ta, tb, t1, t2, t3, eb1, et, hmx⟩
        · exact q_t (by rw [e]; decide) (hK _ hS')
        · refine q_f (by rw [eb1]; exact i32_nlt (b := 0) (by omega) (by omega) (by omega)) (q_let ?_)
          obtain ⟨w1, w2⟩ := d10 ta (by omega) tb t2
          obtain ⟨z1, z2, z3⟩ := lay_lev hL (show ta < 8 by omega) t2 t3
          rw [eb1, w1, w2]
          refine q_f (i32_nle (by omega) (by omega) t1) (q_bind (r_trn hL hS' (by omega) t2) (q_f (i32_nle (a := 2) (by omega) (by omega) z1) ?_))
          refine q_b2e (r_co (j := 2) hn hw hS' hc (by omega)) (fun Hg hg => ?_)
          rw [ca_2 ho]
          refine q_bind (r_trn hL hg (by omega) t2) (q_f ?_ (hK _ hg))
          rw [Int32.add_comm 1]
          exact z3
    · rcases hbt with ⟨eb0, hno⟩ | ⟨ta, tb, t1, t2, t3, eb1, hmx⟩
      · exact q_f (by rw [eb0]; decide) (hK 0 _ hc' (Or.inl ⟨eb0, hno⟩))
      · obtain ⟨w1, w2⟩ := d10 ta (by omega) tb t2
        obtain ⟨z1, z2, z3⟩ := lay_lev hL (show ta < 8 by omega) t2 t3
        refine q_t (by rw [eb1]; exact (i32_le_b (a := 0) (by omega) (by omega)).mpr (Nat.zero_le _)) ?_
        rw [eb1, w1, w2]
        refine q_b2e (r_wt hn hw hc' hc (by omega) t2 z2) (fun Hd hd => ?_)
        rw [hlo ta tb (by omega) t2 z2 z1]
        exact hK _ _ hd (Or.inr ⟨ta, tb, t1, t2, t3, eb1, rfl, hmx⟩)
  · rw [ca_00 ho]
    refine q_t rfl ?_
    refine q_b2e (r_wt (i := 0) (j := 1) hn hw ha hc (by omega) (by omega) (by omega)) (fun Hb hb => ?_)
    exact q_t (wt_shut ho) (gd_end ⟨rfl, hb⟩)
end O3
