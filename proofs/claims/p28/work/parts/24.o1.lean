theorem i32_nlt {a b : Nat} (ha : a < 2147483648) (hb : b < 2147483648) (h : b ≤ a) : ¬ Int32.ofNat a < Int32.ofNat b := by
  rw [i32_lt_b ha hb]
  omega
theorem i32_nle {a b : Nat} (ha : a < 2147483648) (hb : b < 2147483648) (h : b < a) : ¬ Int32.ofNat a ≤ Int32.ofNat b := by
  rw [i32_le_b ha hb]
  omega
theorem i32_ne {a b : Nat} (ha : a < 2147483648) (hb : b < 2147483648) (h : a ≠ b) : ¬ Int32.ofNat a = Int32.ofNat b := fun q => h (ofNat_inj ha hb q)
section O1
variable {st : Nat → Row} {k n mm : Nat} {g : Row} {H : zH}
theorem w_isRoute {c : Nat} (hn : 50000 ≤ n) (hw : WF g mm) (hC : ST st k g H) (hc : c < 4) (ho : g (34 + 7 * c) = 1) : Gd (One st k g) (f_L_isRoute n 0 (Int32.ofNat c) H) := by
  obtain ⟨hco, h2⟩ := open_ok hw.2.2.1 hc ho
  have hL := hw.2.2.2
  obtain ⟨e35, e38, hh8, hs1, hs5⟩ := hco
  have hB := best_spec (home := hmN g c) hL hs1 hs5
  have hI := (incS_eq (home := hmN g c) hL hs1 hs5).1
  have hat : ∀ Q t P, (bestOf g (hmN g c) (spN g c - 1)).1 = Q ++ t :: P → P.length < 5 → roV g c (Int32.ofNat P.length) = Int32.ofNat t := fun Q t P e hl => ro_at hw hc ho e hl
  have hl5 : (bestOf g (hmN g c) (spN g c - 1)).1.length ≤ 5 ∧ rGood g (bestOf g (hmN g c) (spN g c - 1)).1 := by
    rcases hB with ⟨q, -⟩ | ⟨q, -⟩
    · rw [q]; exact ⟨Nat.zero_le _, trivial⟩
    · have := q.2.1
      exact ⟨by omega, q.1⟩
  have hend := ro_end ho hl5.1
  have hrI : rI g (hmN g c) (spN g c) = rInc g (bestOf g (hmN g c) (spN g c - 1)).1 := rfl
  have hB1 : ((bestOf g (hmN g c) (spN g c - 1)).1 = [] ∧ ∀ P, ¬ Cand g (hmN g c) (spN g c) P) ∨ (Cand g (hmN g c) (spN g c) (bestOf g (hmN g c) (spN g c - 1)).1 ∧ ∀ Q a b, (bestOf g (hmN g c) (spN g c - 1)).1 = a :: Q → (bestOf g (hmN g c) (spN g c - 1)).1.getLast? = some b → b ≤ a) := by
    rcases hB with ⟨q, q2⟩ | ⟨q1, -, -, q4⟩
    · exact Or.inl ⟨by rw [q], q2⟩
    · exact Or.inr ⟨q1, q4⟩
  generalize (bestOf g (hmN g c) (spN g c - 1)).1 = R at hat hl5 hend hrI hB1
  unfold f_L_isRoute
  refine q_b2e (r_ro (i := 0) hn hw hC hc (by omega)) (fun H1 h1 => ?_)
  refine q_fix6 (fun j a2 a3 a4 a5 a6 h => ∃ Q P, R = Q ++ P ∧ j = Q.length ∧ a2 = Int32.ofNat P.length ∧ usedOk a3 P ∧ a4 = Int32.ofNat (rInc g P) ∧ a5 = 1 ∧ a6 = roV g c (Int32.ofNat P.length) ∧ ST st k g h) ?_ n R.length _ _ _ _ _ _ ⟨R, [], by simp, rfl, rfl, usedOk_nil, rfl, rfl, rfl, h1⟩ (by omega)
  intro rec j a2 a3 a4 a5 a6 h ih hp
  obtain ⟨Q, P, eR, rfl, rfl, hu, rfl, rfl, h6, hS⟩ := hp
  rcases List.eq_nil_or_concat Q with rfl | ⟨Q', t, rfl⟩
  · rw [List.nil_append] at eR
    subst eR
    rw [hend] at h6
    subst h6
    refine q_let (q_t (by decide) ?_)
    refine q_b2e (r_co (j := 1) hn hw hS hc (by omega)) (fun Ha ha => ?_)
    refine q_b2e (r_co (j := 7) hn hw ha hc (by omega)) (fun Hb hb => ?_)
    rw [ca_1 ho, ca_7 ho, e35, hI, hrI]
    rcases hB1 with ⟨rfl, hno⟩ | ⟨hCd, hord⟩
    · refine q_t rfl ?_
      refine q_fix2 (fun j a5 a8 => ∃ i, i ≤ 8 ∧ j = 8 - i ∧ a5 = 1 ∧ a8 = Int32.ofNat i) ?_ n 8 _ _ ⟨0, by omega, rfl, rfl, rfl⟩ (by omega)
      intro rec2 j a5 a8 ih2 hp
      obtain ⟨i, hi, rfl, rfl, rfl⟩ := hp
      by_cases h8 : i = 8
      · subst h8
        exact q_t (by decide) (q_let (q_f (by decide) (q_t rfl (gd_end ⟨rfl, hb⟩))))
      · refine q_f (i32_nle (a := 8) (by omega) (by omega) (by omega)) (q_let (q_let (q_f (by decide) ?_)))
        have hi8 : i < 8 := by omega
        refine q_bind (r_tr hb hh8 hi8) ?_
        have hz : g (62 + 8 * hmN g c + i) = 0 := by
          have hle := lev_eq hL hh8 hi8
          by_cases q : lev g (hmN g c) i = 0
          · rw [hle.1, q]; rfl
          · refine absurd ?_ (hno [i, hmN g c])
            refine ⟨⟨hi8, fun w => ?_, fun u hu => ?_, hh8, List.not_mem_nil, (fun u hu => nomatch hu), trivial⟩, h2, by simp, by simp⟩
            · rw [List.mem_singleton] at w
              rw [w] at q
              exact q (lev_dia hL hh8)
            · cases hu
              omega
        exact q_t hz (q_let (ih2 (8 - (i + 1)) _ _ (by omega) ⟨i + 1, by omega, rfl, rfl, i32_succ i⟩))
    · obtain ⟨g1, g2, g3, g4⟩ := hCd
      refine q_f (i32_ne (b := 0) (by omega) (by omega) (by omega)) (q_let (q_f (by decide) (q_f (i32_nle (b := 1) (by omega) (by omega) (by omega)) ?_)))
      refine q_b2e (r_co (j := 4) hn hw hb hc (by omega)) (fun Hc hc4 => ?_)
      rw [ca_4 ho, e38]
      refine q_f (i32_nlt (by omega) (by omega) (by omega)) (q_t ?_ (q_t rfl ?_))
      · rw [has_bit hh8, hu _ hh8]
        exact decide_eq_true g4
      · refine q_b2e (r_ro (i := R.length) hn hw hc4 hc (by omega)) (fun Hd hd => ?_)
        refine q_t hend ?_
        refine q_b2e (r_ro (i := 0) hn hw hd hc (by omega)) (fun He he => ?_)
        cases R with
        | nil => exact absurd g3 (by simp)
        | cons a Q1 =>
          rw [show Int32.ofNat (a :: Q1).length - 1 = Int32.ofNat Q1.length from i32_pred _]
          refine q_b2e (r_ro (i := Q1.length) hn hw he hc (by have := hl5.1; simp at this; omega)) (fun Hf hf => ?_)
          have l1 : Q1.length < 5 := by have := hl5.1; simp at this; omega
          rcases List.eq_nil_or_concat (a :: Q1) with e | ⟨Q2, b, e⟩
          · exact absurd e (by simp)
          · have e' : a :: Q1 = Q2 ++ [b] := by rw [e]; simp
            have hb8 := rGood_lt g1 b (by rw [e']; simp)
            have ha8 := rGood_lt g1 a (by simp)
            rw [hat [] a Q1 rfl l1, show roV g c (Int32.ofNat 0) = Int32.ofNat b from hat Q2 b [] e' (by simp)]
            have hba := hord Q1 a b rfl (by rw [e']; simp)
            exact q_f (i32_nlt (by omega) (by omega) hba) (gd_end ⟨rfl, hf⟩)
  · have eR' : R = Q' ++ t :: P := by rw [eR]; simp
    have hgt : rGood g (t :: P) := rGood_suf (Q := Q') (by rw [← eR']; exact hl5.2)
    have ht := hgt.1
    have hPl : P.length < 5 := by
      have := hl5.1
      rw [eR'] at this
      simp at this
      omega
    rw [hat Q' t P eR' hPl] at h6
    subst h6
    refine q_let (q_f (i32_nlt (b := 0) (by omega) (by omega) (by omega)) (q_f (by decide) (q_f (i32_nle (a := 6) (by omega) (by omega) (by omega)) ?_)))
    refine q_letk (fun K => ∀ b h', ST st k g h' → (P = [] ∧ b = -1 ∨ ∃ u P1, P = u :: P1 ∧ b = Int32.ofNat u) → Gd (One st k g) (K b h')) (fun b h' hS' hb => ?_) (fun K hK => ?_)
    · refine q_letk (fun K => ∀ w, ¬ w ≤ 0 → (if w = 2 then 5 else 0) = hdB g P t → Gd (One st k g) (K w)) (fun w hw0 hwb => ?_) (fun K hK => ?_)
      · refine q_let (q_let (q_f (i32_nle (a := 8) (by omega) (by omega) (by omega)) (q_t (no_bit ht ?_) (q_f hw0 (q_let ?_)))))
        · rw [hu t ht]
          exact decide_eq_false hgt.2.1
        · refine q_bind (r_to hS' ht) ?_
          refine q_letk (fun K => ∀ s, s = Int32.ofNat (hdB g P t) → Gd (One st k g) (K s)) (fun s hs => ?_) (fun K hK => ?_)
          · refine q_let (q_let ?_)
            rw [show Int32.ofNat P.length + 1 = Int32.ofNat (t :: P).length from i32_succ _]
            refine q_b2e (r_ro hn hw hS' hc (by simp; omega)) (fun Hc hc' => ?_)
            refine ih Q'.length _ _ _ _ _ _ (by simp) ⟨Q', t :: P, eR', rfl, rfl, usedOk_cons hu ht, ?_, rfl, rfl, hc'⟩
            rw [(wo_eq hL ht).1, hs, i32_addn, i32_addn]
            congr 1
            show _ = rInc g P + hdB g P t + wo g t
            omega
          · by_cases w2 : w = 2
            · rw [if_pos w2] at hwb
              exact q_t w2 (hK 5 (by rw [← hwb]; rfl))
            · rw [if_neg w2] at hwb
              exact q_f w2 (hK 0 (by rw [← hwb]; rfl))
      · rcases hb with ⟨rfl, rfl⟩ | ⟨u, P1, rfl, rfl⟩
        · exact q_t rfl (hK 1 (by decide) rfl)
        · have hu8 := hgt.2.2.2.1
          have hlu := lev_eq hL hu8 ht
          have hpos := hgt.2.2.1 u rfl
          refine q_f (i32_ne (b := 0) (by omega) (by omega) (by simp)) ?_
          refine q_bind (r_tr hS' hu8 ht) ?_
          refine hK _ (by rw [lev_pos hL hu8 ht]; omega) ?_
          show _ = bo g u t
          unfold bo
          by_cases q : lev g u t = 2
          · rw [if_pos (by rw [hlu.1, q]; rfl), if_pos q]
          · rw [if_neg (show ¬ g (62 + 8 * u + t) = 2 from fun w => q (ofNat_inj (by omega) (show 2 < 2147483648 by omega) (hlu.1.symm.trans w))), if_neg q]
    · cases P with
      | nil => exact q_t rfl (hK _ _ hS (Or.inl ⟨rfl, rfl⟩))
      | cons u P1 =>
        refine q_f (i32_ne (b := 0) (by omega) (by omega) (by simp)) ?_
        rw [show Int32.ofNat (u :: P1).length - 1 = Int32.ofNat P1.length from i32_pred _]
        refine q_b2e (r_ro (i := P1.length) hn hw hS hc (by simp at hPl; omega)) (fun Hc hc' => ?_)
        rw [hat (Q' ++ [t]) u P1 (by rw [eR']; simp) (by simp at hPl; omega)]
        exact hK _ _ hc' (Or.inr ⟨u, P1, rfl, rfl⟩)
end O1
