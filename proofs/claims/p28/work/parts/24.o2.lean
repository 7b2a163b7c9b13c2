theorem d8 : ∀ k, k < 64 → Int32.ofNat k / 8 = Int32.ofNat (k / 8) ∧ zrem (Int32.ofNat k) 8 = Int32.ofNat (k % 8) := by decide +kernel
theorem bon5 {l : Nat} (h1 : 1 ≤ l) : (5 : Int32) * (Int32.ofNat l - 1) = Int32.ofNat (5 * (l - 1)) := by
  obtain ⟨m, rfl⟩ : ∃ m, l = m + 1 := ⟨l - 1, by omega⟩
  rw [i32_pred, show (5 : Int32) = Int32.ofNat 5 from rfl, i32_mulm]
  rfl
theorem bo_5 {g : Row} (hL : LandW g) {a b : Nat} (ha : a < 8) (hb : b < 8) (h1 : 1 ≤ lev g a b) : bo g a b = 5 * (lev g a b - 1) := by
  have := (lev_eq hL ha hb).2
  unfold bo
  split <;> omega
section O2
variable {st : Nat → Row} {k n mm : Nat} {g : Row} {H : zH}
theorem r_ton {t : Nat} (hL : LandW g) (hC : ST st k g H) (ht : t < 8) : f_L_towns' n 0 (Int32.ofNat t) H = some (Int32.ofNat (wo g t)) := by rw [r_to hC ht, (wo_eq hL ht).1]
theorem r_trn {i j : Nat} (hL : LandW g) (hC : ST st k g H) (hi : i < 8) (hj : j < 8) : f_L_tracks' n 0 (Int32.ofNat i) (Int32.ofNat j) H = some (Int32.ofNat (lev g i j)) := by rw [r_tr hC hi hj, (lev_eq hL hi hj).1]
theorem w_isBest {c : Nat} (hn : 50000 ≤ n) (hw : WF g mm) (hC : ST st k g H) (hc : c < 4) (ho : g (34 + 7 * c) = 1) : Gd (One st k g) (f_L_isBest n 0 (Int32.ofNat c) H) := by
  obtain ⟨hco, h2⟩ := open_ok hw.2.2.1 hc ho
  have hL := hw.2.2.2
  obtain ⟨e35, e38, hh8, hs1, hs5⟩ := hco
  obtain ⟨hI, hI4⟩ := incS_eq (home := hmN g c) hL hs1 hs5
  have hge := fun P hP => rI_ge (home := hmN g c) (P := P) hL hs1 hs5 hP
  have e7 := (ca_7 ho).trans hI
  generalize hmN g c = hm at *
  generalize spN g c = sp at *
  generalize rI g hm sp = told at *
  have hwh := (wo_eq hL hh8).2
  unfold f_L_isBest
  refine q_b2e (r_co (j := 1) hn hw hC hc (by omega)) (fun Ha ha => ?_)
  refine q_b2e (r_co (j := 7) hn hw ha hc (by omega)) (fun Hb hb => ?_)
  rw [ca_1 ho, e35, e7]
  refine q_fix3 (fun j a4 a5 h => ∃ i, i ≤ 64 ∧ j = 64 - i ∧ a4 = 1 ∧ a5 = Int32.ofNat i ∧ ST st k g h) ?_ n 64 _ _ _ ⟨0, by omega, rfl, rfl, rfl, hb⟩ (by omega)
  intro rec j a4 a5 h ih hp
  obtain ⟨i, hi, rfl, rfl, rfl, hS⟩ := hp
  by_cases h64 : i = 64
  · subst h64
    exact q_t (by decide) (q_bind (v := 1) rfl (gd_end ⟨rfl, hS⟩))
  · refine q_f (i32_nle (a := 64) (by omega) (by omega) (by omega)) (q_f (by decide) ?_)
    obtain ⟨d1, d2⟩ := d8 i (by omega)
    rw [d1, d2]
    have ha8 : i / 8 < 8 := by omega
    have hb8 : i % 8 < 8 := by omega
    generalize i / 8 = a at *
    generalize i % 8 = b at *
    have hwa := (wo_eq hL ha8).2
    have hwb := (wo_eq hL hb8).2
    have l1 := (lev_eq hL hh8 ha8).2
    have l2 := (lev_eq hL hh8 hb8).2
    have l3 := (lev_eq hL ha8 hb8).2
    have l0 := lev_dia hL hh8
    refine q_let (q_let ?_)
    refine q_letk (fun K => ∀ s, s = Int32.ofNat (lev g hm a) → Gd (One st k g) (K s)) (fun s1 e1 => ?_) (fun K hK => ?_)
    · refine q_letk (fun K => ∀ s, s = Int32.ofNat (lev g hm b) → Gd (One st k g) (K s)) (fun s2 e2 => ?_) (fun K hK => ?_)
      · refine q_letk (fun K => ∀ s nx, s = Int32.ofNat nx → nx ≤ 2 → (nx ≠ 0 → a ≠ b ∧ b ≠ hm ∧ nx = lev g a b) → Gd (One st k g) (K s)) (fun s3 nx e3 hx2 hx => ?_) (fun K hK => ?_)
        · subst e1 e2 e3
          refine q_bind (r_ton hL hS hh8) (q_bind (r_ton hL hS ha8) (q_let ?_))
          refine q_letk (fun K => Gd (One st k g) (K 1)) ?_ (fun K hK => ?_)
          · refine q_b2e (r_co (j := 4) hn hw hS hc (by omega)) (fun Hc hc4 => ?_)
            rw [ca_4 ho, e38]
            refine q_letk (fun K => ∀ s, (s = 0 ∨ (s = 1 ∧ 0 < lev g hm a ∧ 2 < sp)) → Gd (One st k g) (K s)) (fun s hs => ?_) (fun K hK => ?_)
            · refine q_letk (fun K => Gd (One st k g) (K 1)) (q_let (ih (64 - (i + 1)) _ _ _ (by omega) ⟨i + 1, by omega, rfl, rfl, i32_succ i, hc4⟩)) (fun K hK250 => ?_)
              refine q_let (q_f (by decide) ?_)
              refine q_letk (fun K => Gd (One st k g) K) ?_ (fun K hK208 => ?_)
              · refine q_let ?_
                rcases hs with rfl | ⟨rfl, hp, h3⟩
                · exact q_t rfl hK250
                · refine q_f (by decide) ?_
                  by_cases z2 : lev g hm b = 0
                  · exact q_t (by rw [z2]; rfl) hK250
                  · refine q_f (i32_ne (b := 0) (by omega) (by omega) z2) ?_
                    by_cases zab : a = b
                    · exact q_t (by rw [zab]) hK250
                    · refine q_f (i32_ne (by omega) (by omega) zab) (q_bind (r_ton hL hc4 hb8) (q_f ?_ hK250))
                      have hah : a ≠ hm := fun q => by rw [q] at hp; omega
                      have hbh : b ≠ hm := fun q => by rw [q] at z2; exact z2 l0
                      have hla : lev g a hm = lev g hm a := lev_sym hL ha8 hh8
                      have hcd : Cand g hm sp [b, hm, a] := ⟨⟨hb8, by simp; exact ⟨hbh, fun q => zab q.symm⟩, fun u hu => by cases hu; omega, hh8, by simp; exact fun q => hah q.symm, fun u hu => by cases hu; omega, ha8, List.not_mem_nil, (fun u hu => nomatch hu), trivial⟩, by simp; omega, by simp, by simp⟩
                      have hle := hge _ hcd
                      have hv : rInc g [b, hm, a] = wo g a + bo g a hm + wo g hm + bo g hm b + wo g b := by
                        show 0 + 0 + wo g a + bo g a hm + wo g hm + bo g hm b + wo g b = _
                        omega
                      rw [hv, bo_5 hL ha8 hh8 (by omega), bo_5 hL hh8 hb8 (by omega), hla] at hle
                      rw [bon5 (by omega), bon5 (by omega), i32_addn, i32_addn, i32_addn, i32_addn]
                      exact i32_nlt (by omega) (by omega) (by omega)
              · rcases hs with rfl | ⟨rfl, hp, h3⟩
                · exact q_t rfl hK208
                · refine q_f (by decide) ?_
                  by_cases z3 : nx = 0
                  · exact q_t (by rw [z3]; rfl) hK208
                  · refine q_f (i32_ne (b := 0) (by omega) (by omega) z3) (q_bind (r_ton hL hc4 hb8) (q_f ?_ hK208))
                    obtain ⟨zab, hbh, hnx⟩ := hx z3
                    have hah : a ≠ hm := fun q => by rw [q] at hp; omega
                    have hcd : Cand g hm sp [b, a, hm] := ⟨⟨hb8, by simp; exact ⟨fun q => zab q.symm, hbh⟩, fun u hu => by cases hu; omega, ha8, by simp; exact hah, fun u hu => by cases hu; omega, hh8, List.not_mem_nil, (fun u hu => nomatch hu), trivial⟩, by simp; omega, by simp, by simp⟩
                    have hle := hge _ hcd
                    have hv : rInc g [b, a, hm] = wo g hm + bo g hm a + wo g a + bo g a b + wo g b := by
                      show 0 + 0 + wo g hm + bo g hm a + wo g a + bo g a b + wo g b = _
                      omega
                    rw [hv, bo_5 hL hh8 ha8 (by omega), bo_5 hL ha8 hb8 (by omega)] at hle
                    rw [bon5 (by omega), bon5 (by omega), i32_addn, i32_addn, i32_addn, i32_addn]
                    exact i32_nlt (by omega) (by omega) (by omega)
            · refine q_let ?_
              by_cases z4 : sp ≤ 2
              · exact q_t ((i32_le_b (b := 2) (by omega) (by omega)).mpr z4) (hK 0 (Or.inl rfl))
              · refine q_f (i32_nle (b := 2) (by omega) (by omega) (by omega)) ?_
                by_cases z1 : lev g hm a = 0
                · exact q_t ((i32_le_b (b := 0) (by omega) (by omega)).mpr (by omega)) (hK 0 (Or.inl rfl))
                · exact q_f (i32_nle (b := 0) (by omega) (by omega) (by omega)) (hK 1 (Or.inr ⟨rfl, by omega, by omega⟩))
          · refine q_let ?_
            by_cases z1 : lev g hm a = 0
            · exact q_t (by rw [z1]; rfl) hK
            · refine q_f (i32_ne (b := 0) (by omega) (by omega) z1) (q_f ?_ hK)
              have hah : a ≠ hm := fun q => by rw [q] at z1; exact z1 l0
              have hcd : Cand g hm sp [a, hm] := ⟨⟨ha8, by simp; exact hah, fun u hu => by cases hu; omega, hh8, List.not_mem_nil, (fun u hu => nomatch hu), trivial⟩, by simp; omega, by simp, by simp⟩
              have hle := hge _ hcd
              have hv : rInc g [a, hm] = wo g hm + bo g hm a + wo g a := by
                show 0 + 0 + wo g hm + bo g hm a + wo g a = _
                omega
              rw [hv, bo_5 hL hh8 ha8 (by omega)] at hle
              rw [bon5 (by omega), i32_addn, i32_addn]
              exact i32_nlt (by omega) (by omega) (by omega)
        · refine q_let ?_
          by_cases q : a = b
          · exact q_t (by rw [q]) (hK 0 0 rfl (by omega) (fun w => absurd rfl w))
          · refine q_f (i32_ne (by omega) (by omega) q) ?_
            by_cases q2 : b = hm
            · exact q_t (by rw [q2]) (hK 0 0 rfl (by omega) (fun w => absurd rfl w))
            · exact q_f (i32_ne (by omega) (by omega) q2) (q_bind (r_trn hL hS ha8 hb8) (hK _ _ rfl l3 (fun _ => ⟨q, q2, rfl⟩)))
      · by_cases q : b = hm
        · exact q_t (by rw [q]) (hK 0 (by rw [q, l0]; rfl))
        · exact q_f (i32_ne (by omega) (by omega) q) (q_bind (r_trn hL hS hh8 hb8) (hK _ rfl))
    · by_cases q : a = hm
      · exact q_t (by rw [q]) (hK 0 (by rw [q, l0]; rfl))
      · exact q_f (i32_ne (by omega) (by omega) q) (q_bind (r_trn hL hS hh8 ha8) (hK _ rfl))
end O2
