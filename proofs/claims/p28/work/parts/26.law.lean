/-! THE LAW's LOOP -/
theorem push_top {st : Nat → Row} {k : Nat} {g : Row} (hk : k ≤ 4) : ∃ j, pushK k = j + 1 ∧ j < 4 ∧ pushSt st k g j = g := by
  unfold pushK pushSt
  by_cases c : k = 4
  · rw [if_pos c, if_pos c]
    exact ⟨3, rfl, by omega, if_pos rfl⟩
  · rw [if_neg c, if_neg c]
    exact ⟨k, rfl, by omega, if_pos rfl⟩
theorem push_two {st : Nat → Row} {k : Nat} {g g2 : Row} (hk : k ≤ 4) : ∃ j, pushK (pushK k) = j + 2 ∧ j < 3 ∧ pushSt (pushSt st k g) (pushK k) g2 (j + 1) = g2 ∧ pushSt (pushSt st k g) (pushK k) g2 j = g := by
  by_cases c : k = 4
  · subst c
    refine ⟨2, rfl, by omega, rfl, rfl⟩
  · by_cases c3 : k = 3
    · subst c3
      refine ⟨2, rfl, by omega, rfl, rfl⟩
    · have e : pushK k = k + 1 := if_neg c
      have e2 : pushK (k + 1) = k + 2 := if_neg (by omega)
      rw [e, e2]
      refine ⟨k, rfl, by omega, ?_, ?_⟩
      · unfold pushSt
        rw [if_neg (show ¬ k + 1 = 4 by omega)]
        exact if_pos rfl
      · unfold pushSt
        rw [if_neg (show ¬ k + 1 = 4 by omega), if_neg c]
        show (if k = k + 1 then g2 else if k = k then g else st k) = g
        rw [if_neg (by omega), if_pos rfl]
theorem cell_ok {L q : Nat} {xs : Nat → Int32} (hL : L ≤ 260) (hq : q < 600) : ∃ v, f_L_cell L xs (Int32.ofNat q) = some v := by
  unfold f_L_cell
  by_cases c : L ≤ q
  · exact ⟨_, if_pos (by rw [i32_le_of (by omega) (by omega)]; exact c)⟩
  · have e : zsx L xs (Int32.ofNat q) = some (xs q) := by
      unfold zsx
      rw [nn_of (by omega), if_neg (fun h => ?_)]
      rcases h with h | h
      · exact i32_nlt (b := 0) (by omega) (by omega) (by omega) h
      · exact c h
    refine ⟨xs q ^^^ zushr (xs q) 15, (if_neg (by rw [i32_le_of (by omega) (by omega)]; exact c)).trans ?_⟩
    rw [e]
    rfl
def Tr (_ : Unit) : Prop := True
section P7
variable {st : Nat → Row} {k n mm B : Nat} {g : Row} {H : zH}
theorem q_one {β : Type} {C : β → Prop} {o : Option (Int32 × zH)} {F : Int32 → zH → Option β} (h : Gd (One st k g) o) (kk : ∀ w, ST st k g w → Gd C (F 1 w)) : Gd C (zb2 o F) := q_b2g (v := 1) (D := ST st k g) h kk
theorem law_end (hn : 50000 ≤ n) (hB : B ≤ 100000) (hI : Inv B mm g) (hC : ST st k g H) : ∀ K : zH → Option Unit, Gd Tr (if (1 : Int32) = 0 then K H else zb2 (f_L_refused n 0 H) fun (r : Int32) (h : zH) => if r = 0 then K h else zb2 (f_L_fits n 0 h) fun (r2 : Int32) (h2 : zH) => if r2 = 0 then K h2 else zif1 (1 : Int32)) := fun K => by
  refine q_f (by decide) (q_one (w_refused hn hI.1 hC) fun w hw => q_f (by decide) (q_one (w_fits hn hB hI hw) fun w2 hw2 => q_f (by decide) ?_))
  exact ⟨(), rfl, trivial⟩
theorem w_law {L : Nat} {xs : Nat → Int32} (hn : 50000 ≤ n) (hL : L ≤ 260) : ∀ (N t : Nat) (B mm k : Nat) (st : Nat → Row) (g : Row) (H : zH), t ≤ 56 → 57 ≤ N + t → B ≤ 20 * t → Inv B mm g → SvI B k st → ST st k g H → Gd Tr (f_law n L xs N 1 (Int32.ofNat t) H)
  | 0, t, _, _, _, _, _, _, h1, h2, _, _, _, _ => by omega
  | N + 1, t, B, mm, k, st, g, H, ht, hN, hBt, hI, hS, hC => by
    have hw := hI.1
    unfold f_law
    refine q_letk (fun K => t = 56 → Gd Tr K) (fun _ => q_let (law_end hn (by omega) hI hC _)) (fun K hK => ?_)
    by_cases h56 : t = 56
    · subst h56
      refine q_t (Int32.le_refl _) (q_let (law_end hn (by omega) hI hC _))
    refine q_f (i32_nle (b := t) (a := 56) (by omega) (by omega) (by omega)) (q_f (by decide) ?_)
    clear hK K
    have e2t : (2 : Int32) * Int32.ofNat t = Int32.ofNat (2 * t) := (Int32.ofNat_mul 2 t).symm
    rw [e2t, i32_succ]
    obtain ⟨r53, e53⟩ := cell_ok (xs := xs) (q := 2 * t) hL (by omega)
    obtain ⟨r64, e64⟩ := cell_ok (xs := xs) (q := 2 * t + 1) hL (by omega)
    refine q_bind e53 (q_bind e64 ?_)
    rw [(CS_z hC).1]
    obtain ⟨D, hD⟩ := r_dig hn hw st k
    refine q_b2e (hD H hC) fun H1 hC1 => ?_
    refine q_bind (r_va (j := 1) hn hw hC1 (by omega)) ?_
    rw [nv1]
    refine q_letk (fun K => ∀ kd, kd < 14 → Gd Tr (K (Int32.ofNat kd))) (fun kd hkd => ?_) (fun K hK => ?_)
    rotate_left
    · by_cases h33 : Int32.ofNat t = 33
      · exact q_t h33 (hK 0 (by omega))
      · refine q_f h33 ?_
        by_cases h3 : (3 : Int32) ≤ zrem (Int32.ofNat t) 34
        · obtain ⟨r, hr, er⟩ := low_any (n := n) (m := 14) (v := r53) (h := H1) (by omega) (by omega)
          refine q_t h3 (q_bind er ?_)
          by_cases hr0 : Int32.ofNat r = 0
          · exact q_t hr0 (hK 12 (by omega))
          · exact q_f hr0 (q_bind er (hK r hr))
        · exact q_f h3 (hK 2 (by omega))
    obtain ⟨r137, hr, er⟩ := low_any (n := n) (m := 9999999) (v := r53 >>> ((4 : Int32) &&& 31)) (h := H1) (by omega) (by omega)
    refine q_bind er ?_
    have e14 : (14 : Int32) * Int32.ofNat r137 + Int32.ofNat kd = Int32.ofNat (14 * r137 + kd) := by rw [show (14 : Int32) = Int32.ofNat 14 from rfl, i32_mulm, i32_addn]
    have hlow : f_L_low n (Int32.ofNat (14 * r137 + kd)) 14 H1 = some (Int32.ofNat kd) := by
      have := low_nat (n := n) (m := 14) (X := 14 * r137 + kd) (h := H1) (by omega) (by omega) (by omega)
      rw [show (14 * r137 + kd) % 14 = kd by omega] at this
      exact this
    rw [e14]
    obtain ⟨⟨r146, H2⟩, e2, hact⟩ := w_acts (y := r64) hn (by omega) hI hS hC1 hkd hlow
    refine q_b2 e2 ?_
    refine q_letk (fun K => ∀ H2 st2 k2 g2 mm2, ST st2 k2 g2 H2 → Inv (B + 5) mm2 g2 → SvI (B + 5) k2 st2 → (¬ r146 < 0 → 2 ≤ kd → kd ≤ 9 → (kd = 6 ↔ g2 1 = g 1)) → Gd Tr (K 1 H2)) ?_ (fun K hK => ?_)
    rotate_left
    · refine q_letk (fun K => ∀ H2 st2 k2 g2 mm2, ST st2 k2 g2 H2 → Inv (B + 5) mm2 g2 → SvI (B + 5) k2 st2 → (¬ r146 < 0 → 2 ≤ kd → kd ≤ 9 → (kd = 6 ↔ g2 1 = g 1)) → Gd Tr (K H2)) hK (fun K2 hK2 => ?_)
      rcases hact with ⟨q1, q2, q3⟩ | ⟨q1, st2, k2, g2, mm2, q2, q3, q4, q5⟩
      · refine q_f (Int32.not_le.mpr q1) (q_let (q_f q2 ?_))
        rw [(CS_z q3).1]
        refine q_b2e (hD H2 q3) fun H3 hC3 => q_t lg_same ?_
        exact hK2 _ _ _ _ _ hC3 (inv_mono hI (by omega)) (svi_mono hS (by omega)) (fun q => absurd q1 q)
      · exact q_t q1 (hK2 _ _ _ _ _ q2 q3 q4 fun _ => q5)
    clear hact e2 H2 e14 hlow hD hC1
    intro H2 st2 k2 g2 mm2 hC2 hI2 hS2 hturn
    have hw2 := hI2.1
    refine q_letk (fun K => Gd Tr (K 1)) ?_ (fun K hK => ?_)
    rotate_left
    · refine q_let (q_f (by decide) (q_letk (fun K => Gd Tr K) hK (fun K2 hK2 => ?_)))
      by_cases c1 : r146 < 0
      · exact q_t c1 hK2
      refine q_f c1 ?_
      by_cases c2 : kd < 2
      · exact q_t (by rw [show (2 : Int32) = Int32.ofNat 2 from rfl, i32_lt_of (by omega) (by omega)]; exact c2) hK2
      refine q_f (i32_nlt (b := 2) (by omega) (by omega) (by omega)) ?_
      by_cases c3 : 9 < kd
      · exact q_t (by rw [show (9 : Int32) = Int32.ofNat 9 from rfl, i32_lt_of (by omega) (by omega)]; exact c3) hK2
      refine q_f (i32_nlt (a := 9) (by omega) (by omega) (by omega)) ?_
      have ht6 := hturn c1 (by omega) (by omega)
      by_cases c6 : kd = 6
      · refine q_letk (fun K => Gd Tr (K 1)) ?_ (fun K hK => q_t (by rw [c6]; rfl) hK)
        refine q_bind (r_va (j := 1) hn hw2 hC2 (by omega)) ?_
        rw [nv1]
        refine q_letk (fun K => Gd Tr (K 1)) (q_t rfl hK2) (fun K hK => q_t (ht6.mp c6) hK)
      · refine q_letk (fun K => Gd Tr (K 0)) ?_ (fun K hK => q_f (i32_ne (b := 6) (by omega) (by omega) c6) hK)
        refine q_bind (r_va (j := 1) hn hw2 hC2 (by omega)) ?_
        rw [nv1]
        refine q_letk (fun K => Gd Tr (K 0)) (q_t rfl hK2) (fun K hK => q_f (fun q => c6 (ht6.mpr q)) hK)
    refine q_letk (fun K => ∀ H3, ST st2 k2 g2 H3 → Gd Tr (K 1 H3)) (fun H3 hC3 => ?_) (fun K hK => ?_)
    rotate_left
    · refine q_let (q_f (by decide) (q_one (w_fits hn (by omega) hI2 hC2) fun H3 hC3 => q_f (by decide) ?_))
      refine q_letk (fun K => ∀ H, ST st2 k2 g2 H → Gd Tr (K H)) (fun H4 hC4 => ?_) (fun K2 hK2 => ?_)
      · refine q_letk (fun K => ∀ H, ST st2 k2 g2 H → Gd Tr (K H)) hK (fun K3 hK3 => ?_)
        by_cases c9 : zrem (Int32.ofNat t) 9 = 5
        · exact q_t c9 (q_one (w_refused hn hw2 hC4) fun H5 hC5 => q_f (by decide) (hK3 H5 hC5))
        · exact q_f c9 (hK3 H4 hC4)
      · by_cases c6 : zrem (Int32.ofNat t) 6 = 4
        · obtain ⟨c, hc, ec⟩ := low_any (n := n) (m := 4) (v := r64 >>> ((3 : Int32) &&& 31)) (h := H3) (by omega) (by omega)
          exact q_t c6 (q_bind ec (q_one (w_isForetold hn hw2 hC3 hc) fun H5 hC5 => q_f (by decide) (hK2 H5 hC5)))
        · exact q_f c6 (hK2 H3 hC3)
    refine q_letk (fun K => ∀ H4 st4 k4 g4 mm4, ST st4 k4 g4 H4 → Inv (B + 20) mm4 g4 → SvI (B + 20) k4 st4 → Gd Tr (K 1 H4)) (fun H4 st4 k4 g4 mm4 hC4 hI4 hS4 => ?_) (fun K hK => ?_)
    · refine q_let ?_
      rw [i32_succ]
      exact w_law hn hL N (t + 1) (B + 20) mm4 k4 st4 g4 H4 (by omega) (by omega) (by omega) hI4 hS4 hC4
    have hgo : ∀ H, ST st2 k2 g2 H → Gd Tr (K 1 H) := fun H hC => hK _ _ _ _ _ hC (inv_mono hI2 (by omega)) (svi_mono hS2 (by omega))
    refine q_f (by decide) ?_
    by_cases c7 : zrem (Int32.ofNat t) 7 = 6
    rotate_left
    · exact q_f c7 (hgo H3 hC3)
    refine q_t c7 ?_
    by_cases c10 : Int32.ofNat kd = 10
    · exact q_t c10 (hgo H3 hC3)
    refine q_f c10 ?_
    have hm2 := hw2.1.1
    refine q_bind (r_pl0 (p := 0) hn hw2 hC3 (by omega)) (q_bind (r_to (t := 5) hC3 (by omega)) (q_bind (r_va (j := 7) hn hw2 hC3 (by omega)) (q_bind (r_va (j := 3) hn hw2 hC3 (by omega)) ?_)))
    obtain ⟨v, hv, ev⟩ := low_any (n := n) (m := 91) (v := r64) (h := H3) (by omega) (by omega)
    refine q_bind ev ?_
    obtain ⟨wa, wb⟩ := town_wf (t := 5) (v := v) hw2 hI2.2.1.1 (by omega) (by omega)
    have hI5 : Inv (B + 5) mm2 (upd g2 131 (Int32.ofNat v)) := ⟨wa, ⟨wb, zw_town (t := 5) hI2.2.1.2⟩, x_town (t := 5) hw2 hI2.2.2.1, ph_eq hI2.2.2.2 (upd_ne (by omega))⟩
    have hS5 : SvI (B + 5) (pushK k2) (pushSt st2 k2 g2) := svi_push hS2 hI2
    refine q_b2e (w_town (t := 5) hn hS2.1 hw2 hC3 (by omega) hv) fun H5 hC5 => ?_
    refine q_letk (fun K => ∀ H6 g6, ST (pushSt (pushSt st2 k2 g2) (pushK k2) (upd g2 131 (Int32.ofNat v))) (pushK (pushK k2)) g6 H6 → Gd Tr (K 1 H6)) (fun H6 g6 hC6 => ?_) (fun K2 hK2 => ?_)
    rotate_left
    · refine q_let (q_t rfl ?_)
      refine q_letk (fun K => ∀ H6 g6, ST (pushSt (pushSt st2 k2 g2) (pushK k2) (upd g2 131 (Int32.ofNat v))) (pushK (pushK k2)) g6 H6 → Gd Tr (K H6)) hK2 (fun K3 hK3 => ?_)
      have hw5 := hI5.1
      have e3 : upd g2 131 (Int32.ofNat v) 3 = g2 3 := upd_ne (by omega)
      rw [nv3 hw2]
      rcases next_co hw5 with ⟨h3, -⟩ | ⟨h3, c, home, S, hc, hnc, ho, -, -⟩
      · refine q_f (by rw [← e3, h3]; decide) ?_
        obtain ⟨-, p3, -, -⟩ := pass_at hw5.2.2.1 h3
        refine q_b2e (w_pass hn hS5.1 hw5 hC5 h3 p3) fun H6 hC6 => q_f ?_ (hK3 H6 _ hC6)
        rcases p3 with e | e
        · rw [e]; decide
        · rw [e]; decide
      · refine q_t (e3.symm.trans h3) ?_
        obtain ⟨hco, -⟩ := open_ok hw5.2.2.1 hc ho
        obtain ⟨eI, lI⟩ := incS_eq hw5.2.2.2 (home := hmN (upd g2 131 (Int32.ofNat v)) c) hco.2.2.2.1 hco.2.2.2.2
        refine q_b2e (w_op_0 hn hS5.1 hw5 hC5 hc ho hnc) fun H6 hC6 => q_f ?_ (hK3 H6 _ hC6)
        rw [eI]
        exact nm1 (by omega)
    refine q_letk (fun K => ∀ H st4 k4, ST st4 k4 g2 H → SvI (B + 20) k4 st4 → Gd Tr (K 1 H)) (fun H st4 k4 hC hS => hK _ _ _ _ _ hC (inv_mono hI2 (by omega)) hS) (fun K2 hK2 => q_let (q_f (by decide) ?_))
    obtain ⟨j, ej, hj, top1, top2⟩ := push_two (st := st2) (k := k2) (g := g2) (g2 := upd g2 131 (Int32.ofNat v)) hS2.1
    have hS6 : SvI (B + 5) (pushK (pushK k2)) (pushSt (pushSt st2 k2 g2) (pushK k2) (upd g2 131 (Int32.ofNat v))) := svi_push hS5 hI5
    rw [ej] at hC6 hS6
    generalize pushSt (pushSt st2 k2 g2) (pushK k2) (upd g2 131 (Int32.ofNat v)) = st6 at hC6 hS6 top1 top2
    refine q_b2e (w_undo (j := j + 1) (st := st6) (mm := mm2) hn (by omega) (by rw [top1]; exact hI5.1) hC6) fun H7 hC7 => q_f (nm1 (by omega)) ?_
    refine q_b2e (w_undo (j := j) (st := st6) (mm := mm2) hn (by omega) (by rw [top2]; exact hw2) hC7) fun H8 hC8 => q_f (nm1 (by omega)) ?_
    rw [top2] at hC8
    refine q_bind (r_to (t := 5) hC8 (by omega)) (q_t rfl (q_bind (r_pl0 (p := 0) hn hw2 hC8 (by omega)) (q_t rfl (q_bind (r_va (j := 7) hn hw2 hC8 (by omega)) (q_t rfl (q_bind (r_va (j := 3) hn hw2 hC8 (by omega)) (q_t rfl ?_)))))))
    refine q_one (w_fits hn (by omega) hI2 hC8) fun H9 hC9 => q_f (by decide) (hK2 _ _ _ hC9 ⟨by omega, fun i hi => ?_⟩)
    obtain ⟨m, hm⟩ := hS6.2 i (by omega)
    exact ⟨m, inv_mono hm (by omega)⟩
end P7
