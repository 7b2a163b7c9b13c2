section O5
variable {st : Nat → Row} {k n mm B : Nat} {g : Row} {H : zH}
theorem r_plh {p c : Nat} (hn : 50000 ≤ n) (hw : WF g mm) (hC : ST st k g H) (hp : p < mm) (hc : c < 4) : f_L_players' n 0 (Int32.ofNat p) (1 + Int32.ofNat c) H = some (g (18 + 4 * p + c)) := by
  have e : (1 : Int32) + Int32.ofNat c = Int32.ofNat (c + 1) := by rw [Int32.add_comm]; exact i32_succ c
  rw [e, r_pl hn hw hC hp (by omega)]
  unfold playerS
  rw [if_neg (by omega), if_pos (by omega)]
  rfl
theorem r_pl0 {p : Nat} (hn : 50000 ≤ n) (hw : WF g mm) (hC : ST st k g H) (hp : p < mm) : f_L_players' n 0 (Int32.ofNat p) 0 H = some (g (14 + p)) := (r_pl (j := 0) hn hw hC hp (by omega)).trans rfl
theorem r_pl5 {p : Nat} (hn : 50000 ≤ n) (hw : WF g mm) (hC : ST st k g H) (hp : p < mm) : f_L_players' n 0 (Int32.ofNat p) 5 H = some (worthS g p) := by
  refine (r_pl (j := 5) hn hw hC hp (by omega)).trans ?_
  unfold playerS
  rw [if_neg (by omega), if_neg (by omega), if_pos rfl]
theorem r_pl6 {p : Nat} (hn : 50000 ≤ n) (hw : WF g mm) (hC : ST st k g H) (hp : p < mm) : f_L_players' n 0 (Int32.ofNat p) 6 H = some (presS g (Int32.ofNat p)) := by
  refine (r_pl (j := 6) hn hw hC hp (by omega)).trans ?_
  unfold playerS
  rw [if_neg (by omega), if_neg (by omega), if_neg (by omega)]
theorem ca_5' {c : Nat} (hw : CoW g mm) (hc : c < 4) : coD g c 5 = g (39 + 7 * c) := by
  rcases (hw c hc).2.2.2 with ⟨a, -⟩ | ⟨a, -, b, -⟩
  · exact ca_5 a
  · rw [ca_no (by omega) a, b]
def wS (g : Row) (p : Nat) : Nat → Int32 := zseq (fun k s => s + g (18 + 4 * p + k) * (20 + 10 * g (37 + 7 * k))) (g (14 + p))
def opS (g : Row) : Nat → Int32 := zseq (fun k s => s + (if g (34 + 7 * k) = 0 then 0 else 1)) 0
theorem r10 : ∀ r, r ≤ 11 → zrem (Int32.ofNat (20 + 10 * r)) 10 = 0 := by decide
theorem w_fits (hn : 50000 ≤ n) (hB : B ≤ 100000) (hI : Inv B mm g) (hC : ST st k g H) : Gd (One st k g) (f_L_fits n 0 H) := by
  obtain ⟨hw, ⟨hM, hZ⟩, hX, -⟩ := hI
  obtain ⟨m2, m4, g0, ⟨t, ht, et⟩, g3, -⟩ := hw.1
  obtain ⟨pp, hpp, ep⟩ := hX.2.2
  have hL := hw.2.2.2
  have hled := led_fits hw hX.2.1
  unfold f_L_fits
  refine q_bind (r_va (j := 0) hn hw hC (by omega)) (q_bind (r_va (j := 6) hn hw hC (by omega)) (q_let ?_))
  rw [nv0, nv6]
  refine q_letk (fun K => Gd (One st k g) (K 1)) ?_ (fun K hK => ?_)
  · refine q_fix5 (fun j a2 a5 a6 a7 h => ∃ i, i ≤ mm ∧ j = mm - i ∧ a2 = ledP g i ∧ a5 = mxS g i ∧ a6 = 1 ∧ a7 = Int32.ofNat i ∧ ST st k g h) ?_ n mm _ _ _ _ _ ⟨0, by omega, rfl, rfl, rfl, rfl, rfl, hC⟩ (by omega)
    intro rec81 j a2 a5 a6 a7 h81 ih81 hp
    obtain ⟨i, hi, rfl, rfl, rfl, rfl, rfl, hS81⟩ := hp
    by_cases him : i = mm
    · subst i
      refine q_let (q_t (by rw [g0]; exact Int32.le_refl _) ?_)
      refine q_fix6 (fun j a2 a3 a4 a6 a7 h => ∃ c, c ≤ 4 ∧ j = 4 - c ∧ a2 = ledC g mm c ∧ a3 = opS g c ∧ a4 = zseq (unF g) 0 c ∧ a6 = 1 ∧ a7 = Int32.ofNat c ∧ ST st k g h) ?_ n 4 _ _ _ _ _ _ ⟨0, by omega, rfl, rfl, rfl, rfl, rfl, rfl, hS81⟩ (by omega)
      intro rec305 j a2 a3 a4 a6 a7 h305 ih305 hp
      obtain ⟨c, hc4, rfl, rfl, rfl, rfl, rfl, rfl, hS305⟩ := hp
      by_cases hc : c = 4
      · subst hc
        refine q_let (q_t (by decide) ?_)
        rw [(CS_z hS305).1]
        obtain ⟨f, hf, ef, em, hlt, -⟩ := lead_spec hw hM hB (mm - 1) (by omega)
        rw [show mm - 1 + 1 = mm by omega] at em
        refine q_bind (r_lead hn hw hS305) ?_
        rw [ef]
        refine q_fix3 (fun j a6 a8 a9 => ∃ i, i ≤ 64 ∧ j = 64 - i ∧ a6 = 1 ∧ a8 = Int32.ofNat (sumTo i (trB g)) ∧ a9 = Int32.ofNat i) ?_ n 64 _ _ _ ⟨0, by omega, rfl, rfl, rfl, rfl⟩ (by omega)
        intro rec692 j a6 a8 a9 ih692 hp
        obtain ⟨i, hi64, rfl, rfl, rfl, rfl⟩ := hp
        by_cases h64 : i = 64
        · subst h64
          refine q_let (q_t (by decide) ?_)
          refine q_fix2 (fun j a6 a9 => ∃ p, p ≤ f ∧ j = f - p ∧ a6 = 1 ∧ a9 = Int32.ofNat p) ?_ n f _ _ ⟨0, by omega, rfl, rfl, rfl⟩ (by omega)
          intro rec799 j a6 a9 ih799 hp
          obtain ⟨p, hpf, rfl, rfl, rfl⟩ := hp
          by_cases hpe : p = f
          · subst p
            refine q_let (q_t (Int32.le_refl _) (q_let (q_f (by decide) (q_t hled ?_))))
            refine q_bind (r_pl5 hn hw hS305 (by omega)) (q_t em.symm ?_)
            refine q_bind (r_va (j := 8) hn hw hS305 (by omega)) ?_
            rw [nv8]
            refine q_t rfl ?_
            refine q_bind (r_va (j := 7) hn hw hS305 (by omega)) ?_
            rw [nv7]
            have h2s := two_sums (f := trB g) (fun a b ha hb => by
              unfold trB
              rw [show 62 + (8 * a + b) = 62 + 8 * a + b by omega, show 62 + (8 * b + a) = 62 + 8 * b + a by omega, hL.1 a b ha hb]) (fun a ha => by
              unfold trB
              rw [show 62 + (8 * a + a) = 62 + 8 * a + a by omega, hL.2.2.1 a ha]
              rfl)
            have hsm : sumTo 64 (trB g) ≤ 64 := by
              have : ∀ k, sumTo k (trB g) ≤ k := by
                intro k
                induction k with
                | zero => exact Nat.le_refl _
                | succ k ih =>
                  show sumTo k (trB g) + trB g k ≤ k + 1
                  have : trB g k ≤ 1 := by unfold trB; split <;> omega
                  omega
              exact this 64
            refine q_t (by rw [tracks_n, h2s, half2 _ (by omega)]) ?_
            rw [(CS_z hS305).1]
            obtain ⟨a, ha, ea⟩ := unsold_num hw.2.2.1 4 (Nat.le_refl 4)
            obtain ⟨d, hd, ed⟩ := openS_num hw.2.2.1 4 (Nat.le_refl 4)
            have ea' : unsoldS g = Int32.ofNat a := ea
            have ed' : openS g = Int32.ofNat d := ed
            have ed4 : opS g 4 = Int32.ofNat d := ed
            have hu := r_uns hn hw hS305 ea' ed' hd
            rw [ea, ed4]
            have fin : Gd (One st k g) ((f_L_values' n 0 3 h305).bind fun (r907 : Int32) => zlet (fun (s0_918 : Int32) => (f_L_values' n 0 (4 : Int32) h305).bind fun (r920 : Int32) => zlet (fun (s0_932 : Int32) => if s0_918 = s0_932 then ((f_L_values' n 0 (3 : Int32) h305).bind fun (r937 : Int32) => zlet (fun (h957 : zH) => some ((1 : Int32), h957)) fun K957 => if r937 = 0 then (K957 h305) else ((f_L_values' n 0 (4 : Int32) h305).bind fun (r946 : Int32) => zb2 (f_L_companies' n 0 r946 (0 : Int32) h305) fun (r950 : Int32) (h950 : zH) => if r950 = (1 : Int32) then (K957 h950) else some ((0 : Int32), h950))) else some ((0 : Int32), h305)) fun K932 => if r920 = (-1 : Int32) then (K932 (1 : Int32)) else (K932 (0 : Int32))) fun K918 => if r907 = 0 then (K918 (1 : Int32)) else (K918 (0 : Int32))) := by
              refine q_bind (r_va (j := 3) hn hw hS305 (by omega)) ?_
              rw [nv3 hw]
              rcases next_co hw with ⟨h3, hnc⟩ | ⟨h3, cc, home, S, hcc, hnc, hoc, -⟩
              · refine q_let (q_t h3 ?_)
                refine q_bind (r_va (j := 4) hn hw hS305 (by omega)) ?_
                rw [nv4]
                refine q_let (q_t hnc (q_t rfl ?_))
                refine q_bind (r_va (j := 3) hn hw hS305 (by omega)) ?_
                rw [nv3 hw]
                exact q_let (q_t h3 (gd_end ⟨rfl, hS305⟩))
              · have h3n : ¬ g 3 = 0 := by rw [h3]; decide
                refine q_let (q_f h3n ?_)
                refine q_bind (r_va (j := 4) hn hw hS305 (by omega)) ?_
                rw [nv4, hnc]
                refine q_let (q_f (ofNat_ne_neg (by omega)) (q_t rfl ?_))
                refine q_bind (r_va (j := 3) hn hw hS305 (by omega)) ?_
                rw [nv3 hw]
                refine q_let (q_f h3n ?_)
                refine q_bind (r_va (j := 4) hn hw hS305 (by omega)) ?_
                rw [nv4, hnc]
                refine q_b2e (r_co (j := 0) hn hw hS305 hcc (by omega)) (fun h4 hS4 => ?_)
                rw [ca_0 hoc]
                exact q_t rfl (gd_end ⟨rfl, hS4⟩)
            by_cases d0 : d = 0
            · subst d0
              rw [if_pos rfl] at hu
              refine q_bind hu ?_
              refine q_letk (fun K => Gd (One st k g) (K FP.dconst0)) (q_t un_cmp0 fin) (fun K hK901 => ?_)
              exact q_t rfl hK901
            · obtain ⟨e, rfl⟩ : ∃ e, d = e + 1 := ⟨d - 1, by omega⟩
              have z := un_dd ⟨a, by omega⟩ ⟨e, by omega⟩
              have zc := un_cmp ⟨a, by omega⟩ ⟨e, by omega⟩
              rw [if_neg d0, z] at hu
              refine q_bind hu ?_
              refine q_letk (fun K => Gd (One st k g) (K (FP.ddiv (FP.i2d (Int32.ofNat a)) (FP.i2d (Int32.ofNat (10 * (e + 1))))))) (q_t zc fin) (fun K hK901 => ?_)
              refine q_f (i32_ne (b := 0) (by omega) (by omega) d0) ?_
              rw [show (10 : Int32) * Int32.ofNat (e + 1) = Int32.ofNat (10 * (e + 1)) from (Int32.ofNat_mul 10 (e + 1)).symm]
              exact q_bind z hK901
          · have hp2 : p < f := by omega
            refine q_let (q_f (i32_nle (by omega) (by omega) hp2) (q_f (by decide) ?_))
            refine q_bind (r_pl5 hn hw hS305 (by omega)) ?_
            refine q_letk (fun K => Gd (One st k g) (K 1)) (q_let (ih799 (f - (p + 1)) _ _ (by omega) ⟨p + 1, by omega, rfl, rfl, i32_succ p⟩)) (fun K hK828 => ?_)
            exact q_f (by rw [em]; exact hlt p hp2) hK828
        · obtain ⟨d1, d2⟩ := d8 i (by omega)
          rw [d1, d2]
          have ha8 : i / 8 < 8 := by omega
          have hb8 : i % 8 < 8 := by omega
          have hix : 62 + 8 * (i / 8) + i % 8 = 62 + i := by omega
          have hlv := lev_eq hL ha8 hb8
          refine q_let (q_f (i32_nle (a := 64) (by omega) (by omega) (by omega)) (q_f (by decide) ?_))
          refine q_bind (r_trn hL hS305 ha8 hb8) (q_bind (r_trn hL hS305 hb8 ha8) ?_)
          refine q_letk (fun K => Gd (One st k g) (K 1)) ?_ (fun K hK773 => ?_)
          · refine q_letk (fun K => ∀ s, s = Int32.ofNat (trB g i) → Gd (One st k g) (K s)) (fun s hs => ?_) (fun K hK787 => ?_)
            · refine q_let (q_let (ih692 (64 - (i + 1)) _ _ _ (by omega) ⟨i + 1, by omega, rfl, rfl, ?_, i32_succ i⟩))
              rw [hs, i32_addn]
              rfl
            · have hb : trB g i = if lev g (i / 8) (i % 8) = 0 then 0 else 1 := by
                unfold trB
                rw [← hix]
                by_cases q : lev g (i / 8) (i % 8) = 0
                · rw [if_pos q, if_pos (by rw [lev_pos hL ha8 hb8]; exact q)]
                · rw [if_neg q, if_neg (by rw [lev_pos hL ha8 hb8]; exact q)]
              by_cases q : lev g (i / 8) (i % 8) = 0
              · exact q_t (by rw [q]; decide) (hK787 0 (by rw [hb, if_pos q]; rfl))
              · exact q_f (i32_nle (b := 0) (by omega) (by omega) (by omega)) (hK787 1 (by rw [hb, if_neg q]; rfl))
          · refine q_let (q_t (by rw [lev_sym hL ha8 hb8]) (q_f (i32_nlt (b := 0) (by omega) (by omega) (by omega)) (q_f (i32_nle (a := 3) (by omega) (by omega) (by omega)) (q_let ?_))))
            by_cases q : lev g (i / 8) (i % 8) = 0
            · exact q_t (by rw [q]; rfl) hK773
            · refine q_f (i32_ne (b := 0) (by omega) (by omega) q) (q_f (i32_ne (by omega) (by omega) (fun w => ?_)) hK773)
              rw [← w, lev_dia hL ha8] at q
              exact q rfl
      · have hc' : c < 4 := by omega
        refine q_let (q_f (i32_nle (a := 4) (by omega) (by omega) (by omega)) (q_f (by decide) ?_))
        refine q_b2e (r_co (j := 0) hn hw hS305 hc' (by omega)) (fun h4 hS4 => ?_)
        refine q_letk (fun K => ∀ x2 x3 x4 h', x2 = ledC g mm (c + 1) → x3 = opS g (c + 1) → x4 = zseq (unF g) 0 (c + 1) → ST st k g h' → Gd (One st k g) (K x2 x3 x4 1 h')) (fun x2 x3 x4 h' y2 y3 y4 hS' => q_let (ih305 (4 - (c + 1)) _ _ _ _ _ _ (by omega) ⟨c + 1, by omega, rfl, y2, y3, y4, rfl, i32_succ c, hS'⟩)) (fun K hK674 => ?_)
        have eL : ledC g mm (c + 1) = ledC g mm c + g (36 + 7 * c) := rfl
        have eO : opS g (c + 1) = opS g c + (if g (34 + 7 * c) = 0 then 0 else 1) := rfl
        have eU : zseq (unF g) (0 : Int32) (c + 1) = zseq (unF g) (0 : Int32) c + (if g (34 + 7 * c) = 0 then 0 else bank (fun p => g (18 + 4 * p + c))) := rfl
        rcases open_or hw.2.2.1 hc' with ho | ho
        · rw [ca_0 ho]
          rw [if_neg (by rw [ho]; decide)] at eO eU
          refine q_f (by decide) ?_
          refine q_b2e (r_co (j := 5) hn hw hS4 hc' (by omega)) (fun h5 hS5 => ?_)
          refine q_b2e (r_co (j := 6) hn hw hS5 hc' (by omega)) (fun h6 hS6 => ?_)
          rw [ca_5 ho, ca_6 ho]
          obtain ⟨hco, hsp2⟩ := open_ok hw.2.2.1 hc' ho
          obtain ⟨s, s1, s2, s3⟩ := (hw.2.2.1 c hc').1
          have hHold := hX.1 c hc'
          have hten := sh_ten hw hc'
          refine q_fix3 (fun j a6 a9 a10 => ∃ i, i ≤ mm ∧ j = mm - i ∧ a6 = 1 ∧ a9 = shSum g c i ∧ a10 = Int32.ofNat i) ?_ n mm _ _ _ ⟨0, by omega, rfl, rfl, rfl, rfl⟩ (by omega)
          intro rec433 j a6 a9 a10 ih433 hp
          obtain ⟨i, him, rfl, rfl, rfl, rfl⟩ := hp
          by_cases hie : i = mm
          · subst i
            refine q_t (by rw [g0]; exact Int32.le_refl _) ?_
            refine q_letk (fun K => ∀ h', ST st k g h' → Gd (One st k g) (K 1 h')) (fun h7 hS7 => ?_) (fun K hK646 => ?_)
            · refine q_let ?_
              refine q_b2e (r_co (j := 6) hn hw hS7 hc' (by omega)) (fun h8 hS8 => q_let ?_)
              refine q_b2e (r_co (j := 2) hn hw hS8 hc' (by omega)) (fun h9 hS9 => q_let ?_)
              rw [ca_6 ho, ca_2 ho]
              exact hK674 _ _ _ _ eL.symm eO.symm eU.symm hS9
            · refine q_let (q_f (by decide) (q_t hten ?_))
              refine q_letk (fun K => Gd (One st k g) K) ?_ (fun K hK532 => ?_)
              · obtain ⟨r, hr, er⟩ := (hw.2.2.1 c hc').2.2.1
                have e3 : coD g c 3 = Int32.ofNat (20 + 10 * r) := by rw [ca_3 ho, er, price_n]
                refine q_b2e (r_co (j := 3) hn hw hS6 hc' (by omega)) (fun h7 hS7 => ?_)
                rw [e3]
                refine q_f (i32_nlt (b := 20) (by omega) (by omega) (by omega)) ?_
                refine q_b2e (r_co (j := 3) hn hw hS7 hc' (by omega)) (fun h8 hS8 => ?_)
                rw [e3]
                refine q_f (i32_nlt (a := 130) (by omega) (by omega) (by omega)) ?_
                refine q_b2e (r_co (j := 3) hn hw hS8 hc' (by omega)) (fun h9 hS9 => ?_)
                rw [e3]
                refine q_t (r10 r hr) ?_
                refine q_b2e (r_co (j := 4) hn hw hS9 hc' (by omega)) (fun h10 hS10 => ?_)
                rw [ca_4 ho, hco.2.1]
                have hs5 := hco.2.2.2.2
                refine q_f (i32_nle (b := 1) (by omega) (by omega) (by omega)) ?_
                refine q_b2e (r_co (j := 4) hn hw hS10 hc' (by omega)) (fun h11 hS11 => ?_)
                rw [ca_4 ho, hco.2.1]
                refine q_f (i32_nle (a := 6) (by omega) (by omega) (by omega)) ?_
                refine q_b2e (r_co (j := 2) hn hw hS11 hc' (by omega)) (fun h12 hS12 => ?_)
                rw [ca_2 ho]
                obtain ⟨y, y1, y2⟩ := hM.2
                have hyc := mon_y hc' y2
                refine q_f (by rw [y1 c hc']; exact i32_nlt (b := 0) (by omega) (by omega) (by omega)) ?_
                refine q_b2e (r_di hn hw hS12 hc') (fun h13 hS13 => ?_)
                refine q_b2e (r_co (j := 7) hn hw hS13 hc' (by omega)) (fun h14 hS14 => ?_)
                refine q_t (by rw [ca_7 ho]; exact if_neg (by rw [ho]; decide)) ?_
                refine q_b2g (w_isRoute hn hw hS14 hc' ho) (fun h15 hS15 => q_f (by decide) ?_)
                refine q_b2g (w_isBest hn hw hS15 hc' ho) (fun h16 hS16 => q_f (by decide) ?_)
                exact hK646 _ hS16
              · rcases hHold with ⟨q, -⟩ | ⟨i', hi', q, hpos, -⟩
                · exact q_t q hK532
                · rw [q]
                  refine q_f (ofNat_ne_neg (by omega)) (q_bind (r_plh hn hw hS6 hi' hc') (q_f ?_ hK532))
                  rw [Int32.le_iff_toInt_le]
                  rw [Int32.lt_iff_toInt_lt] at hpos
                  omega
          · have hi2 : i < mm := by omega
            refine q_f (by rw [g0]; exact i32_nle (by omega) (by omega) hi2) (q_bind (r_plh hn hw hS6 hi2 hc') (q_let ?_))
            refine q_letk (fun K => Gd (One st k g) (K 1)) (q_let (ih433 (mm - (i + 1)) _ _ _ (by omega) ⟨i + 1, by omega, rfl, rfl, rfl, i32_succ i⟩)) (fun K hK493 => ?_)
            refine q_let (q_f (by decide) ?_)
            refine q_letk (fun K => ∀ s', ¬ s' < g (18 + 4 * i + c) → Gd (One st k g) (K s')) (fun s' hs' => q_f hs' hK493) (fun K hK485 => ?_)
            rcases hHold with ⟨q, q2⟩ | ⟨i', hi', q, -, hmx⟩
            · exact q_t q (hK485 0 (by rw [q2 i (by omega)]; decide))
            · rw [q]
              refine q_f (ofNat_ne_neg (by omega)) (q_bind (r_plh hn hw hS6 hi' hc') (hK485 _ ?_))
              have := hmx i (by omega)
              rw [Int32.lt_iff_toInt_lt]
              rw [Int32.le_iff_toInt_le] at this
              omega
        · rw [ca_00 ho]
          rw [if_pos ho] at eO eU
          have eL2 : ledC g mm c = ledC g mm (c + 1) := by rw [eL, hZ c hc' ho, Int32.add_zero]
          rw [Int32.add_zero] at eO eU
          refine q_t rfl ?_
          refine q_fix3 (fun j a6 a8 h => ∃ w, 1 ≤ w ∧ w ≤ 9 ∧ j = 9 - w ∧ a6 = 1 ∧ a8 = Int32.ofNat w ∧ ST st k g h) ?_ n 8 _ _ _ ⟨1, by omega, by omega, rfl, rfl, rfl, hS4⟩ (by omega)
          intro rec329 j a6 a8 h329 ih329 hp
          obtain ⟨w, hw1, hw9, rfl, rfl, rfl, hS329⟩ := hp
          by_cases h9 : w = 9
          · subst h9
            refine q_t (by decide) ?_
            refine q_letk (fun K => ∀ h', ST st k g h' → Gd (One st k g) (K 1 h')) (fun h' hS' => hK674 _ _ _ _ eL2 eO.symm eU.symm hS') (fun K hK406 => ?_)
            refine q_let (q_f (by decide) ?_)
            refine q_b2e (r_ro (i := 0) hn hw hS329 hc' (by omega)) (fun h5 hS5 => q_t (if_pos ho) ?_)
            refine q_b2e (r_bt hn hw hS5 hc') (fun h6 hS6 => q_t (if_pos ho) ?_)
            refine q_b2e (r_di hn hw hS6 hc') (fun h7 hS7 => q_t (if_pos ho) ?_)
            exact hK406 _ hS7
          · refine q_f (i32_nle (a := 9) (by omega) (by omega) (by omega)) ?_
            refine q_letk (fun K => ∀ h', ST st k g h' → Gd (One st k g) (K 1 h')) (fun h' hS' => q_let (ih329 (9 - (w + 1)) _ _ _ (by omega) ⟨w + 1, by omega, by omega, rfl, rfl, i32_succ w, hS'⟩)) (fun K hK358 => ?_)
            refine q_let (q_f (by decide) ?_)
            refine q_b2e (r_co (j := w) hn hw hS329 hc' (by omega)) (fun h5 hS5 => ?_)
            exact q_t (ca_no (by omega) ho) (hK358 _ hS5)
    · have hi2 : i < mm := by omega
      refine q_let (q_f (by rw [g0]; exact i32_nle (by omega) (by omega) (by omega)) (q_f (by decide) ?_))
      refine q_bind (r_pl0 hn hw hS81 hi2) ?_
      refine q_fix4 (fun j a6 a8 a9 h => ∃ c, c ≤ 4 ∧ j = 4 - c ∧ a6 = 1 ∧ a8 = wS g i c ∧ a9 = Int32.ofNat c ∧ ST st k g h) ?_ n 4 _ _ _ _ ⟨0, by omega, rfl, rfl, rfl, rfl, hS81⟩ (by omega)
      intro rec104 j a6 a8 a9 h104 ih104 hp
      obtain ⟨c, hc4, rfl, rfl, rfl, rfl, hS104⟩ := hp
      by_cases hc : c = 4
      · subst hc
        refine q_t (by decide) ?_
        refine q_letk (fun K => Gd (One st k g) (K 1)) ?_ (fun K hK268 => ?_)
        · refine q_bind (r_pl0 hn hw hS104 hi2) (q_let ?_)
          refine q_letk (fun K => ∀ s, s = mxS g (i + 1) → Gd (One st k g) (K s)) (fun s hs => ?_) (fun K hK294 => ?_)
          · exact q_let (ih81 (mm - (i + 1)) _ _ _ _ _ (by omega) ⟨i + 1, by omega, rfl, rfl, hs, rfl, i32_succ i, hS104⟩)
          · by_cases q : wS g i 4 ≤ mxS g i
            · exact q_t q (hK294 _ (if_pos q).symm)
            · exact q_f q (hK294 _ (if_neg q).symm)
        · refine q_let (q_f (by decide) ?_)
          refine q_bind (r_pl0 hn hw hS104 hi2) ?_
          refine q_f ?_ (q_bind (r_pl5 hn hw hS104 hi2) (q_t rfl hK268))
          obtain ⟨x, hx, e⟩ := hM.1 i hi2
          rw [e]
          exact i32_nlt (b := 0) (by omega) (by omega) (by omega)
      · have hc' : c < 4 := by omega
        obtain ⟨s, s1, s2, s3⟩ := (hw.2.2.1 c hc').1
        have hs10 := sh_lt s2 i (by omega)
        have hsi := s1 i (by omega)
        refine q_f (i32_nle (a := 4) (by omega) (by omega) (by omega)) (q_bind (r_plh hn hw hS104 hi2 hc') ?_)
        refine q_letk (fun K => ∀ h', ST st k g h' → Gd (One st k g) (K 1 h')) (fun h' hS' => ?_) (fun K hK159 => ?_)
        · refine q_letk (fun K => ∀ x h', ST st k g h' → g (18 + 4 * i + c) * x = g (18 + 4 * i + c) * (20 + 10 * g (37 + 7 * c)) → Gd (One st k g) (K x h')) (fun x h2 hS2 hx => ?_) (fun K hK181 => ?_)
          · refine q_let ?_
            refine q_letk (fun K => ∀ h', ST st k g h' → Gd (One st k g) (K 1 h')) (fun h3 hS3 => ?_) (fun K hK228 => ?_)
            · exact q_let (ih104 (4 - (c + 1)) _ _ _ _ (by omega) ⟨c + 1, by omega, rfl, rfl, by rw [hx]; rfl, i32_succ c, hS3⟩)
            · refine q_let (q_f (by decide) (q_bind (r_pl6 hn hw hS2 hi2) ?_))
              refine q_b2e (r_co (j := 5) hn hw hS2 hc' (by omega)) (fun h4 hS4 => ?_)
              rw [ca_5' hw.2.2.1 hc']
              by_cases q : g (39 + 7 * c) = Int32.ofNat i
              · refine q_let (q_t q (q_t ?_ (hK228 _ hS4)))
                rw [has_bit (by omega), pres_bits hc']
                exact decide_eq_true q
              · refine q_let (q_f q (q_t (no_bit (by omega) ?_) (hK228 _ hS4)))
                rw [pres_bits hc']
                exact decide_eq_false q
          · by_cases q : s i = 0
            · refine q_t (by rw [hsi, q]; rfl) (hK181 0 _ hS' ?_)
              rw [hsi, q, show Int32.ofNat 0 = 0 from rfl, Int32.zero_mul, Int32.zero_mul]
            · refine q_f (by rw [hsi]; exact i32_ne (b := 0) (by omega) (by omega) q) ?_
              have ho : g (34 + 7 * c) = 1 := by
                rcases (hw.2.2.1 c hc').2.2.2 with ⟨a, -⟩ | ⟨-, -, -, b⟩
                · exact a
                · have := b i (by omega)
                  rw [hsi] at this
                  exact absurd (ofNat_inj (by omega) (show 0 < 2147483648 by omega) this) q
              refine q_b2e (r_co (j := 3) hn hw hS' hc' (by omega)) (fun h4 hS4 => ?_)
              rw [ca_3 ho]
              exact hK181 _ _ hS4 rfl
        · refine q_let (q_f (by decide) (q_f (by rw [hsi]; exact i32_nlt (b := 0) (by omega) (by omega) (by omega)) ?_))
          refine q_b2e (r_co (j := 0) hn hw hS104 hc' (by omega)) (fun h4 hS4 => ?_)
          refine q_letk (fun K => ∀ s', ¬ s' < g (18 + 4 * i + c) → Gd (One st k g) (K s')) (fun s' hs' => q_f hs' (hK159 _ hS4)) (fun K hK151 => ?_)
          rcases (hw.2.2.1 c hc').2.2.2 with ⟨a, -⟩ | ⟨a, -, -, b⟩
          · rw [ca_0 a]
            exact q_t rfl (hK151 10 (by rw [hsi]; exact i32_nlt (a := 10) (by omega) (by omega) (by omega)))
          · rw [ca_00 a]
            exact q_f (by decide) (hK151 0 (by rw [b i (by omega)]; decide))
  · refine q_let ?_
    rw [g0]
    refine q_f (i32_nle (b := 1) (by omega) (by omega) (by omega)) (q_f (i32_nle (a := 5) (by omega) (by omega) (by omega)) ?_)
    refine q_bind (r_va (j := 1) hn hw hC (by omega)) ?_
    rw [nv1, et]
    refine q_f (i32_nlt (b := 0) (by omega) (by omega) (by omega)) ?_
    refine q_bind (r_va (j := 1) hn hw hC (by omega)) ?_
    rw [nv1, et]
    refine q_f (i32_nle (by omega) (by omega) (by omega)) ?_
    refine q_bind (r_va (j := 2) hn hw hC (by omega)) ?_
    rw [nv2, ep]
    refine q_f (i32_nlt (b := 0) (by omega) (by omega) (by omega)) ?_
    refine q_bind (r_va (j := 2) hn hw hC (by omega)) ?_
    rw [nv2, ep]
    exact q_f (i32_nlt (by omega) (by omega) (by omega)) hK
end O5
