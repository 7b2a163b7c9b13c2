def PF26 (n : Nat) : (Int32 → Int32 → zH → Option (Int32 × zH)) → Int32 → Int32 → zH → Option (Int32 × zH) := fun rec26 a2_26 a3_26 h26 => if (90 : Int32) ≤ a2_26 then (some (a2_26, h26)) else ((zgR h26 0 5 3).bind fun (v34 : Nat) => (zgI h26 v34 4 1).bind fun (v37 : Int32) => if v37 ≤ a3_26 then (some (a2_26, h26)) else (zrc h26 0 5 <| zb2 (f_X5_makeMove n 0 a3_26 h26) fun (r45 : Int32) (h45 : zH) => if r45 = 0 then (some (a2_26, h45)) else (zlet (a2_26 + 1) fun (x51 : Int32) => (zgR h45 0 5 3).bind fun (v55 : Nat) => zrc h45 v55 4 <| (f_X4_nextMove n v55 a3_26 h45).bind fun (r59 : Int32) => rec26 x51 r59 h45)))
theorem e_P26 {n : Nat} {a b : Int32} {h : zH} : L_X5_play_26 n 0 a b h = zfix3 (PF26 n) n a b h := rfl
def PF47 (n : Nat) : (Int32 → zH → Option (Int32 × zH)) → Int32 → zH → Option (Int32 × zH) := fun rec47 a1_47 h47 => (zgI h47 123 6 12).bind fun (v48 : Int32) => (zgI h47 123 6 4).bind fun (v52 : Int32) => if v52 ≤ v48 then (some (a1_47, h47)) else (zrc h47 123 6 <| zb2 (f_X6_takesMove n 123 h47) fun (r59 : Int32) (h59 : zH) => if r59 = 0 then (some (a1_47, h59)) else (zrc h59 123 6 <| zb2 (f_X6_makes n 123 h59) fun (r66 : Int32) (h66 : zH) => if r66 = 0 then (some (a1_47, h66)) else (zlet (a1_47 + 1) fun (x72 : Int32) => rec47 x72 h66)))
theorem e_P47 {n : Nat} {a : Int32} {h : zH} : L_X6_play_47 n 123 a h = zfix2 (PF47 n) n a h := rfl
theorem St_mono {B B' mm : Nat} {g m : Row} (h : St B mm g m) (hB : B ≤ B') : St B' mm g m := ⟨h.1, monz_mono h.2.1 hB, h.2.2⟩
theorem pl_loop {n mm L : Nat} {tx : Row} {b : zH} {st : Nat → Row} {k : Nat} (hn : 50000 ≤ n) (hL : L ≤ 90) : ∀ f i made B (g m : Row) (H : zH) N M, scan tx L f i = none → i ≤ L → L - i < f → 2 * made ≤ i → L - i < N → L - i < M → B + (L - i) ≤ 100000 → St B mm g m → CS b st k (Int32.ofNat L) tx g H → ∃ r g' m' H', zfix3 (PF26 n) N (Int32.ofNat made) (Int32.ofNat i) H = some (r, H') ∧ CS b st k (Int32.ofNat L) tx g' H' ∧ St (B + (L - i)) mm g' m' ∧ ∀ Hb pp (w : Row) hs, w 25 = Int32.ofNat i → w 21 = Int32.ofNat L → ∃ w', zfix2 (PF47 n) M (Int32.ofNat made) (mput Hb m pp tx w hs) = some (r, mput Hb m' pp tx w' hs) ∧ w' 20 = w 20 ∧ w' 21 = w 21 ∧ w' 22 = w 22
  | 0, _, _, _, _, _, _, _, _, _, _, hf, _, _, _, _, _, _ => absurd hf (by omega)
  | f + 1, i, made, B, g, m, H, N, M, hs, hi, hf, hmd, hN, hM, hB, hS, hC => by
    obtain ⟨N, rfl⟩ : ∃ K, N = K + 1 := ⟨N - 1, by omega⟩
    obtain ⟨M, rfl⟩ : ∃ K, M = K + 1 := ⟨M - 1, by omega⟩
    have z1 : ¬ (1 : Int32) = 0 := by decide
    have e : (Int32.ofNat L ≤ Int32.ofNat i) = (L ≤ i) := i32_le_of (by omega) (by omega)
    have e90 : ((90 : Int32) ≤ Int32.ofNat made) = (90 ≤ made) := i32_le_of (a := 90) (by omega) (by omega)
    unfold scan at hs
    by_cases c : L ≤ i
    · refine ⟨Int32.ofNat made, g, m, H, ?_, hC, St_mono hS (by omega), fun Hb pp w hs w25 w21 => ⟨w, ?_, rfl, rfl, rfl⟩⟩
      · rw [zfix3_s]
        unfold PF26
        rw [if_neg (by rw [e90]; omega), (CS_2 hC).2.1, Option.bind_some, (CS_2 hC).2.2, Option.bind_some, if_pos (by rw [e]; exact c)]
      · rw [zfix2_s]
        unfold PF47
        rw [mgI_12, Option.bind_some, mgI_4, Option.bind_some, w25, w21, if_pos (by rw [e]; exact c)]
    · rw [if_neg c] at hs
      by_cases ok : (mvT tx L i).1 = true
      · rw [if_pos ok] at hs
        have hi' : i < L := by omega
        have refS : ∀ Hb pp (w : Row) hs', w 25 = Int32.ofNat i → w 21 = Int32.ofNat L → ∃ w1, TW w w1 (mvT tx L i).2.1 (tx i) (mvT tx L i).2.2.1 (mvT tx L i).2.2.2 ∧ zfix2 (PF47 n) (M + 1) (Int32.ofNat made) (mput Hb m pp tx w hs') = zb2 (f_X6_makes n 123 (mput Hb m pp tx w1 hs')) fun (r66 : Int32) (h66 : zH) => if r66 = 0 then (some (Int32.ofNat made, h66)) else zfix2 (PF47 n) M (Int32.ofNat (made + 1)) h66 := by
          intro Hb pp w hs' w25 w21
          obtain ⟨w1, e1, tw⟩ := u_takesMove (n := n) (h := Hb) (m := m) (pp := pp) (hs := hs') hL hi' w25 w21
          refine ⟨w1, tw, ?_⟩
          rw [zfix2_s, show PF47 n (zfix2 (PF47 n) M) (Int32.ofNat made) (mput Hb m pp tx w hs') = ((zgI (mput Hb m pp tx w hs') 123 6 12).bind fun (v48 : Int32) => (zgI (mput Hb m pp tx w hs') 123 6 4).bind fun (v52 : Int32) => if v52 ≤ v48 then (some (Int32.ofNat made, mput Hb m pp tx w hs')) else (zrc (mput Hb m pp tx w hs') 123 6 <| zb2 (f_X6_takesMove n 123 (mput Hb m pp tx w hs')) fun (r59 : Int32) (h59 : zH) => if r59 = 0 then (some (Int32.ofNat made, h59)) else (zrc h59 123 6 <| zb2 (f_X6_makes n 123 h59) fun (r66 : Int32) (h66 : zH) => if r66 = 0 then (some (Int32.ofNat made, h66)) else (zlet (Int32.ofNat made + 1) fun (x72 : Int32) => zfix2 (PF47 n) M x72 h66)))) from rfl]
          rw [mgI_12, Option.bind_some, mgI_4, Option.bind_some, w25, w21, if_neg (by rw [e]; exact c), mgK, e1, if_pos ok, zb2_s, if_neg z1, mgK, i32_succ]
          rfl
        have clsS : zfix3 (PF26 n) (N + 1) (Int32.ofNat made) (Int32.ofNat i) H = zb2 (f_X5_makeMove n 0 (Int32.ofNat i) H) fun (r45 : Int32) (h45 : zH) => if r45 = 0 then (some (Int32.ofNat made, h45)) else ((zgR h45 0 5 3).bind fun (v55 : Nat) => zrc h45 v55 4 <| (f_X4_nextMove n v55 (Int32.ofNat i) h45).bind fun (r59 : Int32) => zfix3 (PF26 n) N (Int32.ofNat (made + 1)) r59 h45) := by
          rw [zfix3_s, show PF26 n (zfix3 (PF26 n) N) (Int32.ofNat made) (Int32.ofNat i) H = if (90 : Int32) ≤ Int32.ofNat made then (some (Int32.ofNat made, H)) else ((zgR H 0 5 3).bind fun (v34 : Nat) => (zgI H v34 4 1).bind fun (v37 : Int32) => if v37 ≤ Int32.ofNat i then (some (Int32.ofNat made, H)) else (zrc H 0 5 <| zb2 (f_X5_makeMove n 0 (Int32.ofNat i) H) fun (r45 : Int32) (h45 : zH) => if r45 = 0 then (some (Int32.ofNat made, h45)) else (zlet (Int32.ofNat made + 1) fun (x51 : Int32) => (zgR h45 0 5 3).bind fun (v55 : Nat) => zrc h45 v55 4 <| (f_X4_nextMove n v55 (Int32.ofNat i) h45).bind fun (r59 : Int32) => zfix3 (PF26 n) N x51 r59 h45))) from rfl]
          rw [if_neg (by rw [e90]; omega), (CS_2 hC).2.1, Option.bind_some, (CS_2 hC).2.2, Option.bind_some, if_neg (by rw [e]; exact c), (CS_z hC).1, i32_succ]
          rfl
        rcases mk_move hn (by omega) hS hC hL hi' ok (by omega) hs with ⟨H', em, hC', hu⟩ | ⟨H', g', m', em, hC', hS', hu⟩
        · refine ⟨Int32.ofNat made, g, m, H', ?_, hC', St_mono hS (by omega), fun Hb pp w hs' w25 w21 => ?_⟩
          · rw [clsS, em, zb2_s, if_pos rfl]
          · obtain ⟨w1, ⟨t25, t26, t27, t28, t20, t21, t22⟩, er⟩ := refS Hb pp w hs' w25 w21
            refine ⟨w1, ?_, t20, t21, t22⟩
            rw [er, hu Hb pp tx w1 hs' t26 t27 t28, zb2_s, if_pos rfl]
        · obtain ⟨d, d1, d4, _, r2⟩ := mv_run (n := n) hC' hL hi'
          obtain ⟨q1, q2, q3, q4⟩ := r2 ok
          rw [q1] at hs
          obtain ⟨r, g2, m2, H2, ec, hC2, hS2, hu2⟩ := pl_loop hn hL f (i + d) (made + 1) (B + 1) g' m' H' N M hs q3 (by omega) (by omega) (by omega) (by omega) (by omega) hS' hC'
          refine ⟨r, g2, m2, H2, ?_, hC2, St_mono hS2 (by omega), fun Hb pp w hs' w25 w21 => ?_⟩
          · obtain ⟨K, hK⟩ : ∃ K, n = K + d := ⟨n - d, by omega⟩
            have en : f_X4_nextMove n 121 (Int32.ofNat i) H' = some (Int32.ofNat (i + d)) := by
              rw [e_NM]
              conv => lhs; arg 2; rw [hK]
              exact q4 K
            rw [clsS, em, zb2_s, if_neg z1, (CS_2 hC').2.1, Option.bind_some, (CS_t hC').1, en, Option.bind_some, ec]
          · obtain ⟨w1, ⟨t25, t26, t27, t28, t20, t21, t22⟩, er⟩ := refS Hb pp w hs' w25 w21
            obtain ⟨w2, e2, hw2⟩ := hu Hb pp tx w1 hs' t26 t27 t28
            have k25 : w2 25 = Int32.ofNat (i + d) := by rw [hw2 25 (by omega) (by omega) (by omega), t25, q1]
            have k21 : w2 21 = Int32.ofNat L := by rw [hw2 21 (by omega) (by omega) (by omega), t21, w21]
            obtain ⟨w3, e3, a1, a2, a3⟩ := hu2 Hb pp w2 hs' k25 k21
            refine ⟨w3, ?_, by rw [a1, hw2 20 (by omega) (by omega) (by omega), t20], by rw [a2, hw2 21 (by omega) (by omega) (by omega), t21], by rw [a3, hw2 22 (by omega) (by omega) (by omega), t22]⟩
            rw [er, e2, zb2_s, if_neg z1, e3]
      · rw [if_neg ok] at hs
        cases hs
theorem call_play {n B : Nat} {H : zH} (hn : 50000 ≤ n) (hB : B ≤ 90000) (hR : REL B H) : ∃ v H1 H2, f_X5_play n 0 H = some (v, H1) ∧ (∀ {β : Type} (o : Option β), zrc H1 123 6 o = o) ∧ f_X6_play n 123 H1 = some (v, H2) ∧ REL (B + 90) H2 := by
  obtain ⟨mm, k, L, g, m, pp, tx, w, st, hs, b, f, hb, hC, hR⟩ := hR
  have hL := hR.2.2.2.2.2.1
  have w20 := hR.2.2.2.2.1
  have w21 := hR.2.2.2.2.2.2.1
  have err := cs_err (n := n) hC hL 91 0 n (by omega) (by omega) (by omega)
  have hup : ∀ j, j < L → (mvT tx L j).1 = true → j < (mvT tx L j).2.1 := fun j hj ok => by
    obtain ⟨d, d1, _, _, r2⟩ := mv_run (n := n) hC hL hj
    have := (r2 ok).1
    omega
  have cls : f_X5_play n 0 H = if (match scan tx L 91 0 with | none => (-1 : Int32) | some e => Int32.ofNat e) = -1 then ((f_X5_saveState n 0 H).bind fun (h19 : zH) => L_X5_play_26 n 0 (0 : Int32) (0 : Int32) h19) else (some (((-10 : Int32) - (match scan tx L 91 0 with | none => (-1 : Int32) | some e => Int32.ofNat e)), H)) := by
    rw [e_X5_play, (CS_2 hC).2.1, Option.bind_some, (CS_t hC).1, e_EP]
    rw [show zfix2 (EPF n H) n 0 0 = some (match scan tx L 91 0 with | none => (-1 : Int32) | some e => Int32.ofNat e) from err, Option.bind_some, (CS_z hC).1]
  have ref := fun Hb => u_err (n := n) (h := Hb) (m := m) (pp := pp) (tx := tx) (hs := hs) hL 91 0 n (upd (upd w 22 0) 25 0) upd_eq (by rw [upd_ne (by omega), upd_ne (by omega), w21]) (by omega) (by omega) hup (by omega)
  have start : ∀ Hb, f_X6_play n 123 (mput Hb m pp tx w hs) = zfix1 (PF10 n) n (mput Hb m pp tx (upd (upd w 22 0) 25 0) hs) := fun Hb => by
    rw [e_X6_play, msI_5, Option.bind_some, msI_12, Option.bind_some, e_P10]
  cases hsc : scan tx L 91 0 with
  | some e =>
    have he := scan_bd 91 0 e hsc
    rw [hsc] at cls
    obtain ⟨Hb, hH, hCC⟩ := CS_split hC
    obtain ⟨w', e1, a1, a2, a3⟩ := ref Hb
    rw [hsc] at e1
    refine ⟨(-10 : Int32) - Int32.ofNat e, H, mput Hb m pp tx w' hs, ?_, (REL_z (B := B) ⟨mm, k, L, g, m, pp, tx, w, st, hs, b, f, hb, hC, hR⟩).2, ?_, ⟨mm, k, L, g, m, pp, tx, w', st, hs, b, f, hb, hCC _ _ _ _ _, Rel_w (Rel_mono hR (by omega)) (by rw [a1, upd_ne (by omega), upd_ne (by omega)]) (by rw [a2, upd_ne (by omega), upd_ne (by omega)])⟩⟩
    · rw [cls]
      exact if_neg (ofNat_ne_neg (by omega))
    · rw [hH, start, e1]
  | none =>
    rw [hsc] at cls
    obtain ⟨H1, es, hC1⟩ := p_saveState (n := n) (by omega) hR.2.2.2.1 (WF_bools hR.1) hC
    obtain ⟨r, g', m', H2, ec, hC2, hS2, hu⟩ := pl_loop (n := n) hn hL 91 0 0 B g m H1 n n hsc (by omega) (by omega) (by omega) (by omega) (by omega) (by omega) ⟨hR.1, hR.2.1, hR.2.2.1⟩ hC1
    obtain ⟨Hb, hH, hCC⟩ := CS_split hC2
    obtain ⟨w', e1, a1, a2, a3⟩ := ref Hb
    rw [hsc] at e1
    have k20 : w' 20 = Int32.ofNat k := by rw [a1, upd_ne (by omega), upd_ne (by omega), w20]
    have k21 : w' 21 = Int32.ofNat L := by rw [a2, upd_ne (by omega), upd_ne (by omega), w21]
    obtain ⟨pp', w2, e2, b20, bw, hp⟩ := u_saves (n := n) (h := Hb) (m := m) (pp := pp) (tx := tx) (w := w') (hs := hs) (by omega) hR.2.2.2.1 k20
    have hsv := saved_push hR.2.2.2.1 hR.1 hR.2.1 hR.2.2.1 hR.2.2.2.2.2.2.2 hp
    obtain ⟨w3, e3, c1, c2, c3⟩ := hu Hb pp' (upd w2 25 0) hs upd_eq (by rw [upd_ne (by omega), bw 21 (by omega), k21])
    refine ⟨r, H2, mput Hb m' pp' tx w3 hs, ?_, fun o => by rw [hH]; exact mgK, ?_, ⟨mm, pushK k, L, g', m', pp', tx, w3, pushSt st k g, hs, b, f, hb, hCC _ _ _ _ _, hS2.1, monz_mono hS2.2.1 (by omega), hS2.2.2, pushK_le hR.2.2.2.1, by rw [c1, upd_ne (by omega), b20], hL, by rw [c2, upd_ne (by omega), bw 21 (by omega), k21], fun i hi => SavedOk_mono (hsv i hi) (by omega)⟩⟩
    · rw [cls, if_pos rfl, es, Option.bind_some, e_P26]
      exact ec
    · rw [hH, start, e1]
      show plRest n (mput Hb m pp tx w' hs) = _
      unfold plRest
      rw [e2, Option.bind_some, msI_12, Option.bind_some, e_P47]
      exact e3
theorem cmp_self (x : Int64) : lg_cmp x x = 0 := by
  unfold lg_cmp
  rw [if_neg (show ¬ x > x from Int64.lt_irrefl), if_pos rfl]
theorem law_call {n B : Nat} {o : Option (Int32 × zH)} {mf : zH → Option (Int32 × zH)} {K : zH → Option Unit} (h : CallOk n o mf B) (hK : ∀ H2, REL B H2 → K H2 = some ()) : (zb2 o fun (r160 : Int32) (h160 : zH) => zrc h160 123 6 <| zb2 (mf h160) fun (r172 : Int32) (h172 : zH) => zrc h172 123 6 <| (f_X6_thrown n 123 h172).bind fun (r178 : Int32) => if r178 = r160 then (zlet (K h172) fun K205 => if r160 = 0 then ((zal h172 131 (0 : Int32)).bind fun (v195 : Int64) => if (lg_cmp v195 (Int32.toInt64 r172)) = 0 then (K205) else (none)) else (K205)) else (none)) = some () := by
  obtain ⟨code, H1, r, H2, e1, e2, e3, e4, hR, z1, z2⟩ := h
  rw [e1, zb2_s, z1, e2, zb2_s, z2, e3, Option.bind_some, if_pos rfl]
  simp only [zlet]
  by_cases c : code = 0
  · rw [if_pos c, e4 c, Option.bind_some, if_pos (cmp_self _)]
    exact hK H2 hR
  · rw [if_neg c]
    exact hK H2 hR
theorem sx {L p : Nat} {xs : Nat → Int32} {x : Int32} (e : x = Int32.ofNat p) (h : p < L) (hL : L ≤ 2048) : zsx L xs x = some (xs p) := by
  have en : x.toNatClampNeg = p := by
    rw [e]
    exact Int32.toNatClampNeg_ofNat_of_lt (by omega)
  have e0 : ¬ x < 0 := by
    rw [e]
    exact nn_big (by omega)
  unfold zsx
  rw [en, if_neg (fun q => by rcases q with q | q; exact e0 q; omega)]
theorem law_run {n L : Nat} {xs : Nat → Int32} (hn : 50000 ≤ n) (hL : L ≤ 2048) : ∀ N q B H, REL B H → B ≤ 90 * q → 4 * q ≤ L + 3 → L < 4 * (q + N + 1) → f_law n L xs (N + 1) (Int32.ofNat (4 * q)) H = some ()
  | N, q, B, H, hR, hq, hqL, hN => by
    have stop : (Int32.ofNat L - 4 < Int32.ofNat (4 * q)) = (L < 4 * q + 4) := by
      by_cases c4 : 4 ≤ L
      · rw [show (4 : Int32) = Int32.ofNat 4 from rfl, i32_subm c4, Int32.lt_iff_toInt_lt, Int32.toInt_ofNat_of_lt (by omega), Int32.toInt_ofNat_of_lt (by omega)]
        exact propext (by omega)
      · have small : ∀ L, L < 4 → ∀ q, q < 2 → Int32.ofNat L - 4 < Int32.ofNat (4 * q) := by decide
        exact propext ⟨fun _ => by omega, fun _ => small L (by omega) q (by omega)⟩
    unfold f_law
    by_cases c : L < 4 * q + 4
    · rw [if_pos (by rw [stop]; exact c)]
    · rw [if_neg (by rw [stop]; exact c)]
      obtain ⟨N, rfl⟩ : ∃ M, N = M + 1 := ⟨N - 1, by omega⟩
      have h0 : zsx L xs (Int32.ofNat (4 * q)) = some (xs (4 * q)) := sx rfl (by omega) hL
      have h1 : zsx L xs (Int32.ofNat (4 * q) + (1 : Int32)) = some (xs (4 * q + 1)) := sx (Int32.ofNat_add _ 1).symm (by omega) hL
      have h2 : zsx L xs (Int32.ofNat (4 * q) + (2 : Int32)) = some (xs (4 * q + 2)) := sx (Int32.ofNat_add _ 2).symm (by omega) hL
      have h3 : zsx L xs (Int32.ofNat (4 * q) + (3 : Int32)) = some (xs (4 * q + 3)) := sx (Int32.ofNat_add _ 3).symm (by omega) hL
      have hB : B ≤ 100000 := by omega
      have ih : ∀ B' H2, REL B' H2 → B' ≤ B + 90 → f_law n L xs (N + 1) (Int32.ofNat (4 * q) + 4) H2 = some () := fun B' H2 h hb => by
        rw [show Int32.ofNat (4 * q) + 4 = Int32.ofNat (4 * (q + 1)) from (Int32.ofNat_add (4 * q) 4).symm]
        exact law_run hn hL N (q + 1) B' H2 h (by omega) (by omega) (by omega)
      obtain ⟨za, zb⟩ := REL_z hR
      rw [h0, Option.bind_some]
      generalize xs (4 * q) &&& (31 : Int32) = v
      generalize xs (4 * q + 1) = a at h1
      generalize xs (4 * q + 2) = b at h2
      generalize xs (4 * q + 3) = d at h3
      generalize Int32.ofNat (4 * q) = i at h0 h1 h2 h3 ih ⊢
      by_cases v0 : v = 0
      · rw [if_pos v0]
        simp only [h1, Option.bind_some]
        exact law_call (K := fun h => f_law n L xs (N + 1) (i + 4) h) (call_begin hn hR) (fun H2 h => ih _ H2 h (by omega))
      rw [if_neg v0]
      by_cases v1 : v = 1
      · rw [if_pos v1]
        simp only [h1, h2, Option.bind_some]
        exact law_call (K := fun h => f_law n L xs (N + 1) (i + 4) h) (call_setTown hn hR) (fun H2 h => ih _ H2 h (by omega))
      rw [if_neg v1]
      by_cases v2 : v = 2
      · rw [if_pos v2]
        simp only [h1, h2, h3, Option.bind_some]
        exact law_call (K := fun h => f_law n L xs (N + 1) (i + 4) h) (call_start hn hB hR) (fun H2 h => ih _ H2 h (by omega))
      rw [if_neg v2]
      by_cases v3 : v = 3
      · rw [if_pos v3]
        simp only [h1, Option.bind_some]
        exact law_call (K := fun h => f_law n L xs (N + 1) (i + 4) h) (call_buy hn hB hR) (fun H2 h => ih _ H2 h (by omega))
      rw [if_neg v3]
      by_cases v4 : v = 4
      · rw [if_pos v4]
        simp only [h1, h2, Option.bind_some]
        exact law_call (K := fun h => f_law n L xs (N + 1) (i + 4) h) (call_sell hn hB hR) (fun H2 h => ih _ H2 h (by omega))
      rw [if_neg v4]
      by_cases v5 : v = 5
      · rw [if_pos v5]
        simp only [h1, h2, Option.bind_some]
        exact law_call (K := fun h => f_law n L xs (N + 1) (i + 4) h) (call_merge hn hB hR) (fun H2 h => ih _ H2 h (by omega))
      rw [if_neg v5]
      by_cases v6 : v = 6
      · rw [if_pos v6]
        exact law_call (K := fun h => f_law n L xs (N + 1) (i + 4) h) (call_pass hn hR) (fun H2 h => ih _ H2 h (by omega))
      rw [if_neg v6]
      by_cases v7 : v = 7
      · rw [if_pos v7]
        exact law_call (K := fun h => f_law n L xs (N + 1) (i + 4) h) (call_extend hn hB hR) (fun H2 h => ih _ H2 h (by omega))
      rw [if_neg v7]
      by_cases v8 : v = 8
      · rw [if_pos v8]
        simp only [h1, h2, h3, Option.bind_some, zlet]
        by_cases d0 : d = 0
        · simp only [if_pos d0]
          exact law_call (K := fun h => f_law n L xs (N + 1) (i + 4) h) (call_operate hn hB hR) (fun H2 h => ih _ H2 h (by omega))
        · simp only [if_neg d0]
          exact law_call (K := fun h => f_law n L xs (N + 1) (i + 4) h) (call_operate hn hB hR) (fun H2 h => ih _ H2 h (by omega))
      rw [if_neg v8]
      by_cases v9 : v = 9
      · rw [if_pos v9]
        simp only [h1, h2, Option.bind_some]
        exact law_call (K := fun h => f_law n L xs (N + 1) (i + 4) h) (call_player hn hR) (fun H2 h => ih _ H2 h (by omega))
      rw [if_neg v9]
      by_cases v10 : v = 10
      · rw [if_pos v10]
        simp only [h1, h2, Option.bind_some]
        exact law_call (K := fun h => f_law n L xs (N + 1) (i + 4) h) (call_company hn hR) (fun H2 h => ih _ H2 h (by omega))
      rw [if_neg v10]
      by_cases v11 : v = 11
      · rw [if_pos v11]
        simp only [h1, h2, Option.bind_some]
        exact law_call (K := fun h => f_law n L xs (N + 1) (i + 4) h) (call_track hR) (fun H2 h => ih _ H2 h (by omega))
      rw [if_neg v11]
      by_cases v12 : v = 12
      · rw [if_pos v12]
        simp only [h1, Option.bind_some]
        exact law_call (K := fun h => f_law n L xs (N + 1) (i + 4) h) (call_value hn hR) (fun H2 h => ih _ H2 h (by omega))
      rw [if_neg v12]
      by_cases v13 : v = 13
      · rw [if_pos v13]
        simp only [h1, Option.bind_some]
        exact law_call (K := fun h => f_law n L xs (N + 1) (i + 4) h) (call_town hR) (fun H2 h => ih _ H2 h (by omega))
      rw [if_neg v13]
      by_cases v14 : v = 14
      · rw [if_pos v14]
        simp only [h1, h2, Option.bind_some]
        exact law_call (K := fun h => f_law n L xs (N + 1) (i + 4) h) (call_route hn hR) (fun H2 h => ih _ H2 h (by omega))
      rw [if_neg v14]
      by_cases v15 : v = 15
      · rw [if_pos v15]
        simp only [h1, h2, h3, Option.bind_some]
        exact law_call (K := fun h => f_law n L xs (N + 1) (i + 4) h) (call_incomeWith hn hR) (fun H2 h => ih _ H2 h (by omega))
      rw [if_neg v15]
      by_cases v16 : v = 16
      · rw [if_pos v16]
        simp only [h1, Option.bind_some]
        exact law_call (K := fun h => f_law n L xs (N + 1) (i + 4) h) (call_bestTrack hn hR) (fun H2 h => ih _ H2 h (by omega))
      rw [if_neg v16]
      by_cases v17 : v = 17
      · rw [if_pos v17]
        simp only [h1, Option.bind_some]
        exact law_call (K := fun h => f_law n L xs (N + 1) (i + 4) h) (call_dividend hn hR) (fun H2 h => ih _ H2 h (by omega))
      rw [if_neg v17]
      by_cases v18 : v = 18
      · rw [if_pos v18]
        obtain ⟨u, H2, e1, e2, hR2⟩ := call_leader hn hR
        rw [za, e1, Option.bind_some, zb, e2, zb2_s, if_pos rfl]
        exact ih B H2 hR2 (by omega)
      rw [if_neg v18]
      by_cases v19 : v = 19
      · rw [if_pos v19]
        obtain ⟨u, H2, e1, e2, hR2⟩ := call_unsold hn hR
        rw [za, e1, Option.bind_some, zb, e2, zb2_s]
        simp only [zlet]
        by_cases cc : (Op.cmpValue (FP.dcmp u u) .l) = 0
        · rw [if_pos cc]
          exact ih B H2 hR2 (by omega)
        · rw [if_neg cc, if_neg cc, if_neg cc]
          exact ih B H2 hR2 (by omega)
      rw [if_neg v19]
      by_cases v20 : v = 20
      · rw [if_pos v20]
        simp only [h1, Option.bind_some]
        exact law_call (K := fun h => f_law n L xs (N + 1) (i + 4) h) (call_append hR) (fun H2 h => ih _ H2 h (by omega))
      rw [if_neg v20]
      by_cases v21 : v = 21
      · rw [if_pos v21]
        obtain ⟨u, H1, H2, e1, z1, e2, hR2⟩ := call_clear hR
        rw [za, e1, zb2_s, z1, e2, zb2_s, if_pos rfl]
        exact ih B H2 hR2 (by omega)
      rw [if_neg v21]
      by_cases v22 : v = 22
      · rw [if_pos v22]
        obtain ⟨u, H1, H2, e1, z1, e2, hR2⟩ := call_play hn (by omega) hR
        rw [za, e1, zb2_s, z1, e2, zb2_s, if_pos rfl]
        exact ih (B + 90) H2 hR2 (by omega)
      rw [if_neg v22]
      by_cases v23 : v = 23
      · rw [if_pos v23]
        exact law_call (K := fun h => f_law n L xs (N + 1) (i + 4) h) (call_undo hn hR) (fun H2 h => ih _ H2 h (by omega))
      rw [if_neg v23]
      by_cases v24 : v = 24
      · rw [if_pos v24]
        obtain ⟨u, H1, H2, e1, z1, e2, hR2⟩ := call_digest hn hR
        rw [za, e1, zb2_s, z1, e2, zb2_s, if_pos (cmp_self _)]
        exact ih B H2 hR2 (by omega)
      rw [if_neg v24]
      exact ih B H hR (by omega)
def lk : List (Nat × va_E) → Nat → Option va_E
  | [], _ => none
  | (k, e) :: t, j => if j = k then some e else lk t j
def lput (h : zH) (b : Nat) (l : List (Nat × va_E)) : zH := fun i => if b ≤ i then (match lk l (i - b) with | some e => some e | none => h i) else h i
theorem lput_nil {h : zH} {b : Nat} : lput h b [] = h := by
  funext i
  unfold lput lk
  split <;> rfl
theorem lset {h : zH} {a b j : Nat} {l : List (Nat × va_E)} {e : va_E} (ha : a = b + j) : zset (lput h b l) a e = lput h b ((j, e) :: l) := by
  funext i
  unfold zset lput
  by_cases c : i = a
  · rw [if_pos c, if_pos (by omega)]
    have : i - b = j := by omega
    rw [this]
    unfold lk
    rw [if_pos rfl]
  · rw [if_neg c]
    by_cases d : b ≤ i
    · rw [if_pos d, if_pos d]
      show _ = (match (if i - b = j then some e else lk l (i - b)) with | some e => some e | none => h i)
      rw [if_neg (by omega)]
    · rw [if_neg d, if_neg d]
theorem lget {h : zH} {a b j : Nat} {l : List (Nat × va_E)} {e : va_E} (ha : a = b + j) (hl : lk l j = some e) : lput h b l a = some e := by
  unfold lput
  rw [if_pos (by omega), show a - b = j by omega, hl]
theorem st_p {a b j ci k : Nat} {h : zH} {l : List (Nat × va_E)} {fs : List Value} {v : Value} {β : Type} {F : zH → Option β} {r : Option β} (ha : a = b + j) (hl : lk l j = some (.inr (ci, fs))) (hk : Nat.ble (k + 1) fs.length = true) (hn : F (lput h b ((j, .inr (ci, fs.set k v)) :: l)) = r) : (zp (lput h b l) a ci k v).bind F = r := by
  rw [zp_some (lget ha hl) (Nat.le_of_ble_eq_true hk), Option.bind_some, lset ha]
  exact hn
theorem st_sp {a a2 b i j ci k : Nat} {h : zH} {l : List (Nat × va_E)} {e : va_E} {fs : List Value} {v : Value} {β : Type} {F : zH → Option β} {r : Option β} (h2 : a2 = b + i) (ha : a = b + j) (hl : lk ((i, e) :: l) j = some (.inr (ci, fs))) (hk : Nat.ble (k + 1) fs.length = true) (hn : F (lput h b ((j, .inr (ci, fs.set k v)) :: (i, e) :: l)) = r) : (zp (zset (lput h b l) a2 e) a ci k v).bind F = r := by
  rw [lset h2]
  exact st_p ha hl hk hn
theorem st_c {a b j ci : Nat} {h : zH} {l : List (Nat × va_E)} {fs : List Value} {β : Type} {o r : Option β} (ha : a = b + j) (hl : lk l j = some (.inr (ci, fs))) (hn : o = r) : zrc (lput h b l) a ci o = r := by
  rw [zrc_some (lget ha hl)]
  exact hn
theorem st_R {a b j ci k x : Nat} {h : zH} {l : List (Nat × va_E)} {fs : List Value} {β : Type} {F : Nat → Option β} {r : Option β} (ha : a = b + j) (hl : lk l j = some (.inr (ci, fs))) (hk : fs[k]? = some (.ref x)) (hn : F x = r) : (zgR (lput h b l) a ci k).bind F = r := by
  unfold zgR
  rw [zO_some (lget ha hl)]
  simp only [hk]
  exact hn
theorem st_i {a b j N p : Nat} {h : zH} {l : List (Nat × va_E)} {f : Row} {i v v' : Int32} {β : Type} {F : zH → Option β} {r : Option β} (ha : a = b + j) (hl : lk l j = some (.inl (0, N, .inl f))) (hi : i = Int32.ofNat p) (hp : p < N) (hp2 : p < 500) (hv : v = v') (hn : F (lput h b ((j, .inl (0, N, .inl (upd f p v'))) :: l)) = r) : (zsi (lput h b l) a i v).bind F = r := by
  have e : zIA (lput h b l) a = some (N, f) := by
    unfold zIA
    rw [lget ha hl]
    exact if_pos rfl
  have e0 : ¬ i < 0 := by
    rw [hi]
    exact nn_neg (by omega)
  have e1 : i.toNatClampNeg = p := by rw [hi, nn_of (by omega)]
  unfold zsi
  rw [e]
  simp only
  rw [if_neg (fun q => by rcases q with q | q; exact e0 q; omega), Option.bind_some, lset ha, e1, hv]
  exact hn
theorem st_r {a b j k c ci N p q : Nat} {h : zH} {l : List (Nat × va_E)} {f : Nat → Option Nat} {fs : List Value} {i : Int32} {β : Type} {F : zH → Option β} {r : Option β} (ha : a = b + j) (hq : q = b + k) (hl : lk l j = some (.inl (c, N, .inr (.inr (.inr (.inr f)))))) (hlk : lk l k = some (.inr (ci, fs))) (hi : i = Int32.ofNat p) (hp : p < N) (hp2 : p < 500) (hn : F (lput h b ((j, .inl (c, N, .inr (.inr (.inr (.inr (va_up f p (some q))))))) :: l)) = r) : (zsr (lput h b l) a c ci i q).bind F = r := by
  have e : zRA (lput h b l) a c = some (N, f) := by
    unfold zRA
    rw [lget ha hl]
    exact if_pos rfl
  have e0 : ¬ i < 0 := by
    rw [hi]
    exact nn_neg (by omega)
  have e1 : i.toNatClampNeg = p := by rw [hi, nn_of (by omega)]
  unfold zsr
  rw [e]
  simp only [zO_some (lget hq hlk)]
  rw [if_neg (fun q => by rcases q with q | q; exact e0 q; omega), Option.bind_some, lset ha, e1]
  exact hn
theorem lput_put {h : zH} {b : Nat} {l : List (Nat × va_E)} {g : Row} (h1 : ∀ j, j < 23 → lk l j = gcell b g j) (h2 : ∀ j, 23 ≤ j → lk l j = none) : lput h b l = put h b g := by
  have some_g : ∀ j, ∃ e, gcell b g j = some e := fun j => by
    unfold gcell
    repeat' split
    all_goals exact ⟨_, rfl⟩
  funext i
  unfold lput put
  by_cases c : b ≤ i
  · by_cases d : i < b + 23
    · rw [if_pos c, if_pos ⟨c, d⟩, h1 (i - b) (by omega)]
      obtain ⟨e, he⟩ := some_g (i - b)
      rw [he]
    · rw [if_pos c, if_neg (by omega), h2 (i - b) (by omega)]
  · rw [if_neg c, if_neg (by omega)]
theorem lmna {h : zH} {a b j : Nat} {l : List (Nat × va_E)} (ha : a = b + j) : zmna (lput h b l) a 8 8 = lput h b ((j, .inl (2, 8, .inr (.inr (.inr (.inr (fun i => if i < 8 then some (a + 1 + i) else none)))))) :: (j + 1, .inl (0, 8, .inl (fun _ => 0))) :: (j + 2, .inl (0, 8, .inl (fun _ => 0))) :: (j + 3, .inl (0, 8, .inl (fun _ => 0))) :: (j + 4, .inl (0, 8, .inl (fun _ => 0))) :: (j + 5, .inl (0, 8, .inl (fun _ => 0))) :: (j + 6, .inl (0, 8, .inl (fun _ => 0))) :: (j + 7, .inl (0, 8, .inl (fun _ => 0))) :: (j + 8, .inl (0, 8, .inl (fun _ => 0))) :: l) := by
  funext q
  unfold zmna
  by_cases c : q = a
  · rw [if_pos c, c]
    refine (lget ha ?_).symm
    unfold lk
    rw [if_pos rfl]
  · rw [if_neg c]
    by_cases d : a + 1 ≤ q ∧ q < a + 1 + 8
    · rw [if_pos d]
      refine (lget (show q = b + (q - b) by omega) ?_).symm
      unfold lk
      rw [if_neg (by omega)]
      have key : ∀ (x : va_E) (k : Nat), k ≤ 7 → j + (k + 1) = q - b → lk ((j + 1, x) :: (j + 2, x) :: (j + 3, x) :: (j + 4, x) :: (j + 5, x) :: (j + 6, x) :: (j + 7, x) :: (j + 8, x) :: l) (q - b) = some x := by
        intro x k hk hq
        simp only [lk]
        by_cases q1 : q - b = j + 1
        · rw [if_pos q1]
        · by_cases q2 : q - b = j + 2
          · rw [if_neg q1, if_pos q2]
          · by_cases q3 : q - b = j + 3
            · rw [if_neg q1, if_neg q2, if_pos q3]
            · by_cases q4 : q - b = j + 4
              · rw [if_neg q1, if_neg q2, if_neg q3, if_pos q4]
              · by_cases q5 : q - b = j + 5
                · rw [if_neg q1, if_neg q2, if_neg q3, if_neg q4, if_pos q5]
                · by_cases q6 : q - b = j + 6
                  · rw [if_neg q1, if_neg q2, if_neg q3, if_neg q4, if_neg q5, if_pos q6]
                  · by_cases q7 : q - b = j + 7
                    · rw [if_neg q1, if_neg q2, if_neg q3, if_neg q4, if_neg q5, if_neg q6, if_pos q7]
                    · rw [if_neg q1, if_neg q2, if_neg q3, if_neg q4, if_neg q5, if_neg q6, if_neg q7, if_pos (by omega)]
      exact key _ (q - a - 1) (by omega) (by omega)
    · rw [if_neg d]
      unfold lput
      by_cases f : b ≤ q
      · rw [if_pos f, if_pos f]
        simp only [lk]
        rw [if_neg (by omega), if_neg (by omega), if_neg (by omega), if_neg (by omega), if_neg (by omega), if_neg (by omega), if_neg (by omega), if_neg (by omega), if_neg (by omega)]
      · rw [if_neg f, if_neg f]
def gz : Row := fun i => if 126 ≤ i then Int32.ofNat (10 + 10 * ((i - 126) % 4)) else 0
def fresh : va_E := .inr (1, [.null, .null, .null, .null, .null, .int 0, .int 0, .int 0, .int 0, .int 0, .int 0, .int 0, .int 0, .int 0, .int 0])
theorem gz_0 {i : Nat} (h : i < 126) : gz i = 0 := if_neg (by omega)
theorem tr_0 {N : Nat} {f : Row} (h : ∀ i, i < N → f i = 0) : (fun _ => 0 : Row) = tr N f := by
  funext i
  unfold tr
  by_cases c : i < N
  · rw [if_pos c, h i c]
  · rw [if_neg c]
theorem ai {N : Nat} {f f' : Row} (e : f = f') : (some (.inl (0, N, .inl f)) : Option va_E) = some (.inl (0, N, .inl f')) := by rw [e]
theorem ar {c N : Nat} {f f' : Nat → Option Nat} (e : f = f') : (some (.inl (c, N, .inr (.inr (.inr (.inr f))))) : Option va_E) = some (.inl (c, N, .inr (.inr (.inr (.inr f'))))) := by rw [e]
theorem tw8 : upd (upd (upd (upd (upd (upd (upd (upd (fun _ => 0) 0 (Int32.ofNat 10)) 1 (Int32.ofNat 20)) 2 (Int32.ofNat 30)) 3 (Int32.ofNat 40)) 4 (Int32.ofNat 10)) 5 (Int32.ofNat 20)) 6 (Int32.ofNat 30)) 7 (Int32.ofNat 40) = tr 8 (fun i => gz (126 + i)) := by
  funext i
  by_cases c : i < 8
  · match i, c with
    | 0, _ => rfl
    | 1, _ => rfl
    | 2, _ => rfl
    | 3, _ => rfl
    | 4, _ => rfl
    | 5, _ => rfl
    | 6, _ => rfl
    | 7, _ => rfl
  · unfold upd tr
    rw [if_neg (by omega), if_neg (by omega), if_neg (by omega), if_neg (by omega), if_neg (by omega), if_neg (by omega), if_neg (by omega), if_neg (by omega), if_neg c]
theorem co4 {b : Nat} : va_up (va_up (va_up (va_up (fun _ => none) 0 (some (b + 1 + 14))) 1 (some (b + 1 + 16))) 2 (some (b + 1 + 18))) 3 (some (b + 1 + 20)) = fun i => if i < 4 then some (b + 15 + 2 * i) else none := by
  funext i
  by_cases c : i < 4
  · match i, c with
    | 0, _ => rfl
    | 1, _ => rfl
    | 2, _ => rfl
    | 3, _ => rfl
  · unfold va_up
    rw [if_neg (by omega), if_neg (by omega), if_neg (by omega), if_neg (by omega), if_neg c]
theorem x1_init {n b : Nat} {h : zH} (hn : 600 ≤ n) : f_X1_init n b 1 (b + 1) (zset h b fresh) = some (put h b (rReset gz 3)) := by
  rw [show zset h b fresh = lput h b [(0, fresh)] from by rw [← lset (h := h) (a := b) (b := b) (j := 0) (l := []) rfl, lput_nil]]
  unfold f_X1_init f_X2_init f_X0_init fresh
  simp only [zlet, Option.bind_assoc, Option.bind_some]
  rw [lset (j := 1) rfl]
  refine st_sp (i := 2) (j := 1) rfl rfl rfl rfl ?_
  rw [lmna (j := 3) rfl]
  refine st_p (j := 1) rfl rfl rfl ?_
  refine st_R (j := 1) rfl rfl rfl ?_
  refine st_i (j := 2) (p := 0) (v' := Int32.ofNat 10) rfl rfl rfl (by omega) (by omega) (by decide) ?_
  refine st_R (j := 1) rfl rfl rfl ?_
  refine st_i (j := 2) (p := 1) (v' := Int32.ofNat 20) rfl rfl rfl (by omega) (by omega) (by decide) ?_
  refine st_R (j := 1) rfl rfl rfl ?_
  refine st_i (j := 2) (p := 2) (v' := Int32.ofNat 30) rfl rfl rfl (by omega) (by omega) (by decide) ?_
  refine st_R (j := 1) rfl rfl rfl ?_
  refine st_i (j := 2) (p := 3) (v' := Int32.ofNat 40) rfl rfl rfl (by omega) (by omega) (by decide) ?_
  refine st_R (j := 1) rfl rfl rfl ?_
  refine st_i (j := 2) (p := 4) (v' := Int32.ofNat 10) rfl rfl rfl (by omega) (by omega) (by decide) ?_
  refine st_R (j := 1) rfl rfl rfl ?_
  refine st_i (j := 2) (p := 5) (v' := Int32.ofNat 20) rfl rfl rfl (by omega) (by omega) (by decide) ?_
  refine st_R (j := 1) rfl rfl rfl ?_
  refine st_i (j := 2) (p := 6) (v' := Int32.ofNat 30) rfl rfl rfl (by omega) (by omega) (by decide) ?_
  refine st_R (j := 1) rfl rfl rfl ?_
  refine st_i (j := 2) (p := 7) (v' := Int32.ofNat 40) rfl rfl rfl (by omega) (by omega) (by decide) ?_
  refine st_p (j := 0) rfl rfl rfl ?_
  refine st_sp (i := 12) (j := 0) rfl rfl rfl rfl ?_
  refine st_sp (i := 13) (j := 0) rfl rfl rfl rfl ?_
  refine st_sp (i := 14) (j := 0) rfl rfl rfl rfl ?_
  refine st_p (j := 0) rfl rfl rfl ?_
  refine st_R (j := 0) rfl rfl rfl ?_
  rw [lset (j := 15) rfl]
  refine st_sp (i := 16) (j := 15) rfl rfl rfl rfl ?_
  refine st_r (j := 12) (k := 15) (p := 0) rfl rfl rfl rfl rfl (by omega) (by omega) ?_
  refine st_R (j := 0) rfl rfl rfl ?_
  rw [lset (j := 17) rfl]
  refine st_sp (i := 18) (j := 17) rfl rfl rfl rfl ?_
  refine st_r (j := 12) (k := 17) (p := 1) rfl rfl rfl rfl rfl (by omega) (by omega) ?_
  refine st_R (j := 0) rfl rfl rfl ?_
  rw [lset (j := 19) rfl]
  refine st_sp (i := 20) (j := 19) rfl rfl rfl rfl ?_
  refine st_r (j := 12) (k := 19) (p := 2) rfl rfl rfl rfl rfl (by omega) (by omega) ?_
  refine st_R (j := 0) rfl rfl rfl ?_
  rw [lset (j := 21) rfl]
  refine st_sp (i := 22) (j := 21) rfl rfl rfl rfl ?_
  refine st_r (j := 12) (k := 21) (p := 3) rfl rfl rfl rfl rfl (by omega) (by omega) ?_
  refine st_c (j := 0) rfl rfl ?_
  rw [lput_put (g := gz) ?_ ?_, p_reset hn]
  · rfl
  · intro j hj
    match j, hj with
    | 0, _ => rfl
    | 1, _ => rfl
    | 2, _ => exact ai tw8
    | 3, _ => rfl
    | 4, _ => exact ai (tr_0 (fun i hi => gz_0 (by omega)))
    | 5, _ => exact ai (tr_0 (fun i hi => gz_0 (by omega)))
    | 6, _ => exact ai (tr_0 (fun i hi => gz_0 (by omega)))
    | 7, _ => exact ai (tr_0 (fun i hi => gz_0 (by omega)))
    | 8, _ => exact ai (tr_0 (fun i hi => gz_0 (by omega)))
    | 9, _ => exact ai (tr_0 (fun i hi => gz_0 (by omega)))
    | 10, _ => exact ai (tr_0 (fun i hi => gz_0 (by omega)))
    | 11, _ => exact ai (tr_0 (fun i hi => gz_0 (by omega)))
    | 12, _ => exact ar co4
    | 13, _ => exact ai (tr_0 (fun i hi => gz_0 (by omega)))
    | 14, _ => exact ai (tr_0 (fun i hi => gz_0 (by omega)))
    | 15, _ => rfl
    | 16, _ => exact ai (tr_0 (fun i hi => gz_0 (by omega)))
    | 17, _ => rfl
    | 18, _ => exact ai (tr_0 (fun i hi => gz_0 (by omega)))
    | 19, _ => rfl
    | 20, _ => exact ai (tr_0 (fun i hi => gz_0 (by omega)))
    | 21, _ => rfl
    | 22, _ => exact ai (tr_0 (fun i hi => gz_0 (by omega)))
    | k + 23, hk => exact absurd hk (by omega)
  · intro j hj
    simp only [lk]
    repeat rw [if_neg (by omega)]
theorem zs_out {X : zH} {b a : Nat} {g : Row} {e : va_E} (ha : a < b ∨ b + 23 ≤ a) : zset (put X b g) a e = put (zset X a e) b g := by
  funext i
  simp only [zset, put]
  by_cases c : i = a
  · rw [if_pos c, if_neg (by omega), if_pos c]
  · rw [if_neg c, if_neg c]
def g0 : Row := rReset gz 3
def nest : List Nat → zH → zH
  | [], X => X
  | b :: t, X => put (nest t X) b g0
def outB : List Nat → Nat → Bool
  | [], _ => true
  | b :: t, a => (Nat.blt a b || Nat.ble (b + 23) a) && outB t a
theorem out_1 {b a : Nat} (h : (Nat.blt a b || Nat.ble (b + 23) a) = true) : a < b ∨ b + 23 ≤ a := by
  rcases Bool.or_eq_true_iff.mp h with q | q
  · exact Or.inl (Nat.blt_eq.mp q)
  · exact Or.inr (Nat.le_of_ble_eq_true q)
theorem nest_at : ∀ (bs : List Nat) (X : zH) (a : Nat), outB bs a = true → nest bs X a = X a
  | [], _, _, _ => rfl
  | b :: t, X, a, h => by
    obtain ⟨q1, q2⟩ := Bool.and_eq_true_iff.mp h
    show put (nest t X) b g0 a = X a
    rw [put_out (out_1 q1), nest_at t X a q2]
theorem nest_set : ∀ (bs : List Nat) (X : zH) (a : Nat) (e : va_E), outB bs a = true → zset (nest bs X) a e = nest bs (zset X a e)
  | [], _, _, _, _ => rfl
  | b :: t, X, a, e, h => by
    obtain ⟨q1, q2⟩ := Bool.and_eq_true_iff.mp h
    show zset (put (nest t X) b g0) a e = put (nest t (zset X a e)) b g0
    rw [zs_out (out_1 q1), nest_set t X a e q2]
def l0 (l : List (Nat × va_E)) : zH := lput (fun _ => none) 0 l
theorem l0_set {l : List (Nat × va_E)} {a : Nat} {e : va_E} : zset (l0 l) a e = l0 ((a, e) :: l) := lset (Nat.zero_add a).symm
theorem l0_get {l : List (Nat × va_E)} {a : Nat} {e : va_E} (h : lk l a = some e) : l0 l a = some e := lget (Nat.zero_add a).symm h
theorem sn_p {bs : List Nat} {a j ci k : Nat} {l : List (Nat × va_E)} {fs : List Value} {v : Value} {β : Type} {F : zH → Option β} {r : Option β} (ha : a = j) (ho : outB bs j = true) (hl : lk l j = some (.inr (ci, fs))) (hk : Nat.ble (k + 1) fs.length = true) (hn : F (nest bs (l0 ((j, .inr (ci, fs.set k v)) :: l))) = r) : (zp (nest bs (l0 l)) a ci k v).bind F = r := by
  subst ha
  rw [zp_some (show nest bs (l0 l) a = some (.inr (ci, fs)) from by rw [nest_at bs _ a ho, l0_get hl]) (Nat.le_of_ble_eq_true hk), Option.bind_some, nest_set bs _ a _ ho, l0_set]
  exact hn
theorem sn_set {bs : List Nat} {a j : Nat} {l : List (Nat × va_E)} {e : va_E} (ha : a = j) (ho : outB bs j = true) : zset (nest bs (l0 l)) a e = nest bs (l0 ((j, e) :: l)) := by
  subst ha
  rw [nest_set bs _ a _ ho, l0_set]
theorem sn_sp {bs : List Nat} {a a2 i j ci k : Nat} {l : List (Nat × va_E)} {e : va_E} {fs : List Value} {v : Value} {β : Type} {F : zH → Option β} {r : Option β} (h2 : a2 = i) (ho2 : outB bs i = true) (ha : a = j) (ho : outB bs j = true) (hl : lk ((i, e) :: l) j = some (.inr (ci, fs))) (hk : Nat.ble (k + 1) fs.length = true) (hn : F (nest bs (l0 ((j, .inr (ci, fs.set k v)) :: (i, e) :: l))) = r) : (zp (zset (nest bs (l0 l)) a2 e) a ci k v).bind F = r := by
  rw [sn_set h2 ho2]
  exact sn_p ha ho hl hk hn
theorem sn_R {bs : List Nat} {a j ci k x : Nat} {l : List (Nat × va_E)} {fs : List Value} {β : Type} {F : Nat → Option β} {r : Option β} (ha : a = j) (ho : outB bs j = true) (hl : lk l j = some (.inr (ci, fs))) (hk : fs[k]? = some (.ref x)) (hn : F x = r) : (zgR (nest bs (l0 l)) a ci k).bind F = r := by
  subst ha
  unfold zgR
  rw [zO_some (show nest bs (l0 l) a = some (.inr (ci, fs)) from by rw [nest_at bs _ a ho, l0_get hl])]
  simp only [hk]
  exact hn
theorem sn_g {n : Nat} {bs : List Nat} {X : zH} {b a p k : Nat} {e : va_E} {β : Type} {F : zH → Option β} {r : Option β} (hn : 600 ≤ n) (ha : a = b) (hp : p = 1) (hk : k = b + 1) (he : e = fresh) (hF : F (nest (b :: bs) X) = r) : (f_X1_init n a p k (zset (nest bs X) a e)).bind F = r := by
  subst ha
  subst hp
  subst hk
  subst he
  rw [x1_init hn, Option.bind_some]
  exact hF
theorem sn_r {bs : List Nat} {b a j c N p q : Nat} {l : List (Nat × va_E)} {f : Nat → Option Nat} {i : Int32} {β : Type} {F : zH → Option β} {r : Option β} (ha : a = j) (hq : q = b) (ho : outB (b :: bs) j = true) (hl : lk l j = some (.inl (c, N, .inr (.inr (.inr (.inr f)))))) (hi : i = Int32.ofNat p) (hp : p < N) (hp2 : p < 500) (hn : F (nest (b :: bs) (l0 ((j, .inl (c, N, .inr (.inr (.inr (.inr (va_up f p (some b))))))) :: l))) = r) : (zsr (nest (b :: bs) (l0 l)) a c 1 i q).bind F = r := by
  subst ha
  subst hq
  have e : zRA (nest (q :: bs) (l0 l)) a c = some (N, f) := by
    unfold zRA
    rw [nest_at _ _ a ho, l0_get hl]
    exact if_pos rfl
  have eo : zO (nest (q :: bs) (l0 l)) q 1 = some (gobj q g0) := zO_some (show put (nest bs (l0 l)) q g0 q = some (.inr (1, gobj q g0)) from by
    rw [show put (nest bs (l0 l)) q g0 q = put (nest bs (l0 l)) q g0 (q + 0) from rfl, put_in (by omega)]
    rfl)
  have e0 : ¬ i < 0 := by
    rw [hi]
    exact nn_neg (by omega)
  have e1 : i.toNatClampNeg = p := by rw [hi, nn_of (by omega)]
  unfold zsr
  rw [e]
  simp only [eo]
  rw [if_neg (fun q => by rcases q with q | q; exact e0 q; omega), Option.bind_some, nest_set _ _ a _ ho, l0_set, e1]
  exact hn
def L5ok (l : List (Nat × va_E)) : Prop := lk l 0 = some (.inr (5, [.ref 5, .ref 28, .int 0, .ref 121])) ∧ lk l 1 = some (.inr (3, [.ref 2, .ref 3, .ref 4, .null, .int 0, .int 0, .int 0, .int 0])) ∧ lk l 2 = some (.inl (0, 8, .inl (fun _ => 0))) ∧ lk l 3 = some (.inl (0, 5, .inl (fun _ => 0))) ∧ lk l 4 = some (.inl (0, 5, .inl (fun _ => 0))) ∧ lk l 28 = some (.inl (4, 4, .inr (.inr (.inr (.inr (va_up (va_up (va_up (va_up (fun _ => none) 0 (some 29)) 1 (some 52)) 2 (some 75)) 3 (some 98))))))) ∧ lk l 121 = some (.inr (4, [.ref 122, .int 0])) ∧ lk l 122 = some (.inl (0, 90, .inl (fun _ => 0)))
theorem x5_init {n : Nat} (hn : 600 ≤ n) : ∃ l, f_X5_init n 0 1 (zset (fun _ => none) 0 (.inr (5, [.null, .null, .int 0, .null]))) = some (nest [98, 75, 52, 29, 5] (l0 l)) ∧ L5ok l := by
  rw [show zset (fun _ => none) 0 (.inr (5, [.null, .null, .int 0, .null])) = nest [] (l0 [(0, .inr (5, [.null, .null, .int 0, .null]))]) from by
    show zset (fun _ => none) 0 _ = l0 _
    rw [← l0_set (l := [])]
    unfold l0
    rw [lput_nil]]
  unfold f_X5_init f_X3_init f_X4_init
  simp only [zlet, Option.bind_assoc, Option.bind_some]
  rw [sn_set (j := 1) rfl rfl]
  refine ⟨?_, ?_, ?_⟩
  rotate_left
  refine sn_sp (i := 2) (j := 1) rfl rfl rfl rfl rfl rfl ?_
  refine sn_sp (i := 3) (j := 1) rfl rfl rfl rfl rfl rfl ?_
  refine sn_sp (i := 4) (j := 1) rfl rfl rfl rfl rfl rfl ?_
  refine sn_g (b := 5) hn rfl rfl rfl rfl ?_
  refine sn_p (j := 0) rfl rfl rfl rfl ?_
  refine sn_sp (i := 28) (j := 0) rfl rfl rfl rfl rfl rfl ?_
  refine sn_R (j := 0) rfl rfl rfl rfl ?_
  refine sn_g (b := 29) hn rfl rfl rfl rfl ?_
  refine sn_r (b := 29) (j := 28) (p := 0) rfl rfl rfl rfl rfl (by omega) (by omega) ?_
  refine sn_R (j := 0) rfl rfl rfl rfl ?_
  refine sn_g (b := 52) hn rfl rfl rfl rfl ?_
  refine sn_r (b := 52) (j := 28) (p := 1) rfl rfl rfl rfl rfl (by omega) (by omega) ?_
  refine sn_R (j := 0) rfl rfl rfl rfl ?_
  refine sn_g (b := 75) hn rfl rfl rfl rfl ?_
  refine sn_r (b := 75) (j := 28) (p := 2) rfl rfl rfl rfl rfl (by omega) (by omega) ?_
  refine sn_R (j := 0) rfl rfl rfl rfl ?_
  refine sn_g (b := 98) hn rfl rfl rfl rfl ?_
  refine sn_r (b := 98) (j := 28) (p := 3) rfl rfl rfl rfl rfl (by omega) (by omega) ?_
  refine sn_p (j := 0) rfl rfl rfl rfl ?_
  rw [sn_set (j := 121) rfl rfl]
  refine sn_sp (i := 122) (j := 121) rfl rfl rfl rfl rfl rfl ?_
  refine sn_p (j := 0) rfl rfl rfl rfl ?_
  rfl
  exact ⟨rfl, rfl, rfl, rfl, rfl, rfl, rfl, rfl⟩
theorem lput_mput {h : zH} {l : List (Nat × va_E)} {m pp tx w : Row} {hs : Int64} (h1 : ∀ j, j < 8 → lk l j = mcell m pp tx w hs (123 + j)) (h2 : ∀ j, 8 ≤ j → lk l j = none) : lput h 123 l = mput h m pp tx w hs := by
  have some_g : ∀ j, ∃ e, mcell m pp tx w hs j = some e := fun j => by
    unfold mcell
    repeat' split
    all_goals exact ⟨_, rfl⟩
  funext i
  unfold lput mput
  by_cases c : 123 ≤ i
  · by_cases d : i < 131
    · rw [if_pos c, if_pos ⟨c, d⟩, h1 (i - 123) (by omega), show 123 + (i - 123) = i by omega]
      obtain ⟨e, he⟩ := some_g i
      rw [he]
    · rw [if_pos c, if_neg (by omega), h2 (i - 123) (by omega)]
  · rw [if_neg c, if_neg (by omega)]
def fresh6 : va_E := .inr (6, [.null, .null, .int 0, .null, .int 0, .int 0, .null, .null, .null, .null, .int 0, .int 0, .int 0, .int 0, .int 0, .int 0, .long 0])
def zrow : Row := fun _ => 0
theorem tw134 : upd (upd (upd (upd (upd (upd (upd (upd (fun _ => 0) 126 (Int32.ofNat 10)) 127 (Int32.ofNat 20)) 128 (Int32.ofNat 30)) 129 (Int32.ofNat 40)) 130 (Int32.ofNat 10)) 131 (Int32.ofNat 20)) 132 (Int32.ofNat 30)) 133 (Int32.ofNat 40) = tr 134 gz := by
  funext i
  by_cases c : 126 ≤ i ∧ i < 134
  · obtain ⟨j, hj, rfl⟩ : ∃ j, j < 8 ∧ i = 126 + j := ⟨i - 126, by omega, by omega⟩
    match j, hj with
    | 0, _ => rfl
    | 1, _ => rfl
    | 2, _ => rfl
    | 3, _ => rfl
    | 4, _ => rfl
    | 5, _ => rfl
    | 6, _ => rfl
    | 7, _ => rfl
  · have e : upd (upd (upd (upd (upd (upd (upd (upd (fun _ => 0) 126 (Int32.ofNat 10)) 127 (Int32.ofNat 20)) 128 (Int32.ofNat 30)) 129 (Int32.ofNat 40)) 130 (Int32.ofNat 10)) 131 (Int32.ofNat 20)) 132 (Int32.ofNat 30)) 133 (Int32.ofNat 40) i = 0 := by
      rw [upd_ne (by omega), upd_ne (by omega), upd_ne (by omega), upd_ne (by omega), upd_ne (by omega), upd_ne (by omega), upd_ne (by omega), upd_ne (by omega)]
    rw [e]
    unfold tr
    by_cases d : i < 134
    · rw [if_pos d, gz_0 (by omega)]
    · rw [if_neg d]
theorem x6_init {n : Nat} {h : zH} (hn : 600 ≤ n) : f_X6_init n 123 124 (zset h 123 fresh6) = (f_X6_begins n 123 3 (mput h gz zrow zrow zrow 0)).bind fun h92 => some h92 := by
  rw [show zset h 123 fresh6 = lput h 123 [(0, fresh6)] from by rw [← lset (h := h) (a := 123) (b := 123) (j := 0) (l := []) rfl, lput_nil]]
  unfold f_X6_init fresh6
  simp only [zlet]
  refine st_sp (i := 1) (j := 0) rfl rfl rfl rfl ?_
  refine st_sp (i := 2) (j := 0) rfl rfl rfl rfl ?_
  refine st_sp (i := 3) (j := 0) rfl rfl rfl rfl ?_
  refine st_sp (i := 4) (j := 0) rfl rfl rfl rfl ?_
  refine st_sp (i := 5) (j := 0) rfl rfl rfl rfl ?_
  refine st_sp (i := 6) (j := 0) rfl rfl rfl rfl ?_
  refine st_sp (i := 7) (j := 0) rfl rfl rfl rfl ?_
  refine st_R (j := 0) rfl rfl rfl ?_
  refine st_i (j := 1) (p := 126) (v' := Int32.ofNat 10) rfl rfl (by decide) (by omega) (by omega) (by decide) ?_
  refine st_R (j := 0) rfl rfl rfl ?_
  refine st_i (j := 1) (p := 127) (v' := Int32.ofNat 20) rfl rfl (by decide) (by omega) (by omega) (by decide) ?_
  refine st_R (j := 0) rfl rfl rfl ?_
  refine st_i (j := 1) (p := 128) (v' := Int32.ofNat 30) rfl rfl (by decide) (by omega) (by omega) (by decide) ?_
  refine st_R (j := 0) rfl rfl rfl ?_
  refine st_i (j := 1) (p := 129) (v' := Int32.ofNat 40) rfl rfl (by decide) (by omega) (by omega) (by decide) ?_
  refine st_R (j := 0) rfl rfl rfl ?_
  refine st_i (j := 1) (p := 130) (v' := Int32.ofNat 10) rfl rfl (by decide) (by omega) (by omega) (by decide) ?_
  refine st_R (j := 0) rfl rfl rfl ?_
  refine st_i (j := 1) (p := 131) (v' := Int32.ofNat 20) rfl rfl (by decide) (by omega) (by omega) (by decide) ?_
  refine st_R (j := 0) rfl rfl rfl ?_
  refine st_i (j := 1) (p := 132) (v' := Int32.ofNat 30) rfl rfl (by decide) (by omega) (by omega) (by decide) ?_
  refine st_R (j := 0) rfl rfl rfl ?_
  refine st_i (j := 1) (p := 133) (v' := Int32.ofNat 40) rfl rfl (by decide) (by omega) (by omega) (by decide) ?_
  refine st_c (j := 0) rfl rfl ?_
  rw [lput_mput (m := gz) (pp := zrow) (tx := zrow) (w := zrow) (hs := 0) ?_ ?_]
  · intro j hj
    match j, hj with
    | 0, _ => rfl
    | 1, _ => exact ai tw134
    | 2, _ => exact ai (tr_0 (fun i hi => rfl))
    | 3, _ => exact ai (tr_0 (fun i hi => rfl))
    | 4, _ => exact ai (tr_0 (fun i hi => rfl))
    | 5, _ => exact ai (tr_0 (fun i hi => rfl))
    | 6, _ => exact ai (tr_0 (fun i hi => rfl))
    | 7, _ => exact ai (tr_0 (fun i hi => rfl))
    | k + 8, hk => exact absurd hk (by omega)
  · intro j hj
    simp only [lk]
    repeat rw [if_neg (by omega)]
theorem va4 : (va_up (va_up (va_up (va_up (fun _ => none) 0 (some 29)) 1 (some 52)) 2 (some 75)) 3 (some 98) : Nat → Option Nat) = fun i => if i < 4 then some (29 + 23 * i) else none := by
  funext i
  by_cases c : i < 4
  · match i, c with
    | 0, _ => rfl
    | 1, _ => rfl
    | 2, _ => rfl
    | 3, _ => rfl
  · unfold va_up
    rw [if_neg (by omega), if_neg (by omega), if_neg (by omega), if_neg (by omega), if_neg c]
theorem nest_game {l : List (Nat × va_E)} : (∀ j, j < 23 → nest [98, 75, 52, 29, 5] (l0 l) (5 + j) = gcell 5 g0 j) ∧ ∀ k j, k < 4 → j < 23 → nest [98, 75, 52, 29, 5] (l0 l) (29 + 23 * k + j) = gcell (29 + 23 * k) g0 j := by
  constructor
  · intro j hj
    show put (put (put (put (put (l0 l) 5 g0) 29 g0) 52 g0) 75 g0) 98 g0 (5 + j) = _
    rw [put_out (by omega), put_out (by omega), put_out (by omega), put_out (by omega), put_in hj]
  · intro k j hk hj
    show put (put (put (put (put (l0 l) 5 g0) 29 g0) 52 g0) 75 g0) 98 g0 (29 + 23 * k + j) = _
    match k, hk with
    | 0, _ => rw [put_out (by omega), put_out (by omega), put_out (by omega), put_in hj]
    | 1, _ => rw [put_out (by omega), put_out (by omega), put_in hj]
    | 2, _ => rw [put_out (by omega), put_in hj]
    | 3, _ => rw [put_in hj]
theorem start_CS {X : zH} {l : List (Nat × va_E)} (hl : L5ok l) (hX : ∀ i, i < 123 → X i = nest [98, 75, 52, 29, 5] (l0 l) i) : CS X (fun _ => g0) 0 (Int32.ofNat 0) zrow g0 X := by
  obtain ⟨c0, c1, c2, c3, c4, c28, c121, c122⟩ := hl
  refine ⟨fun _ => g0, fun i => i, ⟨fun i hi => hi, fun i j _ _ e => e⟩, fun i hi => rfl, .null, zrow, ?_⟩
  have at0 : ∀ {a e}, outB [98, 75, 52, 29, 5] a = true → a < 123 → lk l a = some e → X a = some e := fun {a e} ho ha h => by rw [hX a ha, nest_at _ _ a ho, l0_get h]
  funext i
  by_cases a5 : 5 ≤ i ∧ i < 28
  · obtain ⟨j, hj, rfl⟩ : ∃ j, j < 23 ∧ i = 5 + j := ⟨i - 5, by omega, by omega⟩
    rw [put_in hj, hX _ (by omega), nest_game.1 j hj]
  · rw [put_out (by omega)]
    unfold sput oput sgs
    by_cases a1 : i = 1
    · rw [if_pos a1, a1, at0 rfl (by omega) c1]
      rfl
    · by_cases a2 : i = 2
      · rw [if_neg a1, if_pos a2, a2, at0 rfl (by omega) c2]
        exact ai (tr_0 (fun i hi => rfl))
      · by_cases a3 : i = 3
        · rw [if_neg a1, if_neg a2, if_pos a3, a3, at0 rfl (by omega) c3]
          exact ai (tr_0 (fun i hi => rfl))
        · by_cases a4 : i = 4
          · rw [if_neg a1, if_neg a2, if_neg a3, if_pos a4, a4, at0 rfl (by omega) c4]
            exact ai (tr_0 (fun i hi => rfl))
          · rw [if_neg a1, if_neg a2, if_neg a3, if_neg a4]
            by_cases b0 : i = 0
            · rw [if_pos b0, b0, at0 rfl (by omega) c0]
              rfl
            · by_cases b28 : i = 28
              · rw [if_neg b0, if_pos b28, b28, at0 rfl (by omega) c28]
                exact ar va4
              · by_cases b121 : i = 121
                · rw [if_neg b0, if_neg b28, if_pos b121, b121, at0 rfl (by omega) c121]
                  rfl
                · by_cases b122 : i = 122
                  · rw [if_neg b0, if_neg b28, if_neg b121, if_pos b122, b122, at0 rfl (by omega) c122]
                    exact ai (tr_0 (fun i hi => rfl))
                  · rw [if_neg b0, if_neg b28, if_neg b121, if_neg b122]
                    by_cases bs : 29 ≤ i ∧ i < 121
                    · obtain ⟨k, j, hk, hj, rfl⟩ : ∃ k j, k < 4 ∧ j < 23 ∧ i = 29 + 23 * k + j := ⟨(i - 29) / 23, (i - 29) % 23, by omega, by omega, by omega⟩
                      rw [if_pos bs, hX _ (by omega), nest_game.2 k j hk hj, show (29 + 23 * k + j - 29) / 23 = k by omega, show (29 + 23 * k + j - 29) % 23 = j by omega]
                    · rw [if_neg bs]
theorem start_REL {n L : Nat} {xs : Nat → Int32} (hn : 50000 ≤ n) : ∃ H, REL 0 H ∧ f_lawAll n L xs = f_law n L xs 1000 0 H := by
  obtain ⟨l, e5, hl⟩ := x5_init (n := n) (by omega)
  obtain ⟨m', eb, b0, b1, b2, b3, b4⟩ := u_begins (n := n) (h := nest [98, 75, 52, 29, 5] (l0 l)) (m := gz) (pp := zrow) (tx := zrow) (w := zrow) (hs := 0) (mm := 3) (by omega) (by omega)
  have hgz : ∀ t, t < 8 → ∃ v, v ≤ 90 ∧ gz (126 + t) = Int32.ofNat v := fun t ht => ⟨10 + 10 * ((126 + t - 126) % 4), by omega, if_pos (by omega)⟩
  obtain ⟨nw, nm⟩ := reset_wf (g := gz) (mm := 3) (by omega) (by omega) hgz 0
  have hag : AgW 3 g0 m' := begin_ag (mm := 3) (g := gz) (m := gz) (by omega) (fun i _ _ => rfl) b0 b1 b2 b3 b4
  have eX : zset (mput (nest [98, 75, 52, 29, 5] (l0 l)) m' zrow zrow zrow 0) 131 (.inl (1, 1, .inr (.inl (fun _ => 0)))) = mput (zset (nest [98, 75, 52, 29, 5] (l0 l)) 131 (.inl (1, 1, .inr (.inl (fun _ => 0))))) m' zrow zrow zrow 0 := by
    funext i
    simp only [zset, mput]
    by_cases c : i = 131
    · rw [if_pos c, if_neg (by omega), if_pos c]
    · rw [if_neg c, if_neg c]
  refine ⟨mput (zset (nest [98, 75, 52, 29, 5] (l0 l)) 131 (.inl (1, 1, .inr (.inl (fun _ => 0))))) m' zrow zrow zrow 0, ⟨3, 0, 0, g0, m', zrow, zrow, zrow, fun _ => g0, 0, zset (nest [98, 75, 52, 29, 5] (l0 l)) 131 (.inl (1, 1, .inr (.inl (fun _ => 0)))), fun _ => 0, if_pos rfl, start_CS hl (fun i hi => ?_), nw, ⟨nm, zw_reset⟩, hag, by omega, rfl, by omega, rfl, fun i hi => absurd hi (by omega)⟩, ?_⟩
  · rw [mput_out (by omega)]
    exact if_neg (by omega)
  · unfold f_lawAll
    simp only [zlet]
    rw [show 0 + 0 = 0 from rfl, show 0 + 1 = 1 from rfl, e5, Option.bind_some]
    rw [show 0 + 123 = 123 from rfl, show 0 + 124 = 124 from rfl, show 0 + 131 = 131 from rfl]
    rw [show f_X6_init n 123 124 (zset (nest [98, 75, 52, 29, 5] (l0 l)) 123 (.inr (6, [.null, .null, .int 0, .null, .int 0, .int 0, .null, .null, .null, .null, .int 0, .int 0, .int 0, .int 0, .int 0, .int 0, .long 0]))) = some (mput (nest [98, 75, 52, 29, 5] (l0 l)) m' zrow zrow zrow 0) from (x6_init (n := n) (by omega)).trans (by rw [show (3 : Int32) = Int32.ofNat 3 from rfl, eb]; rfl)]
    rw [Option.bind_some, eX]
theorem law_pure0 (L : Nat) (xs : Nat → Int32) (hL : L ≤ 2048) : ∃ n, f_lawAll n L xs = some () := by
  obtain ⟨H, hR, e⟩ := start_REL (n := 100000) (L := L) (xs := xs) (by omega)
  exact ⟨100000, e.trans (law_run (by omega) hL 999 0 0 H hR (by omega) (by omega) (by omega))⟩
