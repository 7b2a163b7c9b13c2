/-! THE LAW's WRAPPERS over a class object that acts: g the game, st what is saved (k of them) -/
def tz : Row := fun _ => 0
abbrev ST (st : Nat → Row) (k : Nat) (g : Row) (H : zH) : Prop := CS (fun _ => none) st k (Int32.ofNat 0) tz g H
def Ph (B : Nat) (g : Row) : Prop := ∃ x, x ≤ B ∧ g 5 = Int32.ofNat x
def Inv (B mm : Nat) (g : Row) : Prop := WF g mm ∧ MonZ g mm B ∧ XOk g mm ∧ Ph B g
def SvI (B k : Nat) (st : Nat → Row) : Prop := k ≤ 4 ∧ ∀ i, i < k → ∃ m, Inv B m (st i)
theorem inv_mono {B B' mm : Nat} {g : Row} (h : Inv B mm g) (hB : B ≤ B') : Inv B' mm g := ⟨h.1, monz_mono h.2.1 hB, h.2.2.1, by
  obtain ⟨x, a, b⟩ := h.2.2.2
  exact ⟨x, by omega, b⟩⟩
theorem svi_mono {B B' k : Nat} {st : Nat → Row} (h : SvI B k st) (hB : B ≤ B') : SvI B' k st := ⟨h.1, fun i hi => by
  obtain ⟨m, hm⟩ := h.2 i hi
  exact ⟨m, inv_mono hm hB⟩⟩
theorem svi_push {B k mm : Nat} {st : Nat → Row} {g : Row} (h : SvI B k st) (hg : Inv B mm g) : SvI B (pushK k) (pushSt st k g) := by
  refine ⟨pushK_le h.1, fun i hi => ?_⟩
  have hk := h.1
  unfold pushSt
  by_cases c : k = 4
  · rw [if_pos c]
    show ∃ m, Inv B m (if i = 3 then g else st (i + 1))
    by_cases c2 : i = 3
    · rw [if_pos c2]; exact ⟨mm, hg⟩
    · rw [if_neg c2]
      unfold pushK at hi
      rw [if_pos c] at hi
      exact h.2 (i + 1) (by omega)
  · rw [if_neg c]
    show ∃ m, Inv B m (if i = k then g else st i)
    unfold pushK at hi
    rw [if_neg c] at hi
    by_cases c2 : i = k
    · rw [if_pos c2]; exact ⟨mm, hg⟩
    · rw [if_neg c2]; exact h.2 i (by omega)
section N1
variable {st : Nat → Row} {k n : Nat} {g : Row} {H : zH}
/-- a state is saved, and another game is put -/
theorem sv {mm : Nat} (hn : 50000 ≤ n) (hk : k ≤ 4) (hw : WF g mm) (hC : ST st k g H) : ∃ H1 h2, f_X5_saveState n 0 H = some H1 ∧ ST (pushSt st k g) (pushK k) g H1 ∧ H1 = put h2 5 g ∧ ∀ g', ST (pushSt st k g) (pushK k) g' (put h2 5 g') := by
  obtain ⟨H1, e1, hC1⟩ := p_saveState (n := n) (by omega) hk (WF_bools hw) hC
  obtain ⟨h0, hcur, hcc⟩ := CS_cur hC1
  obtain ⟨h2, hput, hcu⟩ := Cur_mk hcur
  exact ⟨H1, h2, e1, hC1, hput, fun g' => hcc _ _ (hcu g')⟩
theorem w_begin_no {x : Int32} (hC : ST st k g H) (hx : ¬ (¬ x < 2 ∧ ¬ 4 < x)) : f_L_begins n 0 x H = some (-5000001, H) := by
  have e : f_X5_begin n 0 x H = some (.inl 0, H) := by
    unfold f_X5_begin
    simp only [zlet]
    by_cases c : x < 2
    · rw [if_pos c]
    · rw [if_neg c, if_neg (fun q => hx ⟨c, Int32.not_lt.mpr q⟩)]
  unfold f_L_begins
  rw [(CS_z hC).1, e]
  rfl
theorem w_begin {mm p : Nat} (hn : 50000 ≤ n) (hk : k ≤ 4) (hw : WF g mm) (hC : ST st k g H) (h2 : 2 ≤ p) (h4 : p ≤ 4) : ∃ H', f_L_begins n 0 (Int32.ofNat p) H = some (g 5, H') ∧ ST (pushSt st k g) (pushK k) (rReset g (Int32.ofNat p)) H' := by
  obtain ⟨H1, h3, e1, hC1, hput, hcc⟩ := sv hn hk hw hC
  refine ⟨_, ?_, hcc _⟩
  have l2 : ¬ Int32.ofNat p < 2 := by rw [show (2 : Int32) = Int32.ofNat 2 from rfl, i32_lt_of (by omega) (by omega)]; omega
  have l4 : Int32.ofNat p ≤ 4 := by rw [show (4 : Int32) = Int32.ofNat 4 from rfl, i32_le_of (by omega) (by omega)]; exact h4
  have e : f_X5_begin n 0 (Int32.ofNat p) H = some (.inr (g 5), put h3 5 (rReset g (Int32.ofNat p))) := by
    unfold f_X5_begin
    simp only [zlet]
    rw [if_neg l2, if_pos l4, (CS_z hC).1, e1, Option.bind_some, (CS_z hC1).2.2, Option.bind_some, hput, gI_12, Option.bind_some, Option.bind_some, gK_0, p_reset (by omega), Option.bind_some]
  unfold f_L_begins
  rw [(CS_z hC).1, e]
  rfl
theorem w_town_ix {x y : Int32} (hC : ST st k g H) (hx : ¬ vp_in x 8) : f_L_setsTown n 0 x y H = some (-5000003, H) := by
  have e : f_X5_setTown n 0 x y H = some (.inl 1, H) := by
    unfold f_X5_setTown
    rw [town_n hx, Option.bind_some, if_pos rfl]
  unfold f_L_setsTown
  rw [(CS_z hC).1, e]
  rfl
theorem w_town_ar {x y : Int32} (hC : ST st k g H) (hx : vp_in x 8) (hy : ¬ vp_in y 91) : f_L_setsTown n 0 x y H = some (-5000001, H) := by
  have e : f_X5_setTown n 0 x y H = some (.inl 0, H) := by
    unfold f_X5_setTown
    rw [town_y hx, Option.bind_some, if_neg (by decide)]
    simp only [zlet]
    rcases vp_no (by omega) hy with c | c
    · rw [if_pos c]
    · have : ¬ y ≤ (90 : Int32) := by
        rw [Int32.le_iff_toInt_le]
        rw [Int32.le_iff_toInt_le, Int32.toInt_ofNat_of_lt (by omega)] at c
        have : (90 : Int32).toInt = 90 := rfl
        omega
      rw [if_neg this]
      split <;> rfl
  unfold f_L_setsTown
  rw [(CS_z hC).1, e]
  rfl
theorem w_town {mm t v : Nat} (hn : 50000 ≤ n) (hk : k ≤ 4) (hw : WF g mm) (hC : ST st k g H) (ht : t < 8) (hv : v < 91) : ∃ H', f_L_setsTown n 0 (Int32.ofNat t) (Int32.ofNat v) H = some (g (126 + t), H') ∧ ST (pushSt st k g) (pushK k) (upd g (126 + t) (Int32.ofNat v)) H' := by
  obtain ⟨H1, h3, e1, hC1, hput, hcc⟩ := sv hn hk hw hC
  refine ⟨_, ?_, hcc _⟩
  have hx := in_of ht (show 8 < 600 by omega)
  obtain ⟨q1, q2⟩ := vp_lt_iff (by omega) (in_of hv (show 91 < 600 by omega))
  have e : f_X5_setTown n 0 (Int32.ofNat t) (Int32.ofNat v) H = some (.inr (g (126 + t)), put h3 5 (upd g (126 + t) (Int32.ofNat v))) := by
    unfold f_X5_setTown
    rw [town_y hx, Option.bind_some, if_neg (show ¬ (1 : Int32) = 0 by decide)]
    simp only [zlet]
    rw [if_neg q1, if_pos (show Int32.ofNat v ≤ (90 : Int32) from by rw [show (90 : Int32) = Int32.ofNat 90 from rfl, i32_le_of (by omega) (by omega)]; omega), (CS_z hC).1, e1, Option.bind_some, (CS_z hC1).2.2, Option.bind_some, hput, gR_1, Option.bind_some, gL_0, Option.bind_some, gA_w hx, nn_of (by omega), Option.bind_some, Option.bind_some, gR_1, Option.bind_some, gL_0, Option.bind_some, sA_w hx, nn_of (by omega), Option.bind_some]
  unfold f_L_setsTown
  rw [(CS_z hC).1, e]
  rfl
theorem w_start_ix {x y z : Int32} (hC : ST st k g H) (hxy : ¬ (vp_in x 4 ∧ vp_in y 8)) : f_L_starts n 0 x y z H = some (-5000003, H) := by
  have e : f_X5_start n 0 x y z H = some (.inl 1, H) := by
    unfold f_X5_start
    by_cases hx : vp_in x 4
    · rw [company_y hx, Option.bind_some]
      simp only [zlet]
      rw [if_neg (show ¬ (1 : Int32) = 0 by decide), town_n (fun q => hxy ⟨hx, q⟩), Option.bind_some, if_pos rfl]
    · rw [company_n hx, Option.bind_some]
      simp only [zlet, if_true]
  unfold f_L_starts
  rw [(CS_z hC).1, e]
  rfl
theorem w_start_ar {x y z : Int32} (hC : ST st k g H) (hx : vp_in x 4) (hy : vp_in y 8) (hz : ¬ (¬ z < 2 ∧ ¬ 8 < z)) : f_L_starts n 0 x y z H = some (-5000001, H) := by
  have z1 : ¬ (1 : Int32) = 0 := by decide
  have e : f_X5_start n 0 x y z H = some (.inl 0, H) := by
    unfold f_X5_start
    rw [company_y hx, Option.bind_some]
    simp only [zlet]
    rw [if_neg z1, town_y hy, Option.bind_some, if_neg z1]
    by_cases c : z < 2
    · rw [if_pos c]
    · rw [if_neg c, if_neg (fun q => hz ⟨c, Int32.not_lt.mpr q⟩)]
  unfold f_L_starts
  rw [(CS_z hC).1, e]
  rfl
theorem cls_start {c home s : Nat} (hC : ST st k g H) (hc : c < 4) (hh : home < 8) (hs2 : 2 ≤ s) (hs8 : s ≤ 8) : f_X5_start n 0 (Int32.ofNat c) (Int32.ofNat home) (Int32.ofNat s) H = ((f_X1_canStart n 5 (Int32.ofNat c) (Int32.ofNat s) H).bind fun (r47 : Int32) => if r47 = 0 then (some (.inl 2, H)) else ((f_X5_saveState n 0 H).bind fun (h62 : zH) => (zgR h62 0 5 0).bind fun (v66 : Nat) => zrc h62 v66 1 <| (f_X1_startCompany n v66 (Int32.ofNat c) (Int32.ofNat home) (Int32.ofNat s) h62).bind fun (h72 : zH) => (zgR h72 0 5 0).bind fun (v76 : Nat) => (zgR h72 v76 1 2).bind fun (v79 : Nat) => (zar h72 v79 3 (Int32.ofNat c)).bind fun (v83 : Nat) => (zgI h72 v83 0 3).bind fun (v84 : Int32) => some (.inr v84, h72))) := by
  have z1 : ¬ (1 : Int32) = 0 := by decide
  have l2 : ¬ Int32.ofNat s < 2 := by rw [show (2 : Int32) = Int32.ofNat 2 from rfl, i32_lt_of (by omega) (by omega)]; omega
  have l8 : Int32.ofNat s ≤ 8 := by rw [show (8 : Int32) = Int32.ofNat 8 from rfl, i32_le_of (by omega) (by omega)]; exact hs8
  unfold f_X5_start
  rw [company_y (in_of hc (by omega)), Option.bind_some]
  simp only [zlet]
  rw [if_neg z1, town_y (in_of hh (by omega)), Option.bind_some, if_neg z1, if_neg l2, if_pos l8, (CS_z hC).2.2, Option.bind_some, (CS_z hC).2.1, (CS_z hC).1]
theorem w_start_st {t c home s : Nat} (hC : ST st k g H) (hc : c < 4) (hh : home < 8) (hs2 : 2 ≤ s) (hs8 : s ≤ 8) (e1 : g 1 = Int32.ofNat t) (ht : t < 4) (hcb : ¬ cStart g t c (Int32.ofNat s)) : f_L_starts n 0 (Int32.ofNat c) (Int32.ofNat home) (Int32.ofNat s) H = some (-5000002, H) := by
  obtain ⟨h', hH, h05⟩ := CS_H hC
  have cb := (p_canStart' (n := n) (h := h') (b := 5) (g := g) (s := Int32.ofNat s) hc e1 ht).2 hcb
  rw [← hH] at cb
  have e : f_X5_start n 0 (Int32.ofNat c) (Int32.ofNat home) (Int32.ofNat s) H = some (.inl 2, H) := by
    rw [cls_start hC hc hh hs2 hs8, cb, Option.bind_some, if_pos rfl]
  unfold f_L_starts
  rw [(CS_z hC).1, e]
  rfl
theorem w_start {mm t c home s : Nat} (hn : 50000 ≤ n) (hk : k ≤ 4) (hw : WF g mm) (hC : ST st k g H) (hc : c < 4) (hh : home < 8) (hs2 : 2 ≤ s) (hs8 : s ≤ 8) (e1 : g 1 = Int32.ofNat t) (ht : t < 4) (hcb : cStart g t c (Int32.ofNat s)) : ∃ H', f_L_starts n 0 (Int32.ofNat c) (Int32.ofNat home) (Int32.ofNat s) H = some (rStart g c (Int32.ofNat home) (Int32.ofNat s) (36 + 7 * c), H') ∧ ST (pushSt st k g) (pushK k) (rStart g c (Int32.ofNat home) (Int32.ofNat s)) H' := by
  obtain ⟨h', hH, h05⟩ := CS_H hC
  have cb := (p_canStart' (n := n) (h := h') (b := 5) (g := g) (s := Int32.ofNat s) hc e1 ht).1 hcb
  rw [← hH] at cb
  obtain ⟨H1, h3, eS, hC1, hput, hcc⟩ := sv hn hk hw hC
  have hx := in_of hc (show 4 < 600 by omega)
  have po := PrOk_pres hw.1.2.1 (hw.2.2.1 c hc).2.1
  have bs := p_startCompany (n := n) (h := h3) (b := 5) (g := g) (c := Int32.ofNat c) (x := Int32.ofNat home) (y := Int32.ofNat s) (by omega) hx (by rw [e1]; exact in_of ht (by omega)) (by rw [nn_of (show c < 600 by omega)]; exact po)
  rw [nn_of (show c < 600 by omega)] at bs
  have hC2 := hcc (rStart g c (Int32.ofNat home) (Int32.ofNat s))
  refine ⟨_, ?_, hC2⟩
  have e : f_X5_start n 0 (Int32.ofNat c) (Int32.ofNat home) (Int32.ofNat s) H = some (.inr (rStart g c (Int32.ofNat home) (Int32.ofNat s) (36 + 7 * c)), put h3 5 (rStart g c (Int32.ofNat home) (Int32.ofNat s))) := by
    rw [cls_start hC hc hh hs2 hs8, cb, Option.bind_some, if_neg (show ¬ (1 : Int32) = 0 by decide), eS, Option.bind_some, (CS_z hC1).2.2, Option.bind_some, hput, gK_0, bs, Option.bind_some, (CS_z hC2).2.2, Option.bind_some, gR_2, Option.bind_some, gA_c hx, nn_of (by omega), Option.bind_some, gC_3 hc, Option.bind_some]
  unfold f_L_starts
  rw [(CS_z hC).1, e]
  rfl
theorem w_buy_ix {x : Int32} (hC : ST st k g H) (hx : ¬ vp_in x 4) : f_L_buys n 0 x H = some (-5000003, H) := by
  have e : f_X5_buy n 0 x H = some (.inl 1, H) := by
    unfold f_X5_buy
    rw [company_n hx, Option.bind_some, if_pos rfl]
  unfold f_L_buys
  rw [(CS_z hC).1, e]
  rfl
theorem w_buy_st {t c : Nat} (hn : 50000 ≤ n) (hC : ST st k g H) (hc : c < 4) (e1 : g 1 = Int32.ofNat t) (ht : t < 4) (hcb : ¬ cBuy g t c) : f_L_buys n 0 (Int32.ofNat c) H = some (-5000002, H) := by
  obtain ⟨h', hH, h05⟩ := CS_H hC
  have cb := (p_canBuy' (n := n) (h := h') (b := 5) (g := g) (by omega) hc e1 ht).2 hcb
  rw [← hH] at cb
  have e : f_X5_buy n 0 (Int32.ofNat c) H = some (.inl 2, H) := by
    unfold f_X5_buy
    rw [company_y (in_of hc (by omega)), Option.bind_some, if_neg (show ¬ (1 : Int32) = 0 by decide), h05, Option.bind_some, (CS_z hC).2.1, cb, Option.bind_some, if_pos rfl]
  unfold f_L_buys
  rw [(CS_z hC).1, e]
  rfl
theorem w_buy {mm t c : Nat} (hn : 50000 ≤ n) (hk : k ≤ 4) (hw : WF g mm) (hC : ST st k g H) (hc : c < 4) (e1 : g 1 = Int32.ofNat t) (ht : t < 4) (hcb : cBuy g t c) : ∃ H', f_L_buys n 0 (Int32.ofNat c) H = some (g (18 + 4 * t + c) + 1, H') ∧ ST (pushSt st k g) (pushK k) (rBuy g c) H' := by
  obtain ⟨h', hH, h05⟩ := CS_H hC
  have cb := (p_canBuy' (n := n) (h := h') (b := 5) (g := g) (by omega) hc e1 ht).1 hcb
  rw [← hH] at cb
  obtain ⟨H1, h3, eS, hC1, hput, hcc⟩ := sv hn hk hw hC
  have hx := in_of hc (show 4 < 600 by omega)
  have bs := p_buyShare (n := n) (h := h3) (b := 5) (g := g) (c := Int32.ofNat c) (by omega) hx (by rw [e1]; exact in_of ht (by omega)) (by rw [nn_of (show c < 600 by omega)]; exact PrOk_pres hw.1.2.1 (hw.2.2.1 c hc).2.1)
  rw [nn_of (show c < 600 by omega), e1, nn_of (show t < 600 by omega)] at bs
  refine ⟨_, ?_, hcc _⟩
  have e : f_X5_buy n 0 (Int32.ofNat c) H = some (.inr (g (18 + 4 * t + c) + 1), put h3 5 (rBuy g c)) := by
    unfold f_X5_buy
    rw [company_y hx, Option.bind_some, if_neg (show ¬ (1 : Int32) = 0 by decide), h05, Option.bind_some, (CS_z hC).2.1, cb, Option.bind_some, if_neg (show ¬ (1 : Int32) = 0 by decide), (CS_z hC).1, eS, Option.bind_some, (CS_z hC1).2.2, Option.bind_some, (CS_z hC1).2.1, hput, bs]
    rfl
  unfold f_L_buys
  rw [(CS_z hC).1, e]
  rfl
theorem w_sell_ix {x y : Int32} (hC : ST st k g H) (hx : ¬ vp_in x 4) : f_L_sells n 0 x y H = some (-5000003, H) := by
  have e : f_X5_sell n 0 x y H = some (.inl 1, H) := by
    unfold f_X5_sell
    rw [company_n hx, Option.bind_some, if_pos rfl]
  unfold f_L_sells
  rw [(CS_z hC).1, e]
  rfl
theorem w_sell_ar {x y : Int32} (hC : ST st k g H) (hx : vp_in x 4) (hy : ¬ (¬ y < 1 ∧ ¬ 10 < y)) : f_L_sells n 0 x y H = some (-5000001, H) := by
  have e : f_X5_sell n 0 x y H = some (.inl 0, H) := by
    unfold f_X5_sell
    rw [company_y hx, Option.bind_some, if_neg (show ¬ (1 : Int32) = 0 by decide)]
    simp only [zlet]
    by_cases c : y < 1
    · rw [if_pos c]
    · rw [if_neg c, if_neg (fun q => hy ⟨c, Int32.not_lt.mpr q⟩)]
  unfold f_L_sells
  rw [(CS_z hC).1, e]
  rfl
theorem cls_sell {c a : Nat} (hC : ST st k g H) (hc : c < 4) (h1 : 1 ≤ a) (h10 : a ≤ 10) : f_X5_sell n 0 (Int32.ofNat c) (Int32.ofNat a) H = ((f_X1_canSell n 5 (Int32.ofNat c) (Int32.ofNat a) H).bind fun (r40 : Int32) => if r40 = 0 then (some (.inl 2, H)) else ((f_X5_saveState n 0 H).bind fun (h55 : zH) => (zgR h55 0 5 0).bind fun (v59 : Nat) => (zgR h55 0 5 0).bind fun (v63 : Nat) => (zgI h55 v63 1 9).bind fun (v66 : Int32) => zrc h55 v59 1 <| (f_X1_sellShares n v59 v66 (Int32.ofNat c) (Int32.ofNat a) h55).bind fun (h71 : zH) => (zgR h71 0 5 0).bind fun (v75 : Nat) => (zgR h71 v75 1 3).bind fun (v78 : Nat) => (zgR h71 0 5 0).bind fun (v82 : Nat) => (zgI h71 v82 1 9).bind fun (v85 : Int32) => (zai h71 v78 v85).bind fun (v88 : Int32) => some (.inr v88, h71))) := by
  have l1 : ¬ Int32.ofNat a < 1 := by rw [show (1 : Int32) = Int32.ofNat 1 from rfl, i32_lt_of (by omega) (by omega)]; omega
  have l10 : Int32.ofNat a ≤ 10 := by rw [show (10 : Int32) = Int32.ofNat 10 from rfl, i32_le_of (by omega) (by omega)]; exact h10
  unfold f_X5_sell
  rw [company_y (in_of hc (by omega)), Option.bind_some, if_neg (show ¬ (1 : Int32) = 0 by decide)]
  simp only [zlet]
  rw [if_neg l1, if_pos l10, (CS_z hC).2.2, Option.bind_some, (CS_z hC).2.1, (CS_z hC).1]
theorem w_sell_st {t c a : Nat} (hC : ST st k g H) (hc : c < 4) (h1 : 1 ≤ a) (h10 : a ≤ 10) (e1 : g 1 = Int32.ofNat t) (ht : t < 4) (hcb : ¬ cSell g t c (Int32.ofNat a)) : f_L_sells n 0 (Int32.ofNat c) (Int32.ofNat a) H = some (-5000002, H) := by
  obtain ⟨h', hH, h05⟩ := CS_H hC
  have cb := (p_canSell' (n := n) (h := h') (b := 5) (g := g) (s := Int32.ofNat a) hc e1 ht).2 hcb
  rw [← hH] at cb
  have e : f_X5_sell n 0 (Int32.ofNat c) (Int32.ofNat a) H = some (.inl 2, H) := by
    rw [cls_sell hC hc h1 h10, cb, Option.bind_some, if_pos rfl]
  unfold f_L_sells
  rw [(CS_z hC).1, e]
  rfl
theorem w_sell {mm t c a : Nat} (hn : 50000 ≤ n) (hk : k ≤ 4) (hw : WF g mm) (hC : ST st k g H) (hc : c < 4) (h1 : 1 ≤ a) (h10 : a ≤ 10) (e1 : g 1 = Int32.ofNat t) (ht : t < 4) (hcb : cSell g t c (Int32.ofNat a)) : ∃ H', f_L_sells n 0 (Int32.ofNat c) (Int32.ofNat a) H = some (rSell g t c (Int32.ofNat a) (14 + t), H') ∧ ST (pushSt st k g) (pushK k) (rSell g t c (Int32.ofNat a)) H' := by
  obtain ⟨h', hH, h05⟩ := CS_H hC
  have cb := (p_canSell' (n := n) (h := h') (b := 5) (g := g) (s := Int32.ofNat a) hc e1 ht).1 hcb
  rw [← hH] at cb
  obtain ⟨H1, h3, eS, hC1, hput, hcc⟩ := sv hn hk hw hC
  have hx := in_of hc (show 4 < 600 by omega)
  have bs := p_sellShares (n := n) (h := h3) (b := 5) (g := g) (p := Int32.ofNat t) (c := Int32.ofNat c) (s := Int32.ofNat a) (by omega) (in_of ht (by omega)) hx (by rw [nn_of (show c < 600 by omega)]; exact PrOk_pres hw.1.2.1 (hw.2.2.1 c hc).2.1)
  rw [nn_of (show c < 600 by omega), nn_of (show t < 600 by omega)] at bs
  have hC2 := hcc (rSell g t c (Int32.ofNat a))
  refine ⟨_, ?_, hC2⟩
  have e9 : rSell g t c (Int32.ofNat a) 1 = Int32.ofNat t := by rw [rSell_ne (by omega) (by omega) (by omega) (by omega) (by omega), e1]
  have e : f_X5_sell n 0 (Int32.ofNat c) (Int32.ofNat a) H = some (.inr (rSell g t c (Int32.ofNat a) (14 + t)), put h3 5 (rSell g t c (Int32.ofNat a))) := by
    rw [cls_sell hC hc h1 h10, cb, Option.bind_some, if_neg (show ¬ (1 : Int32) = 0 by decide), eS, Option.bind_some, (CS_z hC1).2.2, Option.bind_some, Option.bind_some, hput, gI_9, e1, Option.bind_some, gK_0, bs, Option.bind_some, (CS_z hC2).2.2, Option.bind_some, gR_3, Option.bind_some, Option.bind_some, gI_9, e9, Option.bind_some, gA_m (in_of ht (by omega)), nn_of (by omega), Option.bind_some]
  unfold f_L_sells
  rw [(CS_z hC).1, e]
  rfl
theorem w_merge_ix {x y : Int32} (hC : ST st k g H) (hxy : ¬ (vp_in x 4 ∧ vp_in y 4)) : f_L_merges n 0 x y H = some (-5000003, H) := by
  have e : f_X5_merge n 0 x y H = some (.inl 1, H) := by
    unfold f_X5_merge
    by_cases hx : vp_in x 4
    · rw [company_y hx, Option.bind_some]
      simp only [zlet]
      rw [if_neg (show ¬ (1 : Int32) = 0 by decide), company_n (fun q => hxy ⟨hx, q⟩), Option.bind_some, if_pos rfl]
    · rw [company_n hx, Option.bind_some]
      simp only [zlet, if_true]
  unfold f_L_merges
  rw [(CS_z hC).1, e]
  rfl
theorem w_merge_ar {x : Int32} (hC : ST st k g H) (hx : vp_in x 4) : f_L_merges n 0 x x H = some (-5000001, H) := by
  have e : f_X5_merge n 0 x x H = some (.inl 0, H) := by
    unfold f_X5_merge
    rw [company_y hx, Option.bind_some]
    simp only [zlet]
    rw [if_neg (show ¬ (1 : Int32) = 0 by decide), Option.bind_some, if_neg (show ¬ (1 : Int32) = 0 by decide), if_pos trivial]
  unfold f_L_merges
  rw [(CS_z hC).1, e]
  rfl
theorem cls_merge {i j : Nat} (hC : ST st k g H) (hi : i < 4) (hj : j < 4) (hij : i ≠ j) : f_X5_merge n 0 (Int32.ofNat i) (Int32.ofNat j) H = ((f_X1_canMerge n 5 (Int32.ofNat i) (Int32.ofNat j) H).bind fun (r41 : Int32) => if r41 = 0 then (some (.inl 2, H)) else ((f_X5_saveState n 0 H).bind fun (h56 : zH) => (zgR h56 0 5 0).bind fun (v60 : Nat) => zrc h56 v60 1 <| (f_X1_mergeCompanies n v60 (Int32.ofNat i) (Int32.ofNat j) h56).bind fun (h65 : zH) => (zgR h65 0 5 0).bind fun (v69 : Nat) => (zgR h65 v69 1 2).bind fun (v72 : Nat) => (zar h65 v72 3 (Int32.ofNat i)).bind fun (v76 : Nat) => (zgI h65 v76 0 3).bind fun (v77 : Int32) => some (.inr v77, h65))) := by
  have z1 : ¬ (1 : Int32) = 0 := by decide
  have he : ¬ Int32.ofNat i = Int32.ofNat j := fun q => hij (ofNat_inj (by omega) (by omega) q)
  unfold f_X5_merge
  rw [company_y (in_of hi (by omega)), Option.bind_some]
  simp only [zlet]
  rw [if_neg z1, company_y (in_of hj (by omega)), Option.bind_some, if_neg z1, if_neg he, (CS_z hC).2.2, Option.bind_some, (CS_z hC).2.1, (CS_z hC).1]
theorem w_merge_st {i j : Nat} (hn : 50000 ≤ n) (hC : ST st k g H) (hi : i < 4) (hj : j < 4) (hij : i ≠ j) (hcb : ¬ cMerge g i j) : f_L_merges n 0 (Int32.ofNat i) (Int32.ofNat j) H = some (-5000002, H) := by
  obtain ⟨h', hH, h05⟩ := CS_H hC
  have cb := (p_canMerge' (n := n) (h := h') (b := 5) (g := g) (by omega) hi hj).2 hcb
  rw [← hH] at cb
  have e : f_X5_merge n 0 (Int32.ofNat i) (Int32.ofNat j) H = some (.inl 2, H) := by
    rw [cls_merge hC hi hj hij, cb, Option.bind_some, if_pos rfl]
  unfold f_L_merges
  rw [(CS_z hC).1, e]
  rfl
theorem w_merge {mm i j : Nat} (hn : 50000 ≤ n) (hk : k ≤ 4) (hw : WF g mm) (hC : ST st k g H) (hi : i < 4) (hj : j < 4) (hij : i ≠ j) (hcb : cMerge g i j) : ∃ H', f_L_merges n 0 (Int32.ofNat i) (Int32.ofNat j) H = some (rMerge g mm i j (36 + 7 * i), H') ∧ ST (pushSt st k g) (pushK k) (rMerge g mm i j) H' := by
  obtain ⟨h', hH, h05⟩ := CS_H hC
  have cb := (p_canMerge' (n := n) (h := h') (b := 5) (g := g) (by omega) hi hj).1 hcb
  rw [← hH] at cb
  obtain ⟨H1, h3, eS, hC1, hput, hcc⟩ := sv hn hk hw hC
  have hx := in_of hi (show 4 < 600 by omega)
  have hm4 := hw.1.2.1
  have bs := p_mergeCompanies (n := n) (h := h3) (b := 5) (g := g) (m := mm) (x := Int32.ofNat i) (y := Int32.ofNat j) (by omega) hx (in_of hj (by omega)) hw.1.2.2.1 hm4 (by rw [nn_of (show i < 600 by omega), nn_of (show j < 600 by omega)]; exact hij) (by rw [nn_of (show i < 600 by omega)]; exact PrOk_pres hm4 (hw.2.2.1 i hi).2.1)
  rw [nn_of (show i < 600 by omega), nn_of (show j < 600 by omega)] at bs
  have hC2 := hcc (rMerge g mm i j)
  refine ⟨_, ?_, hC2⟩
  have e : f_X5_merge n 0 (Int32.ofNat i) (Int32.ofNat j) H = some (.inr (rMerge g mm i j (36 + 7 * i)), put h3 5 (rMerge g mm i j)) := by
    rw [cls_merge hC hi hj hij, cb, Option.bind_some, if_neg (show ¬ (1 : Int32) = 0 by decide), eS, Option.bind_some, (CS_z hC1).2.2, Option.bind_some, hput, gK_0, bs, Option.bind_some, (CS_z hC2).2.2, Option.bind_some, gR_2, Option.bind_some, gA_c hx, nn_of (by omega), Option.bind_some, gC_3 hi, Option.bind_some]
  unfold f_L_merges
  rw [(CS_z hC).1, e]
  rfl
theorem w_pass_st (hC : ST st k g H) (h3 : ¬ g 3 = 0) : f_L_passes n 0 H = some (-5000002, H) := by
  obtain ⟨h', hH, h05⟩ := CS_H hC
  have r11 : zgI H 5 1 11 = some (g 3) := by rw [hH, gI_11]
  have e : f_X5_pass n 0 H = some (.inl 2, H) := by
    unfold f_X5_pass
    rw [h05, Option.bind_some, r11, Option.bind_some, if_neg h3]
  unfold f_L_passes
  rw [(CS_z hC).1, e]
  rfl
theorem w_pass {mm : Nat} (hn : 50000 ≤ n) (hk : k ≤ 4) (hw : WF g mm) (hC : ST st k g H) (h3 : g 3 = 0) (p3 : rPass g 3 = 0 ∨ rPass g 3 = 1) : ∃ H', f_L_passes n 0 H = some (rPass g 3, H') ∧ ST (pushSt st k g) (pushK k) (rPass g) H' := by
  obtain ⟨h', hH, h05⟩ := CS_H hC
  have r11 : zgI H 5 1 11 = some (g 3) := by rw [hH, gI_11]
  obtain ⟨H1, h4, eS, hC1, hput, hcc⟩ := sv hn hk hw hC
  have hC2 := hcc (rPass g)
  refine ⟨_, ?_, hC2⟩
  have e : f_X5_pass n 0 H = some (.inr (rPass g 3), put h4 5 (rPass g)) := by
    unfold f_X5_pass
    rw [h05, Option.bind_some, r11, Option.bind_some, if_pos h3, (CS_z hC).1, eS, Option.bind_some, (CS_z hC1).2.2, Option.bind_some, (CS_z hC1).2.1, hput, p_passTurn (by omega), Option.bind_some, (CS_z hC2).2.2, Option.bind_some, gI_11, Option.bind_some]
    rcases p3 with q | q
    · rw [if_pos q, q]
    · rw [if_neg (by rw [q]; decide), q]
  unfold f_L_passes
  rw [(CS_z hC).1, e]
  rfl
def cExt (g : Row) : Prop := nextC g ≠ -1 ∧ g 8 = 0 ∧ ¬ 5 ≤ g (38 + 7 * (nextC g).toNatClampNeg) ∧ ¬ g (36 + 7 * (nextC g).toNatClampNeg) < 60
theorem cls_ext (hC : ST st k g H) : f_X5_extend n 0 H = ((f_X1_canExtend n 5 H).bind fun (r4 : Int32) => if r4 = 0 then (some (.inl 2, H)) else ((f_X5_saveState n 0 H).bind fun (h19 : zH) => (zgR h19 0 5 0).bind fun (v23 : Nat) => zrc h19 v23 1 <| zb2 (f_X1_extendNext n v23 h19) fun (r26 : Int32) (h26 : zH) => some (.inr r26, h26))) := by
  unfold f_X5_extend
  rw [(CS_z hC).2.2, Option.bind_some, (CS_z hC).2.1, (CS_z hC).1]
theorem w_ext_st {mm : Nat} (hw : WF g mm) (hC : ST st k g H) (hno : ¬ cExt g) : f_L_extendsOne n 0 H = some (-5000002, H) := by
  obtain ⟨h', hH, h05⟩ := CS_H hC
  have ce := p_canExtend (n := n) (h := h') (b := 5) (NextOk_of hw)
  unfold cExt at hno
  rw [← hH, if_neg hno] at ce
  have e : f_X5_extend n 0 H = some (.inl 2, H) := by
    rw [cls_ext hC, ce, Option.bind_some, if_pos rfl]
  unfold f_L_extendsOne
  rw [(CS_z hC).1, e]
  rfl
theorem w_ext {mm c : Nat} (hn : 50000 ≤ n) (hk : k ≤ 4) (hw : WF g mm) (hC : ST st k g H) (hnc : nextC g = Int32.ofNat c) (hc : c < 4) (hyes : cExt g) : ∃ H', f_L_extendsOne n 0 H = some (g (38 + 7 * c) + 1, H') ∧ ST (pushSt st k g) (pushK k) (extC g c) H' := by
  obtain ⟨h', hH, h05⟩ := CS_H hC
  have nok := NextOk_of hw
  have ce := p_canExtend (n := n) (h := h') (b := 5) nok
  have hyes' := hyes
  unfold cExt at hyes'
  rw [← hH, if_pos hyes'] at ce
  obtain ⟨H1, h4, eS, hC1, hput, hcc⟩ := sv hn hk hw hC
  have bs := p_extendNext (n := n) (h := h4) (b := 5) nok hyes.1
  rw [rExtend_eq hnc hc, hnc, nn_of (show c < 600 by omega)] at bs
  refine ⟨_, ?_, hcc _⟩
  have e : f_X5_extend n 0 H = some (.inr (g (38 + 7 * c) + 1), put h4 5 (extC g c)) := by
    rw [cls_ext hC, ce, Option.bind_some, if_neg (show ¬ (1 : Int32) = 0 by decide), eS, Option.bind_some, (CS_z hC1).2.2, Option.bind_some, hput, gK_0, bs]
    rfl
  unfold f_L_extendsOne
  rw [(CS_z hC).1, e]
  rfl
theorem w_undo_st (hC : ST st 0 g H) : f_L_undoes n 0 H = some (-5000002, H) := by
  have e : f_X5_undo n 0 H = some (.inl 2, H) := by
    obtain ⟨sg, p, hp, hst, l, q, hH⟩ := id hC
    unfold f_X5_undo
    conv => lhs; rw [hH, ogI_2, Option.bind_some, if_neg (by decide), ← hH]
  unfold f_L_undoes
  rw [(CS_z hC).1, e]
  rfl
theorem w_undo {j mm : Nat} (hn : 50000 ≤ n) (hj : j < 4) (hw : WF (st j) mm) (hC : ST st (j + 1) g H) : ∃ H', f_L_undoes n 0 H = some (Int32.ofNat j, H') ∧ ST st j (st j) H' := by
  have l0 : ((0 : Int32) < Int32.ofNat (j + 1)) = (0 < j + 1) := i32_lt_of (a := 0) (by omega) (by omega)
  obtain ⟨sg, p, hp, hst, l, q, hH⟩ := id hC
  refine ⟨put (sput (oput (sgs (fun _ => none) sg) (fun i => 29 + 23 * p i) (Int32.ofNat j) (Int32.ofNat 0) tz) l q) 5 (st j), ?_, ⟨sg, p, hp, hst, l, q, rfl⟩⟩
  have e : f_X5_undo n 0 H = some (.inr (Int32.ofNat j), put (sput (oput (sgs (fun _ => none) sg) (fun i => 29 + 23 * p i) (Int32.ofNat j) (Int32.ofNat 0) tz) l q) 5 (st j)) := by
    unfold f_X5_undo
    have es : st j = sg (p j) := hst j (by omega)
    rw [hH, ogI_2, Option.bind_some, if_pos (by rw [l0]; omega), Option.bind_some, i32_pred, osI_2, Option.bind_some, ogR_0, Option.bind_some, ogR_1, Option.bind_some, ogI_2, Option.bind_some, oga_s (in_of (show j < 4 by omega) (by omega)), Option.bind_some, nn_of (show j < 600 by omega)]
    rw [show ∀ (h : zH) (o : Option zO2), zrc (put h 5 g) 5 1 o = o from fun h o => gK_0, copy_undo (by omega) (hp.1 j (by omega)) (by rw [← es]; exact WF_bools hw), Option.bind_some, ogI_2, Option.bind_some, es]
  unfold f_L_undoes
  rw [(CS_z hC).1, e]
  rfl
end N1
