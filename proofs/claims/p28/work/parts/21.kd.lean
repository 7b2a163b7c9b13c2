def sgs (h : zH) (sg : Nat → Row) : zH := fun i => if 29 ≤ i ∧ i < 121 then gcell (29 + 23 * ((i - 29) / 23)) (sg ((i - 29) / 23)) ((i - 29) % 23) else h i
def oput (h : zH) (sv : Nat → Nat) (cnt len : Int32) (tx : Row) : zH := fun i => if i = 0 then some (.inr (5, [.ref 5, .ref 28, .int cnt, .ref 121])) else if i = 28 then some (.inl (4, 4, .inr (.inr (.inr (.inr (fun i => if i < 4 then some (sv i) else none)))))) else if i = 121 then some (.inr (4, [.ref 122, .int len])) else if i = 122 then some (.inl (0, 90, .inl (tr 90 tx))) else h i
theorem op_0 {h : zH} {sv : Nat → Nat} {cnt len : Int32} {tx : Row} {l : Value} {q g : Row} : (put (sput (oput h sv cnt len tx) l q) 5 g) 0 = some (.inr (5, [.ref 5, .ref 28, .int cnt, .ref 121])) := (put_out (by omega)).trans rfl
theorem op_28 {h : zH} {sv : Nat → Nat} {cnt len : Int32} {tx : Row} {l : Value} {q g : Row} : (put (sput (oput h sv cnt len tx) l q) 5 g) 28 = some (.inl (4, 4, .inr (.inr (.inr (.inr (fun i => if i < 4 then some (sv i) else none)))))) := (put_out (by omega)).trans rfl
theorem op_121 {h : zH} {sv : Nat → Nat} {cnt len : Int32} {tx : Row} {l : Value} {q g : Row} : (put (sput (oput h sv cnt len tx) l q) 5 g) 121 = some (.inr (4, [.ref 122, .int len])) := (put_out (by omega)).trans rfl
theorem op_122 {h : zH} {sv : Nat → Nat} {cnt len : Int32} {tx : Row} {l : Value} {q g : Row} : (put (sput (oput h sv cnt len tx) l q) 5 g) 122 = some (.inl (0, 90, .inl (tr 90 tx))) := (put_out (by omega)).trans rfl
theorem ogR_0 {h : zH} {sv : Nat → Nat} {cnt len : Int32} {tx : Row} {l : Value} {q g : Row} : zgR (put (sput (oput h sv cnt len tx) l q) 5 g) 0 5 0 = some 5 := by
  unfold zgR
  rw [zO_some op_0]
  rfl
theorem ogR_1 {h : zH} {sv : Nat → Nat} {cnt len : Int32} {tx : Row} {l : Value} {q g : Row} : zgR (put (sput (oput h sv cnt len tx) l q) 5 g) 0 5 1 = some 28 := by
  unfold zgR
  rw [zO_some op_0]
  rfl
theorem ogR_3 {h : zH} {sv : Nat → Nat} {cnt len : Int32} {tx : Row} {l : Value} {q g : Row} : zgR (put (sput (oput h sv cnt len tx) l q) 5 g) 0 5 3 = some 121 := by
  unfold zgR
  rw [zO_some op_0]
  rfl
theorem ogI_2 {h : zH} {sv : Nat → Nat} {cnt len : Int32} {tx : Row} {l : Value} {q g : Row} : zgI (put (sput (oput h sv cnt len tx) l q) 5 g) 0 5 2 = some cnt := by
  unfold zgI
  rw [zO_some op_0]
  rfl
theorem ogR_s {h : zH} {sv : Nat → Nat} {cnt len : Int32} {tx : Row} {l : Value} {q g : Row} : zgR (put (sput (oput h sv cnt len tx) l q) 5 g) 121 4 0 = some 122 := by
  unfold zgR
  rw [zO_some op_121]
  rfl
theorem ogI_s {h : zH} {sv : Nat → Nat} {cnt len : Int32} {tx : Row} {l : Value} {q g : Row} : zgI (put (sput (oput h sv cnt len tx) l q) 5 g) 121 4 1 = some len := by
  unfold zgI
  rw [zO_some op_121]
  rfl
theorem ogK_5 {h : zH} {sv : Nat → Nat} {cnt len : Int32} {tx : Row} {l : Value} {q g : Row} {β : Type} {o : Option β} : zrc (put (sput (oput h sv cnt len tx) l q) 5 g) 0 5 o = o := zrc_some op_0
theorem ogK_4 {h : zH} {sv : Nat → Nat} {cnt len : Int32} {tx : Row} {l : Value} {q g : Row} {β : Type} {o : Option β} : zrc (put (sput (oput h sv cnt len tx) l q) 5 g) 121 4 o = o := zrc_some op_121
theorem oga_t {h : zH} {sv : Nat → Nat} {cnt len : Int32} {tx : Row} {l : Value} {q g : Row} {i : Int32} (hi : vp_in i 90) : zai (put (sput (oput h sv cnt len tx) l q) 5 g) 122 i = some (tx i.toNatClampNeg) := zai_some op_122 hi
theorem oga_s {h : zH} {sv : Nat → Nat} {cnt len : Int32} {tx : Row} {l : Value} {q g : Row} {i : Int32} (hi : vp_in i 4) : zar (put (sput (oput h sv cnt len tx) l q) 5 g) 28 4 i = some (sv i.toNatClampNeg) := (zar_some op_28 hi).trans (if_pos (vp_lt hi))
theorem oset {h h' : zH} {l : Value} {q g : Row} {a : Nat} {e : va_E} (ha : a = 0 ∨ 28 ≤ a) (h1 : zset h a e = h') : zset (put (sput h l q) 5 g) a e = put (sput h' l q) 5 g := by
  funext i
  rw [← h1]
  unfold zset put
  by_cases c : i = a
  · subst c
    rw [if_pos rfl, if_neg (by omega)]
    unfold sput
    rw [if_neg (by omega), if_neg (by omega), if_neg (by omega), if_neg (by omega)]
    exact (if_pos rfl).symm
  · rw [if_neg c]
    by_cases d : 5 ≤ i ∧ i < 5 + 23
    · rw [if_pos d, if_pos d]
    · rw [if_neg d, if_neg d]
      unfold sput
      by_cases e1 : i = 1
      · rw [if_pos e1, if_pos e1]
      · rw [if_neg e1, if_neg e1]
        by_cases e2 : i = 2
        · rw [if_pos e2, if_pos e2]
        · rw [if_neg e2, if_neg e2]
          by_cases e3 : i = 3
          · rw [if_pos e3, if_pos e3]
          · rw [if_neg e3, if_neg e3]
            by_cases e4 : i = 4
            · rw [if_pos e4, if_pos e4]
            · rw [if_neg e4, if_neg e4]
              exact (if_neg c).symm
theorem osI_2 {h : zH} {sv : Nat → Nat} {cnt len : Int32} {tx : Row} {l : Value} {q g : Row} {x : Int32} : zp (put (sput (oput h sv cnt len tx) l q) 5 g) 0 5 2 (.int x) = some (put (sput (oput h sv x len tx) l q) 5 g) := by
  rw [zp_some op_0 (show 2 < 4 by omega)]
  refine congrArg some (oset (by omega) ?_)
  unfold zset oput
  funext i
  by_cases c : i = 0
  · subst c; rfl
  · simp only [if_neg c]
theorem osI_s {h : zH} {sv : Nat → Nat} {cnt len : Int32} {tx : Row} {l : Value} {q g : Row} {x : Int32} : zp (put (sput (oput h sv cnt len tx) l q) 5 g) 121 4 1 (.int x) = some (put (sput (oput h sv cnt x tx) l q) 5 g) := by
  rw [zp_some op_121 (show 1 < 2 by omega)]
  refine congrArg some (oset (by omega) ?_)
  unfold zset oput
  funext i
  by_cases c : i = 121
  · subst c; rfl
  · simp only [if_neg c]
theorem osa_t {h : zH} {sv : Nat → Nat} {cnt len : Int32} {tx : Row} {l : Value} {q g : Row} {i x : Int32} (hi : vp_in i 90) : zsi (put (sput (oput h sv cnt len tx) l q) 5 g) 122 i x = some (put (sput (oput h sv cnt len (upd tx i.toNatClampNeg x)) l q) 5 g) := by
  rw [zsi_some op_122 hi]
  refine congrArg some (oset (by omega) ?_)
  unfold zset oput
  funext i
  by_cases c : i = 122
  · subst c; rfl
  · simp only [if_neg c]
theorem sgs_cell {h : zH} {sg : Nat → Row} {sv : Nat → Nat} {cnt len : Int32} {tx : Row} {l : Value} {q g : Row} {k j : Nat} (hk : k < 4) (hj : j < 23) : put (sput (oput (sgs h sg) sv cnt len tx) l q) 5 g (29 + 23 * k + j) = gcell (29 + 23 * k) (sg k) j := by
  rw [put_out (by omega)]
  unfold sput oput sgs
  rw [if_neg (by omega), if_neg (by omega), if_neg (by omega), if_neg (by omega), if_neg (by omega), if_neg (by omega), if_neg (by omega), if_neg (by omega), if_pos (by omega), show (29 + 23 * k + j - 29) / 23 = k by omega, show (29 + 23 * k + j - 29) % 23 = j by omega]
theorem zr_saved {h : zH} {sg : Nat → Row} {sv : Nat → Nat} {cnt len : Int32} {tx : Row} {l : Value} {q g : Row} {k : Nat} {β : Type} {o : Option β} (hk : k < 4) : zrc (put (sput (oput (sgs h sg) sv cnt len tx) l q) 5 g) (29 + 23 * k) 1 o = o := by
  have e := sgs_cell (h := h) (sg := sg) (sv := sv) (cnt := cnt) (len := len) (tx := tx) (l := l) (q := q) (g := g) (j := 0) hk (by omega)
  exact zrc_some (fs := gobj (29 + 23 * k) (sg k)) e
theorem zsr_saved {h : zH} {sg : Nat → Row} {sv : Nat → Nat} {cnt len : Int32} {tx : Row} {l : Value} {q g : Row} {k : Nat} {i : Int32} (hi : vp_in i 4) (hk : k < 4) : zsr (put (sput (oput (sgs h sg) sv cnt len tx) l q) 5 g) 28 4 1 i (29 + 23 * k) = some (put (sput (oput (sgs h sg) (fun m => if m = i.toNatClampNeg then 29 + 23 * k else sv m) cnt len tx) l q) 5 g) := by
  have e := sgs_cell (h := h) (sg := sg) (sv := sv) (cnt := cnt) (len := len) (tx := tx) (l := l) (q := q) (g := g) (j := 0) hk (by omega)
  have hi' := vp_lt hi
  have e0 : zO (put (sput (oput (sgs h sg) sv cnt len tx) l q) 5 g) (29 + 23 * k) 1 = some (gobj (29 + 23 * k) (sg k)) := zO_some e
  have eR : zRA (put (sput (oput (sgs h sg) sv cnt len tx) l q) 5 g) 28 4 = some (4, fun i => if i < 4 then some (sv i) else none) := by
    unfold zRA
    rw [op_28]
    rfl
  unfold zsr
  rw [eR]
  simp only [e0]
  rw [if_neg (fun c => by rcases c with c | c; exact hi (Or.inl c); omega)]
  refine congrArg some (oset (by omega) ?_)
  unfold zset oput
  funext m
  by_cases c : m = 28
  · subst c
    simp only [if_true, reduceIte, Nat.reduceEqDiff]
    congr 8
    funext p
    unfold va_up
    by_cases hp : p = i.toNatClampNeg
    · rw [if_pos hp, if_pos (by omega), if_pos hp]
    · rw [if_neg hp, if_neg hp]
  · simp only [if_neg c]
def PermOk (p : Nat → Nat) : Prop := (∀ i, i < 4 → p i < 4) ∧ ∀ i j, i < 4 → j < 4 → p i = p j → i = j
def CS (h : zH) (st : Nat → Row) (k : Nat) (len : Int32) (tx g : Row) (H : zH) : Prop := ∃ sg p, PermOk p ∧ (∀ i, i < 4 → st i = sg (p i)) ∧ Cur (oput (sgs h sg) (fun i => 29 + 23 * p i) (Int32.ofNat k) len tx) 5 g H
theorem put_put {h : zH} {b : Nat} {g g' : Row} : put (put h b g) b g' = put h b g' := by
  funext i
  unfold put
  split
  · rfl
  · rfl
theorem oput_sv {h : zH} {sv sv' : Nat → Nat} {cnt len : Int32} {tx : Row} (e : ∀ i, i < 4 → sv i = sv' i) : oput h sv cnt len tx = oput h sv' cnt len tx := by
  unfold oput
  congr 1
  funext i
  split
  · rfl
  · split
    · congr 8
      funext m
      split
      · rename_i c
        rw [e m c]
      · rfl
    · rfl
theorem copy_save {n : Nat} {h : zH} {sg : Nat → Row} {sv : Nat → Nat} {cnt len : Int32} {tx : Row} {l : Value} {q g : Row} {k : Nat} (hn : 600 ≤ n) (hk : k < 4) (hb : Bools g) : f_X1_copyFrom n (29 + 23 * k) 5 (put (sput (oput (sgs h sg) sv cnt len tx) l q) 5 g) = some (put (sput (oput (sgs h (fun m => if m = k then g else sg m)) sv cnt len tx) l q) 5 g) := by
  have h1 : put (put (sput (oput (sgs h sg) sv cnt len tx) l q) 5 g) (29 + 23 * k) (sg k) = put (sput (oput (sgs h sg) sv cnt len tx) l q) 5 g := put_self fun j hj => sgs_cell hk hj
  have h2 := p_copyFrom (n := n) (h := sput (oput (sgs h sg) sv cnt len tx) l q) (b := 5) (B := 29 + 23 * k) (g := g) (r := sg k) hn (by omega) hb
  rw [h1] at h2
  rw [h2]
  refine congrArg some (funext fun i => ?_)
  by_cases c : 29 + 23 * k ≤ i ∧ i < 29 + 23 * k + 23
  · obtain ⟨j, hj, rfl⟩ : ∃ j, j < 23 ∧ i = 29 + 23 * k + j := ⟨i - (29 + 23 * k), by omega, by omega⟩
    rw [put_in hj, sgs_cell hk hj, if_pos rfl]
  · rw [put_out (by omega)]
    unfold put
    by_cases d : 5 ≤ i ∧ i < 5 + 23
    · rw [if_pos d, if_pos d]
    · rw [if_neg d, if_neg d]
      have e : sgs h sg i = sgs h (fun m => if m = k then g else sg m) i := by
        unfold sgs
        by_cases f : 29 ≤ i ∧ i < 121
        · rw [if_pos f, if_pos f]
          show _ = gcell _ (if (i - 29) / 23 = k then g else sg ((i - 29) / 23)) _
          rw [if_neg (show ¬ (i - 29) / 23 = k by omega)]
        · rw [if_neg f, if_neg f]
      have e' : oput (sgs h sg) sv cnt len tx i = oput (sgs h (fun m => if m = k then g else sg m)) sv cnt len tx i := by
        unfold oput
        rw [e]
      unfold sput
      rw [e']
theorem copy_undo {n : Nat} {h : zH} {sg : Nat → Row} {sv : Nat → Nat} {cnt len : Int32} {tx : Row} {l : Value} {q g : Row} {k : Nat} (hn : 600 ≤ n) (hk : k < 4) (hb : Bools (sg k)) : f_X1_copyFrom n 5 (29 + 23 * k) (put (sput (oput (sgs h sg) sv cnt len tx) l q) 5 g) = some (put (sput (oput (sgs h sg) sv cnt len tx) l q) 5 (sg k)) := by
  have h1 : put (put (sput (oput (sgs h sg) sv cnt len tx) l q) 5 g) (29 + 23 * k) (sg k) = put (sput (oput (sgs h sg) sv cnt len tx) l q) 5 g := put_self fun j hj => sgs_cell hk hj
  have h3 : put (put (sput (oput (sgs h sg) sv cnt len tx) l q) 5 g) 5 g = put (sput (oput (sgs h sg) sv cnt len tx) l q) 5 g := put_put
  have h2 := p_copyFrom (n := n) (h := put (sput (oput (sgs h sg) sv cnt len tx) l q) 5 g) (b := 29 + 23 * k) (B := 5) (g := sg k) (r := g) hn (by omega) hb
  rw [h1, h3, put_put] at h2
  exact h2
def pushSt (st : Nat → Row) (k : Nat) (g : Row) : Nat → Row := if k = 4 then fun i => if i = 3 then g else st (i + 1) else fun i => if i = k then g else st i
def pushK (k : Nat) : Nat := if k = 4 then 4 else k + 1
theorem p_save1 {n : Nat} {h : zH} {st : Nat → Row} {k : Nat} {len : Int32} {tx g : Row} {H : zH} (hn : 600 ≤ n) (hk : k < 4) (hb : Bools g) (hH : CS h st k len tx g H) : ∃ H', ((zgR H 0 5 1).bind fun (v60 : Nat) => (zgI H 0 5 2).bind fun (v64 : Int32) => (zar H v60 4 v64).bind fun (v67 : Nat) => (zgR H 0 5 0).bind fun (v69 : Nat) => zrc H v67 1 <| (f_X1_copyFrom n v67 v69 H).bind fun (h72 : zH) => (zgI h72 0 5 2).bind fun (v77 : Int32) => (zp h72 0 5 2 (.int (v77 + (1 : Int32)))).bind fun (h82 : zH) => some h82) = some H' ∧ CS h (fun i => if i = k then g else st i) (k + 1) len tx g H' := by
  obtain ⟨sg, p, hp, hs, l, q, rfl⟩ := hH
  refine ⟨put (sput (oput (sgs h (fun m => if m = p k then g else sg m)) (fun i => 29 + 23 * p i) (Int32.ofNat (k + 1)) len tx) l q) 5 g, ?_, ?_⟩
  · simp only [ogR_1, ogI_2, oga_s (in_of hk (by omega)), nn_of (show k < 600 by omega), ogR_0, zr_saved (hp.1 k hk), copy_save hn (hp.1 k hk) hb, osI_2, Option.bind_some, i32_succ]
  · refine ⟨_, p, hp, fun i hi => ?_, l, q, rfl⟩
    show (if i = k then g else st i) = if p i = p k then g else sg (p i)
    by_cases c : i = k
    · rw [if_pos c, if_pos (by rw [c])]
    · rw [if_neg c, if_neg (fun d => c (hp.2 i k hi hk d)), hs i hi]
theorem p_saveState {n : Nat} {h : zH} {st : Nat → Row} {k : Nat} {len : Int32} {tx g : Row} {H : zH} (hn : 600 ≤ n) (hk : k ≤ 4) (hb : Bools g) (hH : CS h st k len tx g H) : ∃ H', f_X5_saveState n 0 H = some H' ∧ CS h (pushSt st k g) (pushK k) len tx g H' := by
  rw [e_X5_saveState]
  have e4 : (Int32.ofNat k = 4) = (k = 4) := i32_eq_of (b := 4) (by omega) (by omega)
  unfold pushSt pushK
  by_cases c : k = 4
  · subst c
    obtain ⟨sg, p, hp, hs, l, q, rfl⟩ := hH
    have hC : CS h (fun i => if i = 3 then st 0 else st (i + 1)) 3 len tx g (put (sput (oput (sgs h sg) (fun i => if i = 3 then 29 + 23 * p 0 else if i < 3 then 29 + 23 * p (i + 1) else 29 + 23 * p i) (Int32.ofNat 3) len tx) l q) 5 g) := by
      refine ⟨sg, fun i => if i = 3 then p 0 else p (i + 1), ⟨fun i hi => ?_, fun i j hi hj e => ?_⟩, fun i hi => ?_, l, q, ?_⟩
      · show (if i = 3 then p 0 else p (i + 1)) < 4
        split
        · exact hp.1 0 (by omega)
        · exact hp.1 _ (by omega)
      · have e' : (if i = 3 then p 0 else p (i + 1)) = (if j = 3 then p 0 else p (j + 1)) := e
        by_cases ci : i = 3
        · by_cases cj : j = 3
          · omega
          · rw [if_pos ci, if_neg cj] at e'
            have := hp.2 _ _ (by omega) (by omega) e'
            omega
        · by_cases cj : j = 3
          · rw [if_neg ci, if_pos cj] at e'
            have := hp.2 _ _ (by omega) (by omega) e'
            omega
          · rw [if_neg ci, if_neg cj] at e'
            have := hp.2 _ _ (by omega) (by omega) e'
            omega
      · show (if i = 3 then st 0 else st (i + 1)) = sg (if i = 3 then p 0 else p (i + 1))
        split
        · exact hs 0 (by omega)
        · exact hs _ (by omega)
      · rw [oput_sv fun i hi => ?_]
        show (if i = 3 then 29 + 23 * p 0 else if i < 3 then 29 + 23 * p (i + 1) else 29 + 23 * p i) = 29 + 23 * (if i = 3 then p 0 else p (i + 1))
        by_cases c3 : i = 3
        · rw [if_pos c3, if_pos c3]
        · rw [if_neg c3, if_neg c3, if_pos (by omega)]
    obtain ⟨H', e', hC'⟩ := p_save1 (n := n) hn (by omega) hb hC
    refine ⟨H', ?_, ?_⟩
    · simp only [ogI_2, zlet, Option.bind_some, e4, if_true, ogR_1, oga_s (show vp_in 0 4 from in_of (k := 0) (by omega) (by omega)), nn0]
      rw [← e']
      unfold L_X5_saveState_17
      refine zfor2 3 (fun k => Int32.ofNat (k + 1)) (fun k => put (sput (oput (sgs h sg) (fun i => if i < k then 29 + 23 * p (i + 1) else 29 + 23 * p i) (Int32.ofNat 4) len tx) l q) 5 g) (fun k hk rec => ?_) (fun rec => ?_) (by omega)
      · have hk4 : k + 1 < 4 := by omega
        have ep : Int32.ofNat (k + 1) - 1 = Int32.ofNat k := i32_pred k
        simp only [if_neg (of_eq_false (ge4 hk4)), ogR_1, oga_s (in_of hk4 (show 4 < 600 by omega)), nn_of (show k + 1 < 600 by omega), zlet, Option.bind_some, ep, if_neg (show ¬ k + 1 < k by omega), zsr_saved (in_of (show k < 4 by omega) (show 4 < 600 by omega)) (hp.1 (k + 1) hk4), nn_of (show k < 600 by omega), i32_succ]
        rw [oput_sv (sv' := fun i => if i < k + 1 then 29 + 23 * p (i + 1) else 29 + 23 * p i) fun i hi => ?_]
        show (if i = k then 29 + 23 * p (k + 1) else if i < k then 29 + 23 * p (i + 1) else 29 + 23 * p i) = if i < k + 1 then 29 + 23 * p (i + 1) else 29 + 23 * p i
        by_cases c1 : i = k
        · rw [if_pos c1, if_pos (by omega), c1]
        · rw [if_neg c1]
          by_cases c2 : i < k
          · rw [if_pos c2, if_pos (by omega)]
          · rw [if_neg c2, if_neg (by omega)]
      · rw [if_pos (by decide)]
        simp only [ogR_1, zsr_saved (show vp_in 3 4 from in_of (k := 3) (by omega) (by omega)) (hp.1 0 (by omega)), nn3, ogI_2, osI_2, Option.bind_some]
        rw [show Int32.ofNat 4 - 1 = Int32.ofNat 3 from rfl]
    · have : (fun i => if i = 3 then g else if i = 3 then st 0 else st (i + 1)) = fun i => if i = 3 then g else st (i + 1) := by
        funext i
        split
        · rfl
        · rfl
      rw [this] at hC'
      exact hC'
  · rw [if_neg c, if_neg c]
    obtain ⟨H', e', hC'⟩ := p_save1 (n := n) hn (by omega) hb hH
    refine ⟨H', ?_, hC'⟩
    obtain ⟨sg, p, hp, hs, l, q, rfl⟩ := hH
    rw [← e']
    simp only [ogI_2, zlet, Option.bind_some, e4, if_neg c]
theorem i32_mulm (a b : Nat) : Int32.ofNat a * Int32.ofNat b = Int32.ofNat (a * b) := (Int32.ofNat_mul a b).symm
theorem i32_addn (a b : Nat) : Int32.ofNat a + Int32.ofNat b = Int32.ofNat (a + b) := (Int32.ofNat_add a b).symm
theorem ixs {p c : Nat} : (18 : Int32) + 4 * Int32.ofNat p + Int32.ofNat c = Int32.ofNat (18 + 4 * p + c) := by
  rw [show (18 : Int32) = Int32.ofNat 18 from rfl, show (4 : Int32) = Int32.ofNat 4 from rfl, i32_mulm, i32_addn, i32_addn]
theorem ixl {p c : Nat} : (62 : Int32) + 8 * Int32.ofNat p + Int32.ofNat c = Int32.ofNat (62 + 8 * p + c) := by
  rw [show (62 : Int32) = Int32.ofNat 62 from rfl, show (8 : Int32) = Int32.ofNat 8 from rfl, i32_mulm, i32_addn, i32_addn]
theorem ixm {p : Nat} : (14 : Int32) + Int32.ofNat p = Int32.ofNat (14 + p) := by
  rw [show (14 : Int32) = Int32.ofNat 14 from rfl, i32_addn]
theorem ixo {p : Nat} : (10 : Int32) + Int32.ofNat p = Int32.ofNat (10 + p) := by
  rw [show (10 : Int32) = Int32.ofNat 10 from rfl, i32_addn]
theorem ixt {p : Nat} : (126 : Int32) + Int32.ofNat p = Int32.ofNat (126 + p) := by
  rw [show (126 : Int32) = Int32.ofNat 126 from rfl, i32_addn]
theorem ixc {c k : Nat} : (34 : Int32) + 7 * Int32.ofNat c + Int32.ofNat k = Int32.ofNat (34 + k + 7 * c) := by
  rw [show (34 : Int32) = Int32.ofNat 34 from rfl, show (7 : Int32) = Int32.ofNat 7 from rfl, i32_mulm, i32_addn, i32_addn]
  exact congrArg _ (by omega)
theorem ixc_0 {c : Nat} : (34 : Int32) + 7 * Int32.ofNat c + 0 = Int32.ofNat (34 + 7 * c) := ixc (k := 0)
theorem ixc_1 {c : Nat} : (34 : Int32) + 7 * Int32.ofNat c + 1 = Int32.ofNat (35 + 7 * c) := ixc (k := 1)
theorem ixc_2 {c : Nat} : (34 : Int32) + 7 * Int32.ofNat c + 2 = Int32.ofNat (36 + 7 * c) := ixc (k := 2)
theorem ixc_3 {c : Nat} : (34 : Int32) + 7 * Int32.ofNat c + 3 = Int32.ofNat (37 + 7 * c) := ixc (k := 3)
theorem ixc_4 {c : Nat} : (34 : Int32) + 7 * Int32.ofNat c + 4 = Int32.ofNat (38 + 7 * c) := ixc (k := 4)
theorem ixc_5 {c : Nat} : (34 : Int32) + 7 * Int32.ofNat c + 5 = Int32.ofNat (39 + 7 * c) := ixc (k := 5)
theorem ixc_6 {c : Nat} : (34 : Int32) + 7 * Int32.ofNat c + 6 = Int32.ofNat (40 + 7 * c) := ixc (k := 6)
theorem zrem_next : ∀ mm, mm < 5 → ∀ t, t < mm → zdiv (Int32.ofNat t + 1) (Int32.ofNat mm) = some ((Int32.ofNat t + 1) / Int32.ofNat mm) ∧ zrem (Int32.ofNat t + 1) (Int32.ofNat mm) = if Int32.ofNat mm ≤ Int32.ofNat t + 1 then 0 else Int32.ofNat t + 1 := by decide
theorem zseq_tail {σ : Type} {step : Nat → σ → σ} {s : σ} {mm N : Nat} (h : ∀ k s, mm ≤ k → k < N → step k s = s) : ∀ k, mm ≤ k → k ≤ N → zseq step s k = zseq step s mm := by
  intro k h1
  induction k with
  | zero => intro _; rw [show mm = 0 by omega]
  | succ k ih =>
    intro h2
    by_cases c : mm = k + 1
    · rw [c]
    · show step k (zseq step s k) = _
      rw [ih (by omega) (by omega), h k _ (by omega) (by omega)]
def PresSpec (s : Nat → Nat) (its F : Int32) : Prop := ∃ M, M < 600 ∧ (∀ p, p < 4 → s p ≤ M) ∧ ((M = 0 ∧ F = -1) ∨ (0 < M ∧ (∃ i, i < 4 ∧ its = Int32.ofNat i ∧ s i = M) ∧ F = its) ∨ (0 < M ∧ (∀ i, i < 4 → its = Int32.ofNat i → s i < M) ∧ ∃ p, p < 4 ∧ F = Int32.ofNat p ∧ s p = M ∧ ∀ j, j < p → s j < M))
theorem PresSpec_one {s : Nat → Nat} {its F F' : Int32} (h : PresSpec s its F) (h' : PresSpec s its F') : F = F' := by
  obtain ⟨M, _, h1, h2⟩ := h
  obtain ⟨M', _, h1', h2'⟩ := h'
  have a : M ≤ M' := by
    rcases h2 with ⟨e, _⟩ | ⟨_, ⟨i, hi, _, e⟩, _⟩ | ⟨_, _, p, hp, _, e, _⟩
    · omega
    · have := h1' i hi; omega
    · have := h1' p hp; omega
  have b : M' ≤ M := by
    rcases h2' with ⟨e, _⟩ | ⟨_, ⟨i, hi, _, e⟩, _⟩ | ⟨_, _, p, hp, _, e, _⟩
    · omega
    · have := h1 i hi; omega
    · have := h1 p hp; omega
  have hM : M = M' := by omega
  subst hM
  rcases h2 with ⟨e, f⟩ | ⟨e, ⟨i, hi, ei, si⟩, f⟩ | ⟨e, d, p, hp, f, sp, lp⟩
  · rcases h2' with ⟨e', f'⟩ | ⟨e', _⟩ | ⟨e', _⟩
    · rw [f, f']
    · omega
    · omega
  · rcases h2' with ⟨e', f'⟩ | ⟨e', _, f'⟩ | ⟨e', d', _⟩
    · omega
    · rw [f, f']
    · have := d' i hi ei; omega
  · rcases h2' with ⟨e', f'⟩ | ⟨e', ⟨i', hi', ei', si'⟩, f'⟩ | ⟨e', d', p', hp', f', sp', lp'⟩
    · omega
    · have := d i' hi' ei'; omega
    · have : p = p' := by
        rcases Nat.lt_trichotomy p p' with q | q | q
        · have := lp' p q; omega
        · exact q
        · have := lp p' q; omega
      rw [f, f', this]
theorem pres_spec {f : Row} {s : Nat → Nat} {its : Int32} (hf : ∀ p, p < 4 → f p = Int32.ofNat (s p)) (hs : ∀ p, p < 4 → s p < 600) (hi : its = -1 ∨ ∃ i, i < 4 ∧ its = Int32.ofNat i) : PresSpec s its (pres f its) := by
  unfold pres
  have hni : ∀ i, i < 4 → Int32.ofNat i ≠ -1 := by
    intro i h4 e
    have := in_of h4 (show 4 < 600 by omega)
    rw [e] at this
    exact this (Or.inl (by decide))
  have key := zseq_ok (N := 4) (P := fun k (x : Int32 × Int32) => ∃ M, M < 600 ∧ x.1 = Int32.ofNat M ∧ (∀ p, p < k → s p ≤ M) ∧ (∀ i, i < 4 → its = Int32.ofNat i → s i ≤ M) ∧ ((M = 0 ∧ x.2 = -1) ∨ (0 < M ∧ (∃ i, i < 4 ∧ its = Int32.ofNat i ∧ s i = M) ∧ x.2 = its) ∨ (0 < M ∧ (∀ i, i < 4 → its = Int32.ofNat i → s i < M) ∧ ∃ p, p < k ∧ x.2 = Int32.ofNat p ∧ s p = M ∧ ∀ j, j < p → s j < M))) (step := pst f) (s := (if its = -1 then 0 else f its.toNatClampNeg, if (if its = -1 then 0 else f its.toNatClampNeg) ≤ 0 then -1 else its)) ?_ ?_ 4 (by omega)
  · obtain ⟨M, h0, h1, h2, h3, h4⟩ := key
    refine ⟨M, h0, h2, ?_⟩
    rcases h4 with a | a | a
    · exact Or.inl a
    · exact Or.inr (Or.inl a)
    · exact Or.inr (Or.inr a)
  · rcases hi with hi | ⟨i, hi4, hi⟩
    · refine ⟨0, by omega, ?_, fun p hp => by omega, fun i h4 e => absurd (e.symm.trans hi) (hni i h4), Or.inl ⟨rfl, ?_⟩⟩
      · show (if its = -1 then (0 : Int32) else _) = _
        rw [if_pos hi]; rfl
      · show (if (if its = -1 then (0 : Int32) else _) ≤ 0 then (-1 : Int32) else its) = -1
        rw [if_pos hi, if_pos (by decide)]
    · have hne : ¬ its = -1 := by rw [hi]; exact hni i hi4
      have hu : ∀ j, j < 4 → its = Int32.ofNat j → j = i := by
        intro j hj e
        rw [hi, i32_eq_of (by omega) (by omega)] at e
        omega
      have hv : f its.toNatClampNeg = Int32.ofNat (s i) := by rw [hi, nn_of (by omega), hf i hi4]
      have hle : (Int32.ofNat (s i) ≤ 0) = (s i ≤ 0) := i32_le_of (b := 0) (hs i hi4) (by omega)
      refine ⟨s i, hs i hi4, ?_, fun p hp => by omega, fun j hj e => by rw [hu j hj e]; exact Nat.le_refl _, ?_⟩
      · show (if its = -1 then (0 : Int32) else _) = _
        rw [if_neg hne, hv]
      · show (s i = 0 ∧ (if (if its = -1 then (0 : Int32) else _) ≤ 0 then (-1 : Int32) else its) = -1) ∨ (0 < s i ∧ _ ∧ (if (if its = -1 then (0 : Int32) else _) ≤ 0 then (-1 : Int32) else its) = its) ∨ _
        simp only [if_neg hne, hv, hle]
        by_cases c : s i ≤ 0
        · rw [if_pos c]
          exact Or.inl ⟨by omega, rfl⟩
        · rw [if_neg c]
          exact Or.inr (Or.inl ⟨by omega, ⟨i, hi4, hi, rfl⟩, rfl⟩)
  · intro k x hk hx
    obtain ⟨M, h0, h1, h2, h3, h4⟩ := hx
    unfold pst
    have hle : (f k ≤ x.1) = (s k ≤ M) := by rw [hf k hk, h1]; exact i32_le_of (hs k hk) h0
    by_cases c : s k ≤ M
    · rw [if_pos (hle ▸ c)]
      refine ⟨M, h0, h1, fun p hp => ?_, h3, ?_⟩
      · rcases Nat.lt_or_ge p k with e | e
        · exact h2 p e
        · rw [show p = k by omega]; exact c
      · rcases h4 with a | a | ⟨a, b, p, hp, d⟩
        · exact Or.inl a
        · exact Or.inr (Or.inl a)
        · exact Or.inr (Or.inr ⟨a, b, p, by omega, d⟩)
    · rw [if_neg (fun d => c (hle ▸ d))]
      refine ⟨s k, hs k hk, hf k hk, fun p hp => ?_, fun i hi e => ?_, Or.inr (Or.inr ⟨by omega, fun i hi e => ?_, k, by omega, rfl, rfl, fun j hj => ?_⟩)⟩
      · rcases Nat.lt_or_ge p k with e | e
        · have := h2 p e; omega
        · rw [show p = k by omega]; exact Nat.le_refl _
      · have := h3 i hi e; omega
      · have := h3 i hi e; omega
      · have := h2 j hj; omega
def maxSt (f : Row) (p : Nat) (s : Int32) : Int32 := if f p ≤ s then s else f p
def ShOk (g : Row) (mm c : Nat) : Prop := ∃ s : Nat → Nat, (∀ p, p < 4 → g (18 + 4 * p + c) = Int32.ofNat (s p)) ∧ s 0 + s 1 + s 2 + s 3 ≤ 10 ∧ ∀ p, mm ≤ p → p < 4 → s p = 0
def PrOk (g : Row) (mm c : Nat) : Prop := g (39 + 7 * c) = -1 ∨ ∃ i, i < mm ∧ g (39 + 7 * c) = Int32.ofNat i
def StOk (g : Row) (c : Nat) : Prop := ∃ s, s ≤ 11 ∧ g (37 + 7 * c) = Int32.ofNat s
def OpOk (g : Row) (c : Nat) : Prop := (g (34 + 7 * c) = 1 ∧ ∃ home S, CoOk g c home S ∧ 2 ≤ S) ∨ (g (34 + 7 * c) = 0 ∧ g (37 + 7 * c) = 0 ∧ g (39 + 7 * c) = -1 ∧ ∀ p, p < 4 → g (18 + 4 * p + c) = 0)
def CoW (g : Row) (mm : Nat) : Prop := ∀ c, c < 4 → ShOk g mm c ∧ PrOk g mm c ∧ StOk g c ∧ OpOk g c
def OrdW (g : Row) : Prop := ∃ (len pl : Nat) (o : Nat → Nat), len ≤ 4 ∧ pl ≤ len ∧ g 9 = Int32.ofNat len ∧ g 4 = Int32.ofNat pl ∧ (∀ j, j < len → o j < 4 ∧ g (10 + j) = Int32.ofNat (o j)) ∧ (g 3 = 1 → pl < len ∧ (∀ j, pl ≤ j → j < len → g (34 + 7 * o j) = 1) ∧ ∀ i j, pl ≤ i → i < j → j < len → o i ≠ o j)
def LandW (g : Row) : Prop := SymL g ∧ (∀ a b, a < 8 → b < 8 → ∃ l, l ≤ 2 ∧ g (62 + 8 * a + b) = Int32.ofNat l) ∧ (∀ a, a < 8 → g (62 + 8 * a + a) = 0) ∧ ∀ t, t < 8 → ∃ v, v ≤ 90 ∧ g (126 + t) = Int32.ofNat v
def BaseW (g : Row) (mm : Nat) : Prop := 2 ≤ mm ∧ mm ≤ 4 ∧ g 0 = Int32.ofNat mm ∧ (∃ t, t < mm ∧ g 1 = Int32.ofNat t) ∧ (g 3 = 0 ∨ g 3 = 1) ∧ (g 8 = 0 ∨ g 8 = 1) ∧ (g 3 = 0 → ∃ p, p < mm ∧ g 2 = Int32.ofNat p)
def WF (g : Row) (mm : Nat) : Prop := BaseW g mm ∧ OrdW g ∧ CoW g mm ∧ LandW g
theorem PrOk_4 {g : Row} {mm c : Nat} (hm : mm ≤ 4) (h : PrOk g mm c) : g (39 + 7 * c) = -1 ∨ ∃ i, i < 4 ∧ g (39 + 7 * c) = Int32.ofNat i := by
  rcases h with h | ⟨i, hi, h⟩
  · exact Or.inl h
  · exact Or.inr ⟨i, by omega, h⟩
theorem PrOk_pres {g : Row} {mm c : Nat} (hm : mm ≤ 4) (h : PrOk g mm c) : PresOk g c := by
  rcases h with h | ⟨i, hi, h⟩
  · exact Or.inl h
  · exact Or.inr (by rw [h]; exact in_of (by omega) (by omega))
theorem CoW_pa {g : Row} {mm : Nat} (hm : mm ≤ 4) (h : CoW g mm) : PresAll g := fun c hc => PrOk_pres hm (h c hc).2.1
theorem sh_lt {s : Nat → Nat} (h : s 0 + s 1 + s 2 + s 3 ≤ 10) : ∀ p, p < 4 → s p ≤ 10 := by
  intro p hp
  obtain rfl | rfl | rfl | rfl : p = 0 ∨ p = 1 ∨ p = 2 ∨ p = 3 := by omega
  all_goals omega
theorem sh_zero {g : Row} {mm c : Nat} (h : ShOk g mm c) : ∀ p, mm ≤ p → p < 4 → g (18 + 4 * p + c) = 0 := by
  obtain ⟨s, h1, _, h3⟩ := h
  intro p h4 h5
  rw [h1 p h5, h3 p h4 h5]
  rfl
theorem upd_comm {g : Row} {i j : Nat} {x y : Int32} (h : i ≠ j) : upd (upd g i x) j y = upd (upd g j y) i x := by
  funext k
  simp only [upd]
  by_cases c : k = j
  · rw [if_pos c, if_neg (by omega), if_pos c]
  · rw [if_neg c, if_neg c]
theorem upd_upd {g : Row} {i : Nat} {x y : Int32} : upd (upd g i x) i y = upd g i y := by
  funext k
  simp only [upd]
  split <;> rfl
theorem upd_self {g : Row} {i : Nat} {x : Int32} (h : g i = x) : upd g i x = g := by
  funext k
  simp only [upd]
  split
  · rename_i c
    rw [c, h]
  · rfl
theorem rFall_rPres {g : Row} {c : Nat} (hc : c < 4) : rFall (rPres g c) c = rPres (rFall g c) c := by
  unfold rFall rPres
  rw [upd_ne (show 37 + 7 * c ≠ 39 + 7 * c by omega)]
  split
  · rfl
  · rw [upd_comm (by omega), upd_ne (show 39 + 7 * c ≠ 37 + 7 * c by omega)]
    congr 2
    congr 1
    funext p
    rw [upd_ne (by omega)]
theorem BaseW_congr {g g' : Row} {mm : Nat} (h : ∀ k, k < 4 ∨ k = 8 → g' k = g k) (hb : BaseW g mm) : BaseW g' mm := by
  unfold BaseW at hb ⊢
  rw [h 0 (by omega), h 1 (by omega), h 2 (by omega), h 3 (by omega), h 8 (by omega)]
  exact hb
theorem OrdW_congr {g g' : Row} (h : ∀ k, k = 3 ∨ k = 4 ∨ (9 ≤ k ∧ k < 14) → g' k = g k) (h2 : ∀ c, c < 4 → g' (34 + 7 * c) = g (34 + 7 * c)) (hb : OrdW g) : OrdW g' := by
  obtain ⟨len, pl, o, h4, hpl, e9, e4, ho, hop⟩ := hb
  refine ⟨len, pl, o, h4, hpl, by rw [h 9 (by omega), e9], by rw [h 4 (by omega), e4], fun j hj => ⟨(ho j hj).1, by rw [h _ (by omega), (ho j hj).2]⟩, fun h3 => ?_⟩
  rw [h 3 (by omega)] at h3
  obtain ⟨q1, q2, q3⟩ := hop h3
  exact ⟨q1, fun j a b => by rw [h2 _ (ho j b).1, q2 j a b], q3⟩
theorem LandW_congr {g g' : Row} (h : ∀ k, 62 ≤ k ∧ k < 134 → g' k = g k) (hb : LandW g) : LandW g' := by
  obtain ⟨h1, h2, h3, h4⟩ := hb
  refine ⟨fun a b ha hb' => by rw [h _ (by omega), h _ (by omega), h1 a b ha hb'], fun a b ha hb' => ?_, fun a ha => by rw [h _ (by omega), h3 a ha], fun t ht => ?_⟩
  · rw [h _ (by omega)]
    exact h2 a b ha hb'
  · rw [h _ (by omega)]
    exact h4 t ht
theorem ShOk_congr {g g' : Row} {mm c : Nat} (h : ∀ p, p < 4 → g' (18 + 4 * p + c) = g (18 + 4 * p + c)) (hb : ShOk g mm c) : ShOk g' mm c := by
  obtain ⟨s, h1, h2, h3⟩ := hb
  exact ⟨s, fun p hp => by rw [h p hp, h1 p hp], h2, h3⟩
theorem PrOk_congr {g g' : Row} {mm c : Nat} (h : g' (39 + 7 * c) = g (39 + 7 * c)) (hb : PrOk g mm c) : PrOk g' mm c := by
  unfold PrOk at hb ⊢
  rw [h]
  exact hb
theorem StOk_congr {g g' : Row} {c : Nat} (h : g' (37 + 7 * c) = g (37 + 7 * c)) (hb : StOk g c) : StOk g' c := by
  unfold StOk at hb ⊢
  rw [h]
  exact hb
theorem CoOk_congr {g g' : Row} {c home S : Nat} (h1 : g' (35 + 7 * c) = g (35 + 7 * c)) (h2 : g' (38 + 7 * c) = g (38 + 7 * c)) (hb : CoOk g c home S) : CoOk g' c home S := by
  unfold CoOk at hb ⊢
  rw [h1, h2]
  exact hb
theorem OpOk_congr {g g' : Row} {c : Nat} (h0 : g' (34 + 7 * c) = g (34 + 7 * c)) (h1 : g' (35 + 7 * c) = g (35 + 7 * c)) (h2 : g' (38 + 7 * c) = g (38 + 7 * c)) (h3 : g' (37 + 7 * c) = g (37 + 7 * c)) (h4 : g' (39 + 7 * c) = g (39 + 7 * c)) (h5 : ∀ p, p < 4 → g' (18 + 4 * p + c) = g (18 + 4 * p + c)) (hb : OpOk g c) : OpOk g' c := by
  rcases hb with ⟨a, home, S, b, d⟩ | ⟨a, b, d, e⟩
  · exact Or.inl ⟨by rw [h0, a], home, S, CoOk_congr h1 h2 b, d⟩
  · exact Or.inr ⟨by rw [h0, a], by rw [h3, b], by rw [h4, d], fun p hp => by rw [h5 p hp, e p hp]⟩
theorem OpOk_open {g g' : Row} {c : Nat} (ho : g (34 + 7 * c) = 1) (h0 : g' (34 + 7 * c) = g (34 + 7 * c)) (h1 : g' (35 + 7 * c) = g (35 + 7 * c)) (h2 : g' (38 + 7 * c) = g (38 + 7 * c)) (hb : OpOk g c) : OpOk g' c := by
  rcases hb with ⟨a, home, S, b, d⟩ | ⟨a, _⟩
  · exact Or.inl ⟨by rw [h0, a], home, S, CoOk_congr h1 h2 b, d⟩
  · rw [ho] at a
    exact absurd a (by decide)
theorem Co1_congr {g g' : Row} {mm c : Nat} (h1 : ∀ p, p < 4 → g' (18 + 4 * p + c) = g (18 + 4 * p + c)) (h2 : ∀ k, 34 + 7 * c ≤ k ∧ k < 40 + 7 * c → k ≠ 36 + 7 * c → g' k = g k) (hb : ShOk g mm c ∧ PrOk g mm c ∧ StOk g c ∧ OpOk g c) : ShOk g' mm c ∧ PrOk g' mm c ∧ StOk g' c ∧ OpOk g' c :=
  ⟨ShOk_congr h1 hb.1, PrOk_congr (h2 _ (by omega) (by omega)) hb.2.1, StOk_congr (h2 _ (by omega) (by omega)) hb.2.2.1, OpOk_congr (h2 _ (by omega) (by omega)) (h2 _ (by omega) (by omega)) (h2 _ (by omega) (by omega)) (h2 _ (by omega) (by omega)) (h2 _ (by omega) (by omega)) h1 hb.2.2.2⟩
theorem sum4_upd {s : Nat → Nat} {p v : Nat} (hp : p < 4) : (if 0 = p then v else s 0) + (if 1 = p then v else s 1) + (if 2 = p then v else s 2) + (if 3 = p then v else s 3) + s p = s 0 + s 1 + s 2 + s 3 + v := by
  obtain rfl | rfl | rfl | rfl : p = 0 ∨ p = 1 ∨ p = 2 ∨ p = 3 := by omega
  all_goals simp
  all_goals omega
theorem ofNat_inj {a b : Nat} (ha : a < 2147483648) (hb : b < 2147483648) (h : Int32.ofNat a = Int32.ofNat b) : a = b := by
  have e := congrArg Int32.toInt h
  rw [Int32.toInt_ofNat_of_lt (by omega), Int32.toInt_ofNat_of_lt (by omega)] at e
  omega
theorem ShOk_upd {g : Row} {mm c p a v : Nat} (hp : p < mm) (hm : mm ≤ 4) (ha : g (18 + 4 * p + c) = Int32.ofNat a) (ha2 : a < 600) (hv : v ≤ a) (hb : ShOk g mm c) : ShOk (upd g (18 + 4 * p + c) (Int32.ofNat v)) mm c := by
  obtain ⟨s, h1, h2, h3⟩ := hb
  have e : a = s p := ofNat_inj (by omega) (by have := sh_lt h2 p (by omega); omega) (by rw [← ha, h1 p (by omega)])
  have hs := sum4_upd (s := s) (p := p) (v := v) (by omega)
  refine ⟨fun q => if q = p then v else s q, fun q hq => ?_, ?_, fun q h4 h5 => ?_⟩
  · show upd g (18 + 4 * p + c) (Int32.ofNat v) (18 + 4 * q + c) = Int32.ofNat (if q = p then v else s q)
    by_cases d : q = p
    · rw [d, upd_eq, if_pos rfl]
    · rw [upd_ne (by omega), if_neg d, h1 q hq]
  · show (if 0 = p then v else s 0) + (if 1 = p then v else s 1) + (if 2 = p then v else s 2) + (if 3 = p then v else s 3) ≤ 10
    omega
  · show (if q = p then v else s q) = 0
    rw [if_neg (by omega)]
    exact h3 q h4 h5
theorem ShOk_inc {g : Row} {mm c p : Nat} {s : Nat → Nat} {v : Nat} (hp : p < mm) (hm : mm ≤ 4) (h1 : ∀ p, p < 4 → g (18 + 4 * p + c) = Int32.ofNat (s p)) (h2 : s 0 + s 1 + s 2 + s 3 + v ≤ 10 + s p) (h3 : ∀ p, mm ≤ p → p < 4 → s p = 0) : ShOk (upd g (18 + 4 * p + c) (Int32.ofNat v)) mm c := by
  have hs := sum4_upd (s := s) (p := p) (v := v) (by omega)
  refine ⟨fun q => if q = p then v else s q, fun q hq => ?_, ?_, fun q h4 h5 => ?_⟩
  · show upd g (18 + 4 * p + c) (Int32.ofNat v) (18 + 4 * q + c) = Int32.ofNat (if q = p then v else s q)
    by_cases d : q = p
    · rw [d, upd_eq, if_pos rfl]
    · rw [upd_ne (by omega), if_neg d, h1 q hq]
  · show (if 0 = p then v else s 0) + (if 1 = p then v else s 1) + (if 2 = p then v else s 2) + (if 3 = p then v else s 3) ≤ 10
    omega
  · show (if q = p then v else s q) = 0
    rw [if_neg (by omega)]
    exact h3 q h4 h5
theorem bank_eq {f : Row} {s : Nat → Nat} (h1 : ∀ p, p < 4 → f p = Int32.ofNat (s p)) (h2 : s 0 + s 1 + s 2 + s 3 ≤ 10) : bank f = Int32.ofNat (10 - (s 0 + s 1 + s 2 + s 3)) := by
  show (10 : Int32) - f 0 - f 1 - f 2 - f 3 = _
  rw [h1 0 (by omega), h1 1 (by omega), h1 2 (by omega), h1 3 (by omega), show (10 : Int32) = Int32.ofNat 10 from rfl, i32_subm (by omega), i32_subm (by omega), i32_subm (by omega), i32_subm (by omega)]
  exact congrArg _ (by omega)
theorem exch_eq {f : Row} {s : Nat → Nat} (h1 : ∀ p, p < 4 → f p = Int32.ofNat (s p)) (h2 : ∀ p, p < 4 → s p ≤ 10) : exch f = Int32.ofNat (s 0 / 2 + s 1 / 2 + s 2 / 2 + s 3 / 2) := by
  have half : ∀ k, k ≤ 10 → Int32.ofNat k / 2 = Int32.ofNat (k / 2) := by decide
  show (0 : Int32) + f 0 / 2 + f 1 / 2 + f 2 / 2 + f 3 / 2 = _
  rw [h1 0 (by omega), h1 1 (by omega), h1 2 (by omega), h1 3 (by omega), half _ (h2 0 (by omega)), half _ (h2 1 (by omega)), half _ (h2 2 (by omega)), half _ (h2 3 (by omega)), Int32.zero_add, i32_addn, i32_addn, i32_addn]
theorem pres_mm {g : Row} {mm c : Nat} (hm : mm ≤ 4) (hs : ShOk g mm c) (hp : PrOk g mm c) : PrOk (rPres g c) mm c := by
  obtain ⟨s, h1, h2, h3⟩ := hs
  obtain ⟨M, a1, a2, a3⟩ := pres_spec (f := fun p => g (18 + 4 * p + c)) (its := g (39 + 7 * c)) h1 (fun p hp => by have := sh_lt h2 p hp; omega) (PrOk_4 hm hp)
  unfold PrOk rPres
  rw [upd_eq]
  rcases a3 with ⟨_, e⟩ | ⟨_, _, e⟩ | ⟨b, _, p, hp4, e, sp, _⟩
  · exact Or.inl e
  · rw [e]
    exact hp
  · refine Or.inr ⟨p, ?_, e⟩
    rcases Nat.lt_or_ge p mm with q | q
    · exact q
    · have := h3 p q hp4
      omega
theorem rSell_ne {g : Row} {p c i : Nat} {s : Int32} (h1 : i ≠ 14 + p) (h2 : i ≠ 6) (h3 : i ≠ 18 + 4 * p + c) (h4 : i ≠ 37 + 7 * c) (h5 : i ≠ 39 + 7 * c) : rSell g p c s i = g i := by
  unfold rSell
  rw [rPres_ne h5, rFall_ne h4, upd_ne h3, rPay_ne h1 h2]
theorem StOk_fall {g : Row} {c : Nat} (h : StOk g c) : StOk (rFall g c) c := by
  obtain ⟨s, hs, e⟩ := h
  unfold rFall StOk
  split
  · exact ⟨s, hs, e⟩
  · rename_i d
    rw [upd_eq, e]
    cases s with
    | zero =>
      rw [e] at d
      exact absurd (show Int32.ofNat 0 ≤ 0 by decide) d
    | succ k => exact ⟨k, by omega, i32_pred k⟩
theorem StOk_rise {g : Row} {c : Nat} (h : StOk g c) : StOk (rRise g c) c := by
  obtain ⟨s, hs, e⟩ := h
  unfold rRise StOk
  split
  · exact ⟨s, hs, e⟩
  · rename_i d
    rw [upd_eq, e, i32_succ]
    refine ⟨s + 1, ?_, rfl⟩
    rcases Nat.lt_or_ge s 11 with q | q
    · omega
    · exfalso
      refine d ?_
      rw [e, show s = 11 by omega]
      decide
theorem rSell_co {g : Row} {mm p c a k : Nat} (hm : mm ≤ 4) (hp : p < mm) (hc : c < 4) (hw : CoW g mm) (ho : g (34 + 7 * c) = 1) (ha : g (18 + 4 * p + c) = Int32.ofNat a) (ha2 : a < 600) (hk : k ≤ a) : CoW (rSell g p c (Int32.ofNat k)) mm := by
  intro d hd
  by_cases e : d = c
  · subst e
    have h0 := hw d hd
    have s1 : ShOk (rFall (upd (rPay g p (-Int32.ofNat k * (20 + 10 * g (37 + 7 * d)))) (18 + 4 * p + d) (g (18 + 4 * p + d) - Int32.ofNat k)) d) mm d := by
      refine ShOk_congr (g := upd (rPay g p (-Int32.ofNat k * (20 + 10 * g (37 + 7 * d)))) (18 + 4 * p + d) (Int32.ofNat (a - k))) (fun q hq => by rw [rFall_ne (by omega), ha, i32_subm hk]) ?_
      exact ShOk_upd hp hm (by rw [rPay_ne (by omega) (by omega), ha]) ha2 (by omega) (ShOk_congr (fun q hq => rPay_ne (by omega) (by omega)) h0.1)
    have p1 : PrOk (rFall (upd (rPay g p (-Int32.ofNat k * (20 + 10 * g (37 + 7 * d)))) (18 + 4 * p + d) (g (18 + 4 * p + d) - Int32.ofNat k)) d) mm d := PrOk_congr (by rw [rFall_ne (by omega), upd_ne (by omega), rPay_ne (by omega) (by omega)]) h0.2.1
    refine ⟨?_, ?_, ?_, OpOk_open ho (rSell_ne (by omega) (by omega) (by omega) (by omega) (by omega)) (rSell_ne (by omega) (by omega) (by omega) (by omega) (by omega)) (rSell_ne (by omega) (by omega) (by omega) (by omega) (by omega)) h0.2.2.2⟩
    · unfold rSell
      exact ShOk_congr (fun q hq => rPres_ne (by omega)) s1
    · unfold rSell
      exact pres_mm hm s1 p1
    · unfold rSell
      exact StOk_congr (rPres_ne (by omega)) (StOk_fall (StOk_congr (g := g) (by rw [upd_ne (by omega), rPay_ne (by omega) (by omega)]) h0.2.2.1))
  · exact Co1_congr (fun q hq => rSell_ne (by omega) (by omega) (by omega) (by omega) (by omega)) (fun k h1 h2 => rSell_ne (by omega) (by omega) (by omega) (by omega) (by omega)) (hw d hd)
theorem chp_spec {g : Row} {p : Nat} : chp g p = -1 ∨ ∃ i, i < 4 ∧ chp g p = Int32.ofNat i ∧ ¬ g (34 + 7 * i) = 0 ∧ ¬ g (18 + 4 * p + i) ≤ 0 := by
  unfold chp
  refine zseq_lt (N := 4) (P := fun s : Int32 => s = -1 ∨ ∃ i, i < 4 ∧ s = Int32.ofNat i ∧ ¬ g (34 + 7 * i) = 0 ∧ ¬ g (18 + 4 * p + i) ≤ 0) (Or.inl rfl) (fun k s hk hs => ?_) 4 (by omega)
  unfold chStep
  split
  · exact hs
  · split
    · exact hs
    · rename_i c1 c2
      have new : Int32.ofNat k = -1 ∨ ∃ i, i < 4 ∧ Int32.ofNat k = Int32.ofNat i ∧ ¬ g (34 + 7 * i) = 0 ∧ ¬ g (18 + 4 * p + i) ≤ 0 := Or.inr ⟨k, hk, rfl, c1, c2⟩
      split
      · exact new
      · split
        · exact hs
        · exact new
def sumTo : Nat → (Nat → Nat) → Nat
  | 0, _ => 0
  | k + 1, f => sumTo k f + f k
theorem sumTo_congr {f f' : Nat → Nat} : ∀ k, (∀ d, d < k → f d = f' d) → sumTo k f = sumTo k f'
  | 0, _ => rfl
  | k + 1, h => by
    unfold sumTo
    rw [sumTo_congr k (fun d hd => h d (by omega)), h k (by omega)]
theorem sumTo_le {f f' : Nat → Nat} : ∀ k, (∀ d, d < k → f d ≤ f' d) → sumTo k f ≤ sumTo k f'
  | 0, _ => Nat.le_refl _
  | k + 1, h => by
    unfold sumTo
    have := sumTo_le k (fun d hd => h d (by omega))
    have := h k (by omega)
    omega
def ahead (st : Nat → Nat) (d c : Nat) : Bool := decide (st c < st d ∨ (st c = st d ∧ d < c))
def placeN (op : Nat → Bool) (st : Nat → Nat) (k c : Nat) : Nat := sumTo k (fun d => if d ≠ c ∧ op d = true ∧ ahead st d c = true then 1 else 0)
def OrdInv (op : Nat → Bool) (st : Nat → Nat) (k len : Nat) (r : Row) : Prop := r 9 = Int32.ofNat len ∧ len ≤ k ∧ (∀ c, c < k → op c = true → placeN op st k c < len ∧ r (10 + placeN op st k c) = Int32.ofNat c) ∧ (∀ p, p ≤ len → sumTo k (fun d => if op d = true ∧ placeN op st k d < p then 1 else 0) = p) ∧ (∀ c d, c < k → d < k → op c = true → op d = true → placeN op st k c < placeN op st k d → st d ≤ st c) ∧ (∀ j, j < len → ∃ c, c < k ∧ op c = true ∧ placeN op st k c = j)
theorem placeN_skip {op : Nat → Bool} {st : Nat → Nat} {k c : Nat} (h : op k = false) : placeN op st (k + 1) c = placeN op st k c := by
  show sumTo k _ + (if k ≠ c ∧ op k = true ∧ ahead st k c = true then 1 else 0) = _
  rw [if_neg (fun q => by rw [h] at q; exact absurd q.2.1 (by decide))]
  rfl
theorem OrdInv_skip {op : Nat → Bool} {st : Nat → Nat} {k len : Nat} {r : Row} (h : op k = false) (hi : OrdInv op st k len r) : OrdInv op st (k + 1) len r := by
  obtain ⟨h1, h2, h3, h4, h5, h6⟩ := hi
  have lt : ∀ c, c < k + 1 → op c = true → c < k := by
    intro c hc ho
    rcases Nat.lt_or_ge c k with e | e
    · exact e
    · rw [show c = k by omega, h] at ho
      exact absurd ho (by decide)
  refine ⟨h1, by omega, fun c hc ho => ?_, fun p hp => ?_, fun c d hc hd oc od hl => ?_, fun j hj => ?_⟩
  · rw [placeN_skip h]
    exact h3 c (lt c hc ho) ho
  · show sumTo k _ + (if op k = true ∧ placeN op st (k + 1) k < p then 1 else 0) = p
    rw [if_neg (fun q => by rw [h] at q; exact absurd q.1 (by decide))]
    rw [sumTo_congr k (f' := fun d => if op d = true ∧ placeN op st k d < p then 1 else 0) (fun d hd => by rw [placeN_skip h])]
    exact h4 p hp
  · rw [placeN_skip h, placeN_skip h] at hl
    exact h5 c d (lt c hc oc) (lt d hd od) oc od hl
  · obtain ⟨c, hc, ho, e⟩ := h6 j hj
    exact ⟨c, by omega, ho, by rw [placeN_skip h, e]⟩
theorem OrdInv_ins {op : Nat → Bool} {st : Nat → Nat} {k len : Nat} {r : Row} (hk : k < 4) (h : op k = true) (hst : ∀ c, c < 4 → r (37 + 7 * c) = Int32.ofNat (st c) ∧ st c < 600) (hi : OrdInv op st k len r) : OrdInv op st (k + 1) (len + 1) (rIns r (Int32.ofNat k) len) := by
  obtain ⟨h1, h2, h3, h4, h5, h6⟩ := hi
  have hq := insAt_le (g := r) (c := k) len
  have hgt := insAt_gt (g := r) (c := k) len
  have hat := insAt_at (g := r) (c := k) len
  have hord := fun j (hj : j ≤ len) => rIns_ord (g := r) (c := Int32.ofNat k) (len := len) (j := j) hj
  have hlen := rIns_len (g := r) (c := Int32.ofNat k) h1
  rw [nn_of (show k < 600 by omega)] at hord
  generalize insAt r k len = p at hq hgt hat hord
  have so : ∀ c, c < k → op c = true → stepOf r (placeN op st k c) = Int32.ofNat (st c) := by
    intro c hc ho
    unfold stepOf
    rw [(h3 c hc ho).2, nn_of (by omega), (hst c (by omega)).1]
  have key : ∀ c, c < k → op c = true → (st k ≤ st c ↔ placeN op st k c < p) := by
    intro c hc ho
    have hle : (r (37 + 7 * k) ≤ stepOf r (placeN op st k c)) = (st k ≤ st c) := by
      rw [so c hc ho, (hst k hk).1]
      exact i32_le_of (hst k hk).2 (hst c (by omega)).2
    constructor
    · intro q
      rcases Nat.lt_or_ge (placeN op st k c) p with e | e
      · exact e
      · exact absurd (hle ▸ q) (hgt _ e (h3 c hc ho).1)
    · intro q
      obtain ⟨j, hj⟩ : ∃ j, p = j + 1 := ⟨p - 1, by omega⟩
      have a := hat j hj
      obtain ⟨d, hd, od, ed⟩ := h6 j (by omega)
      rw [← ed, so d hd od, (hst k hk).1, i32_le_of (hst k hk).2 (hst d (by omega)).2] at a
      rcases Nat.lt_or_ge (placeN op st k c) (placeN op st k d) with e | e
      · have := h5 c d hc hd ho od e
        omega
      · have e2 : placeN op st k c = placeN op st k d := by omega
        have e3 := (h3 c hc ho).2
        rw [e2, (h3 d hd od).2] at e3
        have : d = c := by rw [i32_eq_of (by omega) (by omega)] at e3; exact e3
        rw [← this]
        exact a
  have pc : ∀ c, c < k → op c = true → placeN op st (k + 1) c = if placeN op st k c < p then placeN op st k c else placeN op st k c + 1 := by
    intro c hc ho
    show sumTo k _ + (if k ≠ c ∧ op k = true ∧ ahead st k c = true then 1 else 0) = _
    by_cases q : placeN op st k c < p
    · rw [if_pos q, if_neg]
      · rfl
      · rintro ⟨_, _, a⟩
        have := (key c hc ho).mpr q
        unfold ahead at a
        have a' := of_decide_eq_true a
        omega
    · rw [if_neg q, if_pos]
      · rfl
      · refine ⟨by omega, h, decide_eq_true ?_⟩
        have : ¬ st k ≤ st c := fun e => q ((key c hc ho).mp e)
        omega
  have pk : placeN op st (k + 1) k = p := by
    show sumTo k _ + (if k ≠ k ∧ op k = true ∧ ahead st k k = true then 1 else 0) = p
    rw [if_neg (fun q => q.1 rfl), Nat.add_zero]
    rw [sumTo_congr k (f' := fun d => if op d = true ∧ placeN op st k d < p then 1 else 0) (fun d hd => ?_)]
    · exact h4 p hq
    · by_cases ho : op d = true
      · by_cases q : placeN op st k d < p
        · have := (key d hd ho).mpr q
          rw [if_pos ⟨by omega, ho, decide_eq_true (by omega)⟩, if_pos ⟨ho, q⟩]
        · have : ¬ st k ≤ st d := fun e => q ((key d hd ho).mp e)
          rw [if_neg, if_neg (fun e => q e.2)]
          intro x
          have a' := of_decide_eq_true x.2.2
          omega
      · rw [if_neg (fun e => ho e.2.1), if_neg (fun e => ho e.1)]
  refine ⟨hlen, by omega, fun c hc ho => ?_, fun p' hp' => ?_, fun c d hc hd oc od hl => ?_, fun j hj => ?_⟩
  · rcases Nat.lt_or_ge c k with e | e
    · have a := h3 c e ho
      rw [pc c e ho]
      by_cases q : placeN op st k c < p
      · rw [if_pos q]
        refine ⟨by omega, ?_⟩
        rw [hord _ (by omega), if_pos q, a.2]
      · rw [if_neg q]
        refine ⟨by omega, ?_⟩
        rw [hord _ (by omega), if_neg (by omega), if_neg (by omega), Nat.add_sub_cancel, a.2]
    · have : c = k := by omega
      subst this
      rw [pk]
      refine ⟨by omega, ?_⟩
      rw [hord _ hq, if_neg (by omega), if_pos rfl]
  · show sumTo k _ + (if op k = true ∧ placeN op st (k + 1) k < p' then 1 else 0) = p'
    rw [pk]
    rcases Nat.lt_or_ge p p' with e | e
    · rw [if_pos ⟨h, e⟩]
      rw [sumTo_congr k (f' := fun d => if op d = true ∧ placeN op st k d < p' - 1 then 1 else 0) (fun d hd => ?_)]
      · rw [h4 (p' - 1) (by omega)]
        omega
      · by_cases ho : op d = true
        · rw [pc d hd ho]
          by_cases q : placeN op st k d < p
          · rw [if_pos q, if_pos ⟨ho, by omega⟩, if_pos ⟨ho, by omega⟩]
          · rw [if_neg q]
            by_cases q2 : placeN op st k d < p' - 1
            · rw [if_pos ⟨ho, by omega⟩, if_pos ⟨ho, q2⟩]
            · rw [if_neg (fun x => by omega), if_neg (fun x => q2 x.2)]
        · rw [if_neg (fun x => ho x.1), if_neg (fun x => ho x.1)]
    · rw [if_neg (fun x => by omega), Nat.add_zero]
      rw [sumTo_congr k (f' := fun d => if op d = true ∧ placeN op st k d < p' then 1 else 0) (fun d hd => ?_)]
      · exact h4 p' (by omega)
      · by_cases ho : op d = true
        · rw [pc d hd ho]
          by_cases q : placeN op st k d < p
          · rw [if_pos q]
          · rw [if_neg q, if_neg (fun x => by omega), if_neg (fun x => by omega)]
        · rw [if_neg (fun x => ho x.1), if_neg (fun x => ho x.1)]
  · rcases Nat.lt_or_ge c k with e | e
    · rcases Nat.lt_or_ge d k with f | f
      · rw [pc c e oc, pc d f od] at hl
        refine h5 c d e f oc od ?_
        by_cases q1 : placeN op st k c < p <;> by_cases q2 : placeN op st k d < p
        · rw [if_pos q1, if_pos q2] at hl; exact hl
        · omega
        · rw [if_neg q1, if_pos q2] at hl; omega
        · rw [if_neg q1, if_neg q2] at hl; omega
      · have : d = k := by omega
        subst this
        rw [pk, pc c e oc] at hl
        by_cases q1 : placeN op st d c < p
        · exact (key c e oc).mpr q1
        · rw [if_neg q1] at hl; omega
    · have : c = k := by omega
      subst this
      have f : d < c := by
        rcases Nat.lt_or_ge d c with f | f
        · exact f
        · rw [show d = c by omega] at hl
          exact absurd hl (Nat.lt_irrefl _)
      rw [pk, pc d f od] at hl
      by_cases q1 : placeN op st c d < p
      · rw [if_pos q1] at hl; omega
      · have : ¬ st c ≤ st d := fun x => q1 ((key d f od).mp x)
        omega
  · rcases Nat.lt_trichotomy j p with e | e | e
    · obtain ⟨c, hc, ho, ec⟩ := h6 j (by omega)
      exact ⟨c, by omega, ho, by rw [pc c hc ho, if_pos (by omega), ec]⟩
    · exact ⟨k, by omega, h, by rw [pk, e]⟩
    · obtain ⟨c, hc, ho, ec⟩ := h6 (j - 1) (by omega)
      exact ⟨c, by omega, ho, by rw [pc c hc ho, if_neg (by omega), ec]; omega⟩
theorem rOrder_inv {g : Row} {op : Nat → Bool} {st : Nat → Nat} (h9 : g 9 = 0) (hop : ∀ c, c < 4 → (g (34 + 7 * c) = 0 ↔ op c = false)) (hst : ∀ c, c < 4 → g (37 + 7 * c) = Int32.ofNat (st c) ∧ st c < 600) : (∃ len, OrdInv op st 4 len (rOrder g)) ∧ ∀ i, i ≠ 9 → i < 10 ∨ 14 ≤ i → rOrder g i = g i := by
  unfold rOrder
  have key := zseq_ok (N := 4) (P := fun k (r : Row) => (∃ len, OrdInv op st k len r) ∧ ∀ i, i ≠ 9 → i < 10 ∨ 14 ≤ i → r i = g i) (step := ordStep) (s := g) ⟨⟨0, h9, Nat.le_refl 0, fun c hc => by omega, fun p hp => by rw [show p = 0 by omega]; rfl, fun c d hc => by omega, fun j hj => by omega⟩, fun _ _ _ => rfl⟩ ?_ 4 (by omega)
  · exact key
  · intro k r hk hr
    obtain ⟨⟨len, hi⟩, hne⟩ := hr
    have hlen := hi.2.1
    rw [ordStep_eq hi.1 (by omega)]
    by_cases ho : op k = true
    · have : ¬ r (34 + 7 * k) = 0 := by
        rw [hne _ (by omega) (by omega)]
        intro e
        have := (hop k hk).mp e
        rw [ho] at this
        exact absurd this (by decide)
      rw [if_neg this]
      refine ⟨⟨len + 1, OrdInv_ins hk ho (fun c hc => by rw [hne _ (by omega) (by omega)]; exact hst c hc) hi⟩, fun i h1 h2 => ?_⟩
      rw [rIns_ne h1 (by omega)]
      exact hne i h1 h2
    · have hof : op k = false := by
        cases hh : op k
        · rfl
        · exact absurd hh ho
      have : r (34 + 7 * k) = 0 := by
        rw [hne _ (by omega) (by omega)]
        exact (hop k hk).mpr hof
      rw [if_pos this]
      exact ⟨⟨len, OrdInv_skip hof hi⟩, hne⟩
def mOrdStep (op : Nat → Bool) (st : Nat → Nat) (c : Nat) (r : Row) : Row := if op c = true then upd (upd r (10 + placeN op st 4 c) (Int32.ofNat c)) 9 (r 9 + 1) else r
def mOrd (op : Nat → Bool) (st : Nat → Nat) (m : Row) : Row := zseq (mOrdStep op st) (rFill (fun k => 10 + k) 0 4 (upd m 9 0)) 4
theorem placeN_lt {op : Nat → Bool} {st : Nat → Nat} {c : Nat} (hc : c < 4) : placeN op st 4 c < 4 := by
  have e : sumTo 4 (fun d => if d ≠ c then 1 else 0) = 3 := by
    obtain rfl | rfl | rfl | rfl : c = 0 ∨ c = 1 ∨ c = 2 ∨ c = 3 := by omega
    all_goals rfl
  have : placeN op st 4 c ≤ sumTo 4 (fun d => if d ≠ c then 1 else 0) := sumTo_le 4 fun d _ => by
    by_cases q : d ≠ c ∧ op d = true ∧ ahead st d c = true
    · rw [if_pos q, if_pos q.1]; exact Nat.le_refl 1
    · rw [if_neg q]; exact Nat.zero_le _
  omega
theorem mOrd_ne {op : Nat → Bool} {st : Nat → Nat} {m : Row} {k i : Nat} (hk : k ≤ 4) (h9 : i ≠ 9) (hi : i < 10 ∨ 14 ≤ i) : zseq (mOrdStep op st) (rFill (fun k => 10 + k) 0 4 (upd m 9 0)) k i = m i := by
  refine zseq_lt (P := fun r : Row => r i = m i) (N := 4) ?_ (fun c r hc hr => ?_) k hk
  · show rFill (fun k => 10 + k) 0 4 (upd m 9 0) i = m i
    rw [rFill_ne (fun j hj => by omega), upd_ne h9]
  · show mOrdStep op st c r i = m i
    unfold mOrdStep
    have := placeN_lt (op := op) (st := st) hc
    split
    · rw [upd_ne h9, upd_ne (by omega), hr]
    · exact hr
def mPass (op : Nat → Bool) (st : Nat → Nat) (m : Row) : Row :=
  let m1 := upd (upd m 1 (nextT m)) 2 (m 2 + 1)
  if m 2 + 1 = m 0 then rOver (upd (mOrd op st (upd (upd m1 3 1) 4 0)) 8 0) else m1
theorem i32_le_b {a b : Nat} (ha : a < 2147483648) (hb : b < 2147483648) : (Int32.ofNat a ≤ Int32.ofNat b) = (a ≤ b) := by
  rw [Int32.le_iff_toInt_le, Int32.toInt_ofNat_of_lt (by omega), Int32.toInt_ofNat_of_lt (by omega)]
  exact propext (by omega)
theorem i32_lt_b {a b : Nat} (ha : a < 2147483648) (hb : b < 2147483648) : (Int32.ofNat a < Int32.ofNat b) = (a < b) := by
  rw [Int32.lt_iff_toInt_lt, Int32.toInt_ofNat_of_lt (by omega), Int32.toInt_ofNat_of_lt (by omega)]
  exact propext (by omega)
theorem i32_eq_b {a b : Nat} (ha : a < 2147483648) (hb : b < 2147483648) : (Int32.ofNat a = Int32.ofNat b) = (a = b) := by
  rw [← Int32.toInt_inj, Int32.toInt_ofNat_of_lt (by omega), Int32.toInt_ofNat_of_lt (by omega)]
  exact propext (by omega)
theorem zmin_b {a b : Nat} (ha : a < 2147483648) (hb : b < 2147483648) : zmin (Int32.ofNat a) (Int32.ofNat b) = Int32.ofNat (min a b) := by
  unfold zmin
  have e := i32_lt_b hb ha
  by_cases c : b < a
  · rw [if_pos (e ▸ c), Nat.min_eq_right (by omega)]
  · rw [if_neg (fun q => c (e ▸ q)), Nat.min_eq_left (by omega)]
def MonW (g : Row) (mm B : Nat) : Prop := (∀ p, p < mm → ∃ x, x ≤ 500 + 4000 * B ∧ g (14 + p) = Int32.ofNat x) ∧ ∃ y : Nat → Nat, (∀ c, c < 4 → g (36 + 7 * c) = Int32.ofNat (y c)) ∧ y 0 + y 1 + y 2 + y 3 ≤ 4000 * B
theorem price_n {s : Nat} : (20 : Int32) + 10 * Int32.ofNat s = Int32.ofNat (20 + 10 * s) := by
  rw [show (20 : Int32) = Int32.ofNat 20 from rfl, show (10 : Int32) = Int32.ofNat 10 from rfl, i32_mulm, i32_addn]
theorem sell_cash {g : Row} {p c k x s : Nat} (hp : p < 4) (hx : g (14 + p) = Int32.ofNat x) (hs : g (37 + 7 * c) = Int32.ofNat s) : rSell g p c (Int32.ofNat k) (14 + p) = Int32.ofNat (x + k * (20 + 10 * s)) := by
  unfold rSell
  rw [rPres_ne (by omega), rFall_ne (by omega), upd_ne (by omega)]
  unfold rPay
  rw [upd_ne (by omega), upd_eq, hx, hs, price_n, Int32.neg_mul, Int32.sub_neg, i32_mulm, i32_addn]
theorem rRest_spec {mm p d X : Nat} (hm : mm ≤ 4) (hp : p < mm) (hd : d ≤ 200) (hX : 500 ≤ X) (hX2 : X < 2147483648) : ∀ (j : Nat) (g : Row) (x : Nat), CoW g mm → g (14 + p) = Int32.ofNat x → x ≤ X → CoW (rRest p (Int32.ofNat d) j g) mm ∧ (∃ x', x' ≤ X ∧ rRest p (Int32.ofNat d) j g (14 + p) = Int32.ofNat x') ∧ ∀ i, i ≠ 14 + p → i ≠ 6 → ¬ (18 ≤ i ∧ i < 34) → (∀ c, c < 4 → i ≠ 37 + 7 * c ∧ i ≠ 39 + 7 * c) → rRest p (Int32.ofNat d) j g i = g i := by
  intro j
  induction j with
  | zero => intro g x hw hx hxX; exact ⟨hw, ⟨x, hxX, hx⟩, fun _ _ _ _ _ => rfl⟩
  | succ j ih =>
    intro g x hw hx hxX
    unfold rRest
    have hle : (Int32.ofNat d ≤ g (14 + p)) = (d ≤ x) := by rw [hx]; exact i32_le_b (by omega) (by omega)
    by_cases c1 : d ≤ x
    · rw [if_pos (hle ▸ c1)]
      exact ⟨hw, ⟨x, hxX, hx⟩, fun _ _ _ _ _ => rfl⟩
    · rw [if_neg (fun q => c1 (hle ▸ q))]
      rcases chp_spec (g := g) (p := p) with c2 | ⟨i, hi, ei, oi, si⟩
      · rw [if_pos c2]
        exact ⟨hw, ⟨x, hxX, hx⟩, fun _ _ _ _ _ => rfl⟩
      · have hne2 : ¬ chp g p = -1 := by
          intro e
          rw [ei] at e
          have := in_of hi (show 4 < 600 by omega)
          rw [e] at this
          exact this (Or.inl (by decide))
        rw [if_neg hne2, ei, nn_of (by omega)]
        have ho : g (34 + 7 * i) = 1 := by
          rcases (hw i hi).2.2.2 with ⟨q, _⟩ | ⟨q, _⟩
          · exact q
          · exact absurd q oi
        obtain ⟨s, s1, s2, s3⟩ := (hw i hi).1
        obtain ⟨st, st1, st2⟩ := (hw i hi).2.2.1
        have hsp := sh_lt s2 p (by omega)
        have pos : 1 ≤ s p := by
          refine Nat.le_of_not_lt fun q => si ?_
          rw [s1 p (by omega), show s p = 0 by omega]
          decide
        have hw1 := rSell_co (k := 1) hm hp hi hw ho (s1 p (by omega)) (by omega) pos
        have hc1 := sell_cash (k := 1) (show p < 4 by omega) hx st2
        obtain ⟨a, b, e⟩ := ih (rSell g p i (Int32.ofNat 1)) _ hw1 hc1 (by omega)
        refine ⟨a, b, fun q h1 h2 h3 h4 => ?_⟩
        have := h4 i hi
        rw [show (1 : Int32) = Int32.ofNat 1 from rfl, e q h1 h2 h3 h4, rSell_ne h1 h2 (by omega) this.1 this.2]
def sameW (w w' : Row) : Prop := ∀ i, 20 ≤ i → i ≠ 23 → i ≠ 24 → w' i = w i
def DOk (D : Nat → Prop) (mm : Nat) : Prop := (∀ i, D i → 10 ≤ i ∧ i < 18) ∧ ∀ p, p < mm → ¬ D (14 + p)
def AgD (D : Nat → Prop) (g m : Row) : Prop := ∀ i, i < 134 → ¬ D i → g i = m i
theorem ag0 {D : Nat → Prop} {mm : Nat} {g m : Row} (hD : DOk D mm) (hA : AgD D g m) {i : Nat} (h1 : i < 134) (h2 : i < 10 ∨ 18 ≤ i) : g i = m i := hA i h1 fun q => by have := hD.1 i q; omega
theorem ag14 {D : Nat → Prop} {mm : Nat} {g m : Row} (hD : DOk D mm) (hA : AgD D g m) {p : Nat} (h1 : p < mm) (h2 : mm ≤ 4) : g (14 + p) = m (14 + p) := hA _ (by omega) (hD.2 p h1)
theorem ag_upd {D : Nat → Prop} {g m : Row} {k : Nat} {v v' : Int32} (hA : AgD D g m) (hv : v = v') : AgD D (upd g k v) (upd m k v') := by
  intro i h1 h2
  unfold upd
  split
  · exact hv
  · exact hA i h1 h2
theorem ag_rPay {D : Nat → Prop} {mm : Nat} {g m : Row} {p : Nat} {x x' : Int32} (hD : DOk D mm) (hA : AgD D g m) (h1 : p < mm) (h2 : mm ≤ 4) (hx : x = x') : AgD D (rPay g p x) (rPay m p x') := by
  unfold rPay
  exact ag_upd (ag_upd hA (by rw [ag14 hD hA h1 h2, hx])) (by rw [ag0 hD hA (by omega) (by omega), hx])
theorem ag_rCPay {D : Nat → Prop} {mm : Nat} {g m : Row} {c : Nat} {x x' : Int32} (hD : DOk D mm) (hA : AgD D g m) (hc : c < 4) (hx : x = x') : AgD D (rCPay g c x) (rCPay m c x') := by
  unfold rCPay
  exact ag_upd (ag_upd hA (by rw [ag0 hD hA (by omega) (by omega), hx])) (by rw [ag0 hD hA (by omega) (by omega), hx])
theorem zseq_congr {σ : Type} {f f' : Nat → σ → σ} {s : σ} : ∀ k, (∀ j x, j < k → f j x = f' j x) → zseq f s k = zseq f' s k
  | 0, _ => rfl
  | k + 1, h => by
    show f k (zseq f s k) = f' k (zseq f' s k)
    rw [zseq_congr k (fun j x hj => h j x (by omega)), h k _ (by omega)]
theorem pres_congr {f f' : Row} {its : Int32} (h : ∀ p, p < 4 → f p = f' p) (hi : its = -1 ∨ vp_in its 4) : pres f its = pres f' its := by
  have e : (if its = -1 then (0 : Int32) else f its.toNatClampNeg) = if its = -1 then 0 else f' its.toNatClampNeg := by
    rcases hi with hi | hi
    · rw [if_pos hi, if_pos hi]
    · rw [h _ (vp_lt hi)]
  unfold pres
  rw [e, zseq_congr (f := pst f) (f' := pst f') 4 (fun j x hj => by unfold pst; rw [h j hj])]
theorem ag_rPres {D : Nat → Prop} {mm : Nat} {g m : Row} {c : Nat} (hD : DOk D mm) (hA : AgD D g m) (hc : c < 4) (ho : PresOk g c) : AgD D (rPres g c) (rPres m c) := by
  unfold rPres
  refine ag_upd hA ?_
  rw [← ag0 hD hA (show 39 + 7 * c < 134 by omega) (by omega)]
  exact pres_congr (fun p hp => ag0 hD hA (by omega) (by omega)) ho
theorem ag_rFall {D : Nat → Prop} {mm : Nat} {g m : Row} {c : Nat} (hD : DOk D mm) (hA : AgD D g m) (hc : c < 4) : AgD D (rFall g c) (rFall m c) := by
  unfold rFall
  rw [ag0 hD hA (show 37 + 7 * c < 134 by omega) (by omega)]
  split
  · exact hA
  · exact ag_upd hA rfl
theorem ag_rRise {D : Nat → Prop} {mm : Nat} {g m : Row} {c : Nat} (hD : DOk D mm) (hA : AgD D g m) (hc : c < 4) : AgD D (rRise g c) (rRise m c) := by
  unfold rRise
  rw [ag0 hD hA (show 37 + 7 * c < 134 by omega) (by omega)]
  split
  · exact hA
  · exact ag_upd hA rfl
theorem ag_rEnd {D : Nat → Prop} {mm : Nat} {g m : Row} (hD : DOk D mm) (hA : AgD D g m) : AgD D (rEnd g) (rEnd m) := by
  unfold rEnd nextT
  refine ag_upd (ag_upd hA rfl) ?_
  rw [ag0 hD hA (show 0 < 134 by omega) (by omega), ag0 hD hA (show 1 < 134 by omega) (by omega)]
theorem ag_rFill {D : Nat → Prop} {g m : Row} {x : Nat → Nat} {v : Int32} (hA : AgD D g m) : ∀ k, AgD D (rFill x v k g) (rFill x v k m)
  | 0 => hA
  | k + 1 => ag_upd (ag_rFill hA k) rfl
theorem ag_rClose {D : Nat → Prop} {g m : Row} {c : Nat} (hA : AgD D g m) : AgD D (rClose g c) (rClose m c) := by
  unfold rClose
  exact ag_upd (ag_upd (ag_upd (ag_upd (ag_upd (ag_upd (ag_upd (ag_rFill hA 4) rfl) rfl) rfl) rfl) rfl) rfl) rfl
theorem ag_rOver {D : Nat → Prop} {mm : Nat} {g m : Row} (hD : DOk D mm) (hA : AgD D g m) : AgD D (rOver g) (rOver m) := by
  unfold rOver
  rw [ag0 hD hA (show 4 < 134 by omega) (by omega), ag0 hD hA (show 9 < 134 by omega) (by omega), ag0 hD hA (show 5 < 134 by omega) (by omega)]
  split
  · exact hA
  · exact ag_upd (ag_upd (ag_upd hA rfl) rfl) rfl
theorem ag_rLev {D : Nat → Prop} {g m : Row} {a b : Nat} {v v' : Int32} (hA : AgD D g m) (hv : v = v') : AgD D (rLev g a b v) (rLev m a b v') := by
  unfold rLev
  exact ag_upd (ag_upd hA hv) hv
theorem ag_rSell {D : Nat → Prop} {mm : Nat} {g m : Row} {p c : Nat} {s : Int32} (hD : DOk D mm) (hA : AgD D g m) (hp : p < mm) (hm : mm ≤ 4) (hc : c < 4) (ho : PresOk g c) : AgD D (rSell g p c s) (rSell m p c s) := by
  unfold rSell
  refine ag_rPres hD (ag_rFall hD (ag_upd (ag_rPay hD hA hp hm ?_) ?_) hc) hc ?_
  · rw [ag0 hD hA (show 37 + 7 * c < 134 by omega) (by omega)]
  · rw [ag0 hD hA (show 18 + 4 * p + c < 134 by omega) (by omega)]
  · unfold PresOk
    rw [rFall_ne (by omega), upd_ne (by omega), rPay_ne (by omega) (by omega)]
    exact ho
theorem zseq_congrP {σ : Type} {f f' : Nat → σ → σ} {s : σ} {N : Nat} {P : σ → Prop} (h0 : P s) (hs : ∀ k x, k < N → P x → P (f' k x)) (he : ∀ k x, k < N → P x → f k x = f' k x) : ∀ k, k ≤ N → zseq f s k = zseq f' s k ∧ P (zseq f' s k)
  | 0, _ => ⟨rfl, h0⟩
  | k + 1, h => by
    have ih := zseq_congrP h0 hs he k (by omega)
    refine ⟨?_, hs k _ (by omega) ih.2⟩
    show f k (zseq f s k) = f' k (zseq f' s k)
    rw [ih.1]
    exact he k _ (by omega) ih.2
theorem chStep_ok {g : Row} {p k : Nat} {s : Int32} (hk : k < 4) (hs : s = -1 ∨ vp_in s 4) : chStep g p k s = -1 ∨ vp_in (chStep g p k s) 4 := by
  unfold chStep
  split
  · exact hs
  · split
    · exact hs
    · split
      · exact Or.inr (in_of hk (by omega))
      · split
        · exact hs
        · exact Or.inr (in_of hk (by omega))
theorem ag_chStep {D : Nat → Prop} {mm : Nat} {g m : Row} {p k : Nat} {s : Int32} (hD : DOk D mm) (hA : AgD D g m) (hp : p < 4) (hk : k < 4) (hs : s = -1 ∨ vp_in s 4) : chStep g p k s = chStep m p k s := by
  unfold chStep
  rw [ag0 hD hA (show 34 + 7 * k < 134 by omega) (by omega), ag0 hD hA (show 18 + 4 * p + k < 134 by omega) (by omega), ag0 hD hA (show 37 + 7 * k < 134 by omega) (by omega)]
  split
  · rfl
  · split
    · rfl
    · split
      · rfl
      · rename_i q
        have := vp_lt (hs.resolve_left q)
        rw [ag0 hD hA (show 37 + 7 * s.toNatClampNeg < 134 by omega) (by omega)]
theorem ag_chp {D : Nat → Prop} {mm : Nat} {g m : Row} {p : Nat} (hD : DOk D mm) (hA : AgD D g m) (hp : p < 4) : chp g p = chp m p := by
  unfold chp
  exact (zseq_congrP (N := 4) (P := fun s : Int32 => s = -1 ∨ vp_in s 4) (Or.inl rfl) (fun k x hk hx => chStep_ok hk hx) (fun k x hk hx => ag_chStep hD hA hp hk hx) 4 (Nat.le_refl 4)).1
theorem ag_rRest {D : Nat → Prop} {mm p : Nat} {due : Int32} (hD : DOk D mm) (hp : p < mm) (hm : mm ≤ 4) : ∀ (j : Nat) (g m : Row), AgD D g m → PresAll g → AgD D (rRest p due j g) (rRest p due j m) := by
  intro j
  induction j with
  | zero => intro g m hA _; exact hA
  | succ j ih =>
    intro g m hA ha
    unfold rRest
    rw [ag14 hD hA hp hm, ag_chp hD hA (show p < 4 by omega)]
    split
    · exact hA
    · split
      · exact hA
      · rename_i q
        have h4 : (chp m p).toNatClampNeg < 4 := vp_lt ((chp_ok (g := m) (p := p)).resolve_left q)
        exact ih _ _ (ag_rSell hD hA hp hm h4 (ha _ h4)) (rSell_pa (by omega) h4 ha)
theorem ag_rShut {D : Nat → Prop} {mm : Nat} {g m : Row} {c : Nat} (hD : DOk D mm) (hA : AgD D g m) (hc : c < 4) : AgD D (rShut g c) (rShut m c) := by
  unfold rShut
  have h1 : AgD D (rClose (rCPay g c (g (36 + 7 * c))) c) (rClose (rCPay m c (m (36 + 7 * c))) c) := ag_rClose (ag_rCPay hD hA hc (ag0 hD hA (by omega) (by omega)))
  exact ag_upd h1 (by rw [ag0 hD h1 (by omega) (by omega)])
theorem rRest_pa {p : Nat} {due : Int32} (hp : p < 4) : ∀ (j : Nat) (g : Row), PresAll g → PresAll (rRest p due j g) := by
  intro j
  induction j with
  | zero => intro g h; exact h
  | succ j ih =>
    intro g h
    unfold rRest
    split
    · exact h
    · split
      · exact h
      · rename_i q
        exact ih _ (rSell_pa hp (vp_lt ((chp_ok (g := g) (p := p)).resolve_left q)) h)
def upk4 (g : Row) (c p : Nat) (due : Int32) : Row := if due - zmin due (g (14 + p)) ≤ 0 then rPay g p (zmin due (g (14 + p))) else rShut (rPay g p (zmin due (g (14 + p)))) c
def upk2 (g : Row) (c : Nat) (due : Int32) : Row := if due ≤ 0 then g else if g (39 + 7 * c) = -1 then rShut g c else upk4 (rRest (g (39 + 7 * c)).toNatClampNeg due 40 g) c (g (39 + 7 * c)).toNatClampNeg due
theorem rUpkeep_eq {g : Row} {c : Nat} : rUpkeep g c = upk2 (rCPay g c (zmin (5 * g (38 + 7 * c)) (g (36 + 7 * c)))) c (5 * g (38 + 7 * c) - zmin (5 * g (38 + 7 * c)) (g (36 + 7 * c))) := rfl
theorem ag_upk4 {D : Nat → Prop} {mm : Nat} {g m : Row} {c p : Nat} {due : Int32} (hD : DOk D mm) (hA : AgD D g m) (hm : mm ≤ 4) (hc : c < 4) (hp : p < mm) : AgD D (upk4 g c p due) (upk4 m c p due) := by
  unfold upk4
  rw [ag14 hD hA hp hm]
  have h3 := ag_rPay (x := zmin due (m (14 + p))) hD hA hp hm rfl
  split
  · exact h3
  · exact ag_rShut hD h3 hc
theorem ag_upk2 {D : Nat → Prop} {mm : Nat} {g m : Row} {c : Nat} {due : Int32} (hD : DOk D mm) (hA : AgD D g m) (hm : mm ≤ 4) (hc : c < 4) (ha : PresAll g) (hp : PrOk g mm c) : AgD D (upk2 g c due) (upk2 m c due) := by
  unfold upk2
  unfold PrOk at hp
  rw [ag0 hD hA (show 39 + 7 * c < 134 by omega) (by omega)] at hp ⊢
  split
  · exact hA
  · split
    · exact ag_rShut hD hA hc
    · rename_i q
      obtain ⟨p, hpm, ep⟩ := hp.resolve_left q
      rw [ep, nn_of (by omega)]
      exact ag_upk4 hD (ag_rRest hD hpm hm 40 _ _ hA ha) hm hc hpm
theorem ag_rUpkeep {D : Nat → Prop} {mm : Nat} {g m : Row} {c : Nat} (hD : DOk D mm) (hA : AgD D g m) (hm : mm ≤ 4) (hc : c < 4) (ha : PresAll g) (hp : PrOk g mm c) : AgD D (rUpkeep g c) (rUpkeep m c) := by
  rw [rUpkeep_eq, rUpkeep_eq, ag0 hD hA (show 38 + 7 * c < 134 by omega) (by omega), ag0 hD hA (show 36 + 7 * c < 134 by omega) (by omega)]
  exact ag_upk2 hD (ag_rCPay hD hA hc rfl) hm hc (rCPay_pa hc ha) (PrOk_congr (rCPay_ne (by omega) (by omega)) hp)
theorem ag_rOut {D : Nat → Prop} {mm : Nat} {g m : Row} {c : Nat} {x : Int32} (hD : DOk D mm) (hA : AgD D g m) (hm : mm ≤ 4) (hc : c < 4) : ∀ k, k ≤ mm → AgD D (zseq (fun p g => rPay g p (-(g (18 + 4 * p + c) * (x / 10)))) g k) (zseq (fun p g => rPay g p (-(g (18 + 4 * p + c) * (x / 10)))) m k)
  | 0, _ => hA
  | k + 1, h => by
    have ih := ag_rOut (x := x) hD hA hm hc k (by omega)
    exact ag_rPay hD ih (by omega) hm (by rw [ag0 hD ih (show 18 + 4 * k + c < 134 by omega) (by omega)])
theorem ag_rPaid {D : Nat → Prop} {mm : Nat} {g m : Row} {c : Nat} {x : Int32} (hD : DOk D mm) (hA : AgD D g m) (hm : mm ≤ 4) (hc : c < 4) : AgD D (rPaid g mm c x) (rPaid m mm c x) := by
  unfold rPaid rOut
  have h1 := ag_rOut (x := x) hD hA hm hc mm (Nat.le_refl mm)
  split
  · exact ag_rFall hD h1 hc
  · exact ag_rRise hD h1 hc
def LandE (g m : Row) : Prop := ∀ i, 62 ≤ i → i < 134 → g i = m i
theorem flat_congr {α : Type} {f f' : Nat → List α} : ∀ l : List Nat, (∀ k, k ∈ l → f k = f' k) → l.flatMap f = l.flatMap f'
  | [], _ => rfl
  | k :: l, h => by
    rw [List.flatMap_cons, List.flatMap_cons, h k List.mem_cons_self, flat_congr l (fun j hj => h j (List.mem_cons_of_mem _ hj))]
theorem kids_congr {g m : Row} {t k : Nat} {f f' : Nat → Int32 → List (List Nat × Int32)} {P : List Nat} {x : Int32} (h : g (62 + 8 * t + k) = m (62 + 8 * t + k)) (hf : ∀ z, f k z = f' k z) : kidsOf g t f P x k = kidsOf m t f' P x k := by
  unfold kidsOf
  rw [h]
  split
  · rfl
  · split
    · rfl
    · exact hf _
theorem nodes_0 {g : Row} {t : Nat} {P : List Nat} {x : Int32} : nodes g 0 t P x = [(t :: P, x + g (126 + t))] := rfl
theorem nodes_s {g : Row} {left t : Nat} {P : List Nat} {x : Int32} : nodes g (left + 1) t P x = (t :: P, x + g (126 + t)) :: (List.range 8).flatMap (kidsOf g t (fun k x => nodes g left k (t :: P) x) (t :: P) (x + g (126 + t))) := rfl
theorem nodes_congr {g m : Row} (h : LandE g m) : ∀ (left t : Nat) (P : List Nat) (x : Int32), t < 8 → nodes g left t P x = nodes m left t P x
  | 0, t, P, x, ht => by
    rw [nodes_0, nodes_0, h (126 + t) (by omega) (by omega)]
  | left + 1, t, P, x, ht => by
    rw [nodes_s, nodes_s, h (126 + t) (by omega) (by omega)]
    exact congrArg _ (flat_congr _ fun k hk => by
      have hk8 := List.mem_range.mp hk
      exact kids_congr (h _ (by omega) (by omega)) (fun z => nodes_congr h left k _ z hk8))
theorem best_congr {g m : Row} {home left : Nat} (h : LandE g m) : bestOf g home left = bestOf m home left := by
  unfold bestOf
  rw [flat_congr (f := fun t => nodes g left t [] 0) (f' := fun t => nodes m left t [] 0) _ (fun k hk => nodes_congr h _ _ _ _ (List.mem_range.mp hk))]
theorem inc_congr {g m : Row} {home S : Nat} (h : LandE g m) : incS g home S = incS m home S := by
  unfold incS
  rw [best_congr h]
theorem lev_landE {g m : Row} {a b : Nat} {v : Int32} (h : LandE g m) : LandE (rLev g a b v) (rLev m a b v) := by
  intro i h1 h2
  unfold rLev upd
  split
  · rfl
  · split
    · rfl
    · exact h i h1 h2
theorem up_congr {g m : Row} {home S a b : Nat} (ha : a < 8) (hb : b < 8) (h : LandE g m) : incUp g home S a b = incUp m home S a b := by
  unfold incUp
  rw [h (62 + 8 * a + b) (by omega) (by omega), inc_congr (lev_landE h)]
theorem route_congr {g m : Row} {home S : Nat} {i : Int32} (h : LandE g m) : routeS g home S i = routeS m home S i := by
  unfold routeS
  rw [best_congr h]
theorem lvl_congr {g m : Row} {home : Nat} (h : LandE g m) : ∀ k b, b < 8 → lvl g home k b = lvl m home k b
  | 0, b, _ => by rw [lvl_0, lvl_0]
  | k + 1, b, hb => by
    rw [lvl_s, lvl_s, lvl_congr h k b hb]
    have e : (∃ a, a < 8 ∧ lvl g home k a = k ∧ edge g a b) ↔ ∃ a, a < 8 ∧ lvl m home k a = k ∧ edge m a b := by
      constructor
      · rintro ⟨a, ha, q1, q2⟩
        exact ⟨a, ha, by rw [← lvl_congr h k a ha]; exact q1, by unfold edge; rw [← h _ (by omega) (by omega)]; exact q2⟩
      · rintro ⟨a, ha, q1, q2⟩
        exact ⟨a, ha, by rw [lvl_congr h k a ha]; exact q1, by unfold edge; rw [h _ (by omega) (by omega)]; exact q2⟩
    by_cases c : lvl m home k b = 8 ∧ ∃ a, a < 8 ∧ lvl m home k a = k ∧ edge m a b
    · rw [if_pos c, if_pos ⟨c.1, e.mpr c.2⟩]
    · rw [if_neg c, if_neg (fun q => c ⟨q.1, e.mp q.2⟩)]
theorem lay_congr {g m : Row} {c home i j : Nat} (hi : i < 8) (hj : j < 8) (h : LandE g m) (h2 : g (36 + 7 * c) = m (36 + 7 * c)) : layB g c home i j = layB m c home i j := by
  unfold layB
  rw [h (62 + 8 * i + j) (by omega) (by omega), h2, lvl_congr h 7 i hi, lvl_congr h 7 j hj]
theorem ag_land {D : Nat → Prop} {mm : Nat} {g m : Row} (hD : DOk D mm) (hA : AgD D g m) : LandE g m := fun i h1 h2 => ag0 hD hA h2 (by omega)
theorem ag_rTrack {D : Nat → Prop} {mm : Nat} {g m : Row} {c i j : Nat} (hD : DOk D mm) (hA : AgD D g m) (hc : c < 4) (hi : i < 8) (hj : j < 8) : AgD D (rTrack g c i j) (rTrack m c i j) := by
  unfold rTrack
  have e := ag0 hD hA (show 62 + 8 * i + j < 134 by omega) (by omega)
  exact ag_rCPay hD (ag_rLev hA (by rw [e])) hc (by rw [e])
theorem rEnd_ne {g : Row} {i : Nat} (h1 : i ≠ 1) (h2 : i ≠ 2) : rEnd g i = g i := by
  unfold rEnd
  rw [upd_ne h1, upd_ne h2]
theorem BaseW_end {g : Row} {mm : Nat} (hb : BaseW g mm) : BaseW (rEnd g) mm := by
  obtain ⟨b1, b2, b3, ⟨t, ht, e1⟩, b5, b6, b7⟩ := hb
  refine ⟨b1, b2, by rw [rEnd_ne (by omega) (by omega), b3], ?_, by rw [rEnd_ne (by omega) (by omega)]; exact b5, by rw [rEnd_ne (by omega) (by omega)]; exact b6, fun _ => ⟨0, by omega, ?_⟩⟩
  · unfold rEnd nextT
    rw [upd_eq, b3, e1, i32_succ]
    split
    · exact ⟨0, by omega, rfl⟩
    · rename_i q
      rw [i32_le_of (by omega) (by omega)] at q
      exact ⟨t + 1, by omega, rfl⟩
  · unfold rEnd
    rw [upd_ne (by omega), upd_eq]
    rfl
theorem mon_cash {g g' : Row} {mm B B' : Nat} (h : MonW g mm B) (hB : B ≤ B') (h2 : ∀ c, c < 4 → g' (36 + 7 * c) = g (36 + 7 * c)) (h1 : ∀ p, p < mm → ∃ x, x ≤ 500 + 4000 * B' ∧ g' (14 + p) = Int32.ofNat x) : MonW g' mm B' := by
  obtain ⟨_, y, hy, hs⟩ := h
  exact ⟨h1, y, fun c hc => by rw [h2 c hc, hy c hc], by omega⟩
theorem mon_mono {g : Row} {mm B B' : Nat} (h : MonW g mm B) (hB : B ≤ B') : MonW g mm B' := by
  refine mon_cash h hB (fun _ _ => rfl) fun p hp => ?_
  obtain ⟨x, hx, e⟩ := h.1 p hp
  exact ⟨x, by omega, e⟩
theorem mon_one {g g' : Row} {mm B B' t x' : Nat} (h : MonW g mm B) (hB : B ≤ B') (h2 : ∀ c, c < 4 → g' (36 + 7 * c) = g (36 + 7 * c)) (h3 : ∀ p, p < mm → p ≠ t → g' (14 + p) = g (14 + p)) (h4 : g' (14 + t) = Int32.ofNat x') (h5 : x' ≤ 500 + 4000 * B') : MonW g' mm B' := by
  refine mon_cash h hB h2 fun p hp => ?_
  by_cases e : p = t
  · exact ⟨x', h5, by rw [e, h4]⟩
  · obtain ⟨x, hx, ex⟩ := h.1 p hp
    exact ⟨x, by omega, by rw [h3 p hp e, ex]⟩
theorem mon_co {g g' : Row} {mm B c v : Nat} {y : Nat → Nat} (hc : c < 4) (h : ∀ p, p < mm → ∃ x, x ≤ 500 + 4000 * B ∧ g' (14 + p) = Int32.ofNat x) (hy : ∀ d, d < 4 → g (36 + 7 * d) = Int32.ofNat (y d)) (h2 : ∀ d, d < 4 → d ≠ c → g' (36 + 7 * d) = g (36 + 7 * d)) (h4 : g' (36 + 7 * c) = Int32.ofNat v) (h5 : y 0 + y 1 + y 2 + y 3 + v ≤ 4000 * B + y c) : MonW g' mm B := by
  refine ⟨h, fun d => if d = c then v else y d, fun d hd => ?_, ?_⟩
  · show g' (36 + 7 * d) = Int32.ofNat (if d = c then v else y d)
    by_cases e : d = c
    · rw [e, if_pos rfl, h4]
    · rw [if_neg e, h2 d hd e, hy d hd]
  · have := sum4_upd (s := y) (p := c) (v := v) hc
    show (if 0 = c then v else y 0) + (if 1 = c then v else y 1) + (if 2 = c then v else y 2) + (if 3 = c then v else y 3) ≤ 4000 * B
    omega
def buyC (g : Row) (t c : Nat) : Row := rPres (upd (rPay g t (20 + 10 * g (37 + 7 * c))) (18 + 4 * t + c) (g (18 + 4 * t + c) + 1)) c
theorem rBuy_eq {g : Row} {t c : Nat} (h1 : g 1 = Int32.ofNat t) (ht : t < 4) : rBuy g c = rEnd (buyC g t c) := by
  unfold rBuy buyC
  rw [h1, nn_of (by omega)]
theorem buyC_ne {g : Row} {t c i : Nat} (h1 : i ≠ 14 + t) (h2 : i ≠ 6) (h3 : i ≠ 18 + 4 * t + c) (h5 : i ≠ 39 + 7 * c) : buyC g t c i = g i := by
  unfold buyC
  rw [rPres_ne h5, upd_ne h3, rPay_ne h1 h2]
theorem buy_co {g : Row} {mm t c : Nat} {s : Nat → Nat} (hm : mm ≤ 4) (ht : t < mm) (hc : c < 4) (hw : CoW g mm) (ho : g (34 + 7 * c) = 1) (h1 : ∀ p, p < 4 → g (18 + 4 * p + c) = Int32.ofNat (s p)) (h2 : s 0 + s 1 + s 2 + s 3 + 1 ≤ 10) (h3 : ∀ p, mm ≤ p → p < 4 → s p = 0) : CoW (buyC g t c) mm := by
  intro d hd
  by_cases e : d = c
  · subst e
    have h0 := hw d hd
    have s1 : ShOk (upd (rPay g t (20 + 10 * g (37 + 7 * d))) (18 + 4 * t + d) (g (18 + 4 * t + d) + 1)) mm d := by
      rw [h1 t (by omega), i32_succ]
      exact ShOk_inc (s := s) ht hm (fun p hp => by rw [rPay_ne (by omega) (by omega), h1 p hp]) (by omega) h3
    have p1 : PrOk (upd (rPay g t (20 + 10 * g (37 + 7 * d))) (18 + 4 * t + d) (g (18 + 4 * t + d) + 1)) mm d := PrOk_congr (by rw [upd_ne (by omega), rPay_ne (by omega) (by omega)]) h0.2.1
    refine ⟨?_, ?_, StOk_congr (buyC_ne (by omega) (by omega) (by omega) (by omega)) h0.2.2.1, OpOk_open ho (buyC_ne (by omega) (by omega) (by omega) (by omega)) (buyC_ne (by omega) (by omega) (by omega) (by omega)) (buyC_ne (by omega) (by omega) (by omega) (by omega)) h0.2.2.2⟩
    · unfold buyC
      exact ShOk_congr (fun q hq => rPres_ne (by omega)) s1
    · unfold buyC
      exact pres_mm hm s1 p1
  · exact Co1_congr (fun q hq => buyC_ne (by omega) (by omega) (by omega) (by omega)) (fun k h1 h2 => buyC_ne (by omega) (by omega) (by omega) (by omega)) (hw d hd)
theorem end_wf {g : Row} {mm : Nat} (h : WF g mm) : WF (rEnd g) mm := ⟨BaseW_end h.1, OrdW_congr (fun k hk => rEnd_ne (by omega) (by omega)) (fun c hc => rEnd_ne (by omega) (by omega)) h.2.1, fun c hc => Co1_congr (fun p hp => rEnd_ne (by omega) (by omega)) (fun k h1 h2 => rEnd_ne (by omega) (by omega)) (h.2.2.1 c hc), LandW_congr (fun k hk => rEnd_ne (by omega) (by omega)) h.2.2.2⟩
theorem end_mon {g : Row} {mm B : Nat} (hm : mm ≤ 4) (h : MonW g mm B) : MonW (rEnd g) mm B := mon_cash h (Nat.le_refl B) (fun c hc => rEnd_ne (by omega) (by omega)) fun p hp => by rw [rEnd_ne (by omega) (by omega)]; exact h.1 p hp
theorem buy_wf {g : Row} {mm t c B : Nat} {s : Nat → Nat} (h : WF g mm) (hM : MonW g mm B) (hB : B ≤ 100000) (e1 : g 1 = Int32.ofNat t) (ht : t < mm) (hc : c < 4) (ho : g (34 + 7 * c) = 1) (h1 : ∀ p, p < 4 → g (18 + 4 * p + c) = Int32.ofNat (s p)) (h2 : s 0 + s 1 + s 2 + s 3 + 1 ≤ 10) (h3 : ∀ p, mm ≤ p → p < 4 → s p = 0) (hpr : ¬ g (14 + t) < 20 + 10 * g (37 + 7 * c)) : WF (rBuy g c) mm ∧ MonW (rBuy g c) mm B := by
  obtain ⟨hb, ho', hw, hl⟩ := h
  have hm := hb.2.1
  rw [rBuy_eq e1 (by omega)]
  refine ⟨end_wf ⟨BaseW_congr (fun k hk => buyC_ne (by omega) (by omega) (by omega) (by omega)) hb, OrdW_congr (fun k hk => buyC_ne (by omega) (by omega) (by omega) (by omega)) (fun d hd => buyC_ne (by omega) (by omega) (by omega) (by omega)) ho', buy_co hm ht hc hw ho h1 h2 h3, LandW_congr (fun k hk => buyC_ne (by omega) (by omega) (by omega) (by omega)) hl⟩, end_mon hm ?_⟩
  obtain ⟨st, hst, est⟩ := (hw c hc).2.2.1
  obtain ⟨x, hx, ex⟩ := hM.1 t ht
  rw [ex, est, price_n, i32_lt_b (by omega) (by omega)] at hpr
  refine mon_one (t := t) (x' := x - (20 + 10 * st)) hM (Nat.le_refl B) (fun d hd => buyC_ne (by omega) (by omega) (by omega) (by omega)) (fun p hp e => buyC_ne (by omega) (by omega) (by omega) (by omega)) ?_ (by omega)
  unfold buyC
  rw [rPres_ne (by omega), upd_ne (by omega)]
  unfold rPay
  rw [upd_ne (by omega), upd_eq, ex, est, price_n, i32_subm (by omega)]
theorem sell_wf {g : Row} {mm t c k a B : Nat} (h : WF g mm) (hM : MonW g mm B) (hB : B ≤ 100000) (ht : t < mm) (hc : c < 4) (ho : g (34 + 7 * c) = 1) (ha : g (18 + 4 * t + c) = Int32.ofNat a) (ha2 : a < 600) (hk : k ≤ a) (hk10 : k ≤ 10) : WF (rSell g t c (Int32.ofNat k)) mm ∧ MonW (rSell g t c (Int32.ofNat k)) mm (B + 1) := by
  obtain ⟨hb, ho', hw, hl⟩ := h
  have hm := hb.2.1
  refine ⟨⟨BaseW_congr (fun k hk => rSell_ne (by omega) (by omega) (by omega) (by omega) (by omega)) hb, OrdW_congr (fun k hk => rSell_ne (by omega) (by omega) (by omega) (by omega) (by omega)) (fun d hd => rSell_ne (by omega) (by omega) (by omega) (by omega) (by omega)) ho', rSell_co hm ht hc hw ho ha ha2 hk, LandW_congr (fun k hk => rSell_ne (by omega) (by omega) (by omega) (by omega) (by omega)) hl⟩, ?_⟩
  obtain ⟨st, hst, est⟩ := (hw c hc).2.2.1
  obtain ⟨x, hx, ex⟩ := hM.1 t ht
  have e := sell_cash (k := k) (show t < 4 by omega) ex est
  have : k * (20 + 10 * st) ≤ 10 * 130 := Nat.mul_le_mul hk10 (by omega)
  exact mon_one (t := t) hM (by omega) (fun d hd => rSell_ne (by omega) (by omega) (by omega) (by omega) (by omega)) (fun p hp e => rSell_ne (by omega) (by omega) (by omega) (by omega) (by omega)) e (by omega)
def startC (g : Row) (t c : Nat) (x y : Int32) : Row := rPres (upd (rPay (rOpen g c x y) t (2 * (20 + 10 * y))) (18 + 4 * t + c) 2) c
def startD (g : Row) (t c : Nat) (x y : Int32) : Row := upd (upd (startC g t c x y) (36 + 7 * c) (5 * (20 + 10 * y))) 6 (startC g t c x y 6 - 5 * (20 + 10 * y))
theorem rStart_eq {g : Row} {t c : Nat} {x y : Int32} (h1 : g 1 = Int32.ofNat t) (ht : t < 4) : rStart g c x y = rEnd (startD g t c x y) := by
  unfold rStart startD startC
  rw [h1, nn_of (by omega)]
theorem startC_ne {g : Row} {t c i : Nat} {x y : Int32} (h1 : i ≠ 14 + t) (h2 : i ≠ 6) (h3 : i ≠ 18 + 4 * t + c) (h4 : i ≠ 34 + 7 * c) (h5 : i ≠ 35 + 7 * c) (h6 : i ≠ 37 + 7 * c) (h7 : i ≠ 38 + 7 * c) (h8 : i ≠ 39 + 7 * c) : startC g t c x y i = g i := by
  unfold startC
  rw [rPres_ne h8, upd_ne h3, rPay_ne h1 h2, rOpen_ne h4 h5 h6 h7]
theorem startD_ne {g : Row} {t c i : Nat} {x y : Int32} (h1 : i ≠ 14 + t) (h2 : i ≠ 6) (h3 : i ≠ 18 + 4 * t + c) (h4 : ¬ (34 ≤ i - 7 * c ∧ i - 7 * c < 40)) : startD g t c x y i = g i := by
  unfold startD
  rw [upd_ne h2, upd_ne (by omega), startC_ne h1 h2 h3 (by omega) (by omega) (by omega) (by omega) (by omega)]
theorem rOpen_at {g : Row} {c : Nat} {x y : Int32} : rOpen g c x y (34 + 7 * c) = 1 ∧ rOpen g c x y (35 + 7 * c) = x ∧ rOpen g c x y (37 + 7 * c) = y ∧ rOpen g c x y (38 + 7 * c) = 2 := by
  unfold rOpen
  exact ⟨by rw [upd_ne (by omega), upd_ne (by omega), upd_ne (by omega), upd_eq], by rw [upd_ne (by omega), upd_ne (by omega), upd_eq], by rw [upd_ne (by omega), upd_eq], upd_eq⟩
theorem start_co {g : Row} {mm t c home st : Nat} (hm : mm ≤ 4) (ht : t < mm) (hc : c < 4) (hw : CoW g mm) (ho : g (34 + 7 * c) = 0) (hh : home < 8) (hs : st ≤ 11) : CoW (startD g t c (Int32.ofNat home) (Int32.ofNat st)) mm := by
  intro d hd
  by_cases e : d = c
  · subst e
    have h0 := hw d hd
    have hz : ∀ p, p < 4 → g (18 + 4 * p + d) = Int32.ofNat 0 := by
      rcases h0.2.2.2 with ⟨q, _⟩ | ⟨_, _, _, q⟩
      · rw [ho] at q
        exact absurd q (by decide)
      · exact q
    have hat := rOpen_at (g := g) (c := d) (x := Int32.ofNat home) (y := Int32.ofNat st)
    have s1 : ShOk (upd (rPay (rOpen g d (Int32.ofNat home) (Int32.ofNat st)) t (2 * (20 + 10 * Int32.ofNat st))) (18 + 4 * t + d) 2) mm d := ShOk_inc (s := fun _ => 0) (v := 2) ht hm (fun p hp => by rw [rPay_ne (by omega) (by omega), rOpen_ne (by omega) (by omega) (by omega) (by omega), hz p hp]) (by omega) (fun _ _ _ => rfl)
    have p1 : PrOk (upd (rPay (rOpen g d (Int32.ofNat home) (Int32.ofNat st)) t (2 * (20 + 10 * Int32.ofNat st))) (18 + 4 * t + d) 2) mm d := PrOk_congr (by rw [upd_ne (by omega), rPay_ne (by omega) (by omega), rOpen_ne (by omega) (by omega) (by omega) (by omega)]) h0.2.1
    have eC : ∀ i, i ≠ 36 + 7 * d → i ≠ 6 → startD g t d (Int32.ofNat home) (Int32.ofNat st) i = startC g t d (Int32.ofNat home) (Int32.ofNat st) i := fun i h1 h2 => by
      unfold startD
      rw [upd_ne h2, upd_ne h1]
    have eO : ∀ i, i ≠ 14 + t → i ≠ 6 → i ≠ 18 + 4 * t + d → i ≠ 39 + 7 * d → startC g t d (Int32.ofNat home) (Int32.ofNat st) i = rOpen g d (Int32.ofNat home) (Int32.ofNat st) i := fun i h1 h2 h3 h4 => by
      unfold startC
      rw [rPres_ne h4, upd_ne h3, rPay_ne h1 h2]
    refine ⟨ShOk_congr (fun p hp => eC _ (by omega) (by omega)) ?_, PrOk_congr (eC _ (by omega) (by omega)) ?_, ⟨st, hs, ?_⟩, Or.inl ⟨?_, home, 2, ⟨?_, ?_, hh, by omega, by omega⟩, Nat.le_refl 2⟩⟩
    · unfold startC
      exact ShOk_congr (fun q hq => rPres_ne (by omega)) s1
    · unfold startC
      exact pres_mm hm s1 p1
    · rw [eC _ (by omega) (by omega), eO _ (by omega) (by omega) (by omega) (by omega), hat.2.2.1]
    · rw [eC _ (by omega) (by omega), eO _ (by omega) (by omega) (by omega) (by omega), hat.1]
    · rw [eC _ (by omega) (by omega), eO _ (by omega) (by omega) (by omega) (by omega), hat.2.1]
    · rw [eC _ (by omega) (by omega), eO _ (by omega) (by omega) (by omega) (by omega), hat.2.2.2]
      rfl
  · exact Co1_congr (fun q hq => startD_ne (by omega) (by omega) (by omega) (by omega)) (fun k h1 h2 => startD_ne (by omega) (by omega) (by omega) (by omega)) (hw d hd)
theorem ord_open {g g' : Row} {c : Nat} (h3 : g 3 = 0) (h : ∀ k, k = 3 ∨ k = 4 ∨ (9 ≤ k ∧ k < 14) → g' k = g k) (hb : OrdW g) : OrdW g' := by
  obtain ⟨len, pl, o, h4, hpl, e9, e4, ho, hop⟩ := hb
  refine ⟨len, pl, o, h4, hpl, by rw [h 9 (by omega), e9], by rw [h 4 (by omega), e4], fun j hj => ⟨(ho j hj).1, by rw [h _ (by omega), (ho j hj).2]⟩, fun q => ?_⟩
  rw [h 3 (by omega), h3] at q
  exact absurd q (by decide)
theorem start_wf {g : Row} {mm t c home st B : Nat} (h : WF g mm) (hM : MonW g mm B) (hB : B ≤ 100000) (h3 : g 3 = 0) (e1 : g 1 = Int32.ofNat t) (ht : t < mm) (hc : c < 4) (ho : g (34 + 7 * c) = 0) (hh : home < 8) (hs : st ≤ 8) (hpr : ¬ g (14 + t) < 2 * (20 + 10 * Int32.ofNat st)) : WF (rStart g c (Int32.ofNat home) (Int32.ofNat st)) mm ∧ MonW (rStart g c (Int32.ofNat home) (Int32.ofNat st)) mm (B + 1) := by
  obtain ⟨hb, ho', hw, hl⟩ := h
  have hm := hb.2.1
  rw [rStart_eq e1 (by omega)]
  refine ⟨end_wf ⟨BaseW_congr (fun k hk => startD_ne (by omega) (by omega) (by omega) (by omega)) hb, ord_open (c := c) h3 (fun k hk => startD_ne (by omega) (by omega) (by omega) (by omega)) ho', start_co hm ht hc hw ho hh (by omega), LandW_congr (fun k hk => startD_ne (by omega) (by omega) (by omega) (by omega)) hl⟩, end_mon hm ?_⟩
  obtain ⟨x, hx, ex⟩ := hM.1 t ht
  have p2 : (2 : Int32) * (20 + 10 * Int32.ofNat st) = Int32.ofNat (2 * (20 + 10 * st)) := by rw [price_n, show (2 : Int32) = Int32.ofNat 2 from rfl, i32_mulm]
  have p5 : (5 : Int32) * (20 + 10 * Int32.ofNat st) = Int32.ofNat (5 * (20 + 10 * st)) := by rw [price_n, show (5 : Int32) = Int32.ofNat 5 from rfl, i32_mulm]
  rw [ex, p2, i32_lt_b (by omega) (by omega)] at hpr
  obtain ⟨y, hy, hsum⟩ := (mon_mono hM (Nat.le_succ B)).2
  have hy4 : y 0 + y 1 + y 2 + y 3 ≤ 4000 * B := by
    obtain ⟨y', hy', hs'⟩ := hM.2
    have e : ∀ d, d < 4 → y d = y' d := fun d hd => by
      have e := hy d hd
      rw [hy' d hd] at e
      have h0 : y' d ≤ 4000 * B := by
        obtain rfl | rfl | rfl | rfl : d = 0 ∨ d = 1 ∨ d = 2 ∨ d = 3 := by omega
        all_goals omega
      have h1 : y d ≤ 4000 * (B + 1) := by
        obtain rfl | rfl | rfl | rfl : d = 0 ∨ d = 1 ∨ d = 2 ∨ d = 3 := by omega
        all_goals omega
      exact (ofNat_inj (by omega) (by omega) e).symm
    have := e 0 (by omega); have := e 1 (by omega); have := e 2 (by omega); have := e 3 (by omega)
    omega
  refine mon_co (c := c) (v := 5 * (20 + 10 * st)) (y := y) hc (fun p hp => ?_) hy (fun d hd e => startD_ne (by omega) (by omega) (by omega) (by omega)) ?_ (by omega)
  · by_cases e : p = t
    · refine ⟨x - 2 * (20 + 10 * st), by omega, ?_⟩
      subst e
      unfold startD startC
      rw [upd_ne (by omega), upd_ne (by omega), rPres_ne (by omega), upd_ne (by omega)]
      unfold rPay
      rw [upd_ne (by omega), upd_eq, rOpen_ne (by omega) (by omega) (by omega) (by omega), ex, p2, i32_subm (by omega)]
    · obtain ⟨x', hx', ex'⟩ := hM.1 p hp
      exact ⟨x', by omega, by rw [startD_ne (by omega) (by omega) (by omega) (by omega), ex']⟩
  · unfold startD
    rw [upd_ne (by omega), upd_eq, p5]
def extC (g : Row) (c : Nat) : Row := upd (upd (rCPay g c 60) (38 + 7 * c) (g (38 + 7 * c) + 1)) 8 1
theorem rExtend_eq {g : Row} {c : Nat} (h : nextC g = Int32.ofNat c) (hc : c < 4) : rExtend g = extC g c := by
  unfold rExtend extC
  rw [h, nn_of (by omega)]
theorem extC_ne {g : Row} {c i : Nat} (h1 : i ≠ 36 + 7 * c) (h2 : i ≠ 6) (h3 : i ≠ 38 + 7 * c) (h4 : i ≠ 8) : extC g c i = g i := by
  unfold extC
  rw [upd_ne h4, upd_ne h3, rCPay_ne h1 h2]
theorem ext_wf {g : Row} {mm c home S B : Nat} (h : WF g mm) (hM : MonW g mm B) (hB : B ≤ 100000) (hc : c < 4) (ho : g (34 + 7 * c) = 1) (hco : CoOk g c home S) (hS2 : 2 ≤ S) (hS : S < 5) (hm60 : ¬ g (36 + 7 * c) < 60) : WF (extC g c) mm ∧ MonW (extC g c) mm B := by
  obtain ⟨hb, ho', hw, hl⟩ := h
  have e38 : extC g c (38 + 7 * c) = Int32.ofNat (S + 1) := by
    unfold extC
    rw [upd_ne (by omega), upd_eq, hco.2.1, i32_succ]
  refine ⟨⟨?_, OrdW_congr (fun k hk => extC_ne (by omega) (by omega) (by omega) (by omega)) (fun d hd => extC_ne (by omega) (by omega) (by omega) (by omega)) ho', fun d hd => ?_, LandW_congr (fun k hk => extC_ne (by omega) (by omega) (by omega) (by omega)) hl⟩, ?_⟩
  · obtain ⟨b1, b2, b3, ⟨t, ht, e1⟩, b5, b6, b7⟩ := hb
    refine ⟨b1, b2, by rw [extC_ne (by omega) (by omega) (by omega) (by omega), b3], ⟨t, ht, by rw [extC_ne (by omega) (by omega) (by omega) (by omega), e1]⟩, by rw [extC_ne (by omega) (by omega) (by omega) (by omega)]; exact b5, Or.inr upd_eq, fun q => ?_⟩
    rw [extC_ne (by omega) (by omega) (by omega) (by omega)] at q
    rw [extC_ne (by omega) (by omega) (by omega) (by omega)]
    exact b7 q
  · by_cases e : d = c
    · subst e
      have h0 := hw d hd
      exact ⟨ShOk_congr (fun q hq => extC_ne (by omega) (by omega) (by omega) (by omega)) h0.1, PrOk_congr (extC_ne (by omega) (by omega) (by omega) (by omega)) h0.2.1, StOk_congr (extC_ne (by omega) (by omega) (by omega) (by omega)) h0.2.2.1, Or.inl ⟨by rw [extC_ne (by omega) (by omega) (by omega) (by omega), ho], home, S + 1, ⟨by rw [extC_ne (by omega) (by omega) (by omega) (by omega), hco.1], e38, hco.2.2.1, by omega, by omega⟩, by omega⟩⟩
    · exact Co1_congr (fun q hq => extC_ne (by omega) (by omega) (by omega) (by omega)) (fun k h1 h2 => extC_ne (by omega) (by omega) (by omega) (by omega)) (hw d hd)
  · obtain ⟨y, hy, hs⟩ := hM.2
    have hyc : y c ≤ 4000 * B := by
      obtain rfl | rfl | rfl | rfl : c = 0 ∨ c = 1 ∨ c = 2 ∨ c = 3 := by omega
      all_goals omega
    rw [hy c hc, show (60 : Int32) = Int32.ofNat 60 from rfl, i32_lt_b (by omega) (by omega)] at hm60
    refine mon_co (c := c) (v := y c - 60) (y := y) hc (fun p hp => by
      rw [extC_ne (by have := hb.2.1; omega) (by omega) (by have := hb.2.1; omega) (by omega)]
      exact hM.1 p hp) hy (fun d hd e => extC_ne (by omega) (by omega) (by omega) (by omega)) ?_ (by omega)
    unfold extC rCPay
    rw [upd_ne (by omega), upd_ne (by omega), upd_ne (by omega), upd_eq, hy c hc, show (60 : Int32) = Int32.ofNat 60 from rfl, i32_subm (by omega)]
