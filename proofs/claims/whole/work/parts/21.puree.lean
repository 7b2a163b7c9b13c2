def mobj (w : Row) (hs : Int64) : List Value := [.ref 124, .ref 125, .int (w 20), .ref 126, .int (w 21), .int (w 22), .ref 127, .ref 128, .ref 129, .ref 130, .int (w 23), .int (w 24), .int (w 25), .int (w 26), .int (w 27), .int (w 28), .long hs]
def mcell (m pp tx w : Row) (hs : Int64) (i : Nat) : Option va_E :=
  if i = 123 then some (.inr (6, mobj w hs))
  else if i = 124 then some (.inl (0, 134, .inl (tr 134 m)))
  else if i = 125 then some (.inl (0, 536, .inl (tr 536 pp)))
  else if i = 126 then some (.inl (0, 90, .inl (tr 90 tx)))
  else if i = 127 then some (.inl (0, 5, .inl (tr 5 w)))
  else if i = 128 then some (.inl (0, 5, .inl (tr 5 (fun k => w (5 + k)))))
  else if i = 129 then some (.inl (0, 5, .inl (tr 5 (fun k => w (10 + k)))))
  else some (.inl (0, 5, .inl (tr 5 (fun k => w (15 + k)))))
def mput (h : zH) (m pp tx w : Row) (hs : Int64) : zH := fun i => if 123 ≤ i ∧ i < 131 then mcell m pp tx w hs i else h i
theorem mput_in {h : zH} {m pp tx w : Row} {hs : Int64} {i : Nat} (hi : 123 ≤ i ∧ i < 131) : mput h m pp tx w hs i = mcell m pp tx w hs i := if_pos hi
theorem mput_out {h : zH} {m pp tx w : Row} {hs : Int64} {i : Nat} (hi : i < 123 ∨ 131 ≤ i) : mput h m pp tx w hs i = h i := if_neg (by omega)
theorem mput_set {h : zH} {m pp tx w m' pp' tx' w' : Row} {hs hs' : Int64} {a : Nat} {e : va_E} (ha : 123 ≤ a ∧ a < 131) (he : mcell m' pp' tx' w' hs' a = some e) (ho : ∀ i, 123 ≤ i ∧ i < 131 → i ≠ a → mcell m' pp' tx' w' hs' i = mcell m pp tx w hs i) : zset (mput h m pp tx w hs) a e = mput h m' pp' tx' w' hs' := by
  funext i
  unfold zset mput
  by_cases c : i = a
  · rw [if_pos c, c, if_pos ha, he]
  · rw [if_neg c]
    by_cases d : 123 ≤ i ∧ i < 131
    · rw [if_pos d, if_pos d, ho i d c]
    · rw [if_neg d, if_neg d]
def wcell (k : Nat) : Nat := if k < 5 then 127 else if k < 10 then 128 else if k < 15 then 129 else if k < 20 then 130 else 123
theorem mcell_w {m pp tx w : Row} {hs : Int64} {k i : Nat} {x : Int32} (hi : 123 ≤ i ∧ i < 131) (hk : k < 29) (hc : i ≠ wcell k) : mcell m pp tx (upd w k x) hs i = mcell m pp tx w hs i := by
  unfold wcell at hc
  unfold mcell mobj
  by_cases c1 : i = 123
  · have hk20 : k < 20 := by
      refine Decidable.byContradiction fun d => hc ?_
      rw [if_neg (by omega), if_neg (by omega), if_neg (by omega), if_neg (by omega), c1]
    rw [if_pos c1, if_pos c1, upd_ne (by omega), upd_ne (by omega), upd_ne (by omega), upd_ne (by omega), upd_ne (by omega), upd_ne (by omega), upd_ne (by omega), upd_ne (by omega), upd_ne (by omega)]
  · rw [if_neg c1, if_neg c1]
    by_cases c2 : i < 127
    · by_cases d4 : i = 124
      · rw [if_pos d4, if_pos d4]
      · rw [if_neg d4, if_neg d4]
        by_cases d5 : i = 125
        · rw [if_pos d5, if_pos d5]
        · rw [if_neg d5, if_neg d5, if_pos (by omega), if_pos (by omega)]
    · simp only [if_neg (show ¬ i = 124 by omega), if_neg (show ¬ i = 125 by omega), if_neg (show ¬ i = 126 by omega)]
      by_cases c7 : i = 127
      · have hk20 : 5 ≤ k := by
          refine Decidable.byContradiction fun d => hc ?_
          rw [if_pos (by omega), c7]
        rw [if_pos c7, if_pos c7]
        congr 5
        exact tr_congr fun j hj => upd_ne (by omega)
      · rw [if_neg c7, if_neg c7]
        by_cases c8 : i = 128
        · have hk20 : k < 5 ∨ 10 ≤ k := by
            refine Decidable.byContradiction fun d => hc ?_
            rw [if_neg (by omega), if_pos (by omega), c8]
          rw [if_pos c8, if_pos c8]
          congr 5
          exact tr_congr fun j hj => upd_ne (by omega)
        · rw [if_neg c8, if_neg c8]
          by_cases c9 : i = 129
          · have hk20 : k < 10 ∨ 15 ≤ k := by
              refine Decidable.byContradiction fun d => hc ?_
              rw [if_neg (by omega), if_neg (by omega), if_pos (by omega), c9]
            rw [if_pos c9, if_pos c9]
            congr 5
            exact tr_congr fun j hj => upd_ne (by omega)
          · have hk20 : k < 15 ∨ 20 ≤ k := by
              refine Decidable.byContradiction fun d => hc ?_
              rw [if_neg (by omega), if_neg (by omega), if_neg (by omega), if_pos (by omega)]
              omega
            rw [if_neg c9, if_neg c9]
            congr 5
            exact tr_congr fun j hj => upd_ne (by omega)
theorem mset_w {h : zH} {m pp tx w : Row} {hs : Int64} {k a : Nat} {x : Int32} {e : va_E} (ha : a = wcell k) (hk : k < 29) (he : mcell m pp tx (upd w k x) hs a = some e) : zset (mput h m pp tx w hs) a e = mput h m pp tx (upd w k x) hs := by
  refine mput_set ?_ he (fun i hi hc => mcell_w hi hk (by rw [← ha]; exact hc))
  rw [ha]
  unfold wcell
  split
  · omega
  · split
    · omega
    · split
      · omega
      · split <;> omega
theorem mcell_m {m m' pp tx w : Row} {hs : Int64} {i : Nat} (hc : i ≠ 124) : mcell m' pp tx w hs i = mcell m pp tx w hs i := by
  unfold mcell
  rw [if_neg hc, if_neg hc]
theorem mcell_p {m pp pp' tx w : Row} {hs : Int64} {i : Nat} (hc : i ≠ 125) : mcell m pp' tx w hs i = mcell m pp tx w hs i := by
  unfold mcell
  rw [if_neg hc, if_neg hc]
theorem mcell_t {m pp tx tx' w : Row} {hs : Int64} {i : Nat} (hc : i ≠ 126) : mcell m pp tx' w hs i = mcell m pp tx w hs i := by
  unfold mcell
  rw [if_neg hc, if_neg hc]
theorem mcell_h {m pp tx w : Row} {hs hs' : Int64} {i : Nat} (hc : i ≠ 123) : mcell m pp tx w hs' i = mcell m pp tx w hs i := by
  unfold mcell
  rw [if_neg hc, if_neg hc]
theorem mp_123 {h : zH} {m pp tx w : Row} {hs : Int64} : (mput h m pp tx w hs) 123 = some (.inr (6, mobj w hs)) := rfl
theorem mp_124 {h : zH} {m pp tx w : Row} {hs : Int64} : (mput h m pp tx w hs) 124 = some (.inl (0, 134, .inl (tr 134 m))) := rfl
theorem mp_125 {h : zH} {m pp tx w : Row} {hs : Int64} : (mput h m pp tx w hs) 125 = some (.inl (0, 536, .inl (tr 536 pp))) := rfl
theorem mp_126 {h : zH} {m pp tx w : Row} {hs : Int64} : (mput h m pp tx w hs) 126 = some (.inl (0, 90, .inl (tr 90 tx))) := rfl
theorem mp_127 {h : zH} {m pp tx w : Row} {hs : Int64} : (mput h m pp tx w hs) 127 = some (.inl (0, 5, .inl (tr 5 w))) := rfl
theorem mp_128 {h : zH} {m pp tx w : Row} {hs : Int64} : (mput h m pp tx w hs) 128 = some (.inl (0, 5, .inl (tr 5 (fun k => w (5 + k))))) := rfl
theorem mp_129 {h : zH} {m pp tx w : Row} {hs : Int64} : (mput h m pp tx w hs) 129 = some (.inl (0, 5, .inl (tr 5 (fun k => w (10 + k))))) := rfl
theorem mp_130 {h : zH} {m pp tx w : Row} {hs : Int64} : (mput h m pp tx w hs) 130 = some (.inl (0, 5, .inl (tr 5 (fun k => w (15 + k))))) := rfl
theorem mgR_0 {h : zH} {m pp tx w : Row} {hs : Int64} : zgR (mput h m pp tx w hs) 123 6 0 = some 124 := by
  unfold zgR
  rw [zO_some mp_123]
  rfl
theorem mgR_1 {h : zH} {m pp tx w : Row} {hs : Int64} : zgR (mput h m pp tx w hs) 123 6 1 = some 125 := by
  unfold zgR
  rw [zO_some mp_123]
  rfl
theorem mgR_3 {h : zH} {m pp tx w : Row} {hs : Int64} : zgR (mput h m pp tx w hs) 123 6 3 = some 126 := by
  unfold zgR
  rw [zO_some mp_123]
  rfl
theorem mgR_6 {h : zH} {m pp tx w : Row} {hs : Int64} : zgR (mput h m pp tx w hs) 123 6 6 = some 127 := by
  unfold zgR
  rw [zO_some mp_123]
  rfl
theorem mgR_7 {h : zH} {m pp tx w : Row} {hs : Int64} : zgR (mput h m pp tx w hs) 123 6 7 = some 128 := by
  unfold zgR
  rw [zO_some mp_123]
  rfl
theorem mgR_8 {h : zH} {m pp tx w : Row} {hs : Int64} : zgR (mput h m pp tx w hs) 123 6 8 = some 129 := by
  unfold zgR
  rw [zO_some mp_123]
  rfl
theorem mgR_9 {h : zH} {m pp tx w : Row} {hs : Int64} : zgR (mput h m pp tx w hs) 123 6 9 = some 130 := by
  unfold zgR
  rw [zO_some mp_123]
  rfl
theorem mgI_2 {h : zH} {m pp tx w : Row} {hs : Int64} : zgI (mput h m pp tx w hs) 123 6 2 = some (w 20) := by
  unfold zgI
  rw [zO_some mp_123]
  rfl
theorem msI_2 {h : zH} {m pp tx w : Row} {hs : Int64} {x : Int32} : zp (mput h m pp tx w hs) 123 6 2 (.int x) = some (mput h m pp tx (upd w 20 x) hs) := by
  rw [zp_some mp_123 (show 2 < 17 by omega)]
  exact congrArg some (mset_w (by decide) (by omega) rfl)
theorem mgI_4 {h : zH} {m pp tx w : Row} {hs : Int64} : zgI (mput h m pp tx w hs) 123 6 4 = some (w 21) := by
  unfold zgI
  rw [zO_some mp_123]
  rfl
theorem msI_4 {h : zH} {m pp tx w : Row} {hs : Int64} {x : Int32} : zp (mput h m pp tx w hs) 123 6 4 (.int x) = some (mput h m pp tx (upd w 21 x) hs) := by
  rw [zp_some mp_123 (show 4 < 17 by omega)]
  exact congrArg some (mset_w (by decide) (by omega) rfl)
theorem mgI_5 {h : zH} {m pp tx w : Row} {hs : Int64} : zgI (mput h m pp tx w hs) 123 6 5 = some (w 22) := by
  unfold zgI
  rw [zO_some mp_123]
  rfl
theorem msI_5 {h : zH} {m pp tx w : Row} {hs : Int64} {x : Int32} : zp (mput h m pp tx w hs) 123 6 5 (.int x) = some (mput h m pp tx (upd w 22 x) hs) := by
  rw [zp_some mp_123 (show 5 < 17 by omega)]
  exact congrArg some (mset_w (by decide) (by omega) rfl)
theorem mgI_10 {h : zH} {m pp tx w : Row} {hs : Int64} : zgI (mput h m pp tx w hs) 123 6 10 = some (w 23) := by
  unfold zgI
  rw [zO_some mp_123]
  rfl
theorem msI_10 {h : zH} {m pp tx w : Row} {hs : Int64} {x : Int32} : zp (mput h m pp tx w hs) 123 6 10 (.int x) = some (mput h m pp tx (upd w 23 x) hs) := by
  rw [zp_some mp_123 (show 10 < 17 by omega)]
  exact congrArg some (mset_w (by decide) (by omega) rfl)
theorem mgI_11 {h : zH} {m pp tx w : Row} {hs : Int64} : zgI (mput h m pp tx w hs) 123 6 11 = some (w 24) := by
  unfold zgI
  rw [zO_some mp_123]
  rfl
theorem msI_11 {h : zH} {m pp tx w : Row} {hs : Int64} {x : Int32} : zp (mput h m pp tx w hs) 123 6 11 (.int x) = some (mput h m pp tx (upd w 24 x) hs) := by
  rw [zp_some mp_123 (show 11 < 17 by omega)]
  exact congrArg some (mset_w (by decide) (by omega) rfl)
theorem mgI_12 {h : zH} {m pp tx w : Row} {hs : Int64} : zgI (mput h m pp tx w hs) 123 6 12 = some (w 25) := by
  unfold zgI
  rw [zO_some mp_123]
  rfl
theorem msI_12 {h : zH} {m pp tx w : Row} {hs : Int64} {x : Int32} : zp (mput h m pp tx w hs) 123 6 12 (.int x) = some (mput h m pp tx (upd w 25 x) hs) := by
  rw [zp_some mp_123 (show 12 < 17 by omega)]
  exact congrArg some (mset_w (by decide) (by omega) rfl)
theorem mgI_13 {h : zH} {m pp tx w : Row} {hs : Int64} : zgI (mput h m pp tx w hs) 123 6 13 = some (w 26) := by
  unfold zgI
  rw [zO_some mp_123]
  rfl
theorem msI_13 {h : zH} {m pp tx w : Row} {hs : Int64} {x : Int32} : zp (mput h m pp tx w hs) 123 6 13 (.int x) = some (mput h m pp tx (upd w 26 x) hs) := by
  rw [zp_some mp_123 (show 13 < 17 by omega)]
  exact congrArg some (mset_w (by decide) (by omega) rfl)
theorem mgI_14 {h : zH} {m pp tx w : Row} {hs : Int64} : zgI (mput h m pp tx w hs) 123 6 14 = some (w 27) := by
  unfold zgI
  rw [zO_some mp_123]
  rfl
theorem msI_14 {h : zH} {m pp tx w : Row} {hs : Int64} {x : Int32} : zp (mput h m pp tx w hs) 123 6 14 (.int x) = some (mput h m pp tx (upd w 27 x) hs) := by
  rw [zp_some mp_123 (show 14 < 17 by omega)]
  exact congrArg some (mset_w (by decide) (by omega) rfl)
theorem mgI_15 {h : zH} {m pp tx w : Row} {hs : Int64} : zgI (mput h m pp tx w hs) 123 6 15 = some (w 28) := by
  unfold zgI
  rw [zO_some mp_123]
  rfl
theorem msI_15 {h : zH} {m pp tx w : Row} {hs : Int64} {x : Int32} : zp (mput h m pp tx w hs) 123 6 15 (.int x) = some (mput h m pp tx (upd w 28 x) hs) := by
  rw [zp_some mp_123 (show 15 < 17 by omega)]
  exact congrArg some (mset_w (by decide) (by omega) rfl)
theorem mgL {h : zH} {m pp tx w : Row} {hs : Int64} : zgL (mput h m pp tx w hs) 123 6 16 = some hs := by
  unfold zgL
  rw [zO_some mp_123]
  rfl
theorem msL {h : zH} {m pp tx w : Row} {hs : Int64} {x : Int64} : zp (mput h m pp tx w hs) 123 6 16 (.long x) = some (mput h m pp tx w x) := by
  rw [zp_some mp_123 (show 16 < 17 by omega)]
  exact congrArg some (mput_set (by omega) rfl (fun i hi hc => mcell_h hc))
theorem mgK {h : zH} {m pp tx w : Row} {hs : Int64} {β : Type} {o : Option β} : zrc (mput h m pp tx w hs) 123 6 o = o := zrc_some mp_123
theorem mN {h : zH} {m pp tx w : Row} {hs : Int64} {k : Nat} (hk : k < 134) : zai (mput h m pp tx w hs) 124 (Int32.ofNat k) = some (m k) := (zai_some mp_124 (in_of hk (by omega))).trans (by rw [nn_of (by omega)])
theorem mNs {h : zH} {m pp tx w : Row} {hs : Int64} {k : Nat} {x : Int32} (hk : k < 134) : zsi (mput h m pp tx w hs) 124 (Int32.ofNat k) x = some (mput h (upd m k x) pp tx w hs) := by
  rw [zsi_some mp_124 (in_of hk (by omega)), nn_of (by omega)]
  exact congrArg some (mput_set (by omega) rfl (fun i hi hc => mcell_m hc))
theorem mN_0 {h : zH} {m pp tx w : Row} {hs : Int64} : zai (mput h m pp tx w hs) 124 0 = some (m 0) := mN (k := 0) (by omega)
theorem mNs_0 {h : zH} {m pp tx w : Row} {hs : Int64} {x : Int32} : zsi (mput h m pp tx w hs) 124 0 x = some (mput h (upd m 0 x) pp tx w hs) := mNs (k := 0) (by omega)
theorem mN_1 {h : zH} {m pp tx w : Row} {hs : Int64} : zai (mput h m pp tx w hs) 124 1 = some (m 1) := mN (k := 1) (by omega)
theorem mNs_1 {h : zH} {m pp tx w : Row} {hs : Int64} {x : Int32} : zsi (mput h m pp tx w hs) 124 1 x = some (mput h (upd m 1 x) pp tx w hs) := mNs (k := 1) (by omega)
theorem mN_2 {h : zH} {m pp tx w : Row} {hs : Int64} : zai (mput h m pp tx w hs) 124 2 = some (m 2) := mN (k := 2) (by omega)
theorem mNs_2 {h : zH} {m pp tx w : Row} {hs : Int64} {x : Int32} : zsi (mput h m pp tx w hs) 124 2 x = some (mput h (upd m 2 x) pp tx w hs) := mNs (k := 2) (by omega)
theorem mN_3 {h : zH} {m pp tx w : Row} {hs : Int64} : zai (mput h m pp tx w hs) 124 3 = some (m 3) := mN (k := 3) (by omega)
theorem mNs_3 {h : zH} {m pp tx w : Row} {hs : Int64} {x : Int32} : zsi (mput h m pp tx w hs) 124 3 x = some (mput h (upd m 3 x) pp tx w hs) := mNs (k := 3) (by omega)
theorem mN_4 {h : zH} {m pp tx w : Row} {hs : Int64} : zai (mput h m pp tx w hs) 124 4 = some (m 4) := mN (k := 4) (by omega)
theorem mNs_4 {h : zH} {m pp tx w : Row} {hs : Int64} {x : Int32} : zsi (mput h m pp tx w hs) 124 4 x = some (mput h (upd m 4 x) pp tx w hs) := mNs (k := 4) (by omega)
theorem mN_5 {h : zH} {m pp tx w : Row} {hs : Int64} : zai (mput h m pp tx w hs) 124 5 = some (m 5) := mN (k := 5) (by omega)
theorem mNs_5 {h : zH} {m pp tx w : Row} {hs : Int64} {x : Int32} : zsi (mput h m pp tx w hs) 124 5 x = some (mput h (upd m 5 x) pp tx w hs) := mNs (k := 5) (by omega)
theorem mN_6 {h : zH} {m pp tx w : Row} {hs : Int64} : zai (mput h m pp tx w hs) 124 6 = some (m 6) := mN (k := 6) (by omega)
theorem mNs_6 {h : zH} {m pp tx w : Row} {hs : Int64} {x : Int32} : zsi (mput h m pp tx w hs) 124 6 x = some (mput h (upd m 6 x) pp tx w hs) := mNs (k := 6) (by omega)
theorem mN_7 {h : zH} {m pp tx w : Row} {hs : Int64} : zai (mput h m pp tx w hs) 124 7 = some (m 7) := mN (k := 7) (by omega)
theorem mNs_7 {h : zH} {m pp tx w : Row} {hs : Int64} {x : Int32} : zsi (mput h m pp tx w hs) 124 7 x = some (mput h (upd m 7 x) pp tx w hs) := mNs (k := 7) (by omega)
theorem mN_8 {h : zH} {m pp tx w : Row} {hs : Int64} : zai (mput h m pp tx w hs) 124 8 = some (m 8) := mN (k := 8) (by omega)
theorem mNs_8 {h : zH} {m pp tx w : Row} {hs : Int64} {x : Int32} : zsi (mput h m pp tx w hs) 124 8 x = some (mput h (upd m 8 x) pp tx w hs) := mNs (k := 8) (by omega)
theorem mN_9 {h : zH} {m pp tx w : Row} {hs : Int64} : zai (mput h m pp tx w hs) 124 9 = some (m 9) := mN (k := 9) (by omega)
theorem mNs_9 {h : zH} {m pp tx w : Row} {hs : Int64} {x : Int32} : zsi (mput h m pp tx w hs) 124 9 x = some (mput h (upd m 9 x) pp tx w hs) := mNs (k := 9) (by omega)
theorem mP {h : zH} {m pp tx w : Row} {hs : Int64} {k : Nat} (hk : k < 536) : zai (mput h m pp tx w hs) 125 (Int32.ofNat k) = some (pp k) := (zai_some mp_125 (in_of hk (by omega))).trans (by rw [nn_of (by omega)])
theorem mPs {h : zH} {m pp tx w : Row} {hs : Int64} {k : Nat} {x : Int32} (hk : k < 536) : zsi (mput h m pp tx w hs) 125 (Int32.ofNat k) x = some (mput h m (upd pp k x) tx w hs) := by
  rw [zsi_some mp_125 (in_of hk (by omega)), nn_of (by omega)]
  exact congrArg some (mput_set (by omega) rfl (fun i hi hc => mcell_p hc))
theorem mT {h : zH} {m pp tx w : Row} {hs : Int64} {k : Nat} (hk : k < 90) : zai (mput h m pp tx w hs) 126 (Int32.ofNat k) = some (tx k) := (zai_some mp_126 (in_of hk (by omega))).trans (by rw [nn_of (by omega)])
theorem mTs {h : zH} {m pp tx w : Row} {hs : Int64} {k : Nat} {x : Int32} (hk : k < 90) : zsi (mput h m pp tx w hs) 126 (Int32.ofNat k) x = some (mput h m pp (upd tx k x) w hs) := by
  rw [zsi_some mp_126 (in_of hk (by omega)), nn_of (by omega)]
  exact congrArg some (mput_set (by omega) rfl (fun i hi hc => mcell_t hc))
theorem mW_127 {h : zH} {m pp tx w : Row} {hs : Int64} {k : Nat} (hk : k < 5) : zai (mput h m pp tx w hs) 127 (Int32.ofNat k) = some (w k) := (zai_some mp_127 (in_of hk (by omega))).trans (by rw [nn_of (by omega)])
theorem mWs_127 {h : zH} {m pp tx w : Row} {hs : Int64} {k : Nat} {x : Int32} (hk : k < 5) : zsi (mput h m pp tx w hs) 127 (Int32.ofNat k) x = some (mput h m pp tx (upd w k x) hs) := by
  rw [zsi_some mp_127 (in_of hk (by omega)), nn_of (by omega)]
  refine congrArg some (mset_w ?_ (by omega) ?_)
  · unfold wcell
    rw [if_pos (by omega)]
  · unfold mcell
    simp only [reduceIte, Nat.reduceEqDiff]
    skip
theorem mW_128 {h : zH} {m pp tx w : Row} {hs : Int64} {k : Nat} (hk : k < 5) : zai (mput h m pp tx w hs) 128 (Int32.ofNat k) = some (w (5 + k)) := (zai_some mp_128 (in_of hk (by omega))).trans (by rw [nn_of (by omega)])
theorem mWs_128 {h : zH} {m pp tx w : Row} {hs : Int64} {k : Nat} {x : Int32} (hk : k < 5) : zsi (mput h m pp tx w hs) 128 (Int32.ofNat k) x = some (mput h m pp tx (upd w (5 + k) x) hs) := by
  rw [zsi_some mp_128 (in_of hk (by omega)), nn_of (by omega)]
  refine congrArg some (mset_w ?_ (by omega) ?_)
  · unfold wcell
    rw [if_neg (by omega), if_pos (by omega)]
  · unfold mcell
    simp only [reduceIte, Nat.reduceEqDiff]
    congr 5
    refine tr_congr fun j hj => ?_
    unfold upd
    by_cases c : j = k
    · rw [if_pos c, if_pos (by omega)]
    · rw [if_neg c, if_neg (by omega)]
theorem mW_129 {h : zH} {m pp tx w : Row} {hs : Int64} {k : Nat} (hk : k < 5) : zai (mput h m pp tx w hs) 129 (Int32.ofNat k) = some (w (10 + k)) := (zai_some mp_129 (in_of hk (by omega))).trans (by rw [nn_of (by omega)])
theorem mWs_129 {h : zH} {m pp tx w : Row} {hs : Int64} {k : Nat} {x : Int32} (hk : k < 5) : zsi (mput h m pp tx w hs) 129 (Int32.ofNat k) x = some (mput h m pp tx (upd w (10 + k) x) hs) := by
  rw [zsi_some mp_129 (in_of hk (by omega)), nn_of (by omega)]
  refine congrArg some (mset_w ?_ (by omega) ?_)
  · unfold wcell
    rw [if_neg (by omega), if_neg (by omega), if_pos (by omega)]
  · unfold mcell
    simp only [reduceIte, Nat.reduceEqDiff]
    congr 5
    refine tr_congr fun j hj => ?_
    unfold upd
    by_cases c : j = k
    · rw [if_pos c, if_pos (by omega)]
    · rw [if_neg c, if_neg (by omega)]
theorem mW_130 {h : zH} {m pp tx w : Row} {hs : Int64} {k : Nat} (hk : k < 5) : zai (mput h m pp tx w hs) 130 (Int32.ofNat k) = some (w (15 + k)) := (zai_some mp_130 (in_of hk (by omega))).trans (by rw [nn_of (by omega)])
theorem mWs_130 {h : zH} {m pp tx w : Row} {hs : Int64} {k : Nat} {x : Int32} (hk : k < 5) : zsi (mput h m pp tx w hs) 130 (Int32.ofNat k) x = some (mput h m pp tx (upd w (15 + k) x) hs) := by
  rw [zsi_some mp_130 (in_of hk (by omega)), nn_of (by omega)]
  refine congrArg some (mset_w ?_ (by omega) ?_)
  · unfold wcell
    rw [if_neg (by omega), if_neg (by omega), if_neg (by omega), if_pos (by omega)]
  · unfold mcell
    simp only [reduceIte, Nat.reduceEqDiff]
    congr 5
    refine tr_congr fun j hj => ?_
    unfold upd
    by_cases c : j = k
    · rw [if_pos c, if_pos (by omega)]
    · rw [if_neg c, if_neg (by omega)]
theorem i32_mulm (a b : Nat) : Int32.ofNat a * Int32.ofNat b = Int32.ofNat (a * b) := (Int32.ofNat_mul a b).symm
theorem i32_addn (a b : Nat) : Int32.ofNat a + Int32.ofNat b = Int32.ofNat (a + b) := (Int32.ofNat_add a b).symm
theorem ixs {p c : Nat} : (18 : Int32) + 4 * Int32.ofNat p + Int32.ofNat c = Int32.ofNat (18 + 4 * p + c) := by
  rw [show (18 : Int32) = Int32.ofNat 18 from rfl, show (4 : Int32) = Int32.ofNat 4 from rfl, i32_mulm, i32_addn, i32_addn]
theorem ixl {p c : Nat} : (62 : Int32) + 8 * Int32.ofNat p + Int32.ofNat c = Int32.ofNat (62 + 8 * p + c) := by
  rw [show (62 : Int32) = Int32.ofNat 62 from rfl, show (8 : Int32) = Int32.ofNat 8 from rfl, i32_mulm, i32_addn, i32_addn]
theorem ixm {p : Nat} : (14 : Int32) + Int32.ofNat p = Int32.ofNat (14 + p) := by
  rw [show (14 : Int32) = Int32.ofNat 14 from rfl, i32_addn]
theorem ixo {p : Nat} : (10 : Int32) + Int32.ofNat p = Int32.ofNat (10 + p) := by
  rw [show (10 : Int32) = Int32.ofNat 10 from rfl, i32_addn]
theorem ixt {p : Nat} : (126 : Int32) + Int32.ofNat p = Int32.ofNat (126 + p) := by
  rw [show (126 : Int32) = Int32.ofNat 126 from rfl, i32_addn]
theorem ixc {c k : Nat} : (34 : Int32) + 7 * Int32.ofNat c + Int32.ofNat k = Int32.ofNat (34 + k + 7 * c) := by
  rw [show (34 : Int32) = Int32.ofNat 34 from rfl, show (7 : Int32) = Int32.ofNat 7 from rfl, i32_mulm, i32_addn, i32_addn]
  exact congrArg _ (by omega)
theorem ixc_0 {c : Nat} : (34 : Int32) + 7 * Int32.ofNat c + 0 = Int32.ofNat (34 + 7 * c) := ixc (k := 0)
theorem ixc_1 {c : Nat} : (34 : Int32) + 7 * Int32.ofNat c + 1 = Int32.ofNat (35 + 7 * c) := ixc (k := 1)
theorem ixc_2 {c : Nat} : (34 : Int32) + 7 * Int32.ofNat c + 2 = Int32.ofNat (36 + 7 * c) := ixc (k := 2)
theorem ixc_3 {c : Nat} : (34 : Int32) + 7 * Int32.ofNat c + 3 = Int32.ofNat (37 + 7 * c) := ixc (k := 3)
theorem ixc_4 {c : Nat} : (34 : Int32) + 7 * Int32.ofNat c + 4 = Int32.ofNat (38 + 7 * c) := ixc (k := 4)
theorem ixc_5 {c : Nat} : (34 : Int32) + 7 * Int32.ofNat c + 5 = Int32.ofNat (39 + 7 * c) := ixc (k := 5)
theorem ixc_6 {c : Nat} : (34 : Int32) + 7 * Int32.ofNat c + 6 = Int32.ofNat (40 + 7 * c) := ixc (k := 6)
theorem u_of_0 {n : Nat} {h : zH} {m pp tx w : Row} {hs : Int64} {c : Nat} (hc : c < 4) : f_X6_of n 123 (Int32.ofNat c) 0 (mput h m pp tx w hs) = some (m (34 + 7 * c)) := by
  unfold f_X6_of
  simp only [mgR_0, ixc_0, mN (show 34 + 7 * c < 134 by omega), Option.bind_some]
theorem u_of_1 {n : Nat} {h : zH} {m pp tx w : Row} {hs : Int64} {c : Nat} (hc : c < 4) : f_X6_of n 123 (Int32.ofNat c) 1 (mput h m pp tx w hs) = some (m (35 + 7 * c)) := by
  unfold f_X6_of
  simp only [mgR_0, ixc_1, mN (show 35 + 7 * c < 134 by omega), Option.bind_some]
theorem u_of_2 {n : Nat} {h : zH} {m pp tx w : Row} {hs : Int64} {c : Nat} (hc : c < 4) : f_X6_of n 123 (Int32.ofNat c) 2 (mput h m pp tx w hs) = some (m (36 + 7 * c)) := by
  unfold f_X6_of
  simp only [mgR_0, ixc_2, mN (show 36 + 7 * c < 134 by omega), Option.bind_some]
theorem u_of_3 {n : Nat} {h : zH} {m pp tx w : Row} {hs : Int64} {c : Nat} (hc : c < 4) : f_X6_of n 123 (Int32.ofNat c) 3 (mput h m pp tx w hs) = some (m (37 + 7 * c)) := by
  unfold f_X6_of
  simp only [mgR_0, ixc_3, mN (show 37 + 7 * c < 134 by omega), Option.bind_some]
theorem u_of_4 {n : Nat} {h : zH} {m pp tx w : Row} {hs : Int64} {c : Nat} (hc : c < 4) : f_X6_of n 123 (Int32.ofNat c) 4 (mput h m pp tx w hs) = some (m (38 + 7 * c)) := by
  unfold f_X6_of
  simp only [mgR_0, ixc_4, mN (show 38 + 7 * c < 134 by omega), Option.bind_some]
theorem u_of_5 {n : Nat} {h : zH} {m pp tx w : Row} {hs : Int64} {c : Nat} (hc : c < 4) : f_X6_of n 123 (Int32.ofNat c) 5 (mput h m pp tx w hs) = some (m (39 + 7 * c)) := by
  unfold f_X6_of
  simp only [mgR_0, ixc_5, mN (show 39 + 7 * c < 134 by omega), Option.bind_some]
theorem u_of_6 {n : Nat} {h : zH} {m pp tx w : Row} {hs : Int64} {c : Nat} (hc : c < 4) : f_X6_of n 123 (Int32.ofNat c) 6 (mput h m pp tx w hs) = some (m (40 + 7 * c)) := by
  unfold f_X6_of
  simp only [mgR_0, ixc_6, mN (show 40 + 7 * c < 134 by omega), Option.bind_some]
theorem u_shares {n : Nat} {h : zH} {m pp tx w : Row} {hs : Int64} {p c : Nat} (hp : p < 4) (hc : c < 4) : f_X6_shares n 123 (Int32.ofNat p) (Int32.ofNat c) (mput h m pp tx w hs) = some (m (18 + 4 * p + c)) := by
  unfold f_X6_shares
  simp only [mgR_0, ixs, mN (show 18 + 4 * p + c < 134 by omega), Option.bind_some]
theorem u_level {n : Nat} {h : zH} {m pp tx w : Row} {hs : Int64} {a b : Nat} (ha : a < 8) (hb : b < 8) : f_X6_level n 123 (Int32.ofNat a) (Int32.ofNat b) (mput h m pp tx w hs) = some (m (62 + 8 * a + b)) := by
  unfold f_X6_level
  simp only [mgR_0, ixl, mN (show 62 + 8 * a + b < 134 by omega), Option.bind_some]
theorem u_levels {n : Nat} {h : zH} {m pp tx w : Row} {hs : Int64} {a b : Nat} {v : Int32} (ha : a < 8) (hb : b < 8) : f_X6_levels n 123 (Int32.ofNat a) (Int32.ofNat b) v (mput h m pp tx w hs) = some (mput h (rLev m a b v) pp tx w hs) := by
  unfold f_X6_levels rLev
  simp only [mgR_0, ixl, mNs (show 62 + 8 * a + b < 134 by omega), mNs (show 62 + 8 * b + a < 134 by omega), Option.bind_some]
theorem u_price {n : Nat} {h : zH} {m pp tx w : Row} {hs : Int64} {c : Nat} (hc : c < 4) : f_X6_price n 123 (Int32.ofNat c) (mput h m pp tx w hs) = some (20 + 10 * m (37 + 7 * c)) := by
  unfold f_X6_price
  simp only [mgK, u_of_3 hc, Option.bind_some]
theorem u_isOpen {n : Nat} {h : zH} {m pp tx w : Row} {hs : Int64} {c : Nat} (hc : c < 4) : f_X6_isOpen n 123 (Int32.ofNat c) (mput h m pp tx w hs) = some (if m (34 + 7 * c) = 1 then 1 else 0) := by
  unfold f_X6_isOpen
  simp only [mgK, u_of_0 hc, Option.bind_some]
  split <;> rfl
theorem u_isStock {n : Nat} {h : zH} {m pp tx w : Row} {hs : Int64} : f_X6_isStock n 123 (mput h m pp tx w hs) = some (if m 3 = 0 then 1 else 0) := by
  unfold f_X6_isStock
  simp only [mgR_0, mN_3, Option.bind_some]
  split <;> rfl
theorem u_purse {n : Nat} {h : zH} {m pp tx w : Row} {hs : Int64} {t : Nat} (ht : t < 4) (h1 : m 1 = Int32.ofNat t) : f_X6_purse n 123 (mput h m pp tx w hs) = some (m (14 + t)) := by
  unfold f_X6_purse
  simp only [mgR_0, mN_1, h1, ixm, mN (show 14 + t < 134 by omega), Option.bind_some]
theorem zrem_next : ∀ mm, mm < 5 → ∀ t, t < mm → zdiv (Int32.ofNat t + 1) (Int32.ofNat mm) = some ((Int32.ofNat t + 1) / Int32.ofNat mm) ∧ zrem (Int32.ofNat t + 1) (Int32.ofNat mm) = if Int32.ofNat mm ≤ Int32.ofNat t + 1 then 0 else Int32.ofNat t + 1 := by decide
theorem u_turns {n : Nat} {h : zH} {m pp tx w : Row} {hs : Int64} {mm t : Nat} (h0 : m 0 = Int32.ofNat mm) (hm : mm < 5) (ht : t < mm) (h1 : m 1 = Int32.ofNat t) : f_X6_turns n 123 (mput h m pp tx w hs) = some (mput h (upd m 1 (nextT m)) pp tx w hs) := by
  unfold f_X6_turns nextT
  simp only [mgR_0, mN_0, mN_1, mNs_1, h0, h1, (zrem_next mm hm t ht).1, (zrem_next mm hm t ht).2, Option.bind_some]
theorem u_ends {n : Nat} {h : zH} {m pp tx w : Row} {hs : Int64} {mm t : Nat} (h0 : m 0 = Int32.ofNat mm) (hm : mm < 5) (ht : t < mm) (h1 : m 1 = Int32.ofNat t) : f_X6_ends n 123 (mput h m pp tx w hs) = some (mput h (rEnd m) pp tx w hs) := by
  unfold f_X6_ends rEnd
  simp only [mgR_0, mNs_2, mgK, Option.bind_some]
  rw [u_turns (mm := mm) (t := t) (by rw [upd_ne (by omega), h0]) hm ht (by rw [upd_ne (by omega), h1])]
  rfl
theorem u_pays {n : Nat} {h : zH} {m pp tx w : Row} {hs : Int64} {p : Nat} {x : Int32} (hp : p < 4) : f_X6_pays n 123 (Int32.ofNat p) x (mput h m pp tx w hs) = some (mput h (rPay m p x) pp tx w hs) := by
  unfold f_X6_pays rPay
  simp only [mgR_0, ixm, mN (show 14 + p < 134 by omega), mNs (show 14 + p < 134 by omega), mN_6, mNs_6, upd_ne (show 6 ≠ 14 + p by omega), Option.bind_some]
theorem u_earns {n : Nat} {h : zH} {m pp tx w : Row} {hs : Int64} {c : Nat} {x : Int32} (hc : c < 4) : f_X6_earns n 123 (Int32.ofNat c) x (mput h m pp tx w hs) = some (mput h (rCPay m c (-x)) pp tx w hs) := by
  unfold f_X6_earns rCPay
  simp only [mgR_0, ixc_2, mN (show 36 + 7 * c < 134 by omega), mNs (show 36 + 7 * c < 134 by omega), mN_6, mNs_6, upd_ne (show 6 ≠ 36 + 7 * c by omega), Option.bind_some, Int32.sub_eq_add_neg, Int32.neg_neg]
theorem zseq_tail {σ : Type} {step : Nat → σ → σ} {s : σ} {mm N : Nat} (h : ∀ k s, mm ≤ k → k < N → step k s = s) : ∀ k, mm ≤ k → k ≤ N → zseq step s k = zseq step s mm := by
  intro k h1
  induction k with
  | zero => intro _; rw [show mm = 0 by omega]
  | succ k ih =>
    intro h2
    by_cases c : mm = k + 1
    · rw [c]
    · show step k (zseq step s k) = _
      rw [ih (by omega) (by omega), h k _ (by omega) (by omega)]
theorem u_rest {n : Nat} {h : zH} {m pp tx w : Row} {hs : Int64} {mm c : Nat} (hn : 600 ≤ n) (h0 : m 0 = Int32.ofNat mm) (hm : mm ≤ 4) (hc : c < 4) (hz : ∀ p, mm ≤ p → p < 4 → m (18 + 4 * p + c) = 0) : f_X6_rest n 123 (Int32.ofNat c) (mput h m pp tx w hs) = some (bank (fun p => m (18 + 4 * p + c))) := by
  rw [e_X6_rest]
  unfold bank
  rw [zseq_tail (mm := mm) (N := 4) (fun k s h1 h2 => by show s - m (18 + 4 * k + c) = s; rw [hz k h1 h2, Int32.sub_zero]) 4 hm (Nat.le_refl 4)]
  unfold L_X6_rest_5
  refine zfor2 mm (fun k => zseq (fun p s => s - m (18 + 4 * p + c)) (10 : Int32) k) (fun k => Int32.ofNat k) (fun k hk rec => ?_) (fun rec => ?_) (by omega)
  · simp only [zlet, mgR_0, mN_0, h0, if_neg (i32_ge hk (by omega)), mgK, u_shares (show k < 4 by omega) hc, Option.bind_some, i32_succ]
    rfl
  · simp only [mgR_0, mN_0, h0, if_pos (Int32.le_refl _), Option.bind_some]
theorem u_wanted {n : Nat} {h : zH} {m pp tx w : Row} {hs : Int64} {mm c : Nat} (hn : 600 ≤ n) (h0 : m 0 = Int32.ofNat mm) (hm : mm ≤ 4) (hc : c < 4) (hz : ∀ p, mm ≤ p → p < 4 → m (18 + 4 * p + c) = 0) : f_X6_wanted n 123 (Int32.ofNat c) (mput h m pp tx w hs) = some (exch (fun p => m (18 + 4 * p + c))) := by
  rw [e_X6_wanted]
  unfold exch
  rw [zseq_tail (mm := mm) (N := 4) (fun k s h1 h2 => by show s + m (18 + 4 * k + c) / 2 = s; rw [hz k h1 h2, show (0 : Int32) / 2 = 0 from rfl, Int32.add_zero]) 4 hm (Nat.le_refl 4)]
  unfold L_X6_wanted_4
  refine zfor2 mm (fun k => zseq (fun p s => s + m (18 + 4 * p + c) / 2) (0 : Int32) k) (fun k => Int32.ofNat k) (fun k hk rec => ?_) (fun rec => ?_) (by omega)
  · simp only [zlet, mgR_0, mN_0, h0, if_neg (i32_ge hk (by omega)), mgK, u_shares (show k < 4 by omega) hc, Option.bind_some, i32_succ]
    rfl
  · simp only [mgR_0, mN_0, h0, if_pos (Int32.le_refl _), Option.bind_some]
theorem u_shift_dn0 {n : Nat} {h : zH} {m pp tx w : Row} {hs : Int64} {c s : Nat} {y : Int32} (hy : y = -1) (hc : c < 4) (hst : s ≤ 11) (h1 : m (37 + 7 * c) = Int32.ofNat s) : f_X6_shifts n 123 (Int32.ofNat c) y (mput h m pp tx w hs) = some (mput h (rFall m c) pp tx w hs) := by
  unfold f_X6_shifts rFall
  simp only [zlet, mgR_0, ixc_3, mN (show 37 + 7 * c < 134 by omega), mNs (show 37 + 7 * c < 134 by omega), upd_eq, Option.bind_some, h1]
  subst hy
  have key : ∀ s, s ≤ 11 → (if 0 ≤ Int32.ofNat s + -1 then (if Int32.ofNat s + -1 ≤ 11 then Int32.ofNat s + -1 else 11) else 0) = if Int32.ofNat s ≤ 0 then Int32.ofNat s else Int32.ofNat s - 1 := by
    intro s hs'
    cases s with
    | zero =>
      rw [show Int32.ofNat 0 + -1 = -1 by decide, if_neg (show ¬ (0 : Int32) ≤ -1 by decide), if_pos (show Int32.ofNat 0 ≤ 0 by decide)]
      rfl
    | succ k =>
      have a1 : (0 : Int32) ≤ Int32.ofNat k := by
        have e : ((0 : Int32) ≤ Int32.ofNat k) = (0 ≤ k) := i32_le_of (a := 0) (by omega) (by omega)
        rw [e]
        omega
      have a2 : Int32.ofNat k ≤ 11 := by
        have e : (Int32.ofNat k ≤ (11 : Int32)) = (k ≤ 11) := i32_le_of (b := 11) (by omega) (by omega)
        rw [e]
        omega
      rw [i32_addm, if_pos a1, if_pos a2, if_neg (i32_pos k (by omega)), i32_pred]
  have e := key s hst
  have uu : ∀ x y, upd (upd m (37 + 7 * c) x) (37 + 7 * c) y = upd m (37 + 7 * c) y := fun x y => by
    funext i
    simp only [upd]
    split <;> rfl
  have um : upd m (37 + 7 * c) (Int32.ofNat s) = m := by
    funext i
    simp only [upd]
    split
    · rename_i d
      rw [d, h1]
    · rfl
  by_cases c1 : Int32.ofNat s ≤ 0
  · rw [if_pos c1] at e
    rw [if_pos c1]
    split
    · rename_i d
      rw [if_pos d] at e
      split
      · rename_i d2
        rw [if_pos d2] at e
        rw [uu, e, um]
      · rename_i d2
        rw [if_neg d2] at e
        rw [uu, e, um]
    · rename_i d
      rw [if_neg d] at e
      rw [uu, e, um]
  · rw [if_neg c1] at e
    rw [if_neg c1]
    split
    · rename_i d
      rw [if_pos d] at e
      split
      · rename_i d2
        rw [if_pos d2] at e
        rw [uu, e]
      · rename_i d2
        rw [if_neg d2] at e
        rw [uu, e]
    · rename_i d
      rw [if_neg d] at e
      rw [uu, e]
theorem u_shift_dn {n : Nat} {h : zH} {m pp tx w : Row} {hs : Int64} {c s : Nat} (hc : c < 4) (hst : s ≤ 11) (h1 : m (37 + 7 * c) = Int32.ofNat s) : f_X6_shifts n 123 (Int32.ofNat c) (-1) (mput h m pp tx w hs) = some (mput h (rFall m c) pp tx w hs) := u_shift_dn0 rfl hc hst h1
theorem u_shift_up {n : Nat} {h : zH} {m pp tx w : Row} {hs : Int64} {c s : Nat} (hc : c < 4) (hst : s ≤ 11) (h1 : m (37 + 7 * c) = Int32.ofNat s) : f_X6_shifts n 123 (Int32.ofNat c) 1 (mput h m pp tx w hs) = some (mput h (rRise m c) pp tx w hs) := by
  unfold f_X6_shifts rRise
  simp only [zlet, mgR_0, ixc_3, mN (show 37 + 7 * c < 134 by omega), mNs (show 37 + 7 * c < 134 by omega), upd_eq, Option.bind_some, h1]
  have key : ∀ s, s ≤ 11 → (if 0 ≤ Int32.ofNat s + 1 then (if Int32.ofNat s + 1 ≤ 11 then Int32.ofNat s + 1 else 11) else 0) = if 11 ≤ Int32.ofNat s then Int32.ofNat s else Int32.ofNat s + 1 := by decide
  have e := key s hst
  have uu : ∀ x y, upd (upd m (37 + 7 * c) x) (37 + 7 * c) y = upd m (37 + 7 * c) y := fun x y => by
    funext i
    simp only [upd]
    split <;> rfl
  have um : upd m (37 + 7 * c) (Int32.ofNat s) = m := by
    funext i
    simp only [upd]
    split
    · rename_i d
      rw [d, h1]
    · rfl
  by_cases c1 : 11 ≤ Int32.ofNat s
  · rw [if_pos c1] at e
    rw [if_pos c1]
    split
    · rename_i d
      rw [if_pos d] at e
      split
      · rename_i d2
        rw [if_pos d2] at e
        rw [uu, e, um]
      · rename_i d2
        rw [if_neg d2] at e
        rw [uu, e, um]
    · rename_i d
      rw [if_neg d] at e
      rw [uu, e, um]
  · rw [if_neg c1] at e
    rw [if_neg c1]
    split
    · rename_i d
      rw [if_pos d] at e
      split
      · rename_i d2
        rw [if_pos d2] at e
        rw [uu, e]
      · rename_i d2
        rw [if_neg d2] at e
        rw [uu, e]
    · rename_i d
      rw [if_neg d] at e
      rw [uu, e]
def PresSpec (s : Nat → Nat) (its F : Int32) : Prop := ∃ M, M < 600 ∧ (∀ p, p < 4 → s p ≤ M) ∧ ((M = 0 ∧ F = -1) ∨ (0 < M ∧ (∃ i, i < 4 ∧ its = Int32.ofNat i ∧ s i = M) ∧ F = its) ∨ (0 < M ∧ (∀ i, i < 4 → its = Int32.ofNat i → s i < M) ∧ ∃ p, p < 4 ∧ F = Int32.ofNat p ∧ s p = M ∧ ∀ j, j < p → s j < M))
theorem PresSpec_one {s : Nat → Nat} {its F F' : Int32} (h : PresSpec s its F) (h' : PresSpec s its F') : F = F' := by
  obtain ⟨M, _, h1, h2⟩ := h
  obtain ⟨M', _, h1', h2'⟩ := h'
  have a : M ≤ M' := by
    rcases h2 with ⟨e, _⟩ | ⟨_, ⟨i, hi, _, e⟩, _⟩ | ⟨_, _, p, hp, _, e, _⟩
    · omega
    · have := h1' i hi; omega
    · have := h1' p hp; omega
  have b : M' ≤ M := by
    rcases h2' with ⟨e, _⟩ | ⟨_, ⟨i, hi, _, e⟩, _⟩ | ⟨_, _, p, hp, _, e, _⟩
    · omega
    · have := h1 i hi; omega
    · have := h1 p hp; omega
  have hM : M = M' := by omega
  subst hM
  rcases h2 with ⟨e, f⟩ | ⟨e, ⟨i, hi, ei, si⟩, f⟩ | ⟨e, d, p, hp, f, sp, lp⟩
  · rcases h2' with ⟨e', f'⟩ | ⟨e', _⟩ | ⟨e', _⟩
    · rw [f, f']
    · omega
    · omega
  · rcases h2' with ⟨e', f'⟩ | ⟨e', _, f'⟩ | ⟨e', d', _⟩
    · omega
    · rw [f, f']
    · have := d' i hi ei; omega
  · rcases h2' with ⟨e', f'⟩ | ⟨e', ⟨i', hi', ei', si'⟩, f'⟩ | ⟨e', d', p', hp', f', sp', lp'⟩
    · omega
    · have := d i' hi' ei'; omega
    · have : p = p' := by
        rcases Nat.lt_trichotomy p p' with q | q | q
        · have := lp' p q; omega
        · exact q
        · have := lp p' q; omega
      rw [f, f', this]
theorem pres_spec {f : Row} {s : Nat → Nat} {its : Int32} (hf : ∀ p, p < 4 → f p = Int32.ofNat (s p)) (hs : ∀ p, p < 4 → s p < 600) (hi : its = -1 ∨ ∃ i, i < 4 ∧ its = Int32.ofNat i) : PresSpec s its (pres f its) := by
  unfold pres
  have hni : ∀ i, i < 4 → Int32.ofNat i ≠ -1 := by
    intro i h4 e
    have := in_of h4 (show 4 < 600 by omega)
    rw [e] at this
    exact this (Or.inl (by decide))
  have key := zseq_ok (N := 4) (P := fun k (x : Int32 × Int32) => ∃ M, M < 600 ∧ x.1 = Int32.ofNat M ∧ (∀ p, p < k → s p ≤ M) ∧ (∀ i, i < 4 → its = Int32.ofNat i → s i ≤ M) ∧ ((M = 0 ∧ x.2 = -1) ∨ (0 < M ∧ (∃ i, i < 4 ∧ its = Int32.ofNat i ∧ s i = M) ∧ x.2 = its) ∨ (0 < M ∧ (∀ i, i < 4 → its = Int32.ofNat i → s i < M) ∧ ∃ p, p < k ∧ x.2 = Int32.ofNat p ∧ s p = M ∧ ∀ j, j < p → s j < M))) (step := pst f) (s := (if its = -1 then 0 else f its.toNatClampNeg, if (if its = -1 then 0 else f its.toNatClampNeg) ≤ 0 then -1 else its)) ?_ ?_ 4 (by omega)
  · obtain ⟨M, h0, h1, h2, h3, h4⟩ := key
    refine ⟨M, h0, h2, ?_⟩
    rcases h4 with a | a | a
    · exact Or.inl a
    · exact Or.inr (Or.inl a)
    · exact Or.inr (Or.inr a)
  · rcases hi with hi | ⟨i, hi4, hi⟩
    · refine ⟨0, by omega, ?_, fun p hp => by omega, fun i h4 e => absurd (e.symm.trans hi) (hni i h4), Or.inl ⟨rfl, ?_⟩⟩
      · show (if its = -1 then (0 : Int32) else _) = _
        rw [if_pos hi]; rfl
      · show (if (if its = -1 then (0 : Int32) else _) ≤ 0 then (-1 : Int32) else its) = -1
        rw [if_pos hi, if_pos (by decide)]
    · have hne : ¬ its = -1 := by rw [hi]; exact hni i hi4
      have hu : ∀ j, j < 4 → its = Int32.ofNat j → j = i := by
        intro j hj e
        rw [hi, i32_eq_of (by omega) (by omega)] at e
        omega
      have hv : f its.toNatClampNeg = Int32.ofNat (s i) := by rw [hi, nn_of (by omega), hf i hi4]
      have hle : (Int32.ofNat (s i) ≤ 0) = (s i ≤ 0) := i32_le_of (b := 0) (hs i hi4) (by omega)
      refine ⟨s i, hs i hi4, ?_, fun p hp => by omega, fun j hj e => by rw [hu j hj e]; exact Nat.le_refl _, ?_⟩
      · show (if its = -1 then (0 : Int32) else _) = _
        rw [if_neg hne, hv]
      · show (s i = 0 ∧ (if (if its = -1 then (0 : Int32) else _) ≤ 0 then (-1 : Int32) else its) = -1) ∨ (0 < s i ∧ _ ∧ (if (if its = -1 then (0 : Int32) else _) ≤ 0 then (-1 : Int32) else its) = its) ∨ _
        simp only [if_neg hne, hv, hle]
        by_cases c : s i ≤ 0
        · rw [if_pos c]
          exact Or.inl ⟨by omega, rfl⟩
        · rw [if_neg c]
          exact Or.inr (Or.inl ⟨by omega, ⟨i, hi4, hi, rfl⟩, rfl⟩)
  · intro k x hk hx
    obtain ⟨M, h0, h1, h2, h3, h4⟩ := hx
    unfold pst
    have hle : (f k ≤ x.1) = (s k ≤ M) := by rw [hf k hk, h1]; exact i32_le_of (hs k hk) h0
    by_cases c : s k ≤ M
    · rw [if_pos (hle ▸ c)]
      refine ⟨M, h0, h1, fun p hp => ?_, h3, ?_⟩
      · rcases Nat.lt_or_ge p k with e | e
        · exact h2 p e
        · rw [show p = k by omega]; exact c
      · rcases h4 with a | a | ⟨a, b, p, hp, d⟩
        · exact Or.inl a
        · exact Or.inr (Or.inl a)
        · exact Or.inr (Or.inr ⟨a, b, p, by omega, d⟩)
    · rw [if_neg (fun d => c (hle ▸ d))]
      refine ⟨s k, hs k hk, hf k hk, fun p hp => ?_, fun i hi e => ?_, Or.inr (Or.inr ⟨by omega, fun i hi e => ?_, k, by omega, rfl, rfl, fun j hj => ?_⟩)⟩
      · rcases Nat.lt_or_ge p k with e | e
        · have := h2 p e; omega
        · rw [show p = k by omega]; exact Nat.le_refl _
      · have := h3 i hi e; omega
      · have := h3 i hi e; omega
      · have := h2 j hj; omega
def maxSt (f : Row) (p : Nat) (s : Int32) : Int32 := if f p ≤ s then s else f p
theorem u_presides {n : Nat} {h : zH} {m pp tx w : Row} {hs : Int64} {mm c : Nat} {s : Nat → Nat} (hn : 600 ≤ n) (h0 : m 0 = Int32.ofNat mm) (hm : mm ≤ 4) (hc : c < 4) (hf : ∀ p, p < 4 → m (18 + 4 * p + c) = Int32.ofNat (s p)) (hsl : ∀ p, p < 4 → s p < 600) (hz : ∀ p, mm ≤ p → p < 4 → s p = 0) (hi : m (39 + 7 * c) = -1 ∨ ∃ i, i < 4 ∧ m (39 + 7 * c) = Int32.ofNat i) : f_X6_presides n 123 (Int32.ofNat c) (mput h m pp tx w hs) = some (mput h (rPres m c) pp tx w hs) := by
  have hps := pres_spec (f := fun p => m (18 + 4 * p + c)) hf hsl hi
  have hni : ∀ i, i < 4 → Int32.ofNat i ≠ -1 := by
    intro i h4 e
    have := in_of h4 (show 4 < 600 by omega)
    rw [e] at this
    exact this (Or.inl (by decide))
  have hmax := zseq_ok (N := mm) (P := fun k (x : Int32) => ∃ M, M < 600 ∧ x = Int32.ofNat M ∧ (∀ p, p < k → s p ≤ M) ∧ (M = 0 ∨ ∃ p, p < k ∧ s p = M)) (step := maxSt (fun p => m (18 + 4 * p + c))) (s := 0) ⟨0, by omega, rfl, fun p hp => by omega, Or.inl rfl⟩ (fun k x hk hx => by
    obtain ⟨M, e0, e1, e2, e3⟩ := hx
    unfold maxSt
    have hle : (m (18 + 4 * k + c) ≤ x) = (s k ≤ M) := by rw [hf k (by omega), e1]; exact i32_le_of (hsl k (by omega)) e0
    by_cases d : s k ≤ M
    · rw [if_pos (hle ▸ d)]
      refine ⟨M, e0, e1, fun p hp => ?_, ?_⟩
      · rcases Nat.lt_or_ge p k with e | e
        · exact e2 p e
        · rw [show p = k by omega]; exact d
      · rcases e3 with e3 | ⟨p, hp, e3⟩
        · exact Or.inl e3
        · exact Or.inr ⟨p, by omega, e3⟩
    · rw [if_neg (fun q => d (hle ▸ q))]
      refine ⟨s k, hsl k (by omega), hf k (by omega), fun p hp => ?_, Or.inr ⟨k, by omega, rfl⟩⟩
      rcases Nat.lt_or_ge p k with e | e
      · have := e2 p e; omega
      · rw [show p = k by omega]; exact Nat.le_refl _) mm (Nat.le_refl mm)
  obtain ⟨M, m0, m1, m2, m3⟩ := hmax
  have m4 : ∀ p, p < 4 → s p ≤ M := by
    intro p hp
    rcases Nat.lt_or_ge p mm with e | e
    · exact m2 p e
    · rw [hz p e hp]; omega
  have back : ∀ K : Int32 → Option zH, (M = 0 ∨ ∀ i, i < 4 → m (39 + 7 * c) = Int32.ofNat i → s i < M) → L_X6_presides_79 n K (Int32.ofNat M) (mput h m pp tx w hs) 123 (Int32.ofNat c) (-1) (Int32.ofNat mm - 1) = K (pres (fun p => m (18 + 4 * p + c)) (m (39 + 7 * c))) := by
    intro K hM
    unfold L_X6_presides_79
    refine zwh2 (Q := fun r => r = K (pres (fun p => m (18 + 4 * p + c)) (m (39 + 7 * c)))) (fun j a3 a4 => j ≤ mm ∧ a4 = Int32.ofNat j - 1 ∧ (M = 0 → a3 = -1) ∧ (0 < M → (a3 = -1 ∧ (∀ p, j ≤ p → p < mm → s p < M)) ∨ ∃ p0, a3 = Int32.ofNat p0 ∧ p0 < mm ∧ s p0 = M ∧ j ≤ p0 ∧ ∀ p, j ≤ p → p < p0 → s p < M)) ?_ n mm _ _ ⟨Nat.le_refl _, rfl, fun _ => rfl, fun _ => Or.inl ⟨rfl, fun p h1 h2 => by omega⟩⟩ (by omega)
    intro j a3 a4 hP
    obtain ⟨hj, rfl, hz0, hpos⟩ := hP
    have e0 : (Int32.ofNat M ≤ 0) = (M ≤ 0) := i32_le_of (b := 0) m0 (by omega)
    by_cases cM : M = 0
    · refine Or.inl fun rec => ?_
      have : a3 = pres (fun p => m (18 + 4 * p + c)) (m (39 + 7 * c)) := PresSpec_one (s := s) (its := m (39 + 7 * c)) ⟨M, m0, m4, Or.inl ⟨cM, hz0 cM⟩⟩ hps
      rw [this, if_pos (show Int32.ofNat M ≤ 0 by rw [e0]; omega)]
      split <;> rfl
    · cases j with
      | zero =>
        refine Or.inl fun rec => ?_
        rw [if_pos (show Int32.ofNat 0 - 1 < 0 by decide)]
        have : a3 = pres (fun p => m (18 + 4 * p + c)) (m (39 + 7 * c)) := by
          refine PresSpec_one (s := s) (its := m (39 + 7 * c)) ⟨M, m0, m4, Or.inr (Or.inr ⟨by omega, hM.resolve_left cM, ?_⟩)⟩ hps
          rcases hpos (by omega) with ⟨_, b⟩ | ⟨p0, b1, b2, b3, b4, b5⟩
          · exfalso
            rcases m3 with m3 | ⟨p, hp, m3⟩
            · exact cM m3
            · have := b p (by omega) hp
              omega
          · exact ⟨p0, by omega, b1, b3, fun j hj => b5 j (by omega) hj⟩
        rw [this]
      | succ j =>
        refine Or.inr ?_
        have hj4 : j < 4 := by omega
        have eq1 : (Int32.ofNat (s j) = Int32.ofNat M) = (s j = M) := i32_eq_of (hsl j hj4) m0
        refine ⟨j, if s j = M then Int32.ofNat j else a3, Int32.ofNat j - 1, by omega, ⟨by omega, rfl, fun q => absurd q cM, fun q => ?_⟩, fun rec => ?_⟩
        · by_cases d : s j = M
          · rw [if_pos d]
            exact Or.inr ⟨j, rfl, by omega, d, Nat.le_refl _, fun p h1 h2 => by omega⟩
          · rw [if_neg d]
            have := m4 j hj4
            rcases hpos q with ⟨b0, b⟩ | ⟨p0, b1, b2, b3, b4, b5⟩
            · refine Or.inl ⟨b0, fun p h1 h2 => ?_⟩
              rcases Nat.lt_or_ge j p with f | f
              · exact b p (by omega) h2
              · rw [show p = j by omega]; omega
            · refine Or.inr ⟨p0, b1, b2, b3, by omega, fun p h1 h2 => ?_⟩
              rcases Nat.lt_or_ge j p with f | f
              · exact b5 p (by omega) h2
              · rw [show p = j by omega]; omega
        · have epred : Int32.ofNat j + -1 = Int32.ofNat j - 1 := by rw [Int32.sub_eq_add_neg]
          rw [i32_pred, if_neg (fun q => in_of hj4 (show 4 < 600 by omega) (Or.inl q)), if_neg (show ¬ Int32.ofNat M ≤ 0 by rw [e0]; omega), mgK, u_shares hj4 hc, hf j hj4]
          simp only [Option.bind_some, zlet, eq1, epred]
          split <;> rfl
  rw [e_X6_presides]
  unfold L_X6_presides_4
  refine zfor2 mm (fun k => zseq (maxSt (fun p => m (18 + 4 * p + c))) 0 k) (fun k => Int32.ofNat k) (fun k hk rec => ?_) (fun rec => ?_) (by omega)
  · simp only [zlet, mgR_0, mN_0, h0, if_neg (i32_ge hk (by omega)), mgK, u_shares (show k < 4 by omega) hc, Option.bind_some, i32_succ]
    rw [show zseq (maxSt (fun p => m (18 + 4 * p + c))) 0 (k + 1) = maxSt (fun p => m (18 + 4 * p + c)) k (zseq (maxSt (fun p => m (18 + 4 * p + c))) 0 k) from rfl]
    unfold maxSt
    split <;> rfl
  · rw [m1]
    have e0 : (Int32.ofNat M = 0) = (M = 0) := i32_eq_of (b := 0) m0 (by omega)
    simp only [zlet, mgR_0, mN_0, h0, if_pos (Int32.le_refl _), mgK, u_of_5 hc, ixc_5, mNs (show 39 + 7 * c < 134 by omega), Option.bind_some]
    show _ = some (mput h (upd m (39 + 7 * c) (pres (fun p => m (18 + 4 * p + c)) (m (39 + 7 * c)))) pp tx w hs)
    by_cases c1 : M = 0
    · rw [if_pos (show Int32.ofNat M = 0 by rw [e0]; exact c1), back _ (Or.inl c1)]
    · rw [if_neg (show ¬ Int32.ofNat M = 0 by rw [e0]; exact c1)]
      rcases hi with hi | ⟨i, hi4, hi⟩
      · rw [if_pos hi, back _ (Or.inr fun i h4 e => absurd (e.symm.trans hi) (hni i h4))]
      · have hne : ¬ m (39 + 7 * c) = -1 := by rw [hi]; exact hni i hi4
        have hu : ∀ j, j < 4 → m (39 + 7 * c) = Int32.ofNat j → j = i := by
          intro j hj e
          rw [hi, i32_eq_of (by omega) (by omega)] at e
          omega
        rw [if_neg hne]
        conv => lhs; rw [hi]
        rw [u_shares hi4 hc, hf i hi4, Option.bind_some]
        have hle : (Int32.ofNat M ≤ Int32.ofNat (s i)) = (M ≤ s i) := i32_le_of m0 (hsl i hi4)
        by_cases c2 : M ≤ s i
        · rw [if_pos (hle ▸ c2)]
          have := m4 i hi4
          have : m (39 + 7 * c) = pres (fun p => m (18 + 4 * p + c)) (m (39 + 7 * c)) := PresSpec_one (s := s) (its := m (39 + 7 * c)) ⟨M, m0, m4, Or.inr (Or.inl ⟨by omega, ⟨i, hi4, hi, by omega⟩, rfl⟩)⟩ hps
          rw [← this, hi]
        · rw [if_neg (fun q => c2 (hle ▸ q))]
          have := back (fun a3 => some (mput h (upd m (39 + 7 * c) a3) pp tx w hs)) (Or.inr fun j hj e => by rw [hu j hj e]; omega)
          rw [hi] at this ⊢
          exact this
def ShOk (g : Row) (mm c : Nat) : Prop := ∃ s : Nat → Nat, (∀ p, p < 4 → g (18 + 4 * p + c) = Int32.ofNat (s p)) ∧ s 0 + s 1 + s 2 + s 3 ≤ 10 ∧ ∀ p, mm ≤ p → p < 4 → s p = 0
def PrOk (g : Row) (mm c : Nat) : Prop := g (39 + 7 * c) = -1 ∨ ∃ i, i < mm ∧ g (39 + 7 * c) = Int32.ofNat i
def StOk (g : Row) (c : Nat) : Prop := ∃ s, s ≤ 11 ∧ g (37 + 7 * c) = Int32.ofNat s
def OpOk (g : Row) (c : Nat) : Prop := (g (34 + 7 * c) = 1 ∧ ∃ home S, CoOk g c home S ∧ 2 ≤ S) ∨ (g (34 + 7 * c) = 0 ∧ g (37 + 7 * c) = 0 ∧ g (39 + 7 * c) = -1 ∧ ∀ p, p < 4 → g (18 + 4 * p + c) = 0)
def CoW (g : Row) (mm : Nat) : Prop := ∀ c, c < 4 → ShOk g mm c ∧ PrOk g mm c ∧ StOk g c ∧ OpOk g c
def OrdW (g : Row) : Prop := ∃ (len pl : Nat) (o : Nat → Nat), len ≤ 4 ∧ pl ≤ len ∧ g 9 = Int32.ofNat len ∧ g 4 = Int32.ofNat pl ∧ (∀ j, j < len → o j < 4 ∧ g (10 + j) = Int32.ofNat (o j)) ∧ (g 3 = 1 → pl < len ∧ (∀ j, pl ≤ j → j < len → g (34 + 7 * o j) = 1) ∧ ∀ i j, pl ≤ i → i < j → j < len → o i ≠ o j)
def LandW (g : Row) : Prop := SymL g ∧ (∀ a b, a < 8 → b < 8 → ∃ l, l ≤ 2 ∧ g (62 + 8 * a + b) = Int32.ofNat l) ∧ (∀ a, a < 8 → g (62 + 8 * a + a) = 0) ∧ ∀ t, t < 8 → ∃ v, v ≤ 90 ∧ g (126 + t) = Int32.ofNat v
def BaseW (g : Row) (mm : Nat) : Prop := 2 ≤ mm ∧ mm ≤ 4 ∧ g 0 = Int32.ofNat mm ∧ (∃ t, t < mm ∧ g 1 = Int32.ofNat t) ∧ (g 3 = 0 ∨ g 3 = 1) ∧ (g 8 = 0 ∨ g 8 = 1) ∧ (g 3 = 0 → ∃ p, p < mm ∧ g 2 = Int32.ofNat p)
def WF (g : Row) (mm : Nat) : Prop := BaseW g mm ∧ OrdW g ∧ CoW g mm ∧ LandW g
theorem PrOk_4 {g : Row} {mm c : Nat} (hm : mm ≤ 4) (h : PrOk g mm c) : g (39 + 7 * c) = -1 ∨ ∃ i, i < 4 ∧ g (39 + 7 * c) = Int32.ofNat i := by
  rcases h with h | ⟨i, hi, h⟩
  · exact Or.inl h
  · exact Or.inr ⟨i, by omega, h⟩
theorem PrOk_pres {g : Row} {mm c : Nat} (hm : mm ≤ 4) (h : PrOk g mm c) : PresOk g c := by
  rcases h with h | ⟨i, hi, h⟩
  · exact Or.inl h
  · exact Or.inr (by rw [h]; exact in_of (by omega) (by omega))
theorem CoW_pa {g : Row} {mm : Nat} (hm : mm ≤ 4) (h : CoW g mm) : PresAll g := fun c hc => PrOk_pres hm (h c hc).2.1
theorem sh_lt {s : Nat → Nat} (h : s 0 + s 1 + s 2 + s 3 ≤ 10) : ∀ p, p < 4 → s p ≤ 10 := by
  intro p hp
  obtain rfl | rfl | rfl | rfl : p = 0 ∨ p = 1 ∨ p = 2 ∨ p = 3 := by omega
  all_goals omega
theorem sh_zero {g : Row} {mm c : Nat} (h : ShOk g mm c) : ∀ p, mm ≤ p → p < 4 → g (18 + 4 * p + c) = 0 := by
  obtain ⟨s, h1, _, h3⟩ := h
  intro p h4 h5
  rw [h1 p h5, h3 p h4 h5]
  rfl
theorem u_presides' {n : Nat} {h : zH} {m pp tx w : Row} {hs : Int64} {mm c : Nat} (hn : 600 ≤ n) (h0 : m 0 = Int32.ofNat mm) (hm : mm ≤ 4) (hc : c < 4) (hsh : ShOk m mm c) (hi : PrOk m mm c) : f_X6_presides n 123 (Int32.ofNat c) (mput h m pp tx w hs) = some (mput h (rPres m c) pp tx w hs) := by
  obtain ⟨s, h1, h2, h3⟩ := hsh
  exact u_presides hn h0 hm hc h1 (fun p hp => by have := sh_lt h2 p hp; omega) h3 (PrOk_4 hm hi)
theorem u_holds {n : Nat} {h : zH} {m pp tx w : Row} {hs : Int64} {mm p c : Nat} {y : Int32} (hn : 600 ≤ n) (h0 : m 0 = Int32.ofNat mm) (hm : mm ≤ 4) (hp : p < 4) (hc : c < 4) (hsh : ShOk (upd m (18 + 4 * p + c) (m (18 + 4 * p + c) + y)) mm c) (hi : PrOk m mm c) : f_X6_holds n 123 (Int32.ofNat p) (Int32.ofNat c) y (mput h m pp tx w hs) = some (mput h (rPres (upd m (18 + 4 * p + c) (m (18 + 4 * p + c) + y)) c) pp tx w hs) := by
  unfold f_X6_holds
  simp only [mgR_0, ixs, mN (show 18 + 4 * p + c < 134 by omega), mNs (show 18 + 4 * p + c < 134 by omega), mgK, Option.bind_some]
  rw [u_presides' (mm := mm) hn (by rw [upd_ne (by omega), h0]) hm hc hsh (by unfold PrOk; rw [upd_ne (by omega)]; exact hi)]
  rfl
theorem upd_comm {g : Row} {i j : Nat} {x y : Int32} (h : i ≠ j) : upd (upd g i x) j y = upd (upd g j y) i x := by
  funext k
  simp only [upd]
  by_cases c : k = j
  · rw [if_pos c, if_neg (by omega), if_pos c]
  · rw [if_neg c, if_neg c]
theorem upd_upd {g : Row} {i : Nat} {x y : Int32} : upd (upd g i x) i y = upd g i y := by
  funext k
  simp only [upd]
  split <;> rfl
theorem upd_self {g : Row} {i : Nat} {x : Int32} (h : g i = x) : upd g i x = g := by
  funext k
  simp only [upd]
  split
  · rename_i c
    rw [c, h]
  · rfl
theorem rFall_rPres {g : Row} {c : Nat} (hc : c < 4) : rFall (rPres g c) c = rPres (rFall g c) c := by
  unfold rFall rPres
  rw [upd_ne (show 37 + 7 * c ≠ 39 + 7 * c by omega)]
  split
  · rfl
  · rw [upd_comm (by omega), upd_ne (show 39 + 7 * c ≠ 37 + 7 * c by omega)]
    congr 2
    congr 1
    funext p
    rw [upd_ne (by omega)]
theorem u_next {n : Nat} {h : zH} {m pp tx w : Row} {hs : Int64} (ho : OrdW m) (h3 : m 3 = 0 ∨ m 3 = 1) : f_X6_next n 123 (mput h m pp tx w hs) = some (nextC m) := by
  unfold f_X6_next nextC
  obtain ⟨len, pl, o, h4, hpl, e9, e4, ho, hop⟩ := ho
  rcases h3 with h3 | h3
  · simp only [mgK, u_isStock, h3, if_true, Option.bind_some, if_neg (show ¬ (1 : Int32) = 0 by decide)]
  · obtain ⟨q1, q2, q3⟩ := hop h3
    have hz : ¬ m 3 = 0 := by rw [h3]; decide
    simp only [mgK, u_isStock, if_neg hz, if_true, Option.bind_some, mgR_0, mN_4, e4, e9, ixo, mN (show 10 + pl < 134 by omega), if_neg (i32_ge q1 (show len < 600 by omega)), nn_of (show pl < 600 by omega)]
theorem u_cheapest {n : Nat} {h : zH} {m pp tx w : Row} {hs : Int64} {mm p : Nat} (hn : 600 ≤ n) (hp : p < 4) (hw : CoW m mm) : f_X6_cheapest n 123 (Int32.ofNat p) (mput h m pp tx w hs) = some (chp m p) := by
  rw [e_X6_cheapest]
  unfold L_X6_cheapest_4 chp
  refine zfor2 4 (fun k => zseq (chStep m p) (-1) k) (fun k => Int32.ofNat k) (fun k hk rec => ?_) (fun rec => ?_) (by omega)
  · rw [show zseq (chStep m p) (-1) (k + 1) = chStep m p k (zseq (chStep m p) (-1) k) from rfl]
    have hs' := chp_ok' (g := m) (p := p) k (by omega)
    generalize zseq (chStep m p) (-1) k = s at hs' ⊢
    simp only [zlet, if_neg (of_eq_false (ge4 hk)), mgK, u_isOpen hk, u_shares hp hk, Option.bind_some, i32_succ]
    unfold chStep
    rcases (hw k hk).2.2.2 with ⟨ho, _⟩ | ⟨ho, _⟩
    · rw [if_pos ho, if_neg (show ¬ (1 : Int32) = 0 by decide), if_neg (show ¬ m (34 + 7 * k) = 0 by rw [ho]; decide)]
      by_cases c1 : m (18 + 4 * p + k) ≤ 0
      · rw [if_pos c1, if_pos c1]
        exact if_pos trivial
      · rw [if_neg c1, if_neg c1, if_neg (show ¬ (1 : Int32) = 0 by decide)]
        by_cases c2 : s = -1
        · rw [if_pos c2, if_pos c2]
        · rw [if_neg c2, if_neg c2]
          obtain ⟨i, hi, rfl⟩ := vp_ex (hs'.resolve_left c2)
          obtain ⟨a, ha, ea⟩ := (hw k hk).2.2.1
          obtain ⟨d, hd, ed⟩ := (hw i hi).2.2.1
          have hcmp : (20 + 10 * m (37 + 7 * i) ≤ 20 + 10 * m (37 + 7 * k)) = (m (37 + 7 * i) ≤ m (37 + 7 * k)) := by
            rw [ea, ed, show (20 : Int32) = Int32.ofNat 20 from rfl, show (10 : Int32) = Int32.ofNat 10 from rfl, i32_mulm, i32_mulm, i32_addn, i32_addn, i32_le_of (by omega) (by omega), i32_le_of (by omega) (by omega)]
            exact propext (by omega)
          simp only [u_price hk, u_price hi, Option.bind_some, hcmp, nn_of (show i < 600 by omega)]
          split <;> rfl
    · rw [if_neg (show ¬ m (34 + 7 * k) = 1 by rw [ho]; decide), if_pos rfl, if_pos ho]
      exact if_pos trivial
  · rw [if_pos (by decide)]
theorem u_closes {n : Nat} {h : zH} {m pp tx w : Row} {hs : Int64} {mm c : Nat} (hn : 600 ≤ n) (h0 : m 0 = Int32.ofNat mm) (hm : mm ≤ 4) (hc : c < 4) (hz : ∀ p, mm ≤ p → p < 4 → m (18 + 4 * p + c) = 0) : f_X6_closes n 123 (Int32.ofNat c) (mput h m pp tx w hs) = some (mput h (rClose m c) pp tx w hs) := by
  rw [e_X6_closes]
  unfold L_X6_closes_2
  refine zfor2 7 (fun k => Int32.ofNat k) (fun k => mput h (zseq (fun k r => upd r (34 + k + 7 * c) (if k = 5 then -1 else 0)) m k) pp tx w hs) (fun k hk rec => ?_) (fun rec => ?_) (by omega)
  · have e5 : (Int32.ofNat k = 5) = (k = 5) := i32_eq_of (b := 5) (by omega) (by omega)
    have e7 : ¬ (7 : Int32) ≤ Int32.ofNat k := i32_ge (N := 7) hk (by omega)
    simp only [zlet, if_neg e7, mgR_0, ixc, mNs (show 34 + k + 7 * c < 134 by omega), e5, Option.bind_some, i32_succ]
    rw [show zseq (fun k r => upd r (34 + k + 7 * c) (if k = 5 then -1 else 0)) m (k + 1) = upd (zseq (fun k r => upd r (34 + k + 7 * c) (if k = 5 then -1 else 0)) m k) (34 + k + 7 * c) (if k = 5 then -1 else 0) from rfl]
    split <;> rfl
  · rw [if_pos (by decide)]
    unfold L_X6_closes_40
    have hfin : zseq (fun p r => upd r (18 + 4 * p + c) 0) (zseq (fun k r => upd r (34 + k + 7 * c) (if k = 5 then -1 else 0)) m 7) mm = rClose m c := by
      funext i
      have h1 := zseq_ok (N := mm) (P := fun k (r : Row) => (∀ p, p < k → i = 18 + 4 * p + c → r i = 0) ∧ ((∀ p, p < k → i ≠ 18 + 4 * p + c) → r i = zseq (fun k r => upd r (34 + k + 7 * c) (if k = 5 then (-1 : Int32) else 0)) m 7 i)) (step := fun p r => upd r (18 + 4 * p + c) 0) (s := zseq (fun k r => upd r (34 + k + 7 * c) (if k = 5 then -1 else 0)) m 7) ⟨fun p hp => by omega, fun _ => rfl⟩ (fun k r hk hr => by
        refine ⟨fun p hp hi => ?_, fun ha => ?_⟩
        · show upd r (18 + 4 * k + c) 0 i = 0
          simp only [upd]
          split
          · rfl
          · exact hr.1 p (by omega) hi
        · show upd r (18 + 4 * k + c) 0 i = _
          rw [upd_ne (ha k (by omega))]
          exact hr.2 fun p hp => ha p (by omega)) mm (Nat.le_refl mm)
      have h2 : ∀ j, j < 34 + 7 * c ∨ 41 + 7 * c ≤ j → zseq (fun k r => upd r (34 + k + 7 * c) (if k = 5 then (-1 : Int32) else 0)) m 7 j = m j := fun j hj => zseq_lt (P := fun r : Row => r j = m j) (N := 7) rfl (fun k s hk hs => by show upd s _ _ j = m j; rw [upd_ne (by omega), hs]) 7 (Nat.le_refl 7)
      by_cases c1 : ∃ p, p < 4 ∧ i = 18 + 4 * p + c
      · obtain ⟨p, hp, rfl⟩ := c1
        have e : rClose m c (18 + 4 * p + c) = 0 := by
          unfold rClose
          rw [upd_ne (by omega), upd_ne (by omega), upd_ne (by omega), upd_ne (by omega), upd_ne (by omega), upd_ne (by omega), upd_ne (by omega), rFill_at ⟨p, hp, rfl⟩]
        rw [e]
        by_cases c2 : p < mm
        · exact h1.1 p c2 rfl
        · rw [h1.2 (fun q hq => by omega), h2 _ (by omega), hz p (by omega) hp]
      · rw [h1.2 (fun p hp e => c1 ⟨p, by omega, e⟩)]
        by_cases c3 : 34 + 7 * c ≤ i ∧ i < 41 + 7 * c
        · obtain ⟨d, hd, rfl⟩ : ∃ d, d < 7 ∧ i = 34 + d + 7 * c := ⟨i - 34 - 7 * c, by omega, by omega⟩
          unfold rClose
          obtain rfl | rfl | rfl | rfl | rfl | rfl | rfl : d = 0 ∨ d = 1 ∨ d = 2 ∨ d = 3 ∨ d = 4 ∨ d = 5 ∨ d = 6 := by omega
          all_goals simp [zseq, upd]
        · rw [h2 i (by omega), rClose_ne c3 (fun p hp e => c1 ⟨p, hp, e⟩)]
    rw [← hfin]
    have hq : ∀ k, k ≤ mm → zseq (fun p r => upd r (18 + 4 * p + c) 0) (zseq (fun k r => upd r (34 + k + 7 * c) (if k = 5 then (-1 : Int32) else 0)) m 7) k 0 = Int32.ofNat mm := by
      intro k hk
      have a1 : zseq (fun k r => upd r (34 + k + 7 * c) (if k = 5 then (-1 : Int32) else 0)) m 7 0 = Int32.ofNat mm := zseq_lt (P := fun r : Row => r 0 = Int32.ofNat mm) (N := 7) h0 (fun k s hk hs => by show upd s _ _ 0 = _; rw [upd_ne (by omega), hs]) 7 (Nat.le_refl 7)
      exact zseq_lt (P := fun r : Row => r 0 = Int32.ofNat mm) (N := mm) a1 (fun k s hk hs => by show upd s _ _ 0 = _; rw [upd_ne (by omega), hs]) k hk
    refine zfor2 mm (fun k => Int32.ofNat k) (fun k => mput h (zseq (fun p r => upd r (18 + 4 * p + c) 0) (zseq (fun k r => upd r (34 + k + 7 * c) (if k = 5 then -1 else 0)) m 7) k) pp tx w hs) (fun k hk rec => ?_) (fun rec => ?_) (by omega)
    · simp only [zlet, mgR_0, mN_0, hq k (by omega), if_neg (i32_ge hk (show mm < 600 by omega)), ixs, mNs (show 18 + 4 * k + c < 134 by omega), Option.bind_some, i32_succ]
      rfl
    · simp only [mgR_0, mN_0, hq mm (Nat.le_refl mm), if_pos (Int32.le_refl _), Option.bind_some]
theorem BaseW_congr {g g' : Row} {mm : Nat} (h : ∀ k, k < 4 ∨ k = 8 → g' k = g k) (hb : BaseW g mm) : BaseW g' mm := by
  unfold BaseW at hb ⊢
  rw [h 0 (by omega), h 1 (by omega), h 2 (by omega), h 3 (by omega), h 8 (by omega)]
  exact hb
theorem OrdW_congr {g g' : Row} (h : ∀ k, k = 3 ∨ k = 4 ∨ (9 ≤ k ∧ k < 14) → g' k = g k) (h2 : ∀ c, c < 4 → g' (34 + 7 * c) = g (34 + 7 * c)) (hb : OrdW g) : OrdW g' := by
  obtain ⟨len, pl, o, h4, hpl, e9, e4, ho, hop⟩ := hb
  refine ⟨len, pl, o, h4, hpl, by rw [h 9 (by omega), e9], by rw [h 4 (by omega), e4], fun j hj => ⟨(ho j hj).1, by rw [h _ (by omega), (ho j hj).2]⟩, fun h3 => ?_⟩
  rw [h 3 (by omega)] at h3
  obtain ⟨q1, q2, q3⟩ := hop h3
  exact ⟨q1, fun j a b => by rw [h2 _ (ho j b).1, q2 j a b], q3⟩
theorem LandW_congr {g g' : Row} (h : ∀ k, 62 ≤ k ∧ k < 134 → g' k = g k) (hb : LandW g) : LandW g' := by
  obtain ⟨h1, h2, h3, h4⟩ := hb
  refine ⟨fun a b ha hb' => by rw [h _ (by omega), h _ (by omega), h1 a b ha hb'], fun a b ha hb' => ?_, fun a ha => by rw [h _ (by omega), h3 a ha], fun t ht => ?_⟩
  · rw [h _ (by omega)]
    exact h2 a b ha hb'
  · rw [h _ (by omega)]
    exact h4 t ht
theorem ShOk_congr {g g' : Row} {mm c : Nat} (h : ∀ p, p < 4 → g' (18 + 4 * p + c) = g (18 + 4 * p + c)) (hb : ShOk g mm c) : ShOk g' mm c := by
  obtain ⟨s, h1, h2, h3⟩ := hb
  exact ⟨s, fun p hp => by rw [h p hp, h1 p hp], h2, h3⟩
theorem PrOk_congr {g g' : Row} {mm c : Nat} (h : g' (39 + 7 * c) = g (39 + 7 * c)) (hb : PrOk g mm c) : PrOk g' mm c := by
  unfold PrOk at hb ⊢
  rw [h]
  exact hb
theorem StOk_congr {g g' : Row} {c : Nat} (h : g' (37 + 7 * c) = g (37 + 7 * c)) (hb : StOk g c) : StOk g' c := by
  unfold StOk at hb ⊢
  rw [h]
  exact hb
theorem CoOk_congr {g g' : Row} {c home S : Nat} (h1 : g' (35 + 7 * c) = g (35 + 7 * c)) (h2 : g' (38 + 7 * c) = g (38 + 7 * c)) (hb : CoOk g c home S) : CoOk g' c home S := by
  unfold CoOk at hb ⊢
  rw [h1, h2]
  exact hb
theorem OpOk_congr {g g' : Row} {c : Nat} (h0 : g' (34 + 7 * c) = g (34 + 7 * c)) (h1 : g' (35 + 7 * c) = g (35 + 7 * c)) (h2 : g' (38 + 7 * c) = g (38 + 7 * c)) (h3 : g' (37 + 7 * c) = g (37 + 7 * c)) (h4 : g' (39 + 7 * c) = g (39 + 7 * c)) (h5 : ∀ p, p < 4 → g' (18 + 4 * p + c) = g (18 + 4 * p + c)) (hb : OpOk g c) : OpOk g' c := by
  rcases hb with ⟨a, home, S, b, d⟩ | ⟨a, b, d, e⟩
  · exact Or.inl ⟨by rw [h0, a], home, S, CoOk_congr h1 h2 b, d⟩
  · exact Or.inr ⟨by rw [h0, a], by rw [h3, b], by rw [h4, d], fun p hp => by rw [h5 p hp, e p hp]⟩
theorem OpOk_open {g g' : Row} {c : Nat} (ho : g (34 + 7 * c) = 1) (h0 : g' (34 + 7 * c) = g (34 + 7 * c)) (h1 : g' (35 + 7 * c) = g (35 + 7 * c)) (h2 : g' (38 + 7 * c) = g (38 + 7 * c)) (hb : OpOk g c) : OpOk g' c := by
  rcases hb with ⟨a, home, S, b, d⟩ | ⟨a, _⟩
  · exact Or.inl ⟨by rw [h0, a], home, S, CoOk_congr h1 h2 b, d⟩
  · rw [ho] at a
    exact absurd a (by decide)
theorem Co1_congr {g g' : Row} {mm c : Nat} (h1 : ∀ p, p < 4 → g' (18 + 4 * p + c) = g (18 + 4 * p + c)) (h2 : ∀ k, 34 + 7 * c ≤ k ∧ k < 40 + 7 * c → k ≠ 36 + 7 * c → g' k = g k) (hb : ShOk g mm c ∧ PrOk g mm c ∧ StOk g c ∧ OpOk g c) : ShOk g' mm c ∧ PrOk g' mm c ∧ StOk g' c ∧ OpOk g' c :=
  ⟨ShOk_congr h1 hb.1, PrOk_congr (h2 _ (by omega) (by omega)) hb.2.1, StOk_congr (h2 _ (by omega) (by omega)) hb.2.2.1, OpOk_congr (h2 _ (by omega) (by omega)) (h2 _ (by omega) (by omega)) (h2 _ (by omega) (by omega)) (h2 _ (by omega) (by omega)) (h2 _ (by omega) (by omega)) h1 hb.2.2.2⟩
theorem sum4_upd {s : Nat → Nat} {p v : Nat} (hp : p < 4) : (if 0 = p then v else s 0) + (if 1 = p then v else s 1) + (if 2 = p then v else s 2) + (if 3 = p then v else s 3) + s p = s 0 + s 1 + s 2 + s 3 + v := by
  obtain rfl | rfl | rfl | rfl : p = 0 ∨ p = 1 ∨ p = 2 ∨ p = 3 := by omega
  all_goals simp
  all_goals omega
theorem ofNat_inj {a b : Nat} (ha : a < 2147483648) (hb : b < 2147483648) (h : Int32.ofNat a = Int32.ofNat b) : a = b := by
  have e := congrArg Int32.toInt h
  rw [Int32.toInt_ofNat_of_lt (by omega), Int32.toInt_ofNat_of_lt (by omega)] at e
  omega
theorem ShOk_upd {g : Row} {mm c p a v : Nat} (hp : p < mm) (hm : mm ≤ 4) (ha : g (18 + 4 * p + c) = Int32.ofNat a) (ha2 : a < 600) (hv : v ≤ a) (hb : ShOk g mm c) : ShOk (upd g (18 + 4 * p + c) (Int32.ofNat v)) mm c := by
  obtain ⟨s, h1, h2, h3⟩ := hb
  have e : a = s p := ofNat_inj (by omega) (by have := sh_lt h2 p (by omega); omega) (by rw [← ha, h1 p (by omega)])
  have hs := sum4_upd (s := s) (p := p) (v := v) (by omega)
  refine ⟨fun q => if q = p then v else s q, fun q hq => ?_, ?_, fun q h4 h5 => ?_⟩
  · show upd g (18 + 4 * p + c) (Int32.ofNat v) (18 + 4 * q + c) = Int32.ofNat (if q = p then v else s q)
    by_cases d : q = p
    · rw [d, upd_eq, if_pos rfl]
    · rw [upd_ne (by omega), if_neg d, h1 q hq]
  · show (if 0 = p then v else s 0) + (if 1 = p then v else s 1) + (if 2 = p then v else s 2) + (if 3 = p then v else s 3) ≤ 10
    omega
  · show (if q = p then v else s q) = 0
    rw [if_neg (by omega)]
    exact h3 q h4 h5
theorem ShOk_inc {g : Row} {mm c p : Nat} {s : Nat → Nat} {v : Nat} (hp : p < mm) (hm : mm ≤ 4) (h1 : ∀ p, p < 4 → g (18 + 4 * p + c) = Int32.ofNat (s p)) (h2 : s 0 + s 1 + s 2 + s 3 + v ≤ 10 + s p) (h3 : ∀ p, mm ≤ p → p < 4 → s p = 0) : ShOk (upd g (18 + 4 * p + c) (Int32.ofNat v)) mm c := by
  have hs := sum4_upd (s := s) (p := p) (v := v) (by omega)
  refine ⟨fun q => if q = p then v else s q, fun q hq => ?_, ?_, fun q h4 h5 => ?_⟩
  · show upd g (18 + 4 * p + c) (Int32.ofNat v) (18 + 4 * q + c) = Int32.ofNat (if q = p then v else s q)
    by_cases d : q = p
    · rw [d, upd_eq, if_pos rfl]
    · rw [upd_ne (by omega), if_neg d, h1 q hq]
  · show (if 0 = p then v else s 0) + (if 1 = p then v else s 1) + (if 2 = p then v else s 2) + (if 3 = p then v else s 3) ≤ 10
    omega
  · show (if q = p then v else s q) = 0
    rw [if_neg (by omega)]
    exact h3 q h4 h5
theorem bank_eq {f : Row} {s : Nat → Nat} (h1 : ∀ p, p < 4 → f p = Int32.ofNat (s p)) (h2 : s 0 + s 1 + s 2 + s 3 ≤ 10) : bank f = Int32.ofNat (10 - (s 0 + s 1 + s 2 + s 3)) := by
  show (10 : Int32) - f 0 - f 1 - f 2 - f 3 = _
  rw [h1 0 (by omega), h1 1 (by omega), h1 2 (by omega), h1 3 (by omega), show (10 : Int32) = Int32.ofNat 10 from rfl, i32_subm (by omega), i32_subm (by omega), i32_subm (by omega), i32_subm (by omega)]
  exact congrArg _ (by omega)
theorem exch_eq {f : Row} {s : Nat → Nat} (h1 : ∀ p, p < 4 → f p = Int32.ofNat (s p)) (h2 : ∀ p, p < 4 → s p ≤ 10) : exch f = Int32.ofNat (s 0 / 2 + s 1 / 2 + s 2 / 2 + s 3 / 2) := by
  have half : ∀ k, k ≤ 10 → Int32.ofNat k / 2 = Int32.ofNat (k / 2) := by decide
  show (0 : Int32) + f 0 / 2 + f 1 / 2 + f 2 / 2 + f 3 / 2 = _
  rw [h1 0 (by omega), h1 1 (by omega), h1 2 (by omega), h1 3 (by omega), half _ (h2 0 (by omega)), half _ (h2 1 (by omega)), half _ (h2 2 (by omega)), half _ (h2 3 (by omega)), Int32.zero_add, i32_addn, i32_addn, i32_addn]
theorem pres_mm {g : Row} {mm c : Nat} (hm : mm ≤ 4) (hs : ShOk g mm c) (hp : PrOk g mm c) : PrOk (rPres g c) mm c := by
  obtain ⟨s, h1, h2, h3⟩ := hs
  obtain ⟨M, a1, a2, a3⟩ := pres_spec (f := fun p => g (18 + 4 * p + c)) (its := g (39 + 7 * c)) h1 (fun p hp => by have := sh_lt h2 p hp; omega) (PrOk_4 hm hp)
  unfold PrOk rPres
  rw [upd_eq]
  rcases a3 with ⟨_, e⟩ | ⟨_, _, e⟩ | ⟨b, _, p, hp4, e, sp, _⟩
  · exact Or.inl e
  · rw [e]
    exact hp
  · refine Or.inr ⟨p, ?_, e⟩
    rcases Nat.lt_or_ge p mm with q | q
    · exact q
    · have := h3 p q hp4
      omega
theorem rSell_ne {g : Row} {p c i : Nat} {s : Int32} (h1 : i ≠ 14 + p) (h2 : i ≠ 6) (h3 : i ≠ 18 + 4 * p + c) (h4 : i ≠ 37 + 7 * c) (h5 : i ≠ 39 + 7 * c) : rSell g p c s i = g i := by
  unfold rSell
  rw [rPres_ne h5, rFall_ne h4, upd_ne h3, rPay_ne h1 h2]
theorem StOk_fall {g : Row} {c : Nat} (h : StOk g c) : StOk (rFall g c) c := by
  obtain ⟨s, hs, e⟩ := h
  unfold rFall StOk
  split
  · exact ⟨s, hs, e⟩
  · rename_i d
    rw [upd_eq, e]
    cases s with
    | zero =>
      rw [e] at d
      exact absurd (show Int32.ofNat 0 ≤ 0 by decide) d
    | succ k => exact ⟨k, by omega, i32_pred k⟩
theorem StOk_rise {g : Row} {c : Nat} (h : StOk g c) : StOk (rRise g c) c := by
  obtain ⟨s, hs, e⟩ := h
  unfold rRise StOk
  split
  · exact ⟨s, hs, e⟩
  · rename_i d
    rw [upd_eq, e, i32_succ]
    refine ⟨s + 1, ?_, rfl⟩
    rcases Nat.lt_or_ge s 11 with q | q
    · omega
    · exfalso
      refine d ?_
      rw [e, show s = 11 by omega]
      decide
theorem rSell_co {g : Row} {mm p c a k : Nat} (hm : mm ≤ 4) (hp : p < mm) (hc : c < 4) (hw : CoW g mm) (ho : g (34 + 7 * c) = 1) (ha : g (18 + 4 * p + c) = Int32.ofNat a) (ha2 : a < 600) (hk : k ≤ a) : CoW (rSell g p c (Int32.ofNat k)) mm := by
  intro d hd
  by_cases e : d = c
  · subst e
    have h0 := hw d hd
    have s1 : ShOk (rFall (upd (rPay g p (-Int32.ofNat k * (20 + 10 * g (37 + 7 * d)))) (18 + 4 * p + d) (g (18 + 4 * p + d) - Int32.ofNat k)) d) mm d := by
      refine ShOk_congr (g := upd (rPay g p (-Int32.ofNat k * (20 + 10 * g (37 + 7 * d)))) (18 + 4 * p + d) (Int32.ofNat (a - k))) (fun q hq => by rw [rFall_ne (by omega), ha, i32_subm hk]) ?_
      exact ShOk_upd hp hm (by rw [rPay_ne (by omega) (by omega), ha]) ha2 (by omega) (ShOk_congr (fun q hq => rPay_ne (by omega) (by omega)) h0.1)
    have p1 : PrOk (rFall (upd (rPay g p (-Int32.ofNat k * (20 + 10 * g (37 + 7 * d)))) (18 + 4 * p + d) (g (18 + 4 * p + d) - Int32.ofNat k)) d) mm d := PrOk_congr (by rw [rFall_ne (by omega), upd_ne (by omega), rPay_ne (by omega) (by omega)]) h0.2.1
    refine ⟨?_, ?_, ?_, OpOk_open ho (rSell_ne (by omega) (by omega) (by omega) (by omega) (by omega)) (rSell_ne (by omega) (by omega) (by omega) (by omega) (by omega)) (rSell_ne (by omega) (by omega) (by omega) (by omega) (by omega)) h0.2.2.2⟩
    · unfold rSell
      exact ShOk_congr (fun q hq => rPres_ne (by omega)) s1
    · unfold rSell
      exact pres_mm hm s1 p1
    · unfold rSell
      exact StOk_congr (rPres_ne (by omega)) (StOk_fall (StOk_congr (g := g) (by rw [upd_ne (by omega), rPay_ne (by omega) (by omega)]) h0.2.2.1))
  · exact Co1_congr (fun q hq => rSell_ne (by omega) (by omega) (by omega) (by omega) (by omega)) (fun k h1 h2 => rSell_ne (by omega) (by omega) (by omega) (by omega) (by omega)) (hw d hd)
theorem chp_spec {g : Row} {p : Nat} : chp g p = -1 ∨ ∃ i, i < 4 ∧ chp g p = Int32.ofNat i ∧ ¬ g (34 + 7 * i) = 0 ∧ ¬ g (18 + 4 * p + i) ≤ 0 := by
  unfold chp
  refine zseq_lt (N := 4) (P := fun s : Int32 => s = -1 ∨ ∃ i, i < 4 ∧ s = Int32.ofNat i ∧ ¬ g (34 + 7 * i) = 0 ∧ ¬ g (18 + 4 * p + i) ≤ 0) (Or.inl rfl) (fun k s hk hs => ?_) 4 (by omega)
  unfold chStep
  split
  · exact hs
  · split
    · exact hs
    · rename_i c1 c2
      have new : Int32.ofNat k = -1 ∨ ∃ i, i < 4 ∧ Int32.ofNat k = Int32.ofNat i ∧ ¬ g (34 + 7 * i) = 0 ∧ ¬ g (18 + 4 * p + i) ≤ 0 := Or.inr ⟨k, hk, rfl, c1, c2⟩
      split
      · exact new
      · split
        · exact hs
        · exact new
theorem u_sale {n : Nat} {h : zH} {m pp tx w : Row} {hs : Int64} {mm p c k a : Nat} {x y d : Int32} {β : Type} (K : zH → Option β) (hn : 600 ≤ n) (h0 : m 0 = Int32.ofNat mm) (hm : mm ≤ 4) (hp : p < mm) (hc : c < 4) (hw : CoW m mm) (ho : m (34 + 7 * c) = 1) (ha : m (18 + 4 * p + c) = Int32.ofNat a) (ha2 : a < 600) (hk : k ≤ a) (hx : x = -Int32.ofNat k * (20 + 10 * m (37 + 7 * c))) (hy : y = -Int32.ofNat k) (hd : d = -1) : ((f_X6_pays n 123 (Int32.ofNat p) x (mput h m pp tx w hs)).bind fun h61 => zrc h61 123 6 <| (f_X6_holds n 123 (Int32.ofNat p) (Int32.ofNat c) y h61).bind fun h69 => zrc h69 123 6 <| (f_X6_shifts n 123 (Int32.ofNat c) d h69).bind K) = K (mput h (rSell m p c (Int32.ofNat k)) pp tx w hs) := by
  have h1 := hw c hc
  have hadd : ∀ z : Int32, z + y = z - Int32.ofNat k := fun z => by rw [hy, Int32.sub_eq_add_neg]
  rw [u_pays (show p < 4 by omega), Option.bind_some, mgK]
  have s1 : ShOk (upd (rPay m p x) (18 + 4 * p + c) (rPay m p x (18 + 4 * p + c) + y)) mm c := by
    rw [rPay_ne (by omega) (by omega), hadd, ha, i32_subm hk]
    exact ShOk_upd hp hm (by rw [rPay_ne (by omega) (by omega), ha]) ha2 (by omega) (ShOk_congr (fun q hq => rPay_ne (by omega) (by omega)) h1.1)
  rw [u_holds (mm := mm) hn (by rw [rPay_ne (by omega) (by omega), h0]) hm (by omega) hc s1 (PrOk_congr (rPay_ne (by omega) (by omega)) h1.2.1), Option.bind_some, mgK]
  obtain ⟨st, hst, est⟩ := h1.2.2.1
  rw [hd, u_shift_dn (s := st) hc hst (by rw [rPres_ne (by omega), upd_ne (by omega), rPay_ne (by omega) (by omega), est]), Option.bind_some, rFall_rPres hc]
  unfold rSell
  rw [rPay_ne (by omega) (by omega), hadd, hx]
theorem u_isPaid {n : Nat} {h : zH} {m pp tx w : Row} {hs : Int64} {mm c p : Nat} {due : Int32} (hn : 600 ≤ n) (h0 : m 0 = Int32.ofNat mm) (hm : mm ≤ 4) (hc : c < 4) (hp : p < mm) (hw : CoW m mm) (hpr : m (39 + 7 * c) = Int32.ofNat p) (hd : ¬ due = 0) : f_X6_isPaid n 123 (Int32.ofNat c) due (mput h m pp tx w hs) = some (if zmin due (rRest p due 40 m (14 + p)) = due then 1 else 0, mput h (rPay (rRest p due 40 m) p (zmin due (rRest p due 40 m (14 + p)))) pp tx w hs) := by
  have hne : ¬ Int32.ofNat p = -1 := by
    intro e
    have := in_of (show p < 4 by omega) (show 4 < 600 by omega)
    rw [e] at this
    exact this (Or.inl (by decide))
  rw [e_X6_isPaid]
  simp only [mgK, u_of_5 hc, zlet, if_neg hd, hpr, if_neg hne, u_cheapest hn (show p < 4 by omega) hw, Option.bind_some]
  have fin : ∀ m, ((zgR (mput h m pp tx w hs) 123 6 0).bind fun (v90 : Nat) => (zai (mput h m pp tx w hs) v90 ((14 : Int32) + Int32.ofNat p)).bind fun (v97 : Int32) => zlet (fun (s0_115 : Int32) => zrc (mput h m pp tx w hs) 123 6 <| (f_X6_pays n 123 (Int32.ofNat p) s0_115 (mput h m pp tx w hs)).bind fun (h121 : zH) => if s0_115 = due then (some ((1 : Int32), h121)) else (some ((0 : Int32), h121))) fun K115 => if due ≤ v97 then (K115 due) else ((zgR (mput h m pp tx w hs) 123 6 0).bind fun (v103 : Nat) => (zai (mput h m pp tx w hs) v103 ((14 : Int32) + Int32.ofNat p)).bind fun (v110 : Int32) => K115 v110)) = some (if zmin due (m (14 + p)) = due then 1 else 0, mput h (rPay m p (zmin due (m (14 + p)))) pp tx w hs) := by
    intro m
    simp only [mgR_0, ixm, mN (show 14 + p < 134 by omega), zlet, mgK, u_pays (show p < 4 by omega), Option.bind_some]
    unfold zmin
    by_cases c1 : due ≤ m (14 + p)
    · rw [if_pos c1, if_pos trivial, if_neg (Int32.not_lt.mpr c1), if_pos rfl]
    · rw [if_neg c1, if_pos (Int32.not_le.mp c1)]
      split <;> rfl
  unfold L_X6_isPaid_33
  have tot : ∃ a : Nat → Nat, (∀ c, c < 4 → m (18 + 4 * p + c) = Int32.ofNat (a c) ∧ a c ≤ 10) := by
    have : ∀ c, ∃ a : Nat, c < 4 → m (18 + 4 * p + c) = Int32.ofNat a ∧ a ≤ 10 := by
      intro c
      by_cases hc : c < 4
      · obtain ⟨s, h1, h2, _⟩ := (hw c hc).1
        exact ⟨s p, fun _ => ⟨h1 p (by omega), sh_lt h2 p (by omega)⟩⟩
      · exact ⟨0, fun d => absurd d hc⟩
    exact ⟨fun c => Classical.choose (this c), fun c hc => Classical.choose_spec (this c) hc⟩
  obtain ⟨a, ha⟩ := tot
  refine zind2 (fun j a4 h33 r => ∃ (m : Row) (a : Nat → Nat), m 0 = Int32.ofNat mm ∧ CoW m mm ∧ (∀ c, c < 4 → m (18 + 4 * p + c) = Int32.ofNat (a c) ∧ a c ≤ 10) ∧ a 0 + a 1 + a 2 + a 3 ≤ j ∧ a4 = chp m p ∧ h33 = mput h m pp tx w hs ∧ r = some (if zmin due (rRest p due j m (14 + p)) = due then (1 : Int32) else 0, mput h (rPay (rRest p due j m) p (zmin due (rRest p due j m (14 + p)))) pp tx w hs)) ?_ n 40 _ _ _ ⟨m, a, h0, hw, ha, by have := (ha 0 (by omega)).2; have := (ha 1 (by omega)).2; have := (ha 2 (by omega)).2; have := (ha 3 (by omega)).2; omega, rfl, rfl, rfl⟩ (by omega)
  intro j a4 h33 r hP
  obtain ⟨m, a, h0, hw, ha, hj, rfl, rfl, rfl⟩ := hP
  have e1 : rRest p due 0 m = m := rfl
  have e2 : due ≤ m (14 + p) → rRest p due j m = m := by
    intro q
    cases j with
    | zero => rfl
    | succ j => unfold rRest; rw [if_pos q]
  have e3 : chp m p = -1 → rRest p due j m = m := by
    intro q
    cases j with
    | zero => rfl
    | succ j =>
      unfold rRest
      rw [if_pos q]
      split <;> rfl
  by_cases c1 : due ≤ m (14 + p)
  · refine Or.inl fun rec => ?_
    rw [e2 c1]
    have f := fin m
    simp only [zlet, mgR_0, ixm, mN (show 14 + p < 134 by omega), Option.bind_some, if_pos c1] at f ⊢
    exact f
  · rcases chp_spec (g := m) (p := p) with c2 | ⟨i, hi, ei, oi, si⟩
    · refine Or.inl fun rec => ?_
      rw [e3 c2]
      have f := fin m
      simp only [zlet, mgR_0, ixm, mN (show 14 + p < 134 by omega), Option.bind_some, if_neg c1, c2, if_true] at f ⊢
      exact f
    · have hai := ha i hi
      have hpos : 1 ≤ a i := by
        refine Decidable.byContradiction fun d => si ?_
        rw [hai.1, show a i = 0 by omega]
        decide
      have ho : m (34 + 7 * i) = 1 := by
        rcases (hw i hi).2.2.2 with ⟨d, _⟩ | ⟨d, _⟩
        · exact d
        · exact absurd d oi
      have hjpos : 1 ≤ j := by
        obtain rfl | rfl | rfl | rfl : i = 0 ∨ i = 1 ∨ i = 2 ∨ i = 3 := by omega
        all_goals omega
      obtain ⟨j, rfl⟩ : ∃ j', j = j' + 1 := ⟨j - 1, by omega⟩
      have hne2 : ¬ chp m p = -1 := by
        intro e
        rw [ei] at e
        have := in_of hi (show 4 < 600 by omega)
        rw [e] at this
        exact this (Or.inl (by decide))
      have eR : rRest p due (j + 1) m = rRest p due j (rSell m p i (Int32.ofNat 1)) := by
        conv => lhs; unfold rRest
        rw [if_neg c1, if_neg hne2, ei, nn_of (by omega)]
        rfl
      have hw1 := rSell_co (k := 1) hm hp hi hw ho hai.1 (by omega) hpos
      refine Or.inr ⟨j, chp (rSell m p i (Int32.ofNat 1)) p, mput h (rSell m p i (Int32.ofNat 1)) pp tx w hs, by omega, ⟨_, fun q => if q = i then a i - 1 else a q, by rw [rSell_ne (by omega) (by omega) (by omega) (by omega) (by omega), h0], hw1, fun q hq => ?_, ?_, rfl, rfl, by rw [eR]⟩, fun rec => ?_⟩
      · show rSell m p i (Int32.ofNat 1) (18 + 4 * p + q) = Int32.ofNat (if q = i then a i - 1 else a q) ∧ (if q = i then a i - 1 else a q) ≤ 10
        by_cases d : q = i
        · rw [d, if_pos rfl]
          refine ⟨?_, by omega⟩
          unfold rSell
          rw [rPres_ne (by omega), rFall_ne (by omega), upd_eq, hai.1, i32_subm hpos]
        · rw [if_neg d, rSell_ne (by omega) (by omega) (by omega) (by omega) (by omega)]
          exact ha q hq
      · have := sum4_upd (s := a) (p := i) (v := a i - 1) hi
        show (if 0 = i then a i - 1 else a 0) + (if 1 = i then a i - 1 else a 1) + (if 2 = i then a i - 1 else a 2) + (if 3 = i then a i - 1 else a 3) ≤ j
        omega
      · have sale := u_sale (n := n) (h := h) (pp := pp) (tx := tx) (w := w) (hs := hs) (x := -(20 + 10 * m (37 + 7 * i))) (y := -1) (d := -1) (fun h76 => zrc h76 123 6 <| (f_X6_cheapest n 123 (Int32.ofNat p) h76).bind fun (r81 : Int32) => rec r81 h76) hn h0 hm hp hi hw ho hai.1 (by omega) hpos (by rw [show Int32.ofNat 1 = 1 from rfl, Int32.neg_mul, Int32.one_mul]) (by rfl) rfl
        rw [mgR_0, Option.bind_some, ixm, mN (show 14 + p < 134 by omega), Option.bind_some]
        show (if due ≤ m (14 + p) then _ else if chp m p = -1 then _ else _) = _
        rw [if_neg c1, if_neg hne2, ei, mgK, u_price hi, Option.bind_some, mgK, sale, mgK, u_cheapest hn (by omega) hw1, Option.bind_some]
def sumTo : Nat → (Nat → Nat) → Nat
  | 0, _ => 0
  | k + 1, f => sumTo k f + f k
theorem sumTo_congr {f f' : Nat → Nat} : ∀ k, (∀ d, d < k → f d = f' d) → sumTo k f = sumTo k f'
  | 0, _ => rfl
  | k + 1, h => by
    unfold sumTo
    rw [sumTo_congr k (fun d hd => h d (by omega)), h k (by omega)]
theorem sumTo_le {f f' : Nat → Nat} : ∀ k, (∀ d, d < k → f d ≤ f' d) → sumTo k f ≤ sumTo k f'
  | 0, _ => Nat.le_refl _
  | k + 1, h => by
    unfold sumTo
    have := sumTo_le k (fun d hd => h d (by omega))
    have := h k (by omega)
    omega
def ahead (st : Nat → Nat) (d c : Nat) : Bool := decide (st c < st d ∨ (st c = st d ∧ d < c))
def placeN (op : Nat → Bool) (st : Nat → Nat) (k c : Nat) : Nat := sumTo k (fun d => if d ≠ c ∧ op d = true ∧ ahead st d c = true then 1 else 0)
def OrdInv (op : Nat → Bool) (st : Nat → Nat) (k len : Nat) (r : Row) : Prop := r 9 = Int32.ofNat len ∧ len ≤ k ∧ (∀ c, c < k → op c = true → placeN op st k c < len ∧ r (10 + placeN op st k c) = Int32.ofNat c) ∧ (∀ p, p ≤ len → sumTo k (fun d => if op d = true ∧ placeN op st k d < p then 1 else 0) = p) ∧ (∀ c d, c < k → d < k → op c = true → op d = true → placeN op st k c < placeN op st k d → st d ≤ st c) ∧ (∀ j, j < len → ∃ c, c < k ∧ op c = true ∧ placeN op st k c = j)
theorem placeN_skip {op : Nat → Bool} {st : Nat → Nat} {k c : Nat} (h : op k = false) : placeN op st (k + 1) c = placeN op st k c := by
  show sumTo k _ + (if k ≠ c ∧ op k = true ∧ ahead st k c = true then 1 else 0) = _
  rw [if_neg (fun q => by rw [h] at q; exact absurd q.2.1 (by decide))]
  rfl
theorem OrdInv_skip {op : Nat → Bool} {st : Nat → Nat} {k len : Nat} {r : Row} (h : op k = false) (hi : OrdInv op st k len r) : OrdInv op st (k + 1) len r := by
  obtain ⟨h1, h2, h3, h4, h5, h6⟩ := hi
  have lt : ∀ c, c < k + 1 → op c = true → c < k := by
    intro c hc ho
    rcases Nat.lt_or_ge c k with e | e
    · exact e
    · rw [show c = k by omega, h] at ho
      exact absurd ho (by decide)
  refine ⟨h1, by omega, fun c hc ho => ?_, fun p hp => ?_, fun c d hc hd oc od hl => ?_, fun j hj => ?_⟩
  · rw [placeN_skip h]
    exact h3 c (lt c hc ho) ho
  · show sumTo k _ + (if op k = true ∧ placeN op st (k + 1) k < p then 1 else 0) = p
    rw [if_neg (fun q => by rw [h] at q; exact absurd q.1 (by decide))]
    rw [sumTo_congr k (f' := fun d => if op d = true ∧ placeN op st k d < p then 1 else 0) (fun d hd => by rw [placeN_skip h])]
    exact h4 p hp
  · rw [placeN_skip h, placeN_skip h] at hl
    exact h5 c d (lt c hc oc) (lt d hd od) oc od hl
  · obtain ⟨c, hc, ho, e⟩ := h6 j hj
    exact ⟨c, by omega, ho, by rw [placeN_skip h, e]⟩
theorem OrdInv_ins {op : Nat → Bool} {st : Nat → Nat} {k len : Nat} {r : Row} (hk : k < 4) (h : op k = true) (hst : ∀ c, c < 4 → r (37 + 7 * c) = Int32.ofNat (st c) ∧ st c < 600) (hi : OrdInv op st k len r) : OrdInv op st (k + 1) (len + 1) (rIns r (Int32.ofNat k) len) := by
  obtain ⟨h1, h2, h3, h4, h5, h6⟩ := hi
  have hq := insAt_le (g := r) (c := k) len
  have hgt := insAt_gt (g := r) (c := k) len
  have hat := insAt_at (g := r) (c := k) len
  have hord := fun j (hj : j ≤ len) => rIns_ord (g := r) (c := Int32.ofNat k) (len := len) (j := j) hj
  have hlen := rIns_len (g := r) (c := Int32.ofNat k) h1
  rw [nn_of (show k < 600 by omega)] at hord
  generalize insAt r k len = p at hq hgt hat hord
  have so : ∀ c, c < k → op c = true → stepOf r (placeN op st k c) = Int32.ofNat (st c) := by
    intro c hc ho
    unfold stepOf
    rw [(h3 c hc ho).2, nn_of (by omega), (hst c (by omega)).1]
  have key : ∀ c, c < k → op c = true → (st k ≤ st c ↔ placeN op st k c < p) := by
    intro c hc ho
    have hle : (r (37 + 7 * k) ≤ stepOf r (placeN op st k c)) = (st k ≤ st c) := by
      rw [so c hc ho, (hst k hk).1]
      exact i32_le_of (hst k hk).2 (hst c (by omega)).2
    constructor
    · intro q
      rcases Nat.lt_or_ge (placeN op st k c) p with e | e
      · exact e
      · exact absurd (hle ▸ q) (hgt _ e (h3 c hc ho).1)
    · intro q
      obtain ⟨j, hj⟩ : ∃ j, p = j + 1 := ⟨p - 1, by omega⟩
      have a := hat j hj
      obtain ⟨d, hd, od, ed⟩ := h6 j (by omega)
      rw [← ed, so d hd od, (hst k hk).1, i32_le_of (hst k hk).2 (hst d (by omega)).2] at a
      rcases Nat.lt_or_ge (placeN op st k c) (placeN op st k d) with e | e
      · have := h5 c d hc hd ho od e
        omega
      · have e2 : placeN op st k c = placeN op st k d := by omega
        have e3 := (h3 c hc ho).2
        rw [e2, (h3 d hd od).2] at e3
        have : d = c := by rw [i32_eq_of (by omega) (by omega)] at e3; exact e3
        rw [← this]
        exact a
  have pc : ∀ c, c < k → op c = true → placeN op st (k + 1) c = if placeN op st k c < p then placeN op st k c else placeN op st k c + 1 := by
    intro c hc ho
    show sumTo k _ + (if k ≠ c ∧ op k = true ∧ ahead st k c = true then 1 else 0) = _
    by_cases q : placeN op st k c < p
    · rw [if_pos q, if_neg]
      · rfl
      · rintro ⟨_, _, a⟩
        have := (key c hc ho).mpr q
        unfold ahead at a
        have a' := of_decide_eq_true a
        omega
    · rw [if_neg q, if_pos]
      · rfl
      · refine ⟨by omega, h, decide_eq_true ?_⟩
        have : ¬ st k ≤ st c := fun e => q ((key c hc ho).mp e)
        omega
  have pk : placeN op st (k + 1) k = p := by
    show sumTo k _ + (if k ≠ k ∧ op k = true ∧ ahead st k k = true then 1 else 0) = p
    rw [if_neg (fun q => q.1 rfl), Nat.add_zero]
    rw [sumTo_congr k (f' := fun d => if op d = true ∧ placeN op st k d < p then 1 else 0) (fun d hd => ?_)]
    · exact h4 p hq
    · by_cases ho : op d = true
      · by_cases q : placeN op st k d < p
        · have := (key d hd ho).mpr q
          rw [if_pos ⟨by omega, ho, decide_eq_true (by omega)⟩, if_pos ⟨ho, q⟩]
        · have : ¬ st k ≤ st d := fun e => q ((key d hd ho).mp e)
          rw [if_neg, if_neg (fun e => q e.2)]
          intro x
          have a' := of_decide_eq_true x.2.2
          omega
      · rw [if_neg (fun e => ho e.2.1), if_neg (fun e => ho e.1)]
  refine ⟨hlen, by omega, fun c hc ho => ?_, fun p' hp' => ?_, fun c d hc hd oc od hl => ?_, fun j hj => ?_⟩
  · rcases Nat.lt_or_ge c k with e | e
    · have a := h3 c e ho
      rw [pc c e ho]
      by_cases q : placeN op st k c < p
      · rw [if_pos q]
        refine ⟨by omega, ?_⟩
        rw [hord _ (by omega), if_pos q, a.2]
      · rw [if_neg q]
        refine ⟨by omega, ?_⟩
        rw [hord _ (by omega), if_neg (by omega), if_neg (by omega), Nat.add_sub_cancel, a.2]
    · have : c = k := by omega
      subst this
      rw [pk]
      refine ⟨by omega, ?_⟩
      rw [hord _ hq, if_neg (by omega), if_pos rfl]
  · show sumTo k _ + (if op k = true ∧ placeN op st (k + 1) k < p' then 1 else 0) = p'
    rw [pk]
    rcases Nat.lt_or_ge p p' with e | e
    · rw [if_pos ⟨h, e⟩]
      rw [sumTo_congr k (f' := fun d => if op d = true ∧ placeN op st k d < p' - 1 then 1 else 0) (fun d hd => ?_)]
      · rw [h4 (p' - 1) (by omega)]
        omega
      · by_cases ho : op d = true
        · rw [pc d hd ho]
          by_cases q : placeN op st k d < p
          · rw [if_pos q, if_pos ⟨ho, by omega⟩, if_pos ⟨ho, by omega⟩]
          · rw [if_neg q]
            by_cases q2 : placeN op st k d < p' - 1
            · rw [if_pos ⟨ho, by omega⟩, if_pos ⟨ho, q2⟩]
            · rw [if_neg (fun x => by omega), if_neg (fun x => q2 x.2)]
        · rw [if_neg (fun x => ho x.1), if_neg (fun x => ho x.1)]
    · rw [if_neg (fun x => by omega), Nat.add_zero]
      rw [sumTo_congr k (f' := fun d => if op d = true ∧ placeN op st k d < p' then 1 else 0) (fun d hd => ?_)]
      · exact h4 p' (by omega)
      · by_cases ho : op d = true
        · rw [pc d hd ho]
          by_cases q : placeN op st k d < p
          · rw [if_pos q]
          · rw [if_neg q, if_neg (fun x => by omega), if_neg (fun x => by omega)]
        · rw [if_neg (fun x => ho x.1), if_neg (fun x => ho x.1)]
  · rcases Nat.lt_or_ge c k with e | e
    · rcases Nat.lt_or_ge d k with f | f
      · rw [pc c e oc, pc d f od] at hl
        refine h5 c d e f oc od ?_
        by_cases q1 : placeN op st k c < p <;> by_cases q2 : placeN op st k d < p
        · rw [if_pos q1, if_pos q2] at hl; exact hl
        · omega
        · rw [if_neg q1, if_pos q2] at hl; omega
        · rw [if_neg q1, if_neg q2] at hl; omega
      · have : d = k := by omega
        subst this
        rw [pk, pc c e oc] at hl
        by_cases q1 : placeN op st d c < p
        · exact (key c e oc).mpr q1
        · rw [if_neg q1] at hl; omega
    · have : c = k := by omega
      subst this
      have f : d < c := by
        rcases Nat.lt_or_ge d c with f | f
        · exact f
        · rw [show d = c by omega] at hl
          exact absurd hl (Nat.lt_irrefl _)
      rw [pk, pc d f od] at hl
      by_cases q1 : placeN op st c d < p
      · rw [if_pos q1] at hl; omega
      · have : ¬ st c ≤ st d := fun x => q1 ((key d f od).mp x)
        omega
  · rcases Nat.lt_trichotomy j p with e | e | e
    · obtain ⟨c, hc, ho, ec⟩ := h6 j (by omega)
      exact ⟨c, by omega, ho, by rw [pc c hc ho, if_pos (by omega), ec]⟩
    · exact ⟨k, by omega, h, by rw [pk, e]⟩
    · obtain ⟨c, hc, ho, ec⟩ := h6 (j - 1) (by omega)
      exact ⟨c, by omega, ho, by rw [pc c hc ho, if_neg (by omega), ec]; omega⟩
theorem rOrder_inv {g : Row} {op : Nat → Bool} {st : Nat → Nat} (h9 : g 9 = 0) (hop : ∀ c, c < 4 → (g (34 + 7 * c) = 0 ↔ op c = false)) (hst : ∀ c, c < 4 → g (37 + 7 * c) = Int32.ofNat (st c) ∧ st c < 600) : (∃ len, OrdInv op st 4 len (rOrder g)) ∧ ∀ i, i ≠ 9 → i < 10 ∨ 14 ≤ i → rOrder g i = g i := by
  unfold rOrder
  have key := zseq_ok (N := 4) (P := fun k (r : Row) => (∃ len, OrdInv op st k len r) ∧ ∀ i, i ≠ 9 → i < 10 ∨ 14 ≤ i → r i = g i) (step := ordStep) (s := g) ⟨⟨0, h9, Nat.le_refl 0, fun c hc => by omega, fun p hp => by rw [show p = 0 by omega]; rfl, fun c d hc => by omega, fun j hj => by omega⟩, fun _ _ _ => rfl⟩ ?_ 4 (by omega)
  · exact key
  · intro k r hk hr
    obtain ⟨⟨len, hi⟩, hne⟩ := hr
    have hlen := hi.2.1
    rw [ordStep_eq hi.1 (by omega)]
    by_cases ho : op k = true
    · have : ¬ r (34 + 7 * k) = 0 := by
        rw [hne _ (by omega) (by omega)]
        intro e
        have := (hop k hk).mp e
        rw [ho] at this
        exact absurd this (by decide)
      rw [if_neg this]
      refine ⟨⟨len + 1, OrdInv_ins hk ho (fun c hc => by rw [hne _ (by omega) (by omega)]; exact hst c hc) hi⟩, fun i h1 h2 => ?_⟩
      rw [rIns_ne h1 (by omega)]
      exact hne i h1 h2
    · have hof : op k = false := by
        cases hh : op k
        · rfl
        · exact absurd hh ho
      have : r (34 + 7 * k) = 0 := by
        rw [hne _ (by omega) (by omega)]
        exact (hop k hk).mpr hof
      rw [if_pos this]
      exact ⟨⟨len, OrdInv_skip hof hi⟩, hne⟩
