/-! WALKS OF THE LAW's METHODS: goals Gd C o (the run o comes to an answer of C) -/
def Gd {β : Type} (C : β → Prop) (o : Option β) : Prop := ∃ u, o = some u ∧ C u
theorem gd_end {β : Type} {C : β → Prop} {u : β} (h : C u) : Gd C (some u) := ⟨u, rfl, h⟩
theorem gd_mono {β : Type} {C C' : β → Prop} {o : Option β} (h : Gd C o) (k : ∀ u, C u → C' u) : Gd C' o := by
  obtain ⟨u, e, c⟩ := h
  exact ⟨u, e, k u c⟩
theorem q_bind {α β : Type} {C : β → Prop} {o : Option α} {v : α} {F : α → Option β} (h : o = some v) (k : Gd C (F v)) : Gd C (o.bind F) := by subst h; exact k
theorem q_b2 {α β γ : Type} {C : β → Prop} {o : Option (α × γ)} {v : α} {w : γ} {F : α → γ → Option β} (h : o = some (v, w)) (k : Gd C (F v w)) : Gd C (zb2 o F) := by subst h; exact k
theorem q_b2e {α β γ : Type} {C : β → Prop} {o : Option (α × γ)} {v : α} {D : γ → Prop} {F : α → γ → Option β} (h : ∃ w, o = some (v, w) ∧ D w) (k : ∀ w, D w → Gd C (F v w)) : Gd C (zb2 o F) := by
  obtain ⟨w, e, d⟩ := h
  exact q_b2 e (k w d)
/-- a method of the law's own that answers v and leaves a heap of D -/
theorem q_b2g {β γ : Type} {C : β → Prop} {o : Option (Int32 × γ)} {v : Int32} {D : γ → Prop} {F : Int32 → γ → Option β} (h : Gd (fun u : Int32 × γ => u.1 = v ∧ D u.2) o) (k : ∀ w, D w → Gd C (F v w)) : Gd C (zb2 o F) := by
  obtain ⟨⟨v', w⟩, e, e2, d⟩ := h
  cases e2
  exact q_b2 e (k w d)
theorem q_t {β : Type} {C : β → Prop} {c : Prop} [Decidable c] {a b : Option β} (h : c) (k : Gd C a) : Gd C (if c then a else b) := by rw [if_pos h]; exact k
theorem q_f {β : Type} {C : β → Prop} {c : Prop} [Decidable c] {a b : Option β} (h : ¬ c) (k : Gd C b) : Gd C (if c then a else b) := by rw [if_neg h]; exact k
theorem q_let {α β : Type} {C : β → Prop} {x : α} {F : α → Option β} (k : Gd C (F x)) : Gd C (zlet x F) := k
theorem q_letk {α β : Type} {C : β → Prop} {x : α} {F : α → Option β} (P : α → Prop) (hx : P x) (k : ∀ K, P K → Gd C (F K)) : Gd C (zlet x F) := k x hx
section N3
variable {st : Nat → Row} {k n mm : Nat} {g : Row} {H : zH}
theorem x_players1 (hw : WF g mm) (hC : ST st k g H) : f_L_players n 0 (g 0) 0 H = some (-5000003, H) := by
  obtain ⟨h', hH, h05⟩ := CS_H hC
  have e8 : zgI H 5 1 8 = some (g 0) := by rw [hH, gI_8]
  have m0 : ¬ g 0 < 0 := by
    rw [hw.1.2.2.1, show (0 : Int32) = Int32.ofNat 0 from rfl, i32_lt_of (by have := hw.1.2.1; omega) (by omega)]
    omega
  have e : f_X5_player n 0 (g 0) 0 H = some (.inl 1, H) := by
    unfold f_X5_player
    simp only [zlet]
    rw [if_neg m0, h05, Option.bind_some, e8, Option.bind_some, if_neg (show ¬ g 0 < g 0 from fun q => Int32.lt_irrefl q)]
  unfold f_L_players
  rw [(CS_z hC).1, e]
  rfl
theorem x_players2 (hw : WF g mm) (hC : ST st k g H) : f_L_players n 0 0 7 H = some (-5000001, H) := by
  obtain ⟨h', hH, h05⟩ := CS_H hC
  have e8 : zgI H 5 1 8 = some (g 0) := by rw [hH, gI_8]
  have m0 : (0 : Int32) < g 0 := by
    rw [hw.1.2.2.1, show (0 : Int32) = Int32.ofNat 0 from rfl, i32_lt_of (by omega) (by have := hw.1.2.1; omega)]
    have := hw.1.1
    omega
  have e : f_X5_player n 0 0 7 H = some (.inl 0, H) := by
    unfold f_X5_player
    simp only [zlet]
    rw [if_neg (show ¬ (0 : Int32) < 0 by decide), h05, Option.bind_some, e8, Option.bind_some, if_pos m0, if_neg (show ¬ (7 : Int32) < 0 by decide), if_neg (show ¬ (7 : Int32) < 7 by decide)]
  unfold f_L_players
  rw [(CS_z hC).1, e]
  rfl
theorem x_companies1 (hC : ST st k g H) : f_L_companies n 0 (-1) 0 H = some (-5000003, H) := by
  have e : f_X5_company n 0 (-1) 0 H = some (.inl 1, H) := by
    unfold f_X5_company
    rw [company_n (by unfold vp_in; decide), Option.bind_some, if_pos rfl]
  unfold f_L_companies
  rw [(CS_z hC).1, e]
  rfl
theorem x_companies2 (hC : ST st k g H) : f_L_companies n 0 0 9 H = some (-5000001, H) := by
  have e : f_X5_company n 0 0 9 H = some (.inl 0, H) := by
    unfold f_X5_company
    rw [company_y (by unfold vp_in; decide), Option.bind_some, if_neg (show ¬ (1 : Int32) = 0 by decide)]
    simp only [zlet]
    rw [if_neg (show ¬ (9 : Int32) < 0 by decide), if_neg (show ¬ (9 : Int32) < 9 by decide)]
  unfold f_L_companies
  rw [(CS_z hC).1, e]
  rfl
theorem x_tracks (hC : ST st k g H) : f_L_tracks n 0 8 0 H = some (-5000003, H) := by
  have e : f_X5_track n 0 8 0 H = some (.inl 1, H) := by
    unfold f_X5_track
    rw [town_n (by unfold vp_in; decide), Option.bind_some]
    simp only [zlet, if_true]
  unfold f_L_tracks
  rw [(CS_z hC).1, e]
  rfl
theorem x_values (hC : ST st k g H) : f_L_values n 0 10 H = some (-5000001, H) := by
  have e : f_X5_value n 0 10 H = some (.inl 0, H) := by
    unfold f_X5_value
    simp only [zlet]
    rw [if_neg (show ¬ (10 : Int32) < 0 by decide), if_neg (show ¬ (10 : Int32) < 10 by decide)]
  unfold f_L_values
  rw [(CS_z hC).1, e]
  rfl
theorem x_towns (hC : ST st k g H) : f_L_towns n 0 8 H = some (-5000003, H) := by
  have e : f_X5_town n 0 8 H = some (.inl 1, H) := by
    unfold f_X5_town
    rw [town_n (by unfold vp_in; decide), Option.bind_some, if_pos rfl]
  unfold f_L_towns
  rw [(CS_z hC).1, e]
  rfl
theorem x_routes (hC : ST st k g H) : f_L_routes n 0 4 0 H = some (-5000003, H) := by
  have e : f_X5_route n 0 4 0 H = some (.inl 1, H) := by
    unfold f_X5_route
    rw [company_n (by unfold vp_in; decide), Option.bind_some]
    simp only [zlet, if_true]
  unfold f_L_routes
  rw [(CS_z hC).1, e]
  rfl
theorem x_with1 (hC : ST st k g H) : f_L_withTrack n 0 0 0 8 H = some (-5000003, H) := by
  have e : f_X5_incomeWith n 0 0 0 8 H = some (.inl 1, H) := by
    unfold f_X5_incomeWith
    rw [company_y (by unfold vp_in; decide), Option.bind_some]
    simp only [zlet]
    rw [if_neg (show ¬ (1 : Int32) = 0 by decide), town_y (by unfold vp_in; decide), Option.bind_some, if_neg (show ¬ (1 : Int32) = 0 by decide), town_n (by unfold vp_in; decide), Option.bind_some, if_pos rfl]
  unfold f_L_withTrack
  rw [(CS_z hC).1, e]
  rfl
theorem x_with2 (hC : ST st k g H) : f_L_withTrack n 0 0 0 0 H = some (-5000001, H) := by
  have e : f_X5_incomeWith n 0 0 0 0 H = some (.inl 0, H) := by
    unfold f_X5_incomeWith
    rw [company_y (by unfold vp_in; decide), Option.bind_some]
    simp only [zlet]
    rw [if_neg (show ¬ (1 : Int32) = 0 by decide), town_y (by unfold vp_in; decide), Option.bind_some, if_neg (show ¬ (1 : Int32) = 0 by decide), Option.bind_some, if_neg (show ¬ (1 : Int32) = 0 by decide)]
    exact if_pos trivial
  unfold f_L_withTrack
  rw [(CS_z hC).1, e]
  rfl
theorem x_best (hC : ST st k g H) : f_L_bestOf n 0 4 H = some (-5000003, H) := by
  have e : f_X5_bestTrack n 0 4 H = some (.inl 1, H) := by
    unfold f_X5_bestTrack
    rw [company_n (by unfold vp_in; decide), Option.bind_some, if_pos rfl]
  unfold f_L_bestOf
  rw [(CS_z hC).1, e]
  rfl
theorem x_div (hC : ST st k g H) : f_L_dividends n 0 (-1) H = some (-5000003, H) := by
  have e : f_X5_dividend n 0 (-1) H = some (.inl 1, H) := by
    unfold f_X5_dividend
    rw [company_n (by unfold vp_in; decide), Option.bind_some, if_pos rfl]
  unfold f_L_dividends
  rw [(CS_z hC).1, e]
  rfl
theorem nv0 {g : Row} : numS g (Int32.ofNat 0) = g 0 := rfl
theorem nv1 {g : Row} : numS g (Int32.ofNat 1) = g 1 := rfl
theorem nv2 {g : Row} : numS g (Int32.ofNat 2) = g 2 := rfl
theorem nv3 {g : Row} {mm : Nat} (hw : WF g mm) : numS g (Int32.ofNat 3) = g 3 := by
  show (if g 3 = 0 then (0 : Int32) else 1) = g 3
  rcases hw.1.2.2.2.2.1 with h | h
  · rw [if_pos h, h]
  · rw [if_neg (by rw [h]; decide), h]
theorem nv4 {g : Row} : numS g (Int32.ofNat 4) = nextC g := by
  unfold numS
  rw [if_neg (by decide), if_neg (by decide), if_neg (by decide), if_neg (by decide), if_pos (by decide)]
theorem nv5 {g : Row} : numS g (Int32.ofNat 5) = g 5 := by
  unfold numS
  rw [if_neg (by decide), if_neg (by decide), if_neg (by decide), if_neg (by decide), if_neg (by decide), if_pos (by decide)]
theorem nv6 {g : Row} : numS g (Int32.ofNat 6) = g 6 := by
  unfold numS
  rw [if_neg (by decide), if_neg (by decide), if_neg (by decide), if_neg (by decide), if_neg (by decide), if_neg (by decide), if_pos (by decide)]
theorem nv7 {g : Row} : numS g (Int32.ofNat 7) = tracksS g := by
  unfold numS
  rw [if_neg (by decide), if_neg (by decide), if_neg (by decide), if_neg (by decide), if_neg (by decide), if_neg (by decide), if_neg (by decide), if_pos (by decide)]
theorem nv8 {g : Row} : numS g (Int32.ofNat 8) = openS g := by
  unfold numS
  rw [if_neg (by decide), if_neg (by decide), if_neg (by decide), if_neg (by decide), if_neg (by decide), if_neg (by decide), if_neg (by decide), if_neg (by decide), if_pos (by decide)]
theorem nv9 {g : Row} : numS g (Int32.ofNat 9) = g 7 := by
  unfold numS
  rw [if_neg (by decide), if_neg (by decide), if_neg (by decide), if_neg (by decide), if_neg (by decide), if_neg (by decide), if_neg (by decide), if_neg (by decide), if_neg (by decide)]
theorem lg_same {x : Int64} : lg_cmp x x = 0 := by
  unfold lg_cmp
  simp
end N3
