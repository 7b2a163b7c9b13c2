section N4
variable {st : Nat → Row} {k n mm : Nat} {g : Row} {H : zH}
/-- what a refusing walk leaves -/
def One (st : Nat → Row) (k : Nat) (g : Row) (u : Int32 × zH) : Prop := u.1 = 1 ∧ ST st k g u.2
theorem t_lt {g : Row} {mm : Nat} (hw : WF g mm) : ∃ t, t < mm ∧ t < 4 ∧ g 1 = Int32.ofNat t := by
  obtain ⟨t, ht, et⟩ := hw.1.2.2.2.1
  exact ⟨t, ht, by have := hw.1.2.1; omega, et⟩
theorem next_0 {g : Row} (h3 : g 3 = 0) : nextC g = -1 := by
  unfold nextC
  rw [if_pos h3]
theorem w_refused (hn : 50000 ≤ n) (hw : WF g mm) (hC : ST st k g H) : Gd (One st k g) (f_L_refused n 0 H) := by
  obtain ⟨t, htm, ht, et⟩ := t_lt hw
  obtain ⟨D, hD⟩ := r_dig hn hw st k
  unfold f_L_refused
  rw [(CS_z hC).1]
  refine q_b2e (hD H hC) (fun H1 h1 => ?_)
  refine q_bind (r_va (j := 0) hn hw h1 (by omega)) ?_
  refine q_bind (r_va (j := 3) hn hw h1 (by omega)) ?_
  rw [nv0, nv3 hw]
  refine q_letk (fun K => ∀ s, (s = 1 ∧ g 3 = 0) ∨ (s = 0 ∧ ¬ g 3 = 0) → Gd (One st k g) (K s)) (fun s hs => ?_) (fun K hK => ?_)
  · refine q_b2 (w_begin_no h1 (by decide)) ?_
    refine q_letk (fun K => Gd (One st k g) (K 1 H1)) ?_ (fun K hK => ?_)
    · refine q_letk (fun K => ∀ H2, ST st k g H2 → Gd (One st k g) (K 1 H2)) (fun H2 h2 => ?_) (fun K hK => ?_)
      · refine q_let ?_
        refine q_f (by decide) ?_
        rw [(CS_z h2).1]
        refine q_b2e (hD H2 h2) (fun H3 h3 => ?_)
        exact q_t lg_same (gd_end ⟨rfl, h3⟩)
      · rcases hs with ⟨rfl, h3⟩ | ⟨rfl, h3⟩
        · refine q_f (by decide) (q_let (q_let (q_f (by decide) ?_)))
          refine q_b2 (w_ext_st hw h1 (fun q => q.1 (next_0 h3))) (q_t rfl ?_)
          refine q_b2 (w_op_st0 hn hw h1 (next_0 h3)) (q_t rfl ?_)
          exact hK _ h1
        · refine q_t rfl (q_let (q_let (q_f (by decide) ?_)))
          refine q_b2 (w_pass_st h1 h3) (q_t rfl ?_)
          refine q_b2 (w_buy_st (c := 0) hn h1 (by omega) et ht (fun q => h3 q.1)) (q_t rfl ?_)
          refine q_b2 (w_sell_st (c := 0) (a := 1) h1 (by omega) (by omega) (by omega) et ht (fun q => h3 q.1)) (q_t rfl ?_)
          refine q_b2 (w_start_st (c := 0) (home := 0) (s := 2) h1 (by omega) (by omega) (by omega) (by omega) et ht (fun q => h3 q.1)) (q_t rfl ?_)
          refine q_b2 (w_merge_st (i := 0) (j := 1) hn h1 (by omega) (by omega) (by omega) (fun q => h3 q.1)) (q_t rfl ?_)
          exact hK _ h1
    · refine q_let (q_t rfl ?_)
      refine q_b2 (w_town_ix h1 (by unfold vp_in; decide)) (q_t rfl ?_)
      refine q_b2 (w_town_ar h1 (by unfold vp_in; decide) (by unfold vp_in; decide)) (q_t rfl ?_)
      refine q_b2 (w_start_ix h1 (by unfold vp_in; decide)) (q_t rfl ?_)
      refine q_b2 (w_start_ar h1 (by unfold vp_in; decide) (by unfold vp_in; decide) (by decide)) (q_t rfl ?_)
      refine q_b2 (w_buy_ix h1 (by unfold vp_in; decide)) (q_t rfl ?_)
      refine q_b2 (w_sell_ix h1 (by unfold vp_in; decide)) (q_t rfl ?_)
      refine q_b2 (w_sell_ar h1 (by unfold vp_in; decide) (by decide)) (q_t rfl ?_)
      refine q_b2 (w_merge_ix h1 (by unfold vp_in; decide)) (q_t rfl ?_)
      refine q_b2 (w_merge_ar h1 (by unfold vp_in; decide)) (q_t rfl ?_)
      refine q_b2 (w_op_ix h1 (by decide) (by unfold vp_in; decide)) (q_t rfl ?_)
      refine q_b2 (w_op_ar h1 (by unfold vp_in; decide)) (q_t rfl ?_)
      refine q_b2 (x_players1 hw h1) (q_t rfl ?_)
      refine q_b2 (x_players2 hw h1) (q_t rfl ?_)
      refine q_b2 (x_companies1 h1) (q_t rfl ?_)
      refine q_b2 (x_companies2 h1) (q_t rfl ?_)
      refine q_b2 (x_tracks h1) (q_t rfl ?_)
      refine q_b2 (x_values h1) (q_t rfl ?_)
      refine q_b2 (x_towns h1) (q_t rfl ?_)
      refine q_b2 (x_routes h1) (q_t rfl ?_)
      refine q_b2 (x_with1 h1) (q_t rfl ?_)
      refine q_b2 (x_with2 h1) (q_t rfl ?_)
      refine q_b2 (x_best h1) (q_t rfl ?_)
      refine q_b2 (x_div h1) (q_t rfl ?_)
      exact hK
  · by_cases h3 : g 3 = 0
    · exact q_t h3 (hK 1 (Or.inl ⟨rfl, h3⟩))
    · exact q_f h3 (hK 0 (Or.inr ⟨rfl, h3⟩))
end N4
