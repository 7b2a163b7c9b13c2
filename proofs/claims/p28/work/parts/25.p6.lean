section P6
variable {st : Nat → Row} {k n mm B kd : Nat} {g : Row} {H : zH}
theorem q_act {o : Option (Int32 × zH)} (h : Gd (Act B st k g kd) o) : Gd (Act B st k g kd) (zb2 o fun r w => some (r, w)) := by
  obtain ⟨⟨v, w⟩, e, c⟩ := h
  exact q_b2 e (gd_end c)
theorem w_acts {x y : Int32} (hn : 50000 ≤ n) (hB : B ≤ 100000) (hI : Inv B mm g) (hS : SvI B k st) (hC : ST st k g H) (hk : kd < 14) (hx : f_L_low n x 14 H = some (Int32.ofNat kd)) : Gd (Act B st k g kd) (f_L_acts n 0 x y H) := by
  obtain ⟨c, hc, ec⟩ := low_any (n := n) (m := 4) (v := y) (h := H) (by omega) (by omega)
  unfold f_L_acts
  refine q_bind ec (q_bind hx ?_)
  obtain rfl | rfl | rfl | rfl | rfl | rfl | rfl | rfl | rfl | rfl | rfl | rfl | rfl | rfl : kd = 0 ∨ kd = 1 ∨ kd = 2 ∨ kd = 3 ∨ kd = 4 ∨ kd = 5 ∨ kd = 6 ∨ kd = 7 ∨ kd = 8 ∨ kd = 9 ∨ kd = 10 ∨ kd = 11 ∨ kd = 12 ∨ kd = 13 := by omega
  · refine q_t rfl ?_
    obtain ⟨r, hr, e1⟩ := low_any (n := n) (m := 3) (v := y) (h := H) (by omega) (by omega)
    exact q_bind e1 (q_act (a_begin hn hI hB hS hC hr (by omega)))
  · refine q_f (by decide) (q_t rfl ?_)
    obtain ⟨t, ht, e1⟩ := low_any (n := n) (m := 8) (v := y) (h := H) (by omega) (by omega)
    obtain ⟨v, hv, e2⟩ := low_any (n := n) (m := 91) (v := y >>> ((3 : Int32) &&& 31)) (h := H) (by omega) (by omega)
    exact q_bind e1 (q_bind e2 (q_act (a_town hn hI hS hC ht hv (by omega))))
  · refine q_f (by decide) (q_f (by decide) (q_t rfl ?_))
    obtain ⟨h1, hh, e1⟩ := low_any (n := n) (m := 8) (v := y >>> ((2 : Int32) &&& 31)) (h := H) (by omega) (by omega)
    obtain ⟨r, hr, e2⟩ := low_any (n := n) (m := 7) (v := y >>> ((5 : Int32) &&& 31)) (h := H) (by omega) (by omega)
    exact q_bind e1 (q_bind e2 (q_act (a_start hn hB hI hS hC hc hh hr (by omega))))
  · refine q_f (by decide) (q_f (by decide) (q_f (by decide) (q_t rfl ?_)))
    obtain ⟨h1, hh, e1⟩ := low_any (n := n) (m := 8) (v := y >>> ((2 : Int32) &&& 31)) (h := H) (by omega) (by omega)
    obtain ⟨r, hr, e2⟩ := low_any (n := n) (m := 7) (v := y >>> ((5 : Int32) &&& 31)) (h := H) (by omega) (by omega)
    exact q_bind e1 (q_bind e2 (q_act (a_start hn hB hI hS hC hc hh hr (by omega))))
  · refine q_f (by decide) (q_f (by decide) (q_f (by decide) (q_f (by decide) (q_t rfl ?_))))
    exact q_act (a_buy hn hB hI hS hC hc (by omega))
  · refine q_f (by decide) (q_f (by decide) (q_f (by decide) (q_f (by decide) (q_f (by decide) (q_t rfl ?_)))))
    exact q_act (a_buy hn hB hI hS hC hc (by omega))
  · refine q_f (by decide) (q_f (by decide) (q_f (by decide) (q_f (by decide) (q_f (by decide) (q_f (by decide) (q_t rfl ?_))))))
    obtain ⟨r, hr, e1⟩ := low_any (n := n) (m := 3) (v := y >>> ((2 : Int32) &&& 31)) (h := H) (by omega) (by omega)
    exact q_bind e1 (q_act (a_sell hn hB hI hS hC hc hr rfl))
  · refine q_f (by decide) (q_f (by decide) (q_f (by decide) (q_f (by decide) (q_f (by decide) (q_f (by decide) (q_f (by decide) (q_t rfl ?_)))))))
    obtain ⟨r, hr, e1⟩ := low_any (n := n) (m := 3) (v := y >>> ((2 : Int32) &&& 31)) (h := H) (by omega) (by omega)
    refine q_bind e1 ?_
    rw [i32_succ, i32_addn, show (4 : Int32) = Int32.ofNat 4 from rfl, i32_zrem (by omega) (by omega)]
    exact q_act (a_merge hn hB hI hS hC hc (Nat.mod_lt _ (by omega)) (by omega) (by omega))
  · refine q_f (by decide) (q_f (by decide) (q_f (by decide) (q_f (by decide) (q_f (by decide) (q_f (by decide) (q_f (by decide) (q_f (by decide) (q_t rfl ?_))))))))
    exact q_act (a_pass hn hI hS hC (by omega))
  · refine q_f (by decide) (q_f (by decide) (q_f (by decide) (q_f (by decide) (q_f (by decide) (q_f (by decide) (q_f (by decide) (q_f (by decide) (q_f (by decide) (q_t rfl ?_)))))))))
    exact q_act (a_pass hn hI hS hC (by omega))
  · refine q_f (by decide) (q_f (by decide) (q_f (by decide) (q_f (by decide) (q_f (by decide) (q_f (by decide) (q_f (by decide) (q_f (by decide) (q_f (by decide) (q_f (by decide) (q_t rfl ?_))))))))))
    exact q_act (a_undo hn hS hC (by omega))
  · refine q_f (by decide) (q_f (by decide) (q_f (by decide) (q_f (by decide) (q_f (by decide) (q_f (by decide) (q_f (by decide) (q_f (by decide) (q_f (by decide) (q_f (by decide) (q_f (by decide) ?_))))))))))
    refine q_bind (r_va (j := 3) hn hI.1 hC (by omega)) ?_
    rw [nv3 hI.1]
    by_cases h3 : g 3 = 0
    · exact q_t h3 (q_act (a_pass hn hI hS hC (by omega)))
    · refine q_f h3 ?_
      obtain ⟨⟨v, h1⟩, e, ev, st', k', g', mm', hC', hI', hS'⟩ := w_isOperated (x := x >>> ((4 : Int32) &&& 31)) (y := y) hn hB hI hS hC
      refine q_b2 e (q_f (fun q => ?_) (gd_end (Or.inr ⟨(by decide : (0 : Int32) ≤ 1), st', k', g', mm', hC', hI', hS', fun _ q => by omega⟩)))
      have := ev.symm.trans q
      exact absurd this (by decide)
  · refine q_f (by decide) (q_f (by decide) (q_f (by decide) (q_f (by decide) (q_f (by decide) (q_f (by decide) (q_f (by decide) (q_f (by decide) (q_f (by decide) (q_f (by decide) (q_f (by decide) ?_))))))))))
    refine q_bind (r_va (j := 3) hn hI.1 hC (by omega)) ?_
    rw [nv3 hI.1]
    by_cases h3 : g 3 = 0
    · exact q_t h3 (q_act (a_pass hn hI hS hC (by omega)))
    · refine q_f h3 ?_
      obtain ⟨⟨v, h1⟩, e, ev, st', k', g', mm', hC', hI', hS'⟩ := w_isOperated (x := x >>> ((4 : Int32) &&& 31)) (y := y) hn hB hI hS hC
      refine q_b2 e (q_f (fun q => ?_) (gd_end (Or.inr ⟨(by decide : (0 : Int32) ≤ 1), st', k', g', mm', hC', hI', hS', fun _ q => by omega⟩)))
      have := ev.symm.trans q
      exact absurd this (by decide)
  · refine q_f (by decide) (q_f (by decide) (q_f (by decide) (q_f (by decide) (q_f (by decide) (q_f (by decide) (q_f (by decide) (q_f (by decide) (q_f (by decide) (q_f (by decide) (q_f (by decide) ?_))))))))))
    refine q_bind (r_va (j := 3) hn hI.1 hC (by omega)) ?_
    rw [nv3 hI.1]
    by_cases h3 : g 3 = 0
    · exact q_t h3 (q_act (a_pass hn hI hS hC (by omega)))
    · refine q_f h3 ?_
      obtain ⟨⟨v, h1⟩, e, ev, st', k', g', mm', hC', hI', hS'⟩ := w_isOperated (x := x >>> ((4 : Int32) &&& 31)) (y := y) hn hB hI hS hC
      refine q_b2 e (q_f (fun q => ?_) (gd_end (Or.inr ⟨(by decide : (0 : Int32) ≤ 1), st', k', g', mm', hC', hI', hS', fun _ q => by omega⟩)))
      have := ev.symm.trans q
      exact absurd this (by decide)
end P6
