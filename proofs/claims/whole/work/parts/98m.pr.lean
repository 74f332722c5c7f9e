/-! ===== the law's beginning ===== -/
noncomputable def st0 : St := mkSt 0 [] [] []
def M0c : Mm := (0, fun _ _ => 0, fun _ _ => 0, fun _ _ => 0)
theorem mN_M0 : mN M0c = 0 := rfl
theorem zr_0 : Zr M0c := ⟨fun _ _ => rfl, fun _ _ => rfl⟩
theorem zi {M : Mm} (h : Zr M) (b j : Nat) : (mI M b j).toInt = 0 := by rw [h.1]; rfl
theorem zl {M : Mm} (h : Zr M) (b j : Nat) : (mL M b j).toInt = 0 := by rw [h.2]; rfl
theorem st_at0 {M : Mm} (h : Zr M) : StAt M 1 st0 := ⟨k_S, zi h _ _, zi h _ _, zi h _ _, zi h _ _, Nat.zero_le _, Nat.zero_le _, Nat.zero_le _, (fun t n c => by cases c), (fun t n c => by cases c), (fun t n c => by cases c)⟩
theorem u_at0 {M : Mm} (h : Zr M) : UAt M [] := ⟨by rw [zi h]; decide, zi h _ _, Nat.zero_le _, (fun t n c => by cases c)⟩
theorem tc_at0 {M : Mm} (h : Zr M) : TC M [] := ⟨zi h _ _, Nat.zero_le _, (fun v c => by cases c), (fun t n c => by cases c)⟩
theorem rs_at0 {M : Mm} (h : Zr M) : RS (mL M 1099) st0 := ⟨zl h _ _, zl h _ _, zl h _ _, zl h _ _, (fun t n c => by cases c), (fun t n c => by cases c), (fun t n c => by cases c)⟩
theorem rk_at0 {M : Mm} (h : Zr M) : RK M [] := ⟨zi h _ _, Nat.zero_le _, (fun t n c => by cases c)⟩
theorem tx_at0 {M : Mm} (h : Zr M) : TX M [] := ⟨zi h _ _, Nat.zero_le _, (fun v c => by cases c), (fun t n c => by cases c)⟩
theorem wn_0 : Wn st0 0 := by
  refine ⟨⟨?_, Nat.zero_le _, Nat.zero_le _, Nat.zero_le _, fun t c => (by cases c), fun t c => (by cases c), (fun t c => by cases c)⟩, fun t c => (by cases c), (fun t c => by cases c)⟩
  show 0 ≤ (0 : Int) ∧ (0 : Int) ≤ 9999
  decide
theorem iv_0 {M : Mm} (h : Zr M) (hn : mN M = 1106) : IV 0 M := ⟨st0, [], [], 0, ⟨st_at0 h, u_at0 h, tc_at0 h⟩, ⟨rs_at0 h, rk_at0 h, tx_at0 h⟩, wn_0, (fun Z c => by cases c), Nat.le_refl _, Nat.le_of_eq hn.symm, Nat.le_of_eq hn⟩
theorem pv_kx {a k : Nat} (h : PV a k ≠ 0) : a < 1106 := by
  refine kx_lt fun c => h ?_
  unfold PV
  split
  all_goals first
    | rfl
    | (rename_i e; rw [e] at c; cases c)
theorem pinv_0 {Ma Mc : Mm} (ca : CB 0 1098 (aN M0c) Ma) (cc : CB 1098 7 (aN Ma) Mc) : PInv (aN Mc) ∧ mN (aN Mc) = 1106 := by
  have n1 : mN Ma = 1098 := ca.1
  have n2 : mN Mc = 1105 := cc.1
  refine ⟨fun a k h => ?_, by rw [mN_aN, n2]⟩
  have ha := pv_kx h
  have h5 : ¬ a = 1105 := fun c => by
    subst c
    exact h (pv_3 kR7 k)
  rw [an_p Mc k (by rw [n2]; exact h5)]
  by_cases h8 : a < 1098
  · rw [cc.2.2.1 a k h8, an_p Ma k (by rw [n1]; omega)]
    exact ca.2.2.2 a k (Nat.zero_le _) (by omega) (fun c => c.elim) h
  · exact cc.2.2.2 a k (by omega) (by omega) (fun c => c.elim) h
section PRO
variable {l : Launch} {G : GT} {F : FX} {Q : PQ} {QX : PX} {Ln : Nat} {xs : Nat → Int32}
theorem lw_all (hs : SCR G F Ln xs) (hst : l.stackTraces = false) (h2 : Ln ≤ 2560) (hQ : ∀ M, Q (some (.int 1)) M) : Wj false l G F Y_L_law Q QX 0 0 0 [.ref 1000100, xx, xx, xx, xx, xx, xx] [] M0c := by
  refine g_L_p _ _ _ ?_
  have k0 := k_F
  have k1 := kR
  have k7 := kR7
  simp only [R_L_p, I_new, I_ci, I_naL, mN_M0, mN_aN, k0, I_ic, I_lc, I_nul, I_il, I_ll, I_al, I_is, I_ls, I_as, I_inc, I_iadd, I_isub, I_imul, I_iand, I_ladd, I_lsub, I_lmul, I_land, I_lor, I_idiv, I_irem, I_ishr, I_lshl, I_lshr, I_lushr, I_lcmp, I_i2l, I_l2i, I_dup, I_pop, I_dup2, I_ifeq, I_ifne, I_iflt, I_ifge, I_ifgt, I_ifle, I_iceq, I_icne, I_iclt, I_icge, I_icgt, I_icle, I_ifnull, I_ifnonnull, I_sw, swK, I_gi, I_gl, I_gp, I_pi, I_pl, I_ial, I_lal, I_ias, I_las, I_aal, I_len, I_ir, I_zr, I_lr, I_vr, I_ar, I_cv, I_cs, I_csN, I_max, I_min, I_cpi, I_cpl, I_kl, popA, gt0, gt1, gt2, gt3, gt4, gt5, gt6, gt7, gt8, gt9, gt10, gt11, gt12, s1_0, s1_1, s1_2, s1_3, s1_4, s1_5, s1_6, s1_7, s1_8, s1_9, s1_10, s1_11, s1_12, s2_0, s2_1, s2_2, s2_3, s2_4, s2_5, s2_6, s2_7, s2_8, s2_9, s2_10, s2_11, se_0, se_1, se_2, se_3, se_4, se_5, se_6, se_7, se_8, se_9, se_10, se_11, se_12, kil_i, kil_l, kil_r, kil_n, kil_x, ap_done, ap_pend, ap_dbt, ap_rel, ap_wrk, ap_trade, ap_mentor, ap_refused, ap_wdays, ap_today, ap_moves, st_day, st_needs, st_ments, st_aps, ap_eta, st_eta, Value.category, List.map_cons, List.map_nil, List.sum_cons, List.sum_nil, Option.toList_some, Option.toList_none, List.cons_append, List.nil_append, Nat.reduceAdd, Nat.reduceLeDiff, true_and, and_true, true_or, or_true, forall_const, not_true_eq_false, false_implies, not_false_eq_true, false_and, ↓reduceIte, ad_1, ad_2, ad_3, ad_4, ad_5, nq_2]
  refine sp_X9_init rfl zr_0.an fun Ma ca => ?_
  have n1 : mN Ma = 1098 := ca.1
  simp only [I_new, I_ci, I_naL, mN_aN, n1, k1, I_ic, I_lc, I_nul, I_il, I_ll, I_al, I_is, I_ls, I_as, I_inc, I_iadd, I_isub, I_imul, I_iand, I_ladd, I_lsub, I_lmul, I_land, I_lor, I_idiv, I_irem, I_ishr, I_lshl, I_lshr, I_lushr, I_lcmp, I_i2l, I_l2i, I_dup, I_pop, I_dup2, I_ifeq, I_ifne, I_iflt, I_ifge, I_ifgt, I_ifle, I_iceq, I_icne, I_iclt, I_icge, I_icgt, I_icle, I_ifnull, I_ifnonnull, I_sw, swK, I_gi, I_gl, I_gp, I_pi, I_pl, I_ial, I_lal, I_ias, I_las, I_aal, I_len, I_ir, I_zr, I_lr, I_vr, I_ar, I_cv, I_cs, I_csN, I_max, I_min, I_cpi, I_cpl, I_kl, popA, gt0, gt1, gt2, gt3, gt4, gt5, gt6, gt7, gt8, gt9, gt10, gt11, gt12, s1_0, s1_1, s1_2, s1_3, s1_4, s1_5, s1_6, s1_7, s1_8, s1_9, s1_10, s1_11, s1_12, s2_0, s2_1, s2_2, s2_3, s2_4, s2_5, s2_6, s2_7, s2_8, s2_9, s2_10, s2_11, se_0, se_1, se_2, se_3, se_4, se_5, se_6, se_7, se_8, se_9, se_10, se_11, se_12, kil_i, kil_l, kil_r, kil_n, kil_x, ap_done, ap_pend, ap_dbt, ap_rel, ap_wrk, ap_trade, ap_mentor, ap_refused, ap_wdays, ap_today, ap_moves, st_day, st_needs, st_ments, st_aps, ap_eta, st_eta, Value.category, List.map_cons, List.map_nil, List.sum_cons, List.sum_nil, Option.toList_some, Option.toList_none, List.cons_append, List.nil_append, Nat.reduceAdd, Nat.reduceLeDiff, true_and, and_true, true_or, or_true, forall_const, not_true_eq_false, false_implies, not_false_eq_true, false_and, ↓reduceIte, ad_1, ad_2, ad_3, ad_4, ad_5, nq_2]
  refine sp_X10_init (by rw [mN_aN, n1]) ca.2.1.an fun Mc cc => ?_
  have n2 : mN Mc = 1105 := cc.1
  simp only [I_new, I_ci, I_naL, mN_aN, n2, k7, I_ic, I_lc, I_nul, I_il, I_ll, I_al, I_is, I_ls, I_as, I_inc, I_iadd, I_isub, I_imul, I_iand, I_ladd, I_lsub, I_lmul, I_land, I_lor, I_idiv, I_irem, I_ishr, I_lshl, I_lshr, I_lushr, I_lcmp, I_i2l, I_l2i, I_dup, I_pop, I_dup2, I_ifeq, I_ifne, I_iflt, I_ifge, I_ifgt, I_ifle, I_iceq, I_icne, I_iclt, I_icge, I_icgt, I_icle, I_ifnull, I_ifnonnull, I_sw, swK, I_gi, I_gl, I_gp, I_pi, I_pl, I_ial, I_lal, I_ias, I_las, I_aal, I_len, I_ir, I_zr, I_lr, I_vr, I_ar, I_cv, I_cs, I_csN, I_max, I_min, I_cpi, I_cpl, I_kl, popA, gt0, gt1, gt2, gt3, gt4, gt5, gt6, gt7, gt8, gt9, gt10, gt11, gt12, s1_0, s1_1, s1_2, s1_3, s1_4, s1_5, s1_6, s1_7, s1_8, s1_9, s1_10, s1_11, s1_12, s2_0, s2_1, s2_2, s2_3, s2_4, s2_5, s2_6, s2_7, s2_8, s2_9, s2_10, s2_11, se_0, se_1, se_2, se_3, se_4, se_5, se_6, se_7, se_8, se_9, se_10, se_11, se_12, kil_i, kil_l, kil_r, kil_n, kil_x, ap_done, ap_pend, ap_dbt, ap_rel, ap_wrk, ap_trade, ap_mentor, ap_refused, ap_wdays, ap_today, ap_moves, st_day, st_needs, st_ments, st_aps, ap_eta, st_eta, Value.category, List.map_cons, List.map_nil, List.sum_cons, List.sum_nil, Option.toList_some, Option.toList_none, List.cons_append, List.nil_append, Nat.reduceAdd, Nat.reduceLeDiff, true_and, and_true, true_or, or_true, forall_const, not_true_eq_false, false_implies, not_false_eq_true, false_and, ↓reduceIte, ad_1, ad_2, ad_3, ad_4, ad_5, nq_2]
  obtain ⟨p1, p2⟩ := pinv_0 ca cc
  refine wj_tf ⟨p1, Nat.le_of_eq p2.symm⟩ ?_
  exact lw_loop hs hst h2 hQ 2560 0 1106 14652 0 _ _ _ (by omega) rfl (by omega) (by omega) (by omega) (iv_0 cc.2.1.an p2)
end PRO
