/-! ===== the entry ===== -/
def M0c : Mm := (0, fun _ _ => 0, fun _ _ => 0, fun _ _ => 0)
theorem mN_M0 : mN M0c = 0 := rfl
theorem zr_0 : Zr M0c := ⟨fun _ _ => rfl, fun _ _ => rfl⟩
theorem zi {M : Mm} (h : Zr M) (b j : Nat) : (mI M b j).toInt = 0 := by rw [h.1]; rfl
theorem zl {M : Mm} (h : Zr M) (b j : Nat) : (mL M b j).toInt = 0 := by rw [h.2]; rfl
theorem st_at0 {M : Mm} (h : Zr M) : StAt M 1 st0 := ⟨k_S, zi h _ _, zi h _ _, zi h _ _, zi h _ _, Nat.zero_le _, Nat.zero_le _, Nat.zero_le _, (fun t n c => by cases c), (fun t n c => by cases c), (fun t n c => by cases c)⟩
theorem u_at0 {M : Mm} (h : Zr M) : UAt M [] := ⟨by rw [zi h]; decide, zi h _ _, Nat.zero_le _, (fun t n c => by cases c)⟩
theorem tc_at0 {M : Mm} (h : Zr M) : TC M [] := ⟨zi h _ _, Nat.zero_le _, (fun v c => by cases c), (fun t n c => by cases c)⟩
theorem pv_kx {a k : Nat} (h : PV a k ≠ 0) : a < 1098 := by
  refine kx_lt fun c => h ?_
  unfold PV
  split
  all_goals first
    | rfl
    | (rename_i e; rw [e] at c; cases c)
theorem pinv_0 {Ma : Mm} (ca : CB 0 1098 (aN M0c) Ma) : PInv Ma ∧ mN Ma = 1098 := by
  have n1 : mN Ma = 1098 := ca.1
  refine ⟨fun a k h => ?_, n1⟩
  have ha := pv_kx h
  exact ca.2.2.2 a k (Nat.zero_le _) (by omega) (fun c => c.elim) h
section PRO
variable {l : Launch} {G : GT} {F : FX} {Q : PQ} {QX : PX}
def R_L_p (l : Launch) (G : GT) (F : FX) (Q : PQ) (QX : PX) : KT := (I_new 7 3 (I_dup (I_ci (fun As M Q => Tr false l G Y_X9_init As M Q NX) (I_as 1 (Wj false l G F Y_L_law Q QX 1098 11496 8)))))
set_option maxRecDepth 100000 in
theorem g_L_p : Le (R_L_p l G F Q QX) (Wj false l G F Y_L_law Q QX 0 0 0) := by
  unfold R_L_p
  refine r_new (pc := 0) (k := 0) (n := 0) ?_ dL_law_0 cl_X9 wd_1_17 wd_1_18 wd_1_1 df_X9 ⟨Nat.le_of_ble_eq_true rfl, Nat.le_of_ble_eq_true rfl⟩
  refine r_dup (pc := 3) ?_ dL_law_3
  refine r_ci (pc := 4) (k := 1) (n := 3) (Yc := Y_X9_init) ?_ dL_law_4 ok_X9_init rfl rfl wd_1_20 wd_1_19 ⟨Nat.le_of_ble_eq_true rfl, Nat.le_of_ble_eq_true rfl⟩ ⟨Nat.le_of_ble_eq_true rfl, Nat.le_of_ble_eq_true rfl⟩
  refine r_astore_n (pc := 7) ?_ dL_law_7 rfl (Nat.le_of_ble_eq_true rfl)
  exact Le.rf
theorem lw_all (hg : gXL G < 2147483648) (hst : l.stackTraces = false) (hQ : ∀ M, Q (some (.int 1)) M) : Wj false l G F Y_L_law Q QX 0 0 0 [.ref 1000100, xx, xx, xx, xx, xx, xx, xx] [] M0c := by
  refine g_L_p _ _ _ ?_
  have k0 := k_F
  simp only [R_L_p, I_new, I_ci, mN_M0, mN_aN, k0, I_ic, I_lc, I_nul, I_il, I_ll, I_al, I_is, I_ls, I_as, I_inc, I_iadd, I_isub, I_imul, I_iand, I_ladd, I_lsub, I_lmul, I_land, I_lor, I_idiv, I_irem, I_ishr, I_lshl, I_lshr, I_lushr, I_lcmp, I_i2l, I_l2i, I_dup, I_pop, I_dup2, I_ifeq, I_ifne, I_iflt, I_ifge, I_ifgt, I_ifle, I_iceq, I_icne, I_iclt, I_icge, I_icgt, I_icle, I_ifnull, I_ifnonnull, I_sw, swK, I_gi, I_gl, I_gp, I_pi, I_pl, I_ial, I_lal, I_ias, I_las, I_aal, I_len, I_ir, I_zr, I_lr, I_vr, I_ar, I_cv, I_cs, I_csN, I_max, I_min, I_cpi, I_cpl, I_kl, popA, I_csH, I_ixor, I_iushr, I_sil, I_sln, I_no, gt13, s1_13, se_13, gt0, gt1, gt2, gt3, gt4, gt5, gt6, gt7, gt8, gt9, gt10, gt11, gt12, s1_0, s1_1, s1_2, s1_3, s1_4, s1_5, s1_6, s1_7, s1_8, s1_9, s1_10, s1_11, s1_12, s2_0, s2_1, s2_2, s2_3, s2_4, s2_5, s2_6, s2_7, s2_8, s2_9, s2_10, s2_11, se_0, se_1, se_2, se_3, se_4, se_5, se_6, se_7, se_8, se_9, se_10, se_11, se_12, kil_i, kil_l, kil_r, kil_n, kil_x, ap_done, ap_pend, ap_dbt, ap_rel, ap_wrk, ap_trade, ap_mentor, ap_refused, ap_wdays, ap_today, ap_moves, st_day, st_needs, st_ments, st_aps, ap_eta, st_eta, Value.category, List.map_cons, List.map_nil, List.sum_cons, List.sum_nil, Option.toList_some, Option.toList_none, List.cons_append, List.nil_append, Nat.reduceAdd, Nat.reduceLeDiff, true_and, and_true, true_or, or_true, forall_const, not_true_eq_false, false_implies, not_false_eq_true, false_and, ↓reduceIte, ad_1, ad_2, ad_3, ad_4, ad_5, nq_2]
  refine sp_X9_init rfl zr_0.an fun Ma ca => ?_
  obtain ⟨p1, p2⟩ := pinv_0 ca
  simp only [I_ic, I_lc, I_nul, I_il, I_ll, I_al, I_is, I_ls, I_as, I_inc, I_iadd, I_isub, I_imul, I_iand, I_ladd, I_lsub, I_lmul, I_land, I_lor, I_idiv, I_irem, I_ishr, I_lshl, I_lshr, I_lushr, I_lcmp, I_i2l, I_l2i, I_dup, I_pop, I_dup2, I_ifeq, I_ifne, I_iflt, I_ifge, I_ifgt, I_ifle, I_iceq, I_icne, I_iclt, I_icge, I_icgt, I_icle, I_ifnull, I_ifnonnull, I_sw, swK, I_gi, I_gl, I_gp, I_pi, I_pl, I_ial, I_lal, I_ias, I_las, I_aal, I_len, I_ir, I_zr, I_lr, I_vr, I_ar, I_cv, I_cs, I_csN, I_max, I_min, I_cpi, I_cpl, I_kl, popA, I_csH, I_ixor, I_iushr, I_sil, I_sln, I_no, gt13, s1_13, se_13, gt0, gt1, gt2, gt3, gt4, gt5, gt6, gt7, gt8, gt9, gt10, gt11, gt12, s1_0, s1_1, s1_2, s1_3, s1_4, s1_5, s1_6, s1_7, s1_8, s1_9, s1_10, s1_11, s1_12, s2_0, s2_1, s2_2, s2_3, s2_4, s2_5, s2_6, s2_7, s2_8, s2_9, s2_10, s2_11, se_0, se_1, se_2, se_3, se_4, se_5, se_6, se_7, se_8, se_9, se_10, se_11, se_12, kil_i, kil_l, kil_r, kil_n, kil_x, ap_done, ap_pend, ap_dbt, ap_rel, ap_wrk, ap_trade, ap_mentor, ap_refused, ap_wdays, ap_today, ap_moves, st_day, st_needs, st_ments, st_aps, ap_eta, st_eta, Value.category, List.map_cons, List.map_nil, List.sum_cons, List.sum_nil, Option.toList_some, Option.toList_none, List.cons_append, List.nil_append, Nat.reduceAdd, Nat.reduceLeDiff, true_and, and_true, true_or, or_true, forall_const, not_true_eq_false, false_implies, not_false_eq_true, false_and, ↓reduceIte, ad_1, ad_2, ad_3, ad_4, ad_5, nq_2]
  refine wj_tf ⟨p1, Nat.le_of_eq p2.symm⟩ ?_
  exact rg_lo8 hg hQ ⟨st_at0 ca.2.1, u_at0 ca.2.1, tc_at0 ca.2.1⟩ ⟨by omega, hst⟩ (by omega)
end PRO
