/-! ===== CommandText: the text is read ===== -/
def preR (D : List Cmd) (E : Rt) : Rt := (D ++ E.1, E.2)
theorem preR_no {D : List Cmd} {tot : Rt} {R : List Int} (h : tot = preR D ([], some R)) : tot.2 = some R := by rw [h]; rfl
theorem preR_cons {D C : List Cmd} {d : Cmd} {o : Option (List Int)} {tot : Rt} (h : tot = preR D (d :: C, o)) : tot = preR (D ++ [d]) (C, o) := by
  rw [h]
  unfold preR
  simp
section SPSr
variable {l : Launch} {G : GT} {M : Mm} {Q : PQ} {QX : PX}
/-- behind a byte: the loop goes on, or the fault is answered -/
def RQ (l : Launch) (G : GT) (F : FX) (Q : PQ) (QX : PX) (a : Int32) : PQ := fun v M' => ∃ r : Int32, v = some (.int r) ∧ (r.toInt = -1 → Wj true l G F Y_X3_readCommands Q QX 0 0 12 [.ref 1073, .int (a + 1), xx] [] M') ∧ (¬ r.toInt = -1 → Q (some (.int r)) M')
theorem run_c {F : FX} {T K R : List Int} {c : Int} {a : Int32} (tc : TC M T) (hT : T = K ++ c :: R) (ha : a.toInt = K.length) (h : ∀ v : Int32, v.toInt = c → Tr true l G Y_X3_readByte [.ref 1073, .int a, .int v] M (RQ l G F Q QX a) QX) : Wj true l G F Y_X3_readCommands Q QX 0 0 12 [.ref 1073, .int a, xx] [] M := by
  refine g_X3_readCommands_12 _ _ _ ?_
  have h150 := tc.2.1
  have hl : T.length = K.length + (R.length + 1) := by rw [hT, List.length_append, List.length_cons]
  have hb := tc.2.2.2 K.length c (by rw [hT]; exact app_hd)
  have hn : a.toNatClampNeg = K.length := by rw [i_cl, ha]; rfl
  simp only [R_X3_readCommands_12, k_C, k_C1, i_lt, i_le, i_eq, tI_0, tI_1, tI_2, tI_3, tI_4, tI_5, tI_6, tI_7, tI_8, tI_9, tI_10, tI_11, tI_12, tI_14, tI_20, tI_31, tI_32, tI_48, tI_57, tI_59, tI_96, tI_97, tI_99, tI_100, tI_122, tI_127, tI_150, tI_199, tI_200, tI_255, tI_427, tI_1708, tI_2000, tI_9999, tI_m1, tI_m10, cN_0, cN_1, cN_2, cN_3, cN_4, cN_5, cN_6, cN_7, cN_8, cN_9, cN_10, cN_11, cN_12, cN_14, cN_20, cN_31, cN_32, cN_48, cN_57, cN_59, cN_96, cN_97, cN_99, cN_100, cN_122, cN_127, cN_150, cN_199, cN_200, cN_255, cN_427, cN_1708, cN_2000, cN_9999, hn, I_ic, I_lc, I_nul, I_il, I_ll, I_al, I_is, I_ls, I_as, I_inc, I_iadd, I_isub, I_imul, I_iand, I_ladd, I_lsub, I_lmul, I_land, I_lor, I_idiv, I_irem, I_ishr, I_lshl, I_lshr, I_lushr, I_lcmp, I_i2l, I_l2i, I_dup, I_pop, I_dup2, I_ifeq, I_ifne, I_iflt, I_ifge, I_ifgt, I_ifle, I_iceq, I_icne, I_iclt, I_icge, I_icgt, I_icle, I_ifnull, I_ifnonnull, I_sw, swK, I_gi, I_gl, I_gp, I_pi, I_pl, I_ial, I_lal, I_ias, I_las, I_aal, I_len, I_ir, I_zr, I_lr, I_vr, I_ar, I_cv, I_cs, I_csN, I_max, I_min, I_cpi, I_cpl, I_kl, popA, gt0, gt1, gt2, gt3, gt4, gt5, gt6, gt7, gt8, gt9, gt10, gt11, gt12, s1_0, s1_1, s1_2, s1_3, s1_4, s1_5, s1_6, s1_7, s1_8, s1_9, s1_10, s1_11, s1_12, s2_0, s2_1, s2_2, s2_3, s2_4, s2_5, s2_6, s2_7, s2_8, s2_9, s2_10, s2_11, se_0, se_1, se_2, se_3, se_4, se_5, se_6, se_7, se_8, se_9, se_10, se_11, se_12, kil_i, kil_l, kil_r, kil_n, kil_x, ap_done, ap_pend, ap_dbt, ap_rel, ap_wrk, ap_trade, ap_mentor, ap_refused, ap_wdays, ap_today, ap_moves, st_day, st_needs, st_ments, st_aps, ap_eta, st_eta, Value.category, List.map_cons, List.map_nil, List.sum_cons, List.sum_nil, Option.toList_some, Option.toList_none, List.cons_append, List.nil_append, Nat.reduceAdd, Nat.reduceLeDiff, true_and, and_true, true_or, or_true, forall_const, not_true_eq_false, false_implies, not_false_eq_true, false_and, ↓reduceIte, ad_1, ad_2, ad_3, ad_4, ad_5, nq_2]
  rw [ha, tc.1]
  refine ⟨fun g => by omega, fun _ => ⟨fun g => by omega, fun _ => ⟨i_in (n := 150) (by omega) (by omega), ?_⟩⟩⟩
  refine (h _ hb).mono (fun r M' hq => ?_) fun _ _ h => h
  obtain ⟨x, rfl, h1, h2⟩ := hq
  simp only [k_C, k_C1, i_lt, i_le, i_eq, tI_0, tI_1, tI_2, tI_3, tI_4, tI_5, tI_6, tI_7, tI_8, tI_9, tI_10, tI_11, tI_12, tI_14, tI_20, tI_31, tI_32, tI_48, tI_57, tI_59, tI_96, tI_97, tI_99, tI_100, tI_122, tI_127, tI_150, tI_199, tI_200, tI_255, tI_427, tI_1708, tI_2000, tI_9999, tI_m1, tI_m10, cN_0, cN_1, cN_2, cN_3, cN_4, cN_5, cN_6, cN_7, cN_8, cN_9, cN_10, cN_11, cN_12, cN_14, cN_20, cN_31, cN_32, cN_48, cN_57, cN_59, cN_96, cN_97, cN_99, cN_100, cN_122, cN_127, cN_150, cN_199, cN_200, cN_255, cN_427, cN_1708, cN_2000, cN_9999, hn, I_ic, I_lc, I_nul, I_il, I_ll, I_al, I_is, I_ls, I_as, I_inc, I_iadd, I_isub, I_imul, I_iand, I_ladd, I_lsub, I_lmul, I_land, I_lor, I_idiv, I_irem, I_ishr, I_lshl, I_lshr, I_lushr, I_lcmp, I_i2l, I_l2i, I_dup, I_pop, I_dup2, I_ifeq, I_ifne, I_iflt, I_ifge, I_ifgt, I_ifle, I_iceq, I_icne, I_iclt, I_icge, I_icgt, I_icle, I_ifnull, I_ifnonnull, I_sw, swK, I_gi, I_gl, I_gp, I_pi, I_pl, I_ial, I_lal, I_ias, I_las, I_aal, I_len, I_ir, I_zr, I_lr, I_vr, I_ar, I_cv, I_cs, I_csN, I_max, I_min, I_cpi, I_cpl, I_kl, popA, gt0, gt1, gt2, gt3, gt4, gt5, gt6, gt7, gt8, gt9, gt10, gt11, gt12, s1_0, s1_1, s1_2, s1_3, s1_4, s1_5, s1_6, s1_7, s1_8, s1_9, s1_10, s1_11, s1_12, s2_0, s2_1, s2_2, s2_3, s2_4, s2_5, s2_6, s2_7, s2_8, s2_9, s2_10, s2_11, se_0, se_1, se_2, se_3, se_4, se_5, se_6, se_7, se_8, se_9, se_10, se_11, se_12, kil_i, kil_l, kil_r, kil_n, kil_x, ap_done, ap_pend, ap_dbt, ap_rel, ap_wrk, ap_trade, ap_mentor, ap_refused, ap_wdays, ap_today, ap_moves, st_day, st_needs, st_ments, st_aps, ap_eta, st_eta, Value.category, List.map_cons, List.map_nil, List.sum_cons, List.sum_nil, Option.toList_some, Option.toList_none, List.cons_append, List.nil_append, Nat.reduceAdd, Nat.reduceLeDiff, true_and, and_true, true_or, or_true, forall_const, not_true_eq_false, false_implies, not_false_eq_true, false_and, ↓reduceIte, ad_1, ad_2, ad_3, ad_4, ad_5, nq_2]
  exact ⟨fun g => h1 g, fun g => h2 g⟩
theorem run_e {F : FX} {T : List Int} {a : Int32} (tc : TC M T) (ha : a.toInt = T.length) (h0 : (mI M 1073 5).toInt = 0 → Q (some (.int (-1))) M) (h1 : ∀ K0 V, (mI M 1073 5).toInt = 1 → T = K0 ++ V → (mI M 1073 6).toInt = K0.length → (wd V = -1 → Q (some (.int (mI M 1073 6))) M) ∧ (¬ wd V = -1 → Q (some (.int (mI M 1073 3))) M)) (h1e : (mI M 1073 5).toInt = 1 → ∃ K0 V, T = K0 ++ V ∧ (mI M 1073 6).toInt = K0.length) (h2 : ¬ (mI M 1073 5).toInt = 0 → ¬ (mI M 1073 5).toInt = 1 → Q (some (.int (mI M 1073 3))) M) : Wj true l G F Y_X3_readCommands Q QX 0 0 12 [.ref 1073, .int a, xx] [] M := by
  refine g_X3_readCommands_12 _ _ _ ?_
  simp only [R_X3_readCommands_12, k_C, k_C1, i_lt, i_le, i_eq, tI_0, tI_1, tI_2, tI_3, tI_4, tI_5, tI_6, tI_7, tI_8, tI_9, tI_10, tI_11, tI_12, tI_14, tI_20, tI_31, tI_32, tI_48, tI_57, tI_59, tI_96, tI_97, tI_99, tI_100, tI_122, tI_127, tI_150, tI_199, tI_200, tI_255, tI_427, tI_1708, tI_2000, tI_9999, tI_m1, tI_m10, cN_0, cN_1, cN_2, cN_3, cN_4, cN_5, cN_6, cN_7, cN_8, cN_9, cN_10, cN_11, cN_12, cN_14, cN_20, cN_31, cN_32, cN_48, cN_57, cN_59, cN_96, cN_97, cN_99, cN_100, cN_122, cN_127, cN_150, cN_199, cN_200, cN_255, cN_427, cN_1708, cN_2000, cN_9999, I_ic, I_lc, I_nul, I_il, I_ll, I_al, I_is, I_ls, I_as, I_inc, I_iadd, I_isub, I_imul, I_iand, I_ladd, I_lsub, I_lmul, I_land, I_lor, I_idiv, I_irem, I_ishr, I_lshl, I_lshr, I_lushr, I_lcmp, I_i2l, I_l2i, I_dup, I_pop, I_dup2, I_ifeq, I_ifne, I_iflt, I_ifge, I_ifgt, I_ifle, I_iceq, I_icne, I_iclt, I_icge, I_icgt, I_icle, I_ifnull, I_ifnonnull, I_sw, swK, I_gi, I_gl, I_gp, I_pi, I_pl, I_ial, I_lal, I_ias, I_las, I_aal, I_len, I_ir, I_zr, I_lr, I_vr, I_ar, I_cv, I_cs, I_csN, I_max, I_min, I_cpi, I_cpl, I_kl, popA, gt0, gt1, gt2, gt3, gt4, gt5, gt6, gt7, gt8, gt9, gt10, gt11, gt12, s1_0, s1_1, s1_2, s1_3, s1_4, s1_5, s1_6, s1_7, s1_8, s1_9, s1_10, s1_11, s1_12, s2_0, s2_1, s2_2, s2_3, s2_4, s2_5, s2_6, s2_7, s2_8, s2_9, s2_10, s2_11, se_0, se_1, se_2, se_3, se_4, se_5, se_6, se_7, se_8, se_9, se_10, se_11, se_12, kil_i, kil_l, kil_r, kil_n, kil_x, ap_done, ap_pend, ap_dbt, ap_rel, ap_wrk, ap_trade, ap_mentor, ap_refused, ap_wdays, ap_today, ap_moves, st_day, st_needs, st_ments, st_aps, ap_eta, st_eta, Value.category, List.map_cons, List.map_nil, List.sum_cons, List.sum_nil, Option.toList_some, Option.toList_none, List.cons_append, List.nil_append, Nat.reduceAdd, Nat.reduceLeDiff, true_and, and_true, true_or, or_true, forall_const, not_true_eq_false, false_implies, not_false_eq_true, false_and, ↓reduceIte, ad_1, ad_2, ad_3, ad_4, ad_5, nq_2]
  rw [ha, tc.1]
  refine ⟨fun _ => ?_, fun g => by omega⟩
  refine en_X3_faultOfEnd fun F2 => ?_
  simp only [R_X3_faultOfEnd_0, k_C, i_lt, i_le, i_eq, tI_0, tI_1, tI_2, tI_3, tI_4, tI_5, tI_6, tI_7, tI_8, tI_9, tI_10, tI_11, tI_12, tI_14, tI_20, tI_31, tI_32, tI_48, tI_57, tI_59, tI_96, tI_97, tI_99, tI_100, tI_122, tI_127, tI_150, tI_199, tI_200, tI_255, tI_427, tI_1708, tI_2000, tI_9999, tI_m1, tI_m10, cN_0, cN_1, cN_2, cN_3, cN_4, cN_5, cN_6, cN_7, cN_8, cN_9, cN_10, cN_11, cN_12, cN_14, cN_20, cN_31, cN_32, cN_48, cN_57, cN_59, cN_96, cN_97, cN_99, cN_100, cN_122, cN_127, cN_150, cN_199, cN_200, cN_255, cN_427, cN_1708, cN_2000, cN_9999, I_ic, I_lc, I_nul, I_il, I_ll, I_al, I_is, I_ls, I_as, I_inc, I_iadd, I_isub, I_imul, I_iand, I_ladd, I_lsub, I_lmul, I_land, I_lor, I_idiv, I_irem, I_ishr, I_lshl, I_lshr, I_lushr, I_lcmp, I_i2l, I_l2i, I_dup, I_pop, I_dup2, I_ifeq, I_ifne, I_iflt, I_ifge, I_ifgt, I_ifle, I_iceq, I_icne, I_iclt, I_icge, I_icgt, I_icle, I_ifnull, I_ifnonnull, I_sw, swK, I_gi, I_gl, I_gp, I_pi, I_pl, I_ial, I_lal, I_ias, I_las, I_aal, I_len, I_ir, I_zr, I_lr, I_vr, I_ar, I_cv, I_cs, I_csN, I_max, I_min, I_cpi, I_cpl, I_kl, popA, gt0, gt1, gt2, gt3, gt4, gt5, gt6, gt7, gt8, gt9, gt10, gt11, gt12, s1_0, s1_1, s1_2, s1_3, s1_4, s1_5, s1_6, s1_7, s1_8, s1_9, s1_10, s1_11, s1_12, s2_0, s2_1, s2_2, s2_3, s2_4, s2_5, s2_6, s2_7, s2_8, s2_9, s2_10, s2_11, se_0, se_1, se_2, se_3, se_4, se_5, se_6, se_7, se_8, se_9, se_10, se_11, se_12, kil_i, kil_l, kil_r, kil_n, kil_x, ap_done, ap_pend, ap_dbt, ap_rel, ap_wrk, ap_trade, ap_mentor, ap_refused, ap_wdays, ap_today, ap_moves, st_day, st_needs, st_ments, st_aps, ap_eta, st_eta, Value.category, List.map_cons, List.map_nil, List.sum_cons, List.sum_nil, Option.toList_some, Option.toList_none, List.cons_append, List.nil_append, Nat.reduceAdd, Nat.reduceLeDiff, true_and, and_true, true_or, or_true, forall_const, not_true_eq_false, false_implies, not_false_eq_true, false_and, ↓reduceIte, ad_1, ad_2, ad_3, ad_4, ad_5, nq_2]
  refine ⟨fun g => ⟨fun g2 => h2 g g2, fun g2 => ?_⟩, fun g => h0 g⟩
  obtain ⟨K0, V, e1, e2⟩ := h1e g2
  have h := h1 K0 V g2 e1 e2
  refine sp_X3_commandOf (K := K0) (V := V) (R0 := []) tc (by rw [List.append_nil]; exact e1) e2 (by rw [tc.1, e1, List.length_append]; omega) ⟨fun g3 => ?_, fun q hq g3 => ?_⟩
  · simp only [k_C, i_lt, i_le, i_eq, tI_0, tI_1, tI_2, tI_3, tI_4, tI_5, tI_6, tI_7, tI_8, tI_9, tI_10, tI_11, tI_12, tI_14, tI_20, tI_31, tI_32, tI_48, tI_57, tI_59, tI_96, tI_97, tI_99, tI_100, tI_122, tI_127, tI_150, tI_199, tI_200, tI_255, tI_427, tI_1708, tI_2000, tI_9999, tI_m1, tI_m10, cN_0, cN_1, cN_2, cN_3, cN_4, cN_5, cN_6, cN_7, cN_8, cN_9, cN_10, cN_11, cN_12, cN_14, cN_20, cN_31, cN_32, cN_48, cN_57, cN_59, cN_96, cN_97, cN_99, cN_100, cN_122, cN_127, cN_150, cN_199, cN_200, cN_255, cN_427, cN_1708, cN_2000, cN_9999, I_ic, I_lc, I_nul, I_il, I_ll, I_al, I_is, I_ls, I_as, I_inc, I_iadd, I_isub, I_imul, I_iand, I_ladd, I_lsub, I_lmul, I_land, I_lor, I_idiv, I_irem, I_ishr, I_lshl, I_lshr, I_lushr, I_lcmp, I_i2l, I_l2i, I_dup, I_pop, I_dup2, I_ifeq, I_ifne, I_iflt, I_ifge, I_ifgt, I_ifle, I_iceq, I_icne, I_iclt, I_icge, I_icgt, I_icle, I_ifnull, I_ifnonnull, I_sw, swK, I_gi, I_gl, I_gp, I_pi, I_pl, I_ial, I_lal, I_ias, I_las, I_aal, I_len, I_ir, I_zr, I_lr, I_vr, I_ar, I_cv, I_cs, I_csN, I_max, I_min, I_cpi, I_cpl, I_kl, popA, gt0, gt1, gt2, gt3, gt4, gt5, gt6, gt7, gt8, gt9, gt10, gt11, gt12, s1_0, s1_1, s1_2, s1_3, s1_4, s1_5, s1_6, s1_7, s1_8, s1_9, s1_10, s1_11, s1_12, s2_0, s2_1, s2_2, s2_3, s2_4, s2_5, s2_6, s2_7, s2_8, s2_9, s2_10, s2_11, se_0, se_1, se_2, se_3, se_4, se_5, se_6, se_7, se_8, se_9, se_10, se_11, se_12, kil_i, kil_l, kil_r, kil_n, kil_x, ap_done, ap_pend, ap_dbt, ap_rel, ap_wrk, ap_trade, ap_mentor, ap_refused, ap_wdays, ap_today, ap_moves, st_day, st_needs, st_ments, st_aps, ap_eta, st_eta, Value.category, List.map_cons, List.map_nil, List.sum_cons, List.sum_nil, Option.toList_some, Option.toList_none, List.cons_append, List.nil_append, Nat.reduceAdd, Nat.reduceLeDiff, true_and, and_true, true_or, or_true, forall_const, not_true_eq_false, false_implies, not_false_eq_true, false_and, ↓reduceIte, ad_1, ad_2, ad_3, ad_4, ad_5, nq_2]
    exact h.1 g3
  · simp only [k_C, i_lt, i_le, i_eq, tI_0, tI_1, tI_2, tI_3, tI_4, tI_5, tI_6, tI_7, tI_8, tI_9, tI_10, tI_11, tI_12, tI_14, tI_20, tI_31, tI_32, tI_48, tI_57, tI_59, tI_96, tI_97, tI_99, tI_100, tI_122, tI_127, tI_150, tI_199, tI_200, tI_255, tI_427, tI_1708, tI_2000, tI_9999, tI_m1, tI_m10, cN_0, cN_1, cN_2, cN_3, cN_4, cN_5, cN_6, cN_7, cN_8, cN_9, cN_10, cN_11, cN_12, cN_14, cN_20, cN_31, cN_32, cN_48, cN_57, cN_59, cN_96, cN_97, cN_99, cN_100, cN_122, cN_127, cN_150, cN_199, cN_200, cN_255, cN_427, cN_1708, cN_2000, cN_9999, I_ic, I_lc, I_nul, I_il, I_ll, I_al, I_is, I_ls, I_as, I_inc, I_iadd, I_isub, I_imul, I_iand, I_ladd, I_lsub, I_lmul, I_land, I_lor, I_idiv, I_irem, I_ishr, I_lshl, I_lshr, I_lushr, I_lcmp, I_i2l, I_l2i, I_dup, I_pop, I_dup2, I_ifeq, I_ifne, I_iflt, I_ifge, I_ifgt, I_ifle, I_iceq, I_icne, I_iclt, I_icge, I_icgt, I_icle, I_ifnull, I_ifnonnull, I_sw, swK, I_gi, I_gl, I_gp, I_pi, I_pl, I_ial, I_lal, I_ias, I_las, I_aal, I_len, I_ir, I_zr, I_lr, I_vr, I_ar, I_cv, I_cs, I_csN, I_max, I_min, I_cpi, I_cpl, I_kl, popA, gt0, gt1, gt2, gt3, gt4, gt5, gt6, gt7, gt8, gt9, gt10, gt11, gt12, s1_0, s1_1, s1_2, s1_3, s1_4, s1_5, s1_6, s1_7, s1_8, s1_9, s1_10, s1_11, s1_12, s2_0, s2_1, s2_2, s2_3, s2_4, s2_5, s2_6, s2_7, s2_8, s2_9, s2_10, s2_11, se_0, se_1, se_2, se_3, se_4, se_5, se_6, se_7, se_8, se_9, se_10, se_11, se_12, kil_i, kil_l, kil_r, kil_n, kil_x, ap_done, ap_pend, ap_dbt, ap_rel, ap_wrk, ap_trade, ap_mentor, ap_refused, ap_wdays, ap_today, ap_moves, st_day, st_needs, st_ments, st_aps, ap_eta, st_eta, Value.category, List.map_cons, List.map_nil, List.sum_cons, List.sum_nil, Option.toList_some, Option.toList_none, List.cons_append, List.nil_append, Nat.reduceAdd, Nat.reduceLeDiff, true_and, and_true, true_or, or_true, forall_const, not_true_eq_false, false_implies, not_false_eq_true, false_and, ↓reduceIte, ad_1, ad_2, ad_3, ad_4, ad_5, nq_2]
    exact h.2 (by rw [g3]; omega)
theorem i_m1 : ((-1 : Int32)).toInt = -1 := rfl
theorem cl_run {F : FX} {M0 : Mm} {T : List Int} {tot : Rt} (hF : ∀ R, tot.2 = some R → ∀ M' (r : Int32), FT M0 M' → TC M' T → r.toInt = (T.length : Int) - R.length → Q (some (.int r)) M') (hO : tot.2 = none → ∀ M', FT M0 M' → TC M' T → DC M' tot.1 → Q (some (.int (-1))) M') : ∀ (R K : List Int) (f : Nat) (D : List Cmd) (M : Mm) (a : Int32), T = K ++ R → a.toInt = K.length → FT M0 M → TC M T → DC M D → ((mI M 1073 5).toInt = 0 ∧ 7 * D.length ≤ K.length ∧ R.length ≤ f ∧ tot = preR D (tAll f (sk R))) ∨ (∃ (K0 V : List Int), (mI M 1073 5).toInt = 1 ∧ K = K0 ++ V ∧ (mI M 1073 6).toInt = K0.length ∧ (∀ c ∈ V, isLt c) ∧ ¬ V = [] ∧ 7 * D.length ≤ K0.length ∧ R.length ≤ f ∧ tot = preR D (tAll (f + 1) (V ++ R))) ∨ (∃ (w : Int) (n k : Nat) (g : Nat → Int), (mI M 1073 5).toInt = 2 ∧ CU M D w k g ∧ k + n + 1 = mny w ∧ (0 ≤ w ∧ w ≤ 11) ∧ 7 * D.length + wl w + 2 * k + 1 ≤ K.length ∧ R.length ≤ f ∧ tot = preR D (afterN f w n k g (rdN (sk R)))) ∨ (∃ (w : Int) (n k : Nat) (g : Nat → Int) (m d : Nat) (v : Int), (mI M 1073 5).toInt = 3 ∧ CU M D w k g ∧ k + n + 1 = mny w ∧ (0 ≤ w ∧ w ≤ 11) ∧ 7 * D.length + wl w + 2 * k + 2 ≤ K.length ∧ R.length ≤ f ∧ (mI M 1073 10).toInt = v ∧ (0 ≤ v ∧ v < 10 ^ d) ∧ (mI M 1073 9).toInt = d ∧ d + m = 4 ∧ tot = preR D (inN f w n k g m v R)) ∨ (∃ (w : Int) (g : Nat → Int), (mI M 1073 5).toInt = 4 ∧ CU M D w (mny w) g ∧ (0 ≤ w ∧ w ≤ 11) ∧ 7 * D.length + wl w + 2 * mny w ≤ K.length ∧ R.length ≤ f ∧ tot = preR D (finN f w g R)) → Wj true l G F Y_X3_readCommands Q QX 0 0 12 [.ref 1073, .int a, xx] [] M
  | [], K, f, D, M, a, hT, ha, ft, tc, dc, hS => by
    have hTK : T = K := by rw [hT, List.append_nil]
    have flt : tot.2 = some [] → Q (some (.int (mI M 1073 3))) M := fun h => hF [] h M _ ft tc (by rw [tc.1]; simp)
    refine run_e tc (by rw [hTK]; exact ha) (fun p => ?_) (fun K1 V1 p e1 e2 => ?_) (fun p => ?_) fun p0 p1 => ?_
    · rcases hS with ⟨_, _, _, h⟩ | ⟨K0, V, q, _⟩ | ⟨w, n, k, g, q, _⟩ | ⟨w, n, k, g, m, d, v, q, _⟩ | ⟨w, g, q, _⟩
      · rw [sk, tAll_nil] at h
        refine hO (by rw [h]; rfl) M ft tc ?_
        rw [h]
        unfold preR
        rw [List.append_nil]
        exact dc
      all_goals omega
    · rcases hS with ⟨q, _⟩ | ⟨K0, V, _, hK, hw, hV, hne, _, _, h⟩ | ⟨w, n, k, g, q, _⟩ | ⟨w, n, k, g, m, d, v, q, _⟩ | ⟨w, g, q, _⟩
      · omega
      · have ek : K1 = K0 ∧ V1 = V := List.append_inj (by rw [← e1, hTK, hK]) (by omega)
        rw [ek.2]
        rw [word_go hV hne fun c R' e => by cases e] at h
        refine ⟨fun g => ?_, fun g => flt ?_⟩
        · rw [if_pos g] at h
          refine hF _ (preR_no h) M _ ft tc ?_
          rw [hw, hTK, hK, List.length_append, List.append_nil]
          omega
        · rw [if_neg g] at h
          have mb := mny_b (wd V)
          obtain ⟨n, hn⟩ : ∃ n, mny (wd V) = n + 1 := ⟨mny (wd V) - 1, by omega⟩
          rw [hn, rest_nil] at h
          exact preR_no h
      all_goals omega
    · rcases hS with ⟨q, _⟩ | ⟨K0, V, _, hK, hw, _⟩ | ⟨w, n, k, g, q, _⟩ | ⟨w, n, k, g, m, d, v, q, _⟩ | ⟨w, g, q, _⟩
      · omega
      · exact ⟨K0, V, by rw [hTK, hK], hw⟩
      all_goals omega
    · rcases hS with ⟨q, _⟩ | ⟨K0, V, q, _⟩ | ⟨w, n, k, g, _, _, _, _, _, _, h⟩ | ⟨w, n, k, g, m, d, v, _, _, hkn, _, _, _, _, _, _, _, h⟩ | ⟨w, g, _, _, _, _, _, h⟩
      · omega
      · omega
      · rw [after_nil] at h
        exact flt (preR_no h)
      · rw [in_nil] at h
        cases n with
        | zero => rw [rest_0, fin_nil] at h; exact flt (preR_no h)
        | succ n => rw [rest_nil] at h; exact flt (preR_no h)
      · rw [fin_nil] at h
        exact flt (preR_no h)
  | c :: R, K, f, D, M, a, hT, ha, ft, tc, dc, hS => by
    refine run_c tc hT ha fun v hv => ?_
    have h150 := tc.2.1
    have hl : T.length = K.length + (R.length + 1) := by rw [hT, List.length_append, List.length_cons]
    have hT2 : T = (K ++ [c]) ++ R := by rw [hT]; simp
    have hKl : (K ++ [c]).length = K.length + 1 := by rw [List.length_append]; rfl
    have ha2 : (a + 1).toInt = (K ++ [c]).length := by rw [hKl, i_add, ha, tI_1]; omega; all_goals rw [ha, tI_1]; omega
    have isI : ∀ r M', RQ l G F Q QX a r M' → ∃ x, r = some (.int x) := fun r M' ⟨x, hx, _⟩ => ⟨x, hx⟩
    have flt : ∀ (S : List Int) (M' : Mm) (r : Int32), tot.2 = some S → FT M0 M' → TC M' T → r.toInt = (T.length : Int) - S.length → 0 ≤ r.toInt → RQ l G F Q QX a (some (.int r)) M' := fun S M' r h1 h2 h3 h4 h5 => ⟨r, rfl, fun e => by omega, fun _ => hF S h1 M' r h2 h3 h4⟩
    have flta : ∀ (M' : Mm), tot.2 = some (c :: R) → FT M0 M' → RQ l G F Q QX a (some (.int a)) M' := fun M' h1 h2 => flt (c :: R) M' a h1 h2 (by
      have h3 := ft
      have := tc
      exact ⟨by rw [h2.2.2.1, ← ft.2.2.1]; exact tc.1, tc.2.1, tc.2.2.1, fun i w hw => by rw [h2.2.1, ← ft.2.1]; exact tc.2.2.2 i w hw⟩) (by rw [ha, List.length_cons]; omega) (by omega)
    have tcO : ∀ M', FT M0 M' → TC M' T := fun M' h2 => ⟨by rw [h2.2.2.1, ← ft.2.2.1]; exact tc.1, tc.2.1, tc.2.2.1, fun i w hw => by rw [h2.2.1, ← ft.2.1]; exact tc.2.2.2 i w hw⟩
    rcases hS with ⟨p, h7, hf, h⟩ | ⟨K0, V, p, hK, hw, hV, hne, h7, hf, h⟩ | ⟨w, n, k, g, p, cu, hkn, hwb, h7, hf, h⟩ | ⟨w, n, k, g, m, d, y, p, cu, hkn, hwb, h7, hf, hy, hyb, hd, hdm, h⟩ | ⟨w, g, p, cu, hwb, h7, hf, h⟩
    · simp only [ap_done, ap_pend, ap_dbt, ap_rel, ap_wrk, ap_trade, ap_mentor, ap_refused, ap_wdays, ap_today, ap_moves, st_day, st_needs, st_ments, st_aps, ap_eta, st_eta, List.length_cons] at hf
      obtain ⟨f', rfl⟩ : ∃ f', f = f' + 1 := ⟨f - 1, by omega⟩
      refine sp_X3_readByte (fun _ => ?_) (fun q => by omega) (fun q => by omega) (fun q => by omega) (fun q => absurd p q) isI
      refine sp_X3_readBeforeWord (fun g => ?_) (fun g1 g2 => ?_) fun g => ?_
      · refine ⟨-1, rfl, fun _ => ?_, fun e => absurd rfl e⟩
        rw [hv] at g
        subst g
        rw [sk_sp] at h
        exact cl_run hF hO R (K ++ [32]) (f' + 1) D M (a + 1) hT2 ha2 ft tc dc (Or.inl ⟨p, by omega, by omega, h⟩)
      · rw [hv] at g1 g2
        rw [sk_ne g1, word_no g2] at h
        exact flta M (preR_no h) ft
      · rw [hv] at g
        rw [sk_ne (by omega)] at h
        refine ⟨-1, rfl, fun _ => ?_, fun e => absurd rfl e⟩
        have f1 := (FT_f M 6 a (by decide)).trans (FT_f _ 5 1 (by decide))
        refine cl_run hF hO R (K ++ [c]) f' D _ (a + 1) hT2 ha2 (ft.trans f1) (tc.ft f1) ((dc.f 6 _ (by decide)).f 5 _ (by decide)) (Or.inr (Or.inl ⟨K, [c], by rw [mI_sI, if_pos ⟨rfl, rfl⟩]; rfl, rfl, ?_, fun x hx => ?_, by simp, h7, by omega, h⟩))
        · rw [mI_sI, if_neg (by omega), mI_sI, if_pos ⟨rfl, rfl⟩]
          exact ha
        · rw [List.mem_singleton] at hx
          subst hx
          exact g
    · simp only [ap_done, ap_pend, ap_dbt, ap_rel, ap_wrk, ap_trade, ap_mentor, ap_refused, ap_wdays, ap_today, ap_moves, st_day, st_needs, st_ments, st_aps, ap_eta, st_eta, List.length_cons] at hf
      have hTV : T = K0 ++ (V ++ (c :: R)) := by rw [hT, hK, List.append_assoc]
      have hKV : K.length = K0.length + V.length := by rw [hK, List.length_append]
      refine sp_X3_readByte (fun q => by omega) (fun _ => ?_) (fun q => by omega) (fun q => by omega) (fun _ q => absurd p q) isI
      refine sp_X3_readInWord tc dc hTV hw (by omega) (fun g => ?_) (fun g g2 => ?_) (fun g g2 g3 => ?_) fun g3 g2 M1 cu dc1 f1 p1 => ?_
      · rw [hv] at g
        refine ⟨-1, rfl, fun _ => ?_, fun e => absurd rfl e⟩
        refine cl_run hF hO R (K ++ [c]) f D M (a + 1) hT2 ha2 ft tc dc (Or.inr (Or.inl ⟨K0, V ++ [c], p, by rw [hK, List.append_assoc], hw, fun x hx => ?_, by simp, h7, by omega, by rw [h, List.append_assoc]; rfl⟩))
        rw [List.mem_append] at hx
        rcases hx with hx | hx
        · exact hV x hx
        · rw [List.mem_singleton] at hx
          subst hx
          exact g
      all_goals rw [word_go hV hne (fun c' R' e => by
        cases e
        first | (rw [← hv]; exact g) | (rw [← hv]; omega))] at h
      · rw [if_pos g2] at h
        refine flt _ M _ (preR_no h) ft tc ?_ (by omega)
        rw [hw, hTV, List.length_append]
        omega
      · rw [if_neg g2] at h
        have mb := mny_b (wd V)
        obtain ⟨n, hn⟩ : ∃ n, mny (wd V) = n + 1 := ⟨mny (wd V) - 1, by omega⟩
        rw [hn, rest_no (by rw [← hv]; exact g3)] at h
        exact flta M (preR_no h) ft
      · rw [if_neg g2] at h
        have mb := mny_b (wd V)
        obtain ⟨n, hn⟩ : ∃ n, mny (wd V) = n + 1 := ⟨mny (wd V) - 1, by omega⟩
        have hc : c = 32 := by omega
        subst hc
        rw [hn, rest_sp] at h
        have hwl := wl_wd g2
        refine ⟨-1, rfl, fun _ => ?_, fun e => absurd rfl e⟩
        exact cl_run hF hO R (K ++ [32]) f D M1 (a + 1) hT2 ha2 (ft.trans f1) (tc.ft f1) dc1 (Or.inr (Or.inr (Or.inl ⟨wd V, n, 0, _, p1, cu, by omega, hwl.2, by omega, by omega, h⟩)))
    · simp only [ap_done, ap_pend, ap_dbt, ap_rel, ap_wrk, ap_trade, ap_mentor, ap_refused, ap_wdays, ap_today, ap_moves, st_day, st_needs, st_ments, st_aps, ap_eta, st_eta, List.length_cons] at hf
      refine sp_X3_readByte (fun q => by omega) (fun q => by omega) (fun _ => ?_) (fun q => by omega) (fun _ _ q => absurd p q) isI
      refine sp_X3_readBeforeNumber (fun g => ?_) (fun g1 g2 => ?_) fun g => ?_
      · rw [hv] at g
        subst g
        rw [sk_sp] at h
        refine ⟨-1, rfl, fun _ => ?_, fun e => absurd rfl e⟩
        exact cl_run hF hO R (K ++ [32]) f D M (a + 1) hT2 ha2 ft tc dc (Or.inr (Or.inr (Or.inl ⟨w, n, k, g, p, cu, hkn, hwb, by omega, by omega, h⟩)))
      · rw [hv] at g1 g2
        rw [after_no g2 g1] at h
        exact flta M (preR_no h) ft
      · have e48 : (v - 48).toInt = c - 48 := by rw [i_sub, hv, tI_48]; all_goals rw [hv, tI_48]; omega
        rw [hv] at g
        rw [after_dg g] at h
        refine ⟨-1, rfl, fun _ => ?_, fun e => absurd rfl e⟩
        have f1 := ((FT_f M 10 (v - 48) (by decide)).trans (FT_f _ 9 1 (by decide))).trans (FT_f _ 5 3 (by decide))
        refine cl_run hF hO R (K ++ [c]) f D _ (a + 1) hT2 ha2 (ft.trans f1) (tc.ft f1) (((dc.f 10 _ (by decide)).f 9 _ (by decide)).f 5 _ (by decide)) (Or.inr (Or.inr (Or.inr (Or.inl ⟨w, n, k, _, 3, 1, c - 48, by rw [mI_sI, if_pos ⟨rfl, rfl⟩]; rfl, ((cu.f 10 _ (by decide)).f 9 _ (by decide)).f 5 _ (by decide), hkn, hwb, by omega, by omega, ?_, by omega, ?_, rfl, h⟩))))
        · rw [mI_sI, if_neg (by omega), mI_sI, if_neg (by omega), mI_sI, if_pos ⟨rfl, rfl⟩]
          exact e48
        · rw [mI_sI, if_neg (by omega), mI_sI, if_pos ⟨rfl, rfl⟩]
          rfl
    · simp only [ap_done, ap_pend, ap_dbt, ap_rel, ap_wrk, ap_trade, ap_mentor, ap_refused, ap_wdays, ap_today, ap_moves, st_day, st_needs, st_ments, st_aps, ap_eta, st_eta, List.length_cons] at hf
      have hy3 : d ≤ 3 → y < 1000 := fun hd3 => by
        have hd4 : d = 0 ∨ d = 1 ∨ d = 2 ∨ d = 3 := by omega
        have y1 := hyb.2
        rcases hd4 with e | e | e | e <;> subst e <;> simp [ap_done, ap_pend, ap_dbt, ap_rel, ap_wrk, ap_trade, ap_mentor, ap_refused, ap_wdays, ap_today, ap_moves, st_day, st_needs, st_ments, st_aps, ap_eta, st_eta] at y1 <;> omega
      refine sp_X3_readByte (fun q => by omega) (fun q => by omega) (fun q => by omega) (fun _ => ?_) (fun _ _ _ q => absurd p q) isI
      refine sp_X3_readInNumber dc cu (by omega) (fun g g2 => ?_) (fun g g2 => ?_) fun g M1 cu1 dc1 f1 => ?_
      · rw [hv] at g
        have hm : m = 0 := by omega
        subst hm
        rw [in_4 g] at h
        exact flta M (preR_no h) ft
      · obtain ⟨m', rfl⟩ : ∃ m', m = m' + 1 := ⟨m - 1, by omega⟩
        have y3 := hy3 (by omega)
        have y0 := hyb.1
        have q1 : (10 * mI M 1073 10).toInt = 10 * y := by rw [i_mul, hy, tI_10]; all_goals rw [hy, tI_10]; omega
        rw [hv] at g
        have q2 : (10 * mI M 1073 10 + v).toInt = 10 * y + c := by rw [i_add, q1, hv]; all_goals rw [q1, hv]; omega
        have q3 : (10 * mI M 1073 10 + v - 48).toInt = 10 * y + (c - 48) := by rw [i_sub, q2, tI_48]; omega; all_goals rw [q2, tI_48]; omega
        have q4 : (mI M 1073 9 + 1).toInt = ((d + 1 : Nat) : Int) := by rw [i_add, hd, tI_1]; rfl; all_goals rw [hd, tI_1]; omega
        rw [in_dg g] at h
        refine ⟨-1, rfl, fun _ => ?_, fun e => absurd rfl e⟩
        have f1 := (FT_f M 10 (10 * mI M 1073 10 + v - 48) (by decide)).trans (FT_f _ 9 (mI M 1073 9 + 1) (by decide))
        refine cl_run hF hO R (K ++ [c]) f D _ (a + 1) hT2 ha2 (ft.trans f1) (tc.ft f1) ((dc.f 10 _ (by decide)).f 9 _ (by decide)) (Or.inr (Or.inr (Or.inr (Or.inl ⟨w, n, k, _, m', d + 1, 10 * y + (c - 48), ?_, (cu.f 10 _ (by decide)).f 9 _ (by decide), hkn, hwb, by omega, by omega, ?_, ⟨by omega, ?_⟩, ?_, by omega, h⟩))))
        · rw [mI_sI, if_neg (by omega), mI_sI, if_neg (by omega)]
          exact p
        · rw [mI_sI, if_neg (by omega), mI_sI, if_pos ⟨rfl, rfl⟩]
          exact q3
        · have y1 := hyb.2
          rw [Int.pow_succ]
          omega
        · rw [mI_sI, if_pos ⟨rfl, rfl⟩]
          exact q4
      · rw [hv] at g
        rw [in_no g] at h
        rw [hy] at cu1
        refine ⟨fun e1 e2 => ⟨fun g3 => ?_, fun g3 g4 => ?_, fun g3 => ?_⟩, fun e1 e2 => ⟨fun g3 => ?_, fun g3 => ?_⟩⟩
        · have hn : n = 0 := by omega
          subst hn
          rw [hv] at g3
          subst g3
          rw [rest_0, fin_sp] at h
          refine ⟨-1, rfl, fun _ => ?_, fun e => absurd rfl e⟩
          rw [e1] at cu1
          exact cl_run hF hO R (K ++ [32]) f D M1 (a + 1) hT2 ha2 (ft.trans f1) (tc.ft f1) dc1 (Or.inr (Or.inr (Or.inr (Or.inr ⟨w, _, e2, cu1, hwb, by omega, by omega, h⟩))))
        · have hn : n = 0 := by omega
          subst hn
          rw [hv] at g3 g4
          rw [rest_0, fin_no g3 g4] at h
          exact flta M1 (preR_no h) (ft.trans f1)
        · have hn : n = 0 := by omega
          subst hn
          rw [hv] at g3
          subst g3
          rw [rest_0, fin_y] at h
          refine ⟨-1, rfl, fun _ => ?_, fun e => absurd rfl e⟩
          rw [e1] at cu1
          have hwl := wl_b w.toNat (by omega)
          rw [show ((w.toNat : Nat) : Int) = w by omega] at hwl
          have f2 := (FT_f M1 4 (mI M1 1073 4 + 1) (by decide)).trans (FT_f _ 5 0 (by decide))
          exact cl_run hF hO R (K ++ [59]) f (D ++ [_]) _ (a + 1) hT2 ha2 ((ft.trans f1).trans f2) ((tc.ft f1).ft f2) ((dc1.close cu1 (by omega)).f 5 _ (by decide)) (Or.inl ⟨by rw [mI_sI, if_pos ⟨rfl, rfl⟩]; rfl, by rw [List.length_append, hKl]; simp only [ap_done, ap_pend, ap_dbt, ap_rel, ap_wrk, ap_trade, ap_mentor, ap_refused, ap_wdays, ap_today, ap_moves, st_day, st_needs, st_ments, st_aps, ap_eta, st_eta, List.length_cons, List.length_nil]; omega, by omega, preR_cons h⟩)
        · obtain ⟨n', rfl⟩ : ∃ n', n = n' + 1 := ⟨n - 1, by omega⟩
          rw [hv] at g3
          subst g3
          rw [rest_sp] at h
          refine ⟨-1, rfl, fun _ => ?_, fun e => absurd rfl e⟩
          exact cl_run hF hO R (K ++ [32]) f D M1 (a + 1) hT2 ha2 (ft.trans f1) (tc.ft f1) dc1 (Or.inr (Or.inr (Or.inl ⟨w, n', k + 1, _, e2, cu1, by omega, hwb, by omega, by omega, h⟩)))
        · obtain ⟨n', rfl⟩ : ∃ n', n = n' + 1 := ⟨n - 1, by omega⟩
          rw [hv] at g3
          rw [rest_no g3] at h
          exact flta M1 (preR_no h) (ft.trans f1)
    · simp only [ap_done, ap_pend, ap_dbt, ap_rel, ap_wrk, ap_trade, ap_mentor, ap_refused, ap_wdays, ap_today, ap_moves, st_day, st_needs, st_ments, st_aps, ap_eta, st_eta, List.length_cons] at hf
      refine sp_X3_readByte (fun q => by omega) (fun q => by omega) (fun q => by omega) (fun q => by omega) (fun _ _ _ _ => ?_) isI
      refine sp_X3_readBehindNumbers (fun g3 => ?_) (fun g3 g4 => ?_) fun g3 => ?_
      · rw [hv] at g3
        subst g3
        rw [fin_sp] at h
        refine ⟨-1, rfl, fun _ => ?_, fun e => absurd rfl e⟩
        exact cl_run hF hO R (K ++ [32]) f D M (a + 1) hT2 ha2 ft tc dc (Or.inr (Or.inr (Or.inr (Or.inr ⟨w, g, p, cu, hwb, by omega, by omega, h⟩))))
      · rw [hv] at g3 g4
        rw [fin_no g3 g4] at h
        exact flta M (preR_no h) ft
      · rw [hv] at g3
        subst g3
        rw [fin_y] at h
        refine ⟨-1, rfl, fun _ => ?_, fun e => absurd rfl e⟩
        have hwl := wl_b w.toNat (by omega)
        rw [show ((w.toNat : Nat) : Int) = w by omega] at hwl
        have f2 := (FT_f M 4 (mI M 1073 4 + 1) (by decide)).trans (FT_f _ 5 0 (by decide))
        exact cl_run hF hO R (K ++ [59]) f (D ++ [_]) _ (a + 1) hT2 ha2 (ft.trans f2) (tc.ft f2) ((dc.close cu (by omega)).f 5 _ (by decide)) (Or.inl ⟨by rw [mI_sI, if_pos ⟨rfl, rfl⟩]; rfl, by rw [List.length_append, hKl]; simp only [ap_done, ap_pend, ap_dbt, ap_rel, ap_wrk, ap_trade, ap_mentor, ap_refused, ap_wdays, ap_today, ap_moves, st_day, st_needs, st_ments, st_aps, ap_eta, st_eta, List.length_cons, List.length_nil]; omega, by omega, preR_cons h⟩)
theorem sp_X3_readCommands {T : List Int} (tc : TC M T) (hF : ∀ R, (rText T).2 = some R → ∀ M' (r : Int32), FT M M' → TC M' T → r.toInt = (T.length : Int) - R.length → Q (some (.int r)) M') (hO : (rText T).2 = none → ∀ M', FT M M' → TC M' T → DC M' (rText T).1 → Q (some (.int (-1))) M') : Tr true l G Y_X3_readCommands [.ref 1073] M Q QX := by
  refine en_X3_readCommands fun F => ?_
  simp only [R_X3_readCommands_0, k_C, I_ic, I_lc, I_nul, I_il, I_ll, I_al, I_is, I_ls, I_as, I_inc, I_iadd, I_isub, I_imul, I_iand, I_ladd, I_lsub, I_lmul, I_land, I_lor, I_idiv, I_irem, I_ishr, I_lshl, I_lshr, I_lushr, I_lcmp, I_i2l, I_l2i, I_dup, I_pop, I_dup2, I_ifeq, I_ifne, I_iflt, I_ifge, I_ifgt, I_ifle, I_iceq, I_icne, I_iclt, I_icge, I_icgt, I_icle, I_ifnull, I_ifnonnull, I_sw, swK, I_gi, I_gl, I_gp, I_pi, I_pl, I_ial, I_lal, I_ias, I_las, I_aal, I_len, I_ir, I_zr, I_lr, I_vr, I_ar, I_cv, I_cs, I_csN, I_max, I_min, I_cpi, I_cpl, I_kl, popA, gt0, gt1, gt2, gt3, gt4, gt5, gt6, gt7, gt8, gt9, gt10, gt11, gt12, s1_0, s1_1, s1_2, s1_3, s1_4, s1_5, s1_6, s1_7, s1_8, s1_9, s1_10, s1_11, s1_12, s2_0, s2_1, s2_2, s2_3, s2_4, s2_5, s2_6, s2_7, s2_8, s2_9, s2_10, s2_11, se_0, se_1, se_2, se_3, se_4, se_5, se_6, se_7, se_8, se_9, se_10, se_11, se_12, kil_i, kil_l, kil_r, kil_n, kil_x, ap_done, ap_pend, ap_dbt, ap_rel, ap_wrk, ap_trade, ap_mentor, ap_refused, ap_wdays, ap_today, ap_moves, st_day, st_needs, st_ments, st_aps, ap_eta, st_eta, Value.category, List.map_cons, List.map_nil, List.sum_cons, List.sum_nil, Option.toList_some, Option.toList_none, List.cons_append, List.nil_append, Nat.reduceAdd, Nat.reduceLeDiff, true_and, and_true, true_or, or_true, forall_const, not_true_eq_false, false_implies, not_false_eq_true, false_and, ↓reduceIte, ad_1, ad_2, ad_3, ad_4, ad_5, nq_2]
  have f1 := (FT_f M 4 0 (by decide)).trans (FT_f _ 5 0 (by decide))
  refine cl_run (M0 := M) (tot := rText T) hF hO T [] T.length [] _ 0 rfl rfl f1 (tc.ft f1) ⟨?_, Nat.zero_le _, fun i d hd => by cases hd⟩ (Or.inl ⟨by rw [mI_sI, if_pos ⟨rfl, rfl⟩]; rfl, Nat.zero_le _, Nat.le_refl _, ?_⟩)
  · rw [mI_sI, if_neg (by omega), mI_sI, if_pos ⟨rfl, rfl⟩]
    rfl
  · unfold preR rText
    simp
end SPSr
