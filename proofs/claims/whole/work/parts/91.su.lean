/-! ===== the commands that were read: which exception is due, what is done ===== -/
theorem kA_0 {p : Int} (h : 0 ≤ p) : kA p = 0 ↔ p = 0 := by
  unfold kA
  split <;> omega
theorem kB_0 (p : Int) : kB p = 0 ↔ p = 0 := by
  unfold kB
  split <;> omega
theorem en_nm : ∀ q : Nat, q < 12 → enR q < 12 ∧ (Int32.ofNat q).toInt = q := by decide +kernel
theorem le12 {q : Nat} (h : q < 12) : 1000001 + q ≤ 1000012 := by omega
theorem le01' (q : Nat) : 1000001 ≤ 1000001 + q := by omega
theorem sw_at : ∀ q : Nat, q < 12 → (([1, 2, 3, 4, 5, 6, 7, 8, 9, 10, 11, 0] : List Int32).getD (Int32.ofNat (1000001 + q - 1000001)).toNatClampNeg 0).toInt = if q = 11 then 0 else ((q + 1 : Nat) : Int) := by decide +kernel
section SPSu
variable {l : Launch} {G : GT} {M : Mm} {Q : PQ} {QX : PX} {X : St} {D : List Cmd} {d : Cmd} {i : Nat} {v w : Int32}
theorem sp_X3_commandAt {q : Nat} (dc : DC M D) (hi : i < D.length) (hv : v.toInt = i) (hp : mP M 1075 i = 1000001 + q + 1) (hQ : Q (some (.ref (1000001 + q))) M) : Tr true l G Y_X3_commandAt [.ref 1073, .int v] M Q QX := by
  refine en_X3_commandAt fun F => ?_
  have l21 := dc.2.1
  have t21 : (21 : Int32).toInt = 21 := rfl
  have hn : v.toNatClampNeg = i := by rw [i_cl, hv]; rfl
  simp only [R_X3_commandAt_0, k_C, k_C2, I_gs, I_gf, I_sln, I_sil, I_sbl, I_saa, I_sgf, I_i2c, I_cvS, I_ord, I_no, I_nr, I_cal, I_cas, i_lt, i_le, i_eq, tI_0, tI_1, tI_2, tI_3, tI_4, tI_5, tI_6, tI_7, tI_8, tI_9, tI_10, tI_11, tI_12, tI_14, tI_20, tI_31, tI_32, tI_48, tI_57, tI_59, tI_96, tI_97, tI_99, tI_100, tI_122, tI_127, tI_150, tI_199, tI_200, tI_255, tI_427, tI_1708, tI_2000, tI_9999, tI_m1, tI_m10, cN_0, cN_1, cN_2, cN_3, cN_4, cN_5, cN_6, cN_7, cN_8, cN_9, cN_10, cN_11, cN_12, cN_14, cN_20, cN_31, cN_32, cN_48, cN_57, cN_59, cN_96, cN_97, cN_99, cN_100, cN_122, cN_127, cN_150, cN_199, cN_200, cN_255, cN_427, cN_1708, cN_2000, cN_9999, t21, hn, I_ic, I_lc, I_nul, I_il, I_ll, I_al, I_is, I_ls, I_as, I_inc, I_iadd, I_isub, I_imul, I_iand, I_ladd, I_lsub, I_lmul, I_land, I_lor, I_idiv, I_irem, I_ishr, I_lshl, I_lshr, I_lushr, I_lcmp, I_i2l, I_l2i, I_dup, I_pop, I_dup2, I_ifeq, I_ifne, I_iflt, I_ifge, I_ifgt, I_ifle, I_iceq, I_icne, I_iclt, I_icge, I_icgt, I_icle, I_ifnull, I_ifnonnull, I_sw, swK, I_gi, I_gl, I_gp, I_pi, I_pl, I_ial, I_lal, I_ias, I_las, I_aal, I_len, I_ir, I_zr, I_lr, I_vr, I_ar, I_cv, I_cs, I_csN, I_max, I_min, I_cpi, I_cpl, I_kl, popA, gt0, gt1, gt2, gt3, gt4, gt5, gt6, gt7, gt8, gt9, gt10, gt11, gt12, s1_0, s1_1, s1_2, s1_3, s1_4, s1_5, s1_6, s1_7, s1_8, s1_9, s1_10, s1_11, s1_12, s2_0, s2_1, s2_2, s2_3, s2_4, s2_5, s2_6, s2_7, s2_8, s2_9, s2_10, s2_11, se_0, se_1, se_2, se_3, se_4, se_5, se_6, se_7, se_8, se_9, se_10, se_11, se_12, kil_i, kil_l, kil_r, kil_n, kil_x, ap_done, ap_pend, ap_dbt, ap_rel, ap_wrk, ap_trade, ap_mentor, ap_refused, ap_wdays, ap_today, ap_moves, st_day, st_needs, st_ments, st_aps, ap_eta, st_eta, Value.category, List.map_cons, List.map_nil, List.sum_cons, List.sum_nil, Option.toList_some, Option.toList_none, List.cons_append, List.nil_append, Nat.reduceAdd, Nat.reduceLeDiff, true_and, and_true, true_or, or_true, forall_const, not_true_eq_false, false_implies, not_false_eq_true, false_and, ↓reduceIte, ad_1, ad_2, ad_3, ad_4, ad_5, nq_2]
  rw [hv, dc.1]
  refine ⟨fun g => by omega, fun _ => ⟨fun g => by omega, fun _ => ⟨fun g => by omega, fun _ => ?_⟩⟩⟩
  exact ⟨i_in (n := 21) (by omega) (by omega), _, hp, hQ⟩
theorem sp_X3_numberAt {j : Nat} (dc : DC M D) (hi : i < D.length) (hv : v.toInt = i) (hw : w.toInt = j) (hj : j < 3) (hQ : Q (some (.int (mI M (1077 + i) j))) M) : Tr true l G Y_X3_numberAt [.ref 1073, .int v, .int w] M Q QX := by
  refine en_X3_numberAt fun F => ?_
  have l21 := dc.2.1
  have t21 : (21 : Int32).toInt = 21 := rfl
  have hn : v.toNatClampNeg = i := by rw [i_cl, hv]; rfl
  have hn2 : w.toNatClampNeg = j := by rw [i_cl, hw]; rfl
  have kr := k_Cn i (by omega)
  have ek : 1076 + 1 + 1 * i = 1077 + i := by omega
  simp only [R_X3_numberAt_0, k_C, k_C3, i_lt, i_le, i_eq, tI_0, tI_1, tI_2, tI_3, tI_4, tI_5, tI_6, tI_7, tI_8, tI_9, tI_10, tI_11, tI_12, tI_14, tI_20, tI_31, tI_32, tI_48, tI_57, tI_59, tI_96, tI_97, tI_99, tI_100, tI_122, tI_127, tI_150, tI_199, tI_200, tI_255, tI_427, tI_1708, tI_2000, tI_9999, tI_m1, tI_m10, cN_0, cN_1, cN_2, cN_3, cN_4, cN_5, cN_6, cN_7, cN_8, cN_9, cN_10, cN_11, cN_12, cN_14, cN_20, cN_31, cN_32, cN_48, cN_57, cN_59, cN_96, cN_97, cN_99, cN_100, cN_122, cN_127, cN_150, cN_199, cN_200, cN_255, cN_427, cN_1708, cN_2000, cN_9999, t21, hn, hn2, ek, kr, I_ic, I_lc, I_nul, I_il, I_ll, I_al, I_is, I_ls, I_as, I_inc, I_iadd, I_isub, I_imul, I_iand, I_ladd, I_lsub, I_lmul, I_land, I_lor, I_idiv, I_irem, I_ishr, I_lshl, I_lshr, I_lushr, I_lcmp, I_i2l, I_l2i, I_dup, I_pop, I_dup2, I_ifeq, I_ifne, I_iflt, I_ifge, I_ifgt, I_ifle, I_iceq, I_icne, I_iclt, I_icge, I_icgt, I_icle, I_ifnull, I_ifnonnull, I_sw, swK, I_gi, I_gl, I_gp, I_pi, I_pl, I_ial, I_lal, I_ias, I_las, I_aal, I_len, I_ir, I_zr, I_lr, I_vr, I_ar, I_cv, I_cs, I_csN, I_max, I_min, I_cpi, I_cpl, I_kl, popA, gt0, gt1, gt2, gt3, gt4, gt5, gt6, gt7, gt8, gt9, gt10, gt11, gt12, s1_0, s1_1, s1_2, s1_3, s1_4, s1_5, s1_6, s1_7, s1_8, s1_9, s1_10, s1_11, s1_12, s2_0, s2_1, s2_2, s2_3, s2_4, s2_5, s2_6, s2_7, s2_8, s2_9, s2_10, s2_11, se_0, se_1, se_2, se_3, se_4, se_5, se_6, se_7, se_8, se_9, se_10, se_11, se_12, kil_i, kil_l, kil_r, kil_n, kil_x, ap_done, ap_pend, ap_dbt, ap_rel, ap_wrk, ap_trade, ap_mentor, ap_refused, ap_wdays, ap_today, ap_moves, st_day, st_needs, st_ments, st_aps, ap_eta, st_eta, Value.category, List.map_cons, List.map_nil, List.sum_cons, List.sum_nil, Option.toList_some, Option.toList_none, List.cons_append, List.nil_append, Nat.reduceAdd, Nat.reduceLeDiff, true_and, and_true, true_or, or_true, forall_const, not_true_eq_false, false_implies, not_false_eq_true, false_and, ↓reduceIte, ad_1, ad_2, ad_3, ad_4, ad_5, nq_2]
  rw [hv, hw, dc.1]
  refine ⟨fun g => by omega, fun _ => ⟨fun g => by omega, fun _ => ⟨fun g => by omega, fun _ => ⟨fun g => by omega, fun _ => ⟨fun g => by omega, fun _ => ?_⟩⟩⟩⟩⟩
  refine ⟨fun c => absurd c (by decide), fun _ => ⟨i_in (n := 21) (by omega) (by omega), i_in (n := 3) (by omega) (by omega), hQ⟩⟩
theorem st_sw : inST 60 .int 12 (fun j => .int ([1, 2, 3, 4, 5, 6, 7, 8, 9, 10, 11, 0].getD j 0)) := Or.inr (Or.inl ⟨rfl, rfl, rfl, rfl⟩)
theorem sp_X9_faultOfCommand (h : StAt M 1 X) (ws : WfS X) (dc : DC M D) (hd : D[i]? = some d) (hv : v.toInt = i) (hQ : ∀ r : Int32, (r.toInt = 0 ↔ (rOp X d.1 (d.2 0) (d.2 1) (d.2 2)).1 = 0) → Q (some (.int r)) M) : Tr true l G Y_X9_faultOfCommand [.ref 0, .int v] M Q QX := by
  refine en_X9_faultOfCommand fun F => ?_
  obtain ⟨⟨q, hq, hw, hp⟩, hg⟩ := dc.2.2 i d hd
  have hi := lt_of hd
  have e1 : 1000001 + q - 1000001 = q := Nat.add_sub_cancel_left ..
  have ro : rOp X d.1 (mI M (1077 + i) 0).toInt (mI M (1077 + i) 1).toInt (mI M (1077 + i) 2).toInt = rOp X d.1 (d.2 0) (d.2 1) (d.2 2) := rOp_ix (f := fun j => (mI M (1077 + i) j).toInt) fun j hj => hg j hj
  rw [← ro, ← hw] at hQ
  clear ro
  have oA : ∀ {R : Rs}, rOk R → (∀ r : Int32, (r.toInt = 0 ↔ R.1 = 0) → Q (some (.int r)) M) → qi Q M (kA R.1) := fun o k r hr => k r (by rw [hr]; exact kA_0 o.1.1)
  have oB : ∀ {R : Rs}, (∀ r : Int32, (r.toInt = 0 ↔ R.1 = 0) → Q (some (.int r)) M) → qi Q M (kB R.1) := fun k r hr => k r (by rw [hr]; exact kB_0 _)
  have oC : ∀ {R : Rs}, (∀ r : Int32, (r.toInt = 0 ↔ R.1 = 0) → Q (some (.int r)) M) → qi Q M R.1 := fun k r hr => k r (by rw [hr])
  simp only [R_X9_faultOfCommand_0, k_F, k_C, I_ic, I_lc, I_nul, I_il, I_ll, I_al, I_is, I_ls, I_as, I_inc, I_iadd, I_isub, I_imul, I_iand, I_ladd, I_lsub, I_lmul, I_land, I_lor, I_idiv, I_irem, I_ishr, I_lshl, I_lshr, I_lushr, I_lcmp, I_i2l, I_l2i, I_dup, I_pop, I_dup2, I_ifeq, I_ifne, I_iflt, I_ifge, I_ifgt, I_ifle, I_iceq, I_icne, I_iclt, I_icge, I_icgt, I_icle, I_ifnull, I_ifnonnull, I_sw, swK, I_gi, I_gl, I_gp, I_pi, I_pl, I_ial, I_lal, I_ias, I_las, I_aal, I_len, I_ir, I_zr, I_lr, I_vr, I_ar, I_cv, I_cs, I_csN, I_max, I_min, I_cpi, I_cpl, I_kl, popA, gt0, gt1, gt2, gt3, gt4, gt5, gt6, gt7, gt8, gt9, gt10, gt11, gt12, s1_0, s1_1, s1_2, s1_3, s1_4, s1_5, s1_6, s1_7, s1_8, s1_9, s1_10, s1_11, s1_12, s2_0, s2_1, s2_2, s2_3, s2_4, s2_5, s2_6, s2_7, s2_8, s2_9, s2_10, s2_11, se_0, se_1, se_2, se_3, se_4, se_5, se_6, se_7, se_8, se_9, se_10, se_11, se_12, kil_i, kil_l, kil_r, kil_n, kil_x, ap_done, ap_pend, ap_dbt, ap_rel, ap_wrk, ap_trade, ap_mentor, ap_refused, ap_wdays, ap_today, ap_moves, st_day, st_needs, st_ments, st_aps, ap_eta, st_eta, Value.category, List.map_cons, List.map_nil, List.sum_cons, List.sum_nil, Option.toList_some, Option.toList_none, List.cons_append, List.nil_append, Nat.reduceAdd, Nat.reduceLeDiff, true_and, and_true, true_or, or_true, forall_const, not_true_eq_false, false_implies, not_false_eq_true, false_and, ↓reduceIte, ad_1, ad_2, ad_3, ad_4, ad_5, nq_2]
  refine sp_X3_commandAt dc hi hv hp ?_
  simp only [k_F, k_C, I_ic, I_lc, I_nul, I_il, I_ll, I_al, I_is, I_ls, I_as, I_inc, I_iadd, I_isub, I_imul, I_iand, I_ladd, I_lsub, I_lmul, I_land, I_lor, I_idiv, I_irem, I_ishr, I_lshl, I_lshr, I_lushr, I_lcmp, I_i2l, I_l2i, I_dup, I_pop, I_dup2, I_ifeq, I_ifne, I_iflt, I_ifge, I_ifgt, I_ifle, I_iceq, I_icne, I_iclt, I_icge, I_icgt, I_icle, I_ifnull, I_ifnonnull, I_sw, swK, I_gi, I_gl, I_gp, I_pi, I_pl, I_ial, I_lal, I_ias, I_las, I_aal, I_len, I_ir, I_zr, I_lr, I_vr, I_ar, I_cv, I_cs, I_csN, I_max, I_min, I_cpi, I_cpl, I_kl, popA, gt0, gt1, gt2, gt3, gt4, gt5, gt6, gt7, gt8, gt9, gt10, gt11, gt12, s1_0, s1_1, s1_2, s1_3, s1_4, s1_5, s1_6, s1_7, s1_8, s1_9, s1_10, s1_11, s1_12, s2_0, s2_1, s2_2, s2_3, s2_4, s2_5, s2_6, s2_7, s2_8, s2_9, s2_10, s2_11, se_0, se_1, se_2, se_3, se_4, se_5, se_6, se_7, se_8, se_9, se_10, se_11, se_12, kil_i, kil_l, kil_r, kil_n, kil_x, ap_done, ap_pend, ap_dbt, ap_rel, ap_wrk, ap_trade, ap_mentor, ap_refused, ap_wdays, ap_today, ap_moves, st_day, st_needs, st_ments, st_aps, ap_eta, st_eta, Value.category, List.map_cons, List.map_nil, List.sum_cons, List.sum_nil, Option.toList_some, Option.toList_none, List.cons_append, List.nil_append, Nat.reduceAdd, Nat.reduceLeDiff, true_and, and_true, true_or, or_true, forall_const, not_true_eq_false, false_implies, not_false_eq_true, false_and, ↓reduceIte, ad_1, ad_2, ad_3, ad_4, ad_5, nq_2]
  refine sp_X3_numberAt dc hi hv (j := 0) rfl (by decide) ?_
  simp only [k_F, k_C, I_ic, I_lc, I_nul, I_il, I_ll, I_al, I_is, I_ls, I_as, I_inc, I_iadd, I_isub, I_imul, I_iand, I_ladd, I_lsub, I_lmul, I_land, I_lor, I_idiv, I_irem, I_ishr, I_lshl, I_lshr, I_lushr, I_lcmp, I_i2l, I_l2i, I_dup, I_pop, I_dup2, I_ifeq, I_ifne, I_iflt, I_ifge, I_ifgt, I_ifle, I_iceq, I_icne, I_iclt, I_icge, I_icgt, I_icle, I_ifnull, I_ifnonnull, I_sw, swK, I_gi, I_gl, I_gp, I_pi, I_pl, I_ial, I_lal, I_ias, I_las, I_aal, I_len, I_ir, I_zr, I_lr, I_vr, I_ar, I_cv, I_cs, I_csN, I_max, I_min, I_cpi, I_cpl, I_kl, popA, gt0, gt1, gt2, gt3, gt4, gt5, gt6, gt7, gt8, gt9, gt10, gt11, gt12, s1_0, s1_1, s1_2, s1_3, s1_4, s1_5, s1_6, s1_7, s1_8, s1_9, s1_10, s1_11, s1_12, s2_0, s2_1, s2_2, s2_3, s2_4, s2_5, s2_6, s2_7, s2_8, s2_9, s2_10, s2_11, se_0, se_1, se_2, se_3, se_4, se_5, se_6, se_7, se_8, se_9, se_10, se_11, se_12, kil_i, kil_l, kil_r, kil_n, kil_x, ap_done, ap_pend, ap_dbt, ap_rel, ap_wrk, ap_trade, ap_mentor, ap_refused, ap_wdays, ap_today, ap_moves, st_day, st_needs, st_ments, st_aps, ap_eta, st_eta, Value.category, List.map_cons, List.map_nil, List.sum_cons, List.sum_nil, Option.toList_some, Option.toList_none, List.cons_append, List.nil_append, Nat.reduceAdd, Nat.reduceLeDiff, true_and, and_true, true_or, or_true, forall_const, not_true_eq_false, false_implies, not_false_eq_true, false_and, ↓reduceIte, ad_1, ad_2, ad_3, ad_4, ad_5, nq_2]
  refine sp_X3_numberAt dc hi hv (j := 1) rfl (by decide) ?_
  simp only [k_F, k_C, I_ic, I_lc, I_nul, I_il, I_ll, I_al, I_is, I_ls, I_as, I_inc, I_iadd, I_isub, I_imul, I_iand, I_ladd, I_lsub, I_lmul, I_land, I_lor, I_idiv, I_irem, I_ishr, I_lshl, I_lshr, I_lushr, I_lcmp, I_i2l, I_l2i, I_dup, I_pop, I_dup2, I_ifeq, I_ifne, I_iflt, I_ifge, I_ifgt, I_ifle, I_iceq, I_icne, I_iclt, I_icge, I_icgt, I_icle, I_ifnull, I_ifnonnull, I_sw, swK, I_gi, I_gl, I_gp, I_pi, I_pl, I_ial, I_lal, I_ias, I_las, I_aal, I_len, I_ir, I_zr, I_lr, I_vr, I_ar, I_cv, I_cs, I_csN, I_max, I_min, I_cpi, I_cpl, I_kl, popA, gt0, gt1, gt2, gt3, gt4, gt5, gt6, gt7, gt8, gt9, gt10, gt11, gt12, s1_0, s1_1, s1_2, s1_3, s1_4, s1_5, s1_6, s1_7, s1_8, s1_9, s1_10, s1_11, s1_12, s2_0, s2_1, s2_2, s2_3, s2_4, s2_5, s2_6, s2_7, s2_8, s2_9, s2_10, s2_11, se_0, se_1, se_2, se_3, se_4, se_5, se_6, se_7, se_8, se_9, se_10, se_11, se_12, kil_i, kil_l, kil_r, kil_n, kil_x, ap_done, ap_pend, ap_dbt, ap_rel, ap_wrk, ap_trade, ap_mentor, ap_refused, ap_wdays, ap_today, ap_moves, st_day, st_needs, st_ments, st_aps, ap_eta, st_eta, Value.category, List.map_cons, List.map_nil, List.sum_cons, List.sum_nil, Option.toList_some, Option.toList_none, List.cons_append, List.nil_append, Nat.reduceAdd, Nat.reduceLeDiff, true_and, and_true, true_or, or_true, forall_const, not_true_eq_false, false_implies, not_false_eq_true, false_and, ↓reduceIte, ad_1, ad_2, ad_3, ad_4, ad_5, nq_2]
  refine sp_X3_numberAt dc hi hv (j := 2) rfl (by decide) ?_
  simp only [k_F, k_C, I_gs, I_gf, I_sln, I_sil, I_sbl, I_saa, I_sgf, I_i2c, I_cvS, I_ord, I_no, I_nr, I_cal, I_cas, I_ic, I_lc, I_nul, I_il, I_ll, I_al, I_is, I_ls, I_as, I_inc, I_iadd, I_isub, I_imul, I_iand, I_ladd, I_lsub, I_lmul, I_land, I_lor, I_idiv, I_irem, I_ishr, I_lshl, I_lshr, I_lushr, I_lcmp, I_i2l, I_l2i, I_dup, I_pop, I_dup2, I_ifeq, I_ifne, I_iflt, I_ifge, I_ifgt, I_ifle, I_iceq, I_icne, I_iclt, I_icge, I_icgt, I_icle, I_ifnull, I_ifnonnull, I_sw, swK, I_gi, I_gl, I_gp, I_pi, I_pl, I_ial, I_lal, I_ias, I_las, I_aal, I_len, I_ir, I_zr, I_lr, I_vr, I_ar, I_cv, I_cs, I_csN, I_max, I_min, I_cpi, I_cpl, I_kl, popA, gt0, gt1, gt2, gt3, gt4, gt5, gt6, gt7, gt8, gt9, gt10, gt11, gt12, s1_0, s1_1, s1_2, s1_3, s1_4, s1_5, s1_6, s1_7, s1_8, s1_9, s1_10, s1_11, s1_12, s2_0, s2_1, s2_2, s2_3, s2_4, s2_5, s2_6, s2_7, s2_8, s2_9, s2_10, s2_11, se_0, se_1, se_2, se_3, se_4, se_5, se_6, se_7, se_8, se_9, se_10, se_11, se_12, kil_i, kil_l, kil_r, kil_n, kil_x, ap_done, ap_pend, ap_dbt, ap_rel, ap_wrk, ap_trade, ap_mentor, ap_refused, ap_wdays, ap_today, ap_moves, st_day, st_needs, st_ments, st_aps, ap_eta, st_eta, Value.category, List.map_cons, List.map_nil, List.sum_cons, List.sum_nil, Option.toList_some, Option.toList_none, List.cons_append, List.nil_append, Nat.reduceAdd, Nat.reduceLeDiff, true_and, and_true, true_or, or_true, forall_const, not_true_eq_false, false_implies, not_false_eq_true, false_and, ↓reduceIte, ad_1, ad_2, ad_3, ad_4, ad_5, nq_2]
  refine ⟨⟨le01' q, le12 hq⟩, 12, _, st_sw, i_in (by rw [e1]; exact (en_nm q hq).2 ▸ Int.natCast_nonneg q) (by rw [e1, (en_nm q hq).2]; omega), ?_⟩
  have hx := sw_at q hq
  generalize ([1, 2, 3, 4, 5, 6, 7, 8, 9, 10, 11, 0] : List Int32).getD (Int32.ofNat (1000001 + q - 1000001)).toNatClampNeg 0 = x at hx ⊢
  dsimp only [List.map_nil, List.sum_nil, List.append_nil]
  have z8 : (List.map Value.category []).sum ≤ 8 := by decide
  refine ⟨fun g => ?_, fun _ => ⟨fun g => ?_, fun _ => ⟨fun g => ?_, fun _ => ⟨fun g => ?_, fun _ => ⟨fun g => ?_, fun _ => ⟨fun g => ?_, fun _ => ⟨fun g => ?_, fun _ => ⟨fun g => ?_, fun _ => ⟨fun g => ?_, fun _ => ⟨fun g => ?_, fun _ => ⟨fun g => ?_, fun g => ?_⟩⟩⟩⟩⟩⟩⟩⟩⟩⟩⟩
  · have eq : q = 0 := by split at hx <;> omega
    subst eq
    rw [show ((enR 0 : Nat) : Int) = 0 from rfl, rOp_0] at hQ
    exact ⟨z8, sp_X9_faultOfTrade h (oA (rb_trade ws) hQ)⟩
  · have eq : q = 1 := by split at hx <;> omega
    subst eq
    rw [show ((enR 1 : Nat) : Int) = 2 from rfl, rOp_2] at hQ
    exact ⟨z8, sp_X9_faultOfMentor h (oA (rb_mentor ws) hQ)⟩
  · have eq : q = 2 := by split at hx <;> omega
    subst eq
    rw [show ((enR 2 : Nat) : Int) = 3 from rfl, rOp_3] at hQ
    exact ⟨z8, sp_X9_faultOfApprentice h ws (oB hQ)⟩
  · have eq : q = 3 := by split at hx <;> omega
    subst eq
    rw [show ((enR 3 : Nat) : Int) = 1 from rfl, rOp_1] at hQ
    exact ⟨z8, sp_X9_faultOfLog h ws (oC hQ)⟩
  · have eq : q = 4 := by split at hx <;> omega
    subst eq
    rw [show ((enR 4 : Nat) : Int) = 7 from rfl, rOp_7] at hQ
    exact ⟨z8, sp_X9_faultOfConfirm h (oC hQ)⟩
  · have eq : q = 5 := by split at hx <;> omega
    subst eq
    rw [show ((enR 5 : Nat) : Int) = 8 from rfl, rOp_8] at hQ
    exact ⟨z8, sp_X9_faultOfDoubt h (oB hQ)⟩
  · have eq : q = 6 := by split at hx <;> omega
    subst eq
    rw [show ((enR 6 : Nat) : Int) = 9 from rfl, rOp_9] at hQ
    exact ⟨z8, sp_X9_faultOfSettle h (oB hQ)⟩
  · have eq : q = 7 := by split at hx <;> omega
    subst eq
    rw [show ((enR 7 : Nat) : Int) = 10 from rfl, rOp_10] at hQ
    exact ⟨z8, sp_X9_faultOfSettle h (oB hQ)⟩
  · have eq : q = 8 := by split at hx <;> omega
    subst eq
    rw [show ((enR 8 : Nat) : Int) = 4 from rfl, rOp_4] at hQ
    exact ⟨z8, sp_X9_faultOfMove h ws (oB hQ)⟩
  · have eq : q = 9 := by split at hx <;> omega
    subst eq
    rw [show ((enR 9 : Nat) : Int) = 5 from rfl, rOp_5] at hQ
    exact ⟨z8, sp_X9_faultOfExchange h ws (oC hQ)⟩
  · have eq : q = 10 := by split at hx <;> omega
    subst eq
    rw [show ((enR 10 : Nat) : Int) = 6 from rfl, rOp_6] at hQ
    exact ⟨z8, sp_X9_faultOfRelease h (oC hQ)⟩
  · have eq : q = 11 := by split at hx <;> omega
    subst eq
    rw [show ((enR 11 : Nat) : Int) = 11 from rfl, rOp_11] at hQ
    exact ⟨z8, sp_X9_faultOfDays h ws (oA rb_pass hQ)⟩
theorem sp_X9_obey (h : StAt M 1 X) (ws : WfS X) (dc : DC M D) (hd : D[i]? = some d) (hv : v.toInt = i) (h0 : (rOp X d.1 (d.2 0) (d.2 1) (d.2 2)).1 = 0) (hQ : ∀ M', StAt M' 1 (rOp X d.1 (d.2 0) (d.2 1) (d.2 2)).2.1 → Sm M M' 1 215 → Q none M') : Tr true l G Y_X9_obey [.ref 0, .int v] M Q QX := by
  refine en_X9_obey fun F => ?_
  obtain ⟨⟨q, hq, hw, hp⟩, hg⟩ := dc.2.2 i d hd
  have hi := lt_of hd
  have e1 : 1000001 + q - 1000001 = q := Nat.add_sub_cancel_left ..
  have ro : rOp X d.1 (mI M (1077 + i) 0).toInt (mI M (1077 + i) 1).toInt (mI M (1077 + i) 2).toInt = rOp X d.1 (d.2 0) (d.2 1) (d.2 2) := rOp_ix (f := fun j => (mI M (1077 + i) j).toInt) fun j hj => hg j hj
  rw [← ro, ← hw] at hQ h0
  clear ro
  simp only [R_X9_obey_0, k_F, k_C, I_ic, I_lc, I_nul, I_il, I_ll, I_al, I_is, I_ls, I_as, I_inc, I_iadd, I_isub, I_imul, I_iand, I_ladd, I_lsub, I_lmul, I_land, I_lor, I_idiv, I_irem, I_ishr, I_lshl, I_lshr, I_lushr, I_lcmp, I_i2l, I_l2i, I_dup, I_pop, I_dup2, I_ifeq, I_ifne, I_iflt, I_ifge, I_ifgt, I_ifle, I_iceq, I_icne, I_iclt, I_icge, I_icgt, I_icle, I_ifnull, I_ifnonnull, I_sw, swK, I_gi, I_gl, I_gp, I_pi, I_pl, I_ial, I_lal, I_ias, I_las, I_aal, I_len, I_ir, I_zr, I_lr, I_vr, I_ar, I_cv, I_cs, I_csN, I_max, I_min, I_cpi, I_cpl, I_kl, popA, gt0, gt1, gt2, gt3, gt4, gt5, gt6, gt7, gt8, gt9, gt10, gt11, gt12, s1_0, s1_1, s1_2, s1_3, s1_4, s1_5, s1_6, s1_7, s1_8, s1_9, s1_10, s1_11, s1_12, s2_0, s2_1, s2_2, s2_3, s2_4, s2_5, s2_6, s2_7, s2_8, s2_9, s2_10, s2_11, se_0, se_1, se_2, se_3, se_4, se_5, se_6, se_7, se_8, se_9, se_10, se_11, se_12, kil_i, kil_l, kil_r, kil_n, kil_x, ap_done, ap_pend, ap_dbt, ap_rel, ap_wrk, ap_trade, ap_mentor, ap_refused, ap_wdays, ap_today, ap_moves, st_day, st_needs, st_ments, st_aps, ap_eta, st_eta, Value.category, List.map_cons, List.map_nil, List.sum_cons, List.sum_nil, Option.toList_some, Option.toList_none, List.cons_append, List.nil_append, Nat.reduceAdd, Nat.reduceLeDiff, true_and, and_true, true_or, or_true, forall_const, not_true_eq_false, false_implies, not_false_eq_true, false_and, ↓reduceIte, ad_1, ad_2, ad_3, ad_4, ad_5, nq_2]
  refine sp_X3_commandAt dc hi hv hp ?_
  simp only [k_F, k_C, I_ic, I_lc, I_nul, I_il, I_ll, I_al, I_is, I_ls, I_as, I_inc, I_iadd, I_isub, I_imul, I_iand, I_ladd, I_lsub, I_lmul, I_land, I_lor, I_idiv, I_irem, I_ishr, I_lshl, I_lshr, I_lushr, I_lcmp, I_i2l, I_l2i, I_dup, I_pop, I_dup2, I_ifeq, I_ifne, I_iflt, I_ifge, I_ifgt, I_ifle, I_iceq, I_icne, I_iclt, I_icge, I_icgt, I_icle, I_ifnull, I_ifnonnull, I_sw, swK, I_gi, I_gl, I_gp, I_pi, I_pl, I_ial, I_lal, I_ias, I_las, I_aal, I_len, I_ir, I_zr, I_lr, I_vr, I_ar, I_cv, I_cs, I_csN, I_max, I_min, I_cpi, I_cpl, I_kl, popA, gt0, gt1, gt2, gt3, gt4, gt5, gt6, gt7, gt8, gt9, gt10, gt11, gt12, s1_0, s1_1, s1_2, s1_3, s1_4, s1_5, s1_6, s1_7, s1_8, s1_9, s1_10, s1_11, s1_12, s2_0, s2_1, s2_2, s2_3, s2_4, s2_5, s2_6, s2_7, s2_8, s2_9, s2_10, s2_11, se_0, se_1, se_2, se_3, se_4, se_5, se_6, se_7, se_8, se_9, se_10, se_11, se_12, kil_i, kil_l, kil_r, kil_n, kil_x, ap_done, ap_pend, ap_dbt, ap_rel, ap_wrk, ap_trade, ap_mentor, ap_refused, ap_wdays, ap_today, ap_moves, st_day, st_needs, st_ments, st_aps, ap_eta, st_eta, Value.category, List.map_cons, List.map_nil, List.sum_cons, List.sum_nil, Option.toList_some, Option.toList_none, List.cons_append, List.nil_append, Nat.reduceAdd, Nat.reduceLeDiff, true_and, and_true, true_or, or_true, forall_const, not_true_eq_false, false_implies, not_false_eq_true, false_and, ↓reduceIte, ad_1, ad_2, ad_3, ad_4, ad_5, nq_2]
  refine sp_X3_numberAt dc hi hv (j := 0) rfl (by decide) ?_
  simp only [k_F, k_C, I_ic, I_lc, I_nul, I_il, I_ll, I_al, I_is, I_ls, I_as, I_inc, I_iadd, I_isub, I_imul, I_iand, I_ladd, I_lsub, I_lmul, I_land, I_lor, I_idiv, I_irem, I_ishr, I_lshl, I_lshr, I_lushr, I_lcmp, I_i2l, I_l2i, I_dup, I_pop, I_dup2, I_ifeq, I_ifne, I_iflt, I_ifge, I_ifgt, I_ifle, I_iceq, I_icne, I_iclt, I_icge, I_icgt, I_icle, I_ifnull, I_ifnonnull, I_sw, swK, I_gi, I_gl, I_gp, I_pi, I_pl, I_ial, I_lal, I_ias, I_las, I_aal, I_len, I_ir, I_zr, I_lr, I_vr, I_ar, I_cv, I_cs, I_csN, I_max, I_min, I_cpi, I_cpl, I_kl, popA, gt0, gt1, gt2, gt3, gt4, gt5, gt6, gt7, gt8, gt9, gt10, gt11, gt12, s1_0, s1_1, s1_2, s1_3, s1_4, s1_5, s1_6, s1_7, s1_8, s1_9, s1_10, s1_11, s1_12, s2_0, s2_1, s2_2, s2_3, s2_4, s2_5, s2_6, s2_7, s2_8, s2_9, s2_10, s2_11, se_0, se_1, se_2, se_3, se_4, se_5, se_6, se_7, se_8, se_9, se_10, se_11, se_12, kil_i, kil_l, kil_r, kil_n, kil_x, ap_done, ap_pend, ap_dbt, ap_rel, ap_wrk, ap_trade, ap_mentor, ap_refused, ap_wdays, ap_today, ap_moves, st_day, st_needs, st_ments, st_aps, ap_eta, st_eta, Value.category, List.map_cons, List.map_nil, List.sum_cons, List.sum_nil, Option.toList_some, Option.toList_none, List.cons_append, List.nil_append, Nat.reduceAdd, Nat.reduceLeDiff, true_and, and_true, true_or, or_true, forall_const, not_true_eq_false, false_implies, not_false_eq_true, false_and, ↓reduceIte, ad_1, ad_2, ad_3, ad_4, ad_5, nq_2]
  refine sp_X3_numberAt dc hi hv (j := 1) rfl (by decide) ?_
  simp only [k_F, k_C, I_ic, I_lc, I_nul, I_il, I_ll, I_al, I_is, I_ls, I_as, I_inc, I_iadd, I_isub, I_imul, I_iand, I_ladd, I_lsub, I_lmul, I_land, I_lor, I_idiv, I_irem, I_ishr, I_lshl, I_lshr, I_lushr, I_lcmp, I_i2l, I_l2i, I_dup, I_pop, I_dup2, I_ifeq, I_ifne, I_iflt, I_ifge, I_ifgt, I_ifle, I_iceq, I_icne, I_iclt, I_icge, I_icgt, I_icle, I_ifnull, I_ifnonnull, I_sw, swK, I_gi, I_gl, I_gp, I_pi, I_pl, I_ial, I_lal, I_ias, I_las, I_aal, I_len, I_ir, I_zr, I_lr, I_vr, I_ar, I_cv, I_cs, I_csN, I_max, I_min, I_cpi, I_cpl, I_kl, popA, gt0, gt1, gt2, gt3, gt4, gt5, gt6, gt7, gt8, gt9, gt10, gt11, gt12, s1_0, s1_1, s1_2, s1_3, s1_4, s1_5, s1_6, s1_7, s1_8, s1_9, s1_10, s1_11, s1_12, s2_0, s2_1, s2_2, s2_3, s2_4, s2_5, s2_6, s2_7, s2_8, s2_9, s2_10, s2_11, se_0, se_1, se_2, se_3, se_4, se_5, se_6, se_7, se_8, se_9, se_10, se_11, se_12, kil_i, kil_l, kil_r, kil_n, kil_x, ap_done, ap_pend, ap_dbt, ap_rel, ap_wrk, ap_trade, ap_mentor, ap_refused, ap_wdays, ap_today, ap_moves, st_day, st_needs, st_ments, st_aps, ap_eta, st_eta, Value.category, List.map_cons, List.map_nil, List.sum_cons, List.sum_nil, Option.toList_some, Option.toList_none, List.cons_append, List.nil_append, Nat.reduceAdd, Nat.reduceLeDiff, true_and, and_true, true_or, or_true, forall_const, not_true_eq_false, false_implies, not_false_eq_true, false_and, ↓reduceIte, ad_1, ad_2, ad_3, ad_4, ad_5, nq_2]
  refine sp_X3_numberAt dc hi hv (j := 2) rfl (by decide) ?_
  simp only [k_F, k_C, k_S, I_gs, I_gf, I_sln, I_sil, I_sbl, I_saa, I_sgf, I_i2c, I_cvS, I_ord, I_no, I_nr, I_cal, I_cas, I_ic, I_lc, I_nul, I_il, I_ll, I_al, I_is, I_ls, I_as, I_inc, I_iadd, I_isub, I_imul, I_iand, I_ladd, I_lsub, I_lmul, I_land, I_lor, I_idiv, I_irem, I_ishr, I_lshl, I_lshr, I_lushr, I_lcmp, I_i2l, I_l2i, I_dup, I_pop, I_dup2, I_ifeq, I_ifne, I_iflt, I_ifge, I_ifgt, I_ifle, I_iceq, I_icne, I_iclt, I_icge, I_icgt, I_icle, I_ifnull, I_ifnonnull, I_sw, swK, I_gi, I_gl, I_gp, I_pi, I_pl, I_ial, I_lal, I_ias, I_las, I_aal, I_len, I_ir, I_zr, I_lr, I_vr, I_ar, I_cv, I_cs, I_csN, I_max, I_min, I_cpi, I_cpl, I_kl, popA, gt0, gt1, gt2, gt3, gt4, gt5, gt6, gt7, gt8, gt9, gt10, gt11, gt12, s1_0, s1_1, s1_2, s1_3, s1_4, s1_5, s1_6, s1_7, s1_8, s1_9, s1_10, s1_11, s1_12, s2_0, s2_1, s2_2, s2_3, s2_4, s2_5, s2_6, s2_7, s2_8, s2_9, s2_10, s2_11, se_0, se_1, se_2, se_3, se_4, se_5, se_6, se_7, se_8, se_9, se_10, se_11, se_12, kil_i, kil_l, kil_r, kil_n, kil_x, ap_done, ap_pend, ap_dbt, ap_rel, ap_wrk, ap_trade, ap_mentor, ap_refused, ap_wdays, ap_today, ap_moves, st_day, st_needs, st_ments, st_aps, ap_eta, st_eta, Value.category, List.map_cons, List.map_nil, List.sum_cons, List.sum_nil, Option.toList_some, Option.toList_none, List.cons_append, List.nil_append, Nat.reduceAdd, Nat.reduceLeDiff, true_and, and_true, true_or, or_true, forall_const, not_true_eq_false, false_implies, not_false_eq_true, false_and, ↓reduceIte, ad_1, ad_2, ad_3, ad_4, ad_5, nq_2]
  refine ⟨⟨le01' q, le12 hq⟩, 12, _, st_sw, i_in (by rw [e1]; exact (en_nm q hq).2 ▸ Int.natCast_nonneg q) (by rw [e1, (en_nm q hq).2]; omega), ?_⟩
  have hx := sw_at q hq
  generalize ([1, 2, 3, 4, 5, 6, 7, 8, 9, 10, 11, 0] : List Int32).getD (Int32.ofNat (1000001 + q - 1000001)).toNatClampNeg 0 = x at hx ⊢
  dsimp only [List.map_nil, List.sum_nil, List.append_nil]
  have z8 : (List.map Value.category []).sum ≤ 8 := by decide
  refine ⟨fun g => ?_, fun _ => ⟨fun g => ?_, fun _ => ⟨fun g => ?_, fun _ => ⟨fun g => ?_, fun _ => ⟨fun g => ?_, fun _ => ⟨fun g => ?_, fun _ => ⟨fun g => ?_, fun _ => ⟨fun g => ?_, fun _ => ⟨fun g => ?_, fun _ => ⟨fun g => ?_, fun _ => ⟨fun g => ?_, fun g => ?_⟩⟩⟩⟩⟩⟩⟩⟩⟩⟩⟩
  · have eq : q = 0 := by split at hx <;> omega
    subst eq
    rw [show ((enR 0 : Nat) : Int) = 0 from rfl, rOp_0] at hQ h0
    refine ⟨z8, s7_trade h h0 ?_⟩
    exact fun M' a b _ _ => ⟨rfl, hQ M' a b⟩
  · have eq : q = 1 := by split at hx <;> omega
    subst eq
    rw [show ((enR 1 : Nat) : Int) = 2 from rfl, rOp_2] at hQ h0
    refine ⟨z8, s7_mentor h h0 ?_⟩
    exact fun M' a b _ _ => ⟨rfl, hQ M' a b⟩
  · have eq : q = 2 := by split at hx <;> omega
    subst eq
    rw [show ((enR 2 : Nat) : Int) = 3 from rfl, rOp_3] at hQ h0
    refine ⟨z8, s7_pupil h h0 ?_⟩
    exact fun M' a b _ _ => ⟨rfl, hQ M' a b⟩
  · have eq : q = 3 := by split at hx <;> omega
    subst eq
    rw [show ((enR 3 : Nat) : Int) = 1 from rfl, rOp_1] at hQ h0
    refine ⟨z8, s7_log h ws h0 ?_⟩
    exact fun M' a b _ _ => ⟨rfl, hQ M' a b⟩
  · have eq : q = 4 := by split at hx <;> omega
    subst eq
    rw [show ((enR 4 : Nat) : Int) = 7 from rfl, rOp_7] at hQ h0
    refine ⟨z8, s7_conf h ws h0 ?_⟩
    exact fun M' a b _ _ => ⟨rfl, hQ M' a b⟩
  · have eq : q = 5 := by split at hx <;> omega
    subst eq
    rw [show ((enR 5 : Nat) : Int) = 8 from rfl, rOp_8] at hQ h0
    refine ⟨z8, s7_doubt h ws h0 ?_⟩
    exact fun M' a b _ _ => ⟨rfl, hQ M' a b⟩
  · have eq : q = 6 := by split at hx <;> omega
    subst eq
    rw [show ((enR 6 : Nat) : Int) = 9 from rfl, rOp_9] at hQ h0
    refine ⟨z8, s7_settle h ws h0 ?_⟩
    exact fun M' a b _ _ => ⟨rfl, hQ M' a b⟩
  · have eq : q = 7 := by split at hx <;> omega
    subst eq
    rw [show ((enR 7 : Nat) : Int) = 10 from rfl, rOp_10] at hQ h0
    refine ⟨z8, s7_settle h ws h0 ?_⟩
    exact fun M' a b _ _ => ⟨rfl, hQ M' a b⟩
  · have eq : q = 8 := by split at hx <;> omega
    subst eq
    rw [show ((enR 8 : Nat) : Int) = 4 from rfl, rOp_4] at hQ h0
    refine ⟨z8, s7_move h ws h0 ?_⟩
    exact fun M' a b _ _ => ⟨rfl, hQ M' a b⟩
  · have eq : q = 9 := by split at hx <;> omega
    subst eq
    rw [show ((enR 9 : Nat) : Int) = 5 from rfl, rOp_5] at hQ h0
    refine ⟨z8, s7_swap h ws h0 ?_⟩
    exact fun M' a b _ _ => ⟨rfl, hQ M' a b⟩
  · have eq : q = 10 := by split at hx <;> omega
    subst eq
    rw [show ((enR 10 : Nat) : Int) = 6 from rfl, rOp_6] at hQ h0
    refine ⟨z8, s7_free h h0 ?_⟩
    exact fun M' a b _ _ => ⟨rfl, hQ M' a b⟩
  · have eq : q = 11 := by split at hx <;> omega
    subst eq
    rw [show ((enR 11 : Nat) : Int) = 11 from rfl, rOp_11] at hQ h0
    refine ⟨z8, s7_pass h ws h0 ?_⟩
    exact fun M' a b _ => ⟨rfl, hQ M' a b⟩
end SPSu
