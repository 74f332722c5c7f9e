/-! ===== CommandText: a byte is read ===== -/
section SPSq
variable {l : Launch} {G : GT} {M : Mm} {Q : PQ} {QX : PX} {T : List Int} {w : Int} {k : Nat} {g : Nat → Int} {a v : Int32}
theorem sp_X3_append (tc : TC M T) (hl : T.length < 150) (hv : 0 ≤ v.toInt ∧ v.toInt ≤ 127) (hQ : ∀ M', TC M' (T ++ [v.toInt]) → Sm M M' 1073 1075 → qi Q M' (T.length + 1)) : Tr true l G Y_X3_append [.ref 1073, .int v] M Q QX := by
  refine en_X3_append fun F => ?_
  have h3 := tc.1
  have hn : (mI M 1073 3).toNatClampNeg = T.length := by rw [i_cl, h3]; rfl
  simp only [R_X3_append_0, k_C, k_C1, i_lt, i_le, i_eq, tI_0, tI_1, tI_2, tI_3, tI_4, tI_5, tI_6, tI_7, tI_8, tI_9, tI_10, tI_11, tI_12, tI_14, tI_20, tI_31, tI_32, tI_48, tI_57, tI_59, tI_96, tI_97, tI_99, tI_100, tI_122, tI_127, tI_150, tI_199, tI_200, tI_255, tI_427, tI_1708, tI_2000, tI_9999, tI_m1, tI_m10, cN_0, cN_1, cN_2, cN_3, cN_4, cN_5, cN_6, cN_7, cN_8, cN_9, cN_10, cN_11, cN_12, cN_14, cN_20, cN_31, cN_32, cN_48, cN_57, cN_59, cN_96, cN_97, cN_99, cN_100, cN_122, cN_127, cN_150, cN_199, cN_200, cN_255, cN_427, cN_1708, cN_2000, cN_9999, hn, I_ic, I_lc, I_nul, I_il, I_ll, I_al, I_is, I_ls, I_as, I_inc, I_iadd, I_isub, I_imul, I_iand, I_ladd, I_lsub, I_lmul, I_land, I_lor, I_idiv, I_irem, I_ishr, I_lshl, I_lshr, I_lushr, I_lcmp, I_i2l, I_l2i, I_dup, I_pop, I_dup2, I_ifeq, I_ifne, I_iflt, I_ifge, I_ifgt, I_ifle, I_iceq, I_icne, I_iclt, I_icge, I_icgt, I_icle, I_ifnull, I_ifnonnull, I_sw, swK, I_gi, I_gl, I_gp, I_pi, I_pl, I_ial, I_lal, I_ias, I_las, I_aal, I_len, I_ir, I_zr, I_lr, I_vr, I_ar, I_cv, I_cs, I_csN, I_max, I_min, I_cpi, I_cpl, I_kl, popA, gt0, gt1, gt2, gt3, gt4, gt5, gt6, gt7, gt8, gt9, gt10, gt11, gt12, s1_0, s1_1, s1_2, s1_3, s1_4, s1_5, s1_6, s1_7, s1_8, s1_9, s1_10, s1_11, s1_12, s2_0, s2_1, s2_2, s2_3, s2_4, s2_5, s2_6, s2_7, s2_8, s2_9, s2_10, s2_11, se_0, se_1, se_2, se_3, se_4, se_5, se_6, se_7, se_8, se_9, se_10, se_11, se_12, kil_i, kil_l, kil_r, kil_n, kil_x, ap_done, ap_pend, ap_dbt, ap_rel, ap_wrk, ap_trade, ap_mentor, ap_refused, ap_wdays, ap_today, ap_moves, st_day, st_needs, st_ments, st_aps, ap_eta, st_eta, Value.category, List.map_cons, List.map_nil, List.sum_cons, List.sum_nil, Option.toList_some, Option.toList_none, List.cons_append, List.nil_append, Nat.reduceAdd, Nat.reduceLeDiff, true_and, and_true, true_or, or_true, forall_const, not_true_eq_false, false_implies, not_false_eq_true, false_and, ↓reduceIte, ad_1, ad_2, ad_3, ad_4, ad_5, nq_2]
  rw [h3]
  refine ⟨fun g => by omega, fun _ => ⟨i_in (n := 150) (by rw [h3]; omega) (by rw [h3]; omega), ?_⟩⟩
  generalize hM1 : sI M 1074 T.length v = M1
  have e3 : mI M1 1073 3 = mI M 1073 3 := by rw [← hM1, mI_sI, if_neg (by omega)]
  have e1 : (mI M1 1073 3 + 1).toInt = T.length + 1 := by rw [e3, i_add, h3, tI_1]; all_goals rw [h3, tI_1]; omega
  generalize hM2 : sI M1 1073 3 (mI M1 1073 3 + 1) = M2
  have f3 : (mI M2 1073 3).toInt = T.length + 1 := by rw [← hM2, mI_sI, if_pos ⟨rfl, rfl⟩]; exact e1
  have fb : ∀ j, mI M2 1074 j = if j = T.length then v else mI M 1074 j := fun j => by
    rw [← hM2, mI_sI, if_neg (by omega), ← hM1, mI_sI]
    by_cases e : j = T.length
    · rw [if_pos ⟨rfl, e⟩, if_pos e]
    · rw [if_neg (by omega), if_neg e]
  refine hQ M2 ⟨?_, ?_, ?_, ?_⟩ ⟨fun b hb => ⟨?_, ?_⟩, ?_, ?_⟩ _ f3
  · rw [f3, List.length_append]; rfl
  · rw [List.length_append]; simp only [ap_done, ap_pend, ap_dbt, ap_rel, ap_wrk, ap_trade, ap_mentor, ap_refused, ap_wdays, ap_today, ap_moves, st_day, st_needs, st_ments, st_aps, ap_eta, st_eta, List.length_cons, List.length_nil]; omega
  · intro c hc
    rw [List.mem_append] at hc
    rcases hc with hc | hc
    · exact tc.2.2.1 c hc
    · rw [List.mem_singleton] at hc
      subst hc
      exact hv
  · intro i c hc
    rw [fb]
    rcases app_get hc with ⟨a1, a2⟩ | ⟨a1, a2⟩
    · rw [if_neg (by omega)]
      exact tc.2.2.2 i c a2
    · rw [if_pos a1]
      exact a2.symm
  · funext j
    rw [← hM2, mI_sI, if_neg (by omega), ← hM1, mI_sI, if_neg (by omega)]
  · rw [← hM2, ← hM1]; rfl
  · rw [← hM2, ← hM1]; rfl
  · rw [← hM2, ← hM1]; rfl
end SPSq
