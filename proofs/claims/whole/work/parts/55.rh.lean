/-! ===== the reference: endsDay ===== -/
section SPRh
variable {l : Launch} {G : GT} {M : Mm} {Q : PQ} {QX : PX} {X : St}
theorem sp_X10_endsDay (r : RS (mL M 1099) X) (ws : WfS X) (h1 : X.day = 9999 → Q (some (.int 1)) M) (hQ : X.day < 9999 → ∀ M', RS (mL M' 1099) X.pass → RV M M' → (mL M' 1098 5).toInt = pdN X.day X.aps → Q (some (.int 0)) M') : Tr true l G Y_X10_endsDay [.ref 1098] M Q QX := by
  refine en_X10_endsDay fun F => ?_
  have kk := k_R
  have k1 := k_R1
  have hd := ws.day
  have hz3 : vp_in 3 427 := i_in (n := 427) (by decide) (by decide)
  simp only [R_X10_endsDay_0, kk, k1, i_lt, i_le, i_eq, tI_0, tI_1, tI_2, tI_3, tI_4, tI_5, tI_6, tI_7, tI_8, tI_9, tI_10, tI_11, tI_12, tI_14, tI_20, tI_31, tI_32, tI_48, tI_57, tI_59, tI_96, tI_97, tI_99, tI_100, tI_122, tI_127, tI_150, tI_199, tI_200, tI_255, tI_427, tI_1708, tI_2000, tI_9999, tI_m1, tI_m10, cN_0, cN_1, cN_2, cN_3, cN_4, cN_5, cN_6, cN_7, cN_8, cN_9, cN_10, cN_11, cN_12, cN_14, cN_20, cN_31, cN_32, cN_48, cN_57, cN_59, cN_96, cN_97, cN_99, cN_100, cN_122, cN_127, cN_150, cN_199, cN_200, cN_255, cN_427, cN_1708, cN_2000, cN_9999, l_of, lg_lt, lg_gt, lg_le, lg_ge, lg_eq, tL_m1, tL_0, tL_1, tL_2, tL_3, tL_4, tL_5, tL_6, tL_7, tL_8, tL_9, tL_10, tL_12, tL_20, tL_31, tL_32, tL_64, tL_96, tL_150, tL_427, tL_512, tL_2000, tL_9999, tL_43434, tL_2147483647, I_ic, I_lc, I_nul, I_il, I_ll, I_al, I_is, I_ls, I_as, I_inc, I_iadd, I_isub, I_imul, I_iand, I_ladd, I_lsub, I_lmul, I_land, I_lor, I_idiv, I_irem, I_ishr, I_lshl, I_lshr, I_lushr, I_lcmp, I_i2l, I_l2i, I_dup, I_pop, I_dup2, I_ifeq, I_ifne, I_iflt, I_ifge, I_ifgt, I_ifle, I_iceq, I_icne, I_iclt, I_icge, I_icgt, I_icle, I_ifnull, I_ifnonnull, I_sw, swK, I_gi, I_gl, I_gp, I_pi, I_pl, I_ial, I_lal, I_ias, I_las, I_aal, I_len, I_ir, I_zr, I_lr, I_vr, I_ar, I_cv, I_cs, I_csN, I_max, I_min, I_cpi, I_cpl, I_kl, popA, gt0, gt1, gt2, gt3, gt4, gt5, gt6, gt7, gt8, gt9, gt10, gt11, gt12, s1_0, s1_1, s1_2, s1_3, s1_4, s1_5, s1_6, s1_7, s1_8, s1_9, s1_10, s1_11, s1_12, s2_0, s2_1, s2_2, s2_3, s2_4, s2_5, s2_6, s2_7, s2_8, s2_9, s2_10, s2_11, se_0, se_1, se_2, se_3, se_4, se_5, se_6, se_7, se_8, se_9, se_10, se_11, se_12, kil_i, kil_l, kil_r, kil_n, kil_x, ap_done, ap_pend, ap_dbt, ap_rel, ap_wrk, ap_trade, ap_mentor, ap_refused, ap_wdays, ap_today, ap_moves, st_day, st_needs, st_ments, st_aps, ap_eta, st_eta, Value.category, List.map_cons, List.map_nil, List.sum_cons, List.sum_nil, Option.toList_some, Option.toList_none, List.cons_append, List.nil_append, Nat.reduceAdd, Nat.reduceLeDiff, true_and, and_true, true_or, or_true, forall_const, not_true_eq_false, false_implies, not_false_eq_true, false_and, ↓reduceIte, ad_1, ad_2, ad_3, ad_4, ad_5, nq_2]
  rw [r.day]
  refine ⟨hz3, fun g => ?_, fun g => h1 g⟩
  refine lp_X10_endsDay2 (X := X) (fun M1 c s1 rv1 hc r2 hr2 => ?_) X.aps [] 0 0 M r ws (RV_refl _) rfl (by decide) (by decide) rfl (by simp [ap_done, ap_pend, ap_dbt, ap_rel, ap_wrk, ap_trade, ap_mentor, ap_refused, ap_wdays, ap_today, ap_moves, st_day, st_needs, st_ments, st_aps, ap_eta, st_eta, tI_0])
  refine hQ (by omega) _ ?_ ((rv1.trans (RV_s _ _ _)).trans (RV_a _ _)) (by rw [mL_sL, if_pos ⟨rfl, rfl⟩, l_of, hr2, hc])
  have lo : ∀ j, ¬ j = 3 → mL (sL (sL M1 1099 3 (mL M1 1099 3 + 1)) 1098 5 r2.toInt64) 1099 j = mL M1 1099 j := fun j hj => by
    rw [mL_sL, if_neg (by omega), mL_sL, if_neg (by omega)]
  have hdy := s1.day
  rw [st_day] at hdy
  have l5 := ws.l5
  have l6 := ws.l6
  unfold St.pass
  refine ⟨by rw [lo 0 (by omega)]; exact s1.nt, by rw [lo 1 (by omega)]; exact s1.nm, by rw [lo 2 (by omega)]; exact s1.na, ?_, fun u n ht p hp => ?_, fun u y hm => ?_, fun i z hi => ?_⟩
  · rw [mL_sL, if_neg (by omega), mL_sL, if_pos ⟨rfl, rfl⟩, l_add, hdy, tL_1]
    · rfl
    all_goals rw [hdy, tL_1]; omega
  · rw [lo _ (by omega)]
    exact s1.needs u n ht p hp
  · rw [lo _ (by omega), lo _ (by omega), lo _ (by omega)]
    exact s1.ments u y hm
  · have e : (fun k => mL (sL (sL M1 1099 3 (mL M1 1099 3 + 1)) 1098 5 r2.toInt64) 1099 (37 + 39 * i + k)) = fun k => mL M1 1099 (37 + 39 * i + k) := by
      funext k
      exact lo _ (by omega)
    rw [e]
    exact s1.aps i z hi
end SPRh
