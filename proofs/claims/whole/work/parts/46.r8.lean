/-! ===== the reference: what is kept ===== -/
theorem RS.of {F F' : Nat → Int64} {X : St} (r : RS F X) (ws : WfS X) (h : ∀ k, k < 427 → F' k = F k) : RS F' X := by
  have l5 := ws.l5
  have l6 := ws.l6
  have l10 := ws.l10
  refine ⟨by rw [h 0 (by omega)]; exact r.nt, by rw [h 1 (by omega)]; exact r.nm, by rw [h 2 (by omega)]; exact r.na, by rw [h 3 (by omega)]; exact r.day, fun t n ht p hp => ?_, fun m y hm => ?_, fun i z hi => ?_⟩
  · have := lt_of ht
    rw [h _ (by omega)]
    exact r.needs t n ht p hp
  · have := lt_of hm
    rw [h _ (by omega), h _ (by omega), h _ (by omega)]
    exact r.ments m y hm
  · have := lt_of hi
    exact (r.aps i z hi).of (fun k hk => h _ (by omega)) (ws.at hi).ln
def RK (M : Mm) (L : List St) : Prop := (mI M 1098 3).toInt = L.length ∧ L.length ≤ 4 ∧ ∀ (i : Nat) Y, L[i]? = some Y → WfS Y ∧ RS (fun j => mL M 1100 (427 * i + j)) Y
/-- only the kept rows and how many there are differ -/
def KP (M M' : Mm) : Prop := (∀ b, ¬ b = 1100 → mL M' b = mL M b) ∧ (∀ b j, ¬ (b = 1098 ∧ j = 3) → mI M' b j = mI M b j) ∧ mP M' = mP M ∧ mN M' = mN M
section SPR8
variable {l : Launch} {G : GT} {M : Mm} {Q : PQ} {QX : PX} {X : St} {L : List St}
theorem lp_X10_keeps2 {F : FX} {n0 : Nat} (h0 : (mI M 1098 3).toInt = n0) (h4 : n0 < 4) (hQ : ∀ M', (∀ j, mL M' 1100 j = if 427 * n0 ≤ j ∧ j < 427 * n0 + 427 then mL M 1101 (j - 427 * n0) else mL M 1100 j) → (mI M' 1098 3).toInt = n0 + 1 → KP M M' → Q none M') : ∀ (n k : Nat) (j : Int32) (M1 : Mm), k + n = 427 → j.toInt = k → (∀ j, mL M1 1100 j = if 427 * n0 ≤ j ∧ j < 427 * n0 + k then mL M 1101 (j - 427 * n0) else mL M 1100 j) → (∀ b, ¬ b = 1100 → mL M1 b = mL M b) → mI M1 = mI M → mP M1 = mP M → mN M1 = mN M → Wj true l G F Y_X10_keeps Q QX 0 0 51 [.ref 1098, .int j] [] M1
  | 0, k, j, M1, hn, hj, f1, f2, f3, f4, f5 => by
    refine g_X10_keeps_51 _ _ _ ?_
    have kk := k_R
    simp only [R_X10_keeps_51, kk, i_lt, i_le, i_eq, tI_0, tI_1, tI_2, tI_3, tI_4, tI_5, tI_6, tI_7, tI_8, tI_9, tI_10, tI_11, tI_12, tI_14, tI_20, tI_31, tI_32, tI_48, tI_57, tI_59, tI_96, tI_97, tI_99, tI_100, tI_122, tI_127, tI_150, tI_199, tI_200, tI_255, tI_427, tI_1708, tI_2000, tI_9999, tI_m1, tI_m10, cN_0, cN_1, cN_2, cN_3, cN_4, cN_5, cN_6, cN_7, cN_8, cN_9, cN_10, cN_11, cN_12, cN_14, cN_20, cN_31, cN_32, cN_48, cN_57, cN_59, cN_96, cN_97, cN_99, cN_100, cN_122, cN_127, cN_150, cN_199, cN_200, cN_255, cN_427, cN_1708, cN_2000, cN_9999, I_ic, I_lc, I_nul, I_il, I_ll, I_al, I_is, I_ls, I_as, I_inc, I_iadd, I_isub, I_imul, I_iand, I_ladd, I_lsub, I_lmul, I_land, I_lor, I_idiv, I_irem, I_ishr, I_lshl, I_lshr, I_lushr, I_lcmp, I_i2l, I_l2i, I_dup, I_pop, I_dup2, I_ifeq, I_ifne, I_iflt, I_ifge, I_ifgt, I_ifle, I_iceq, I_icne, I_iclt, I_icge, I_icgt, I_icle, I_ifnull, I_ifnonnull, I_sw, swK, I_gi, I_gl, I_gp, I_pi, I_pl, I_ial, I_lal, I_ias, I_las, I_aal, I_len, I_ir, I_zr, I_lr, I_vr, I_ar, I_cv, I_cs, I_csN, I_max, I_min, I_cpi, I_cpl, I_kl, popA, gt0, gt1, gt2, gt3, gt4, gt5, gt6, gt7, gt8, gt9, gt10, gt11, gt12, s1_0, s1_1, s1_2, s1_3, s1_4, s1_5, s1_6, s1_7, s1_8, s1_9, s1_10, s1_11, s1_12, s2_0, s2_1, s2_2, s2_3, s2_4, s2_5, s2_6, s2_7, s2_8, s2_9, s2_10, s2_11, se_0, se_1, se_2, se_3, se_4, se_5, se_6, se_7, se_8, se_9, se_10, se_11, se_12, kil_i, kil_l, kil_r, kil_n, kil_x, ap_done, ap_pend, ap_dbt, ap_rel, ap_wrk, ap_trade, ap_mentor, ap_refused, ap_wdays, ap_today, ap_moves, st_day, st_needs, st_ments, st_aps, ap_eta, st_eta, Value.category, List.map_cons, List.map_nil, List.sum_cons, List.sum_nil, Option.toList_some, Option.toList_none, List.cons_append, List.nil_append, Nat.reduceAdd, Nat.reduceLeDiff, true_and, and_true, true_or, or_true, forall_const, not_true_eq_false, false_implies, not_false_eq_true, false_and, ↓reduceIte, ad_1, ad_2, ad_3, ad_4, ad_5, nq_2]
    rw [hj]
    have hk : k = 427 := by omega
    rw [hk] at f1
    refine ⟨fun g => hQ _ f1 ?_ ⟨f2, fun b j hb => ?_, f4, f5⟩, fun g => by omega⟩
    · rw [mI_sI, if_pos ⟨rfl, rfl⟩, f3, i_add, h0, tI_1]
      all_goals rw [h0, tI_1]; omega
    · rw [mI_sI, if_neg hb, f3]
  | n + 1, k, j, M1, hn, hj, f1, f2, f3, f4, f5 => by
    refine g_X10_keeps_51 _ _ _ ?_
    have kk := k_R
    have k2 := k_R2
    have k3 := k_R3
    have t427 : (427 : Int32).toInt = 427 := rfl
    have hjn : j.toNatClampNeg = k := by rw [i_cl, hj]; rfl
    have hj1 : (j + 1).toInt = ((k + 1 : Nat) : Int) := by rw [i_add, hj]; rfl; all_goals rw [hj, tI_1]; omega
    have e1 : (427 * mI M1 1098 3).toInt = 427 * n0 := by rw [f3, i_mul, t427, h0]; all_goals rw [t427, h0]; omega
    have e2 : (427 * mI M1 1098 3 + j).toInt = 427 * n0 + k := by rw [i_add, e1, hj]; all_goals rw [e1, hj]; omega
    have e3 : (427 * mI M1 1098 3 + j).toNatClampNeg = 427 * n0 + k := by rw [i_cl, e2]; omega
    simp only [R_X10_keeps_51, kk, k2, k3, hjn, e3, i_lt, i_le, i_eq, tI_0, tI_1, tI_2, tI_3, tI_4, tI_5, tI_6, tI_7, tI_8, tI_9, tI_10, tI_11, tI_12, tI_14, tI_20, tI_31, tI_32, tI_48, tI_57, tI_59, tI_96, tI_97, tI_99, tI_100, tI_122, tI_127, tI_150, tI_199, tI_200, tI_255, tI_427, tI_1708, tI_2000, tI_9999, tI_m1, tI_m10, cN_0, cN_1, cN_2, cN_3, cN_4, cN_5, cN_6, cN_7, cN_8, cN_9, cN_10, cN_11, cN_12, cN_14, cN_20, cN_31, cN_32, cN_48, cN_57, cN_59, cN_96, cN_97, cN_99, cN_100, cN_122, cN_127, cN_150, cN_199, cN_200, cN_255, cN_427, cN_1708, cN_2000, cN_9999, I_ic, I_lc, I_nul, I_il, I_ll, I_al, I_is, I_ls, I_as, I_inc, I_iadd, I_isub, I_imul, I_iand, I_ladd, I_lsub, I_lmul, I_land, I_lor, I_idiv, I_irem, I_ishr, I_lshl, I_lshr, I_lushr, I_lcmp, I_i2l, I_l2i, I_dup, I_pop, I_dup2, I_ifeq, I_ifne, I_iflt, I_ifge, I_ifgt, I_ifle, I_iceq, I_icne, I_iclt, I_icge, I_icgt, I_icle, I_ifnull, I_ifnonnull, I_sw, swK, I_gi, I_gl, I_gp, I_pi, I_pl, I_ial, I_lal, I_ias, I_las, I_aal, I_len, I_ir, I_zr, I_lr, I_vr, I_ar, I_cv, I_cs, I_csN, I_max, I_min, I_cpi, I_cpl, I_kl, popA, gt0, gt1, gt2, gt3, gt4, gt5, gt6, gt7, gt8, gt9, gt10, gt11, gt12, s1_0, s1_1, s1_2, s1_3, s1_4, s1_5, s1_6, s1_7, s1_8, s1_9, s1_10, s1_11, s1_12, s2_0, s2_1, s2_2, s2_3, s2_4, s2_5, s2_6, s2_7, s2_8, s2_9, s2_10, s2_11, se_0, se_1, se_2, se_3, se_4, se_5, se_6, se_7, se_8, se_9, se_10, se_11, se_12, kil_i, kil_l, kil_r, kil_n, kil_x, ap_done, ap_pend, ap_dbt, ap_rel, ap_wrk, ap_trade, ap_mentor, ap_refused, ap_wdays, ap_today, ap_moves, st_day, st_needs, st_ments, st_aps, ap_eta, st_eta, Value.category, List.map_cons, List.map_nil, List.sum_cons, List.sum_nil, Option.toList_some, Option.toList_none, List.cons_append, List.nil_append, Nat.reduceAdd, Nat.reduceLeDiff, true_and, and_true, true_or, or_true, forall_const, not_true_eq_false, false_implies, not_false_eq_true, false_and, ↓reduceIte, ad_1, ad_2, ad_3, ad_4, ad_5, nq_2]
    rw [hj]
    refine ⟨fun g => by omega, fun g => ⟨i_in (n := 427) (by omega) (by omega), i_in (n := 1708) (by rw [e2]; omega) (by rw [e2]; omega), ?_⟩⟩
    refine lp_X10_keeps2 h0 h4 hQ n (k + 1) _ _ (by omega) hj1 (fun y => ?_) (fun b hb => ?_) f3 f4 f5
    · rw [mL_sL, f2 1101 (by omega)]
      by_cases e : y = 427 * n0 + k
      · rw [if_pos ⟨rfl, e⟩, if_pos (by omega)]
        congr 1
        omega
      · rw [if_neg (by omega), f1 y]
        by_cases e4 : 427 * n0 ≤ y ∧ y < 427 * n0 + k
        · rw [if_pos e4, if_pos (by omega)]
        · rw [if_neg e4, if_neg (by omega)]
    · funext y
      rw [mL_sL, if_neg (by omega), f2 b hb]
theorem lp_X10_keeps1 {F : FX} (h0 : (mI M 1098 3).toInt = 4) (hQ : ∀ M', (∀ j, mL M' 1100 j = if j < 1281 then mL M 1100 (j + 427) else mL M 1100 j) → (mI M' 1098 3).toInt = 3 → KP M M' → Wj true l G F Y_X10_keeps Q QX 0 0 51 [.ref 1098, .int 0] [] M') : ∀ (n k : Nat) (j : Int32) (M1 : Mm), k + n = 1281 → j.toInt = k → (∀ j, mL M1 1100 j = if j < k then mL M 1100 (j + 427) else mL M 1100 j) → (∀ b, ¬ b = 1100 → mL M1 b = mL M b) → mI M1 = mI M → mP M1 = mP M → mN M1 = mN M → Wj true l G F Y_X10_keeps Q QX 0 0 10 [.ref 1098, .int j] [] M1
  | 0, k, j, M1, hn, hj, f1, f2, f3, f4, f5 => by
    refine g_X10_keeps_10 _ _ _ ?_
    have kk := k_R
    have t1281 : (1281 : Int32).toInt = 1281 := rfl
    simp only [R_X10_keeps_10, kk, i_lt, i_le, i_eq, tI_0, tI_1, tI_2, tI_3, tI_4, tI_5, tI_6, tI_7, tI_8, tI_9, tI_10, tI_11, tI_12, tI_14, tI_20, tI_31, tI_32, tI_48, tI_57, tI_59, tI_96, tI_97, tI_99, tI_100, tI_122, tI_127, tI_150, tI_199, tI_200, tI_255, tI_427, tI_1708, tI_2000, tI_9999, tI_m1, tI_m10, cN_0, cN_1, cN_2, cN_3, cN_4, cN_5, cN_6, cN_7, cN_8, cN_9, cN_10, cN_11, cN_12, cN_14, cN_20, cN_31, cN_32, cN_48, cN_57, cN_59, cN_96, cN_97, cN_99, cN_100, cN_122, cN_127, cN_150, cN_199, cN_200, cN_255, cN_427, cN_1708, cN_2000, cN_9999, t1281, I_ic, I_lc, I_nul, I_il, I_ll, I_al, I_is, I_ls, I_as, I_inc, I_iadd, I_isub, I_imul, I_iand, I_ladd, I_lsub, I_lmul, I_land, I_lor, I_idiv, I_irem, I_ishr, I_lshl, I_lshr, I_lushr, I_lcmp, I_i2l, I_l2i, I_dup, I_pop, I_dup2, I_ifeq, I_ifne, I_iflt, I_ifge, I_ifgt, I_ifle, I_iceq, I_icne, I_iclt, I_icge, I_icgt, I_icle, I_ifnull, I_ifnonnull, I_sw, swK, I_gi, I_gl, I_gp, I_pi, I_pl, I_ial, I_lal, I_ias, I_las, I_aal, I_len, I_ir, I_zr, I_lr, I_vr, I_ar, I_cv, I_cs, I_csN, I_max, I_min, I_cpi, I_cpl, I_kl, popA, gt0, gt1, gt2, gt3, gt4, gt5, gt6, gt7, gt8, gt9, gt10, gt11, gt12, s1_0, s1_1, s1_2, s1_3, s1_4, s1_5, s1_6, s1_7, s1_8, s1_9, s1_10, s1_11, s1_12, s2_0, s2_1, s2_2, s2_3, s2_4, s2_5, s2_6, s2_7, s2_8, s2_9, s2_10, s2_11, se_0, se_1, se_2, se_3, se_4, se_5, se_6, se_7, se_8, se_9, se_10, se_11, se_12, kil_i, kil_l, kil_r, kil_n, kil_x, ap_done, ap_pend, ap_dbt, ap_rel, ap_wrk, ap_trade, ap_mentor, ap_refused, ap_wdays, ap_today, ap_moves, st_day, st_needs, st_ments, st_aps, ap_eta, st_eta, Value.category, List.map_cons, List.map_nil, List.sum_cons, List.sum_nil, Option.toList_some, Option.toList_none, List.cons_append, List.nil_append, Nat.reduceAdd, Nat.reduceLeDiff, true_and, and_true, true_or, or_true, forall_const, not_true_eq_false, false_implies, not_false_eq_true, false_and, ↓reduceIte, ad_1, ad_2, ad_3, ad_4, ad_5, nq_2]
    rw [hj]
    have hk : k = 1281 := by omega
    rw [hk] at f1
    refine ⟨fun g => hQ _ f1 ?_ ⟨f2, fun b j hb => ?_, f4, f5⟩, fun g => by omega⟩
    · rw [mI_sI, if_pos ⟨rfl, rfl⟩, f3, i_sub, h0, tI_1]
      · rfl
      all_goals rw [h0, tI_1]; omega
    · rw [mI_sI, if_neg hb, f3]
  | n + 1, k, j, M1, hn, hj, f1, f2, f3, f4, f5 => by
    refine g_X10_keeps_10 _ _ _ ?_
    have kk := k_R
    have k2 := k_R2
    have t427 : (427 : Int32).toInt = 427 := rfl
    have t1281 : (1281 : Int32).toInt = 1281 := rfl
    have hjn : j.toNatClampNeg = k := by rw [i_cl, hj]; rfl
    have hj1 : (j + 1).toInt = ((k + 1 : Nat) : Int) := by rw [i_add, hj]; rfl; all_goals rw [hj, tI_1]; omega
    have e2 : (j + 427).toInt = k + 427 := by rw [i_add, hj, t427]; all_goals rw [hj, t427]; omega
    have e3 : (j + 427).toNatClampNeg = k + 427 := by rw [i_cl, e2]; omega
    simp only [R_X10_keeps_10, kk, k2, hjn, e3, i_lt, i_le, i_eq, tI_0, tI_1, tI_2, tI_3, tI_4, tI_5, tI_6, tI_7, tI_8, tI_9, tI_10, tI_11, tI_12, tI_14, tI_20, tI_31, tI_32, tI_48, tI_57, tI_59, tI_96, tI_97, tI_99, tI_100, tI_122, tI_127, tI_150, tI_199, tI_200, tI_255, tI_427, tI_1708, tI_2000, tI_9999, tI_m1, tI_m10, cN_0, cN_1, cN_2, cN_3, cN_4, cN_5, cN_6, cN_7, cN_8, cN_9, cN_10, cN_11, cN_12, cN_14, cN_20, cN_31, cN_32, cN_48, cN_57, cN_59, cN_96, cN_97, cN_99, cN_100, cN_122, cN_127, cN_150, cN_199, cN_200, cN_255, cN_427, cN_1708, cN_2000, cN_9999, t1281, I_ic, I_lc, I_nul, I_il, I_ll, I_al, I_is, I_ls, I_as, I_inc, I_iadd, I_isub, I_imul, I_iand, I_ladd, I_lsub, I_lmul, I_land, I_lor, I_idiv, I_irem, I_ishr, I_lshl, I_lshr, I_lushr, I_lcmp, I_i2l, I_l2i, I_dup, I_pop, I_dup2, I_ifeq, I_ifne, I_iflt, I_ifge, I_ifgt, I_ifle, I_iceq, I_icne, I_iclt, I_icge, I_icgt, I_icle, I_ifnull, I_ifnonnull, I_sw, swK, I_gi, I_gl, I_gp, I_pi, I_pl, I_ial, I_lal, I_ias, I_las, I_aal, I_len, I_ir, I_zr, I_lr, I_vr, I_ar, I_cv, I_cs, I_csN, I_max, I_min, I_cpi, I_cpl, I_kl, popA, gt0, gt1, gt2, gt3, gt4, gt5, gt6, gt7, gt8, gt9, gt10, gt11, gt12, s1_0, s1_1, s1_2, s1_3, s1_4, s1_5, s1_6, s1_7, s1_8, s1_9, s1_10, s1_11, s1_12, s2_0, s2_1, s2_2, s2_3, s2_4, s2_5, s2_6, s2_7, s2_8, s2_9, s2_10, s2_11, se_0, se_1, se_2, se_3, se_4, se_5, se_6, se_7, se_8, se_9, se_10, se_11, se_12, kil_i, kil_l, kil_r, kil_n, kil_x, ap_done, ap_pend, ap_dbt, ap_rel, ap_wrk, ap_trade, ap_mentor, ap_refused, ap_wdays, ap_today, ap_moves, st_day, st_needs, st_ments, st_aps, ap_eta, st_eta, Value.category, List.map_cons, List.map_nil, List.sum_cons, List.sum_nil, Option.toList_some, Option.toList_none, List.cons_append, List.nil_append, Nat.reduceAdd, Nat.reduceLeDiff, true_and, and_true, true_or, or_true, forall_const, not_true_eq_false, false_implies, not_false_eq_true, false_and, ↓reduceIte, ad_1, ad_2, ad_3, ad_4, ad_5, nq_2]
    rw [hj]
    refine ⟨fun g => by omega, fun g => ⟨i_in (n := 1708) (by rw [e2]; omega) (by rw [e2]; omega), i_in (n := 1708) (by omega) (by omega), ?_⟩⟩
    refine lp_X10_keeps1 h0 hQ n (k + 1) _ _ (by omega) hj1 (fun y => ?_) (fun b hb => ?_) f3 f4 f5
    · rw [mL_sL]
      by_cases e : y = k
      · rw [if_pos ⟨rfl, e⟩, if_pos (by omega), f1, if_neg (by omega), e]
      · rw [if_neg (by omega), f1 y]
        by_cases e4 : y < k
        · rw [if_pos e4, if_pos (by omega)]
        · rw [if_neg e4, if_neg (by omega)]
    · funext y
      rw [mL_sL, if_neg (by omega), f2 b hb]
theorem KP.trans {M M1 M2 : Mm} (h : KP M M1) (h2 : KP M1 M2) : KP M M2 := ⟨fun b hb => (h2.1 b hb).trans (h.1 b hb), fun b j hb => (h2.2.1 b j hb).trans (h.2.1 b j hb), h2.2.2.1.trans h.2.2.1, h2.2.2.2.trans h.2.2.2⟩
theorem sp_X10_keeps (rk : RK M L) (r : RS (mL M 1101) X) (ws : WfS X) (hQ : ∀ M', RK M' (uPush L X) → KP M M' → Q none M') : Tr true l G Y_X10_keeps [.ref 1098] M Q QX := by
  refine en_X10_keeps fun F => ?_
  have kk := k_R
  obtain ⟨h0, h4, hL⟩ := rk
  simp only [R_X10_keeps_0, kk, i_lt, i_le, i_eq, tI_0, tI_1, tI_2, tI_3, tI_4, tI_5, tI_6, tI_7, tI_8, tI_9, tI_10, tI_11, tI_12, tI_14, tI_20, tI_31, tI_32, tI_48, tI_57, tI_59, tI_96, tI_97, tI_99, tI_100, tI_122, tI_127, tI_150, tI_199, tI_200, tI_255, tI_427, tI_1708, tI_2000, tI_9999, tI_m1, tI_m10, cN_0, cN_1, cN_2, cN_3, cN_4, cN_5, cN_6, cN_7, cN_8, cN_9, cN_10, cN_11, cN_12, cN_14, cN_20, cN_31, cN_32, cN_48, cN_57, cN_59, cN_96, cN_97, cN_99, cN_100, cN_122, cN_127, cN_150, cN_199, cN_200, cN_255, cN_427, cN_1708, cN_2000, cN_9999, I_ic, I_lc, I_nul, I_il, I_ll, I_al, I_is, I_ls, I_as, I_inc, I_iadd, I_isub, I_imul, I_iand, I_ladd, I_lsub, I_lmul, I_land, I_lor, I_idiv, I_irem, I_ishr, I_lshl, I_lshr, I_lushr, I_lcmp, I_i2l, I_l2i, I_dup, I_pop, I_dup2, I_ifeq, I_ifne, I_iflt, I_ifge, I_ifgt, I_ifle, I_iceq, I_icne, I_iclt, I_icge, I_icgt, I_icle, I_ifnull, I_ifnonnull, I_sw, swK, I_gi, I_gl, I_gp, I_pi, I_pl, I_ial, I_lal, I_ias, I_las, I_aal, I_len, I_ir, I_zr, I_lr, I_vr, I_ar, I_cv, I_cs, I_csN, I_max, I_min, I_cpi, I_cpl, I_kl, popA, gt0, gt1, gt2, gt3, gt4, gt5, gt6, gt7, gt8, gt9, gt10, gt11, gt12, s1_0, s1_1, s1_2, s1_3, s1_4, s1_5, s1_6, s1_7, s1_8, s1_9, s1_10, s1_11, s1_12, s2_0, s2_1, s2_2, s2_3, s2_4, s2_5, s2_6, s2_7, s2_8, s2_9, s2_10, s2_11, se_0, se_1, se_2, se_3, se_4, se_5, se_6, se_7, se_8, se_9, se_10, se_11, se_12, kil_i, kil_l, kil_r, kil_n, kil_x, ap_done, ap_pend, ap_dbt, ap_rel, ap_wrk, ap_trade, ap_mentor, ap_refused, ap_wdays, ap_today, ap_moves, st_day, st_needs, st_ments, st_aps, ap_eta, st_eta, Value.category, List.map_cons, List.map_nil, List.sum_cons, List.sum_nil, Option.toList_some, Option.toList_none, List.cons_append, List.nil_append, Nat.reduceAdd, Nat.reduceLeDiff, true_and, and_true, true_or, or_true, forall_const, not_true_eq_false, false_implies, not_false_eq_true, false_and, ↓reduceIte, ad_1, ad_2, ad_3, ad_4, ad_5, nq_2]
  rw [h0]
  refine ⟨fun g => ?_, fun g => ?_⟩
  · have up : uPush L X = L ++ [X] := by unfold uPush; rw [if_pos (by omega)]
    rw [up] at hQ
    refine lp_X10_keeps2 h0 (by omega) (fun M' f1 f2 f3 => hQ M' ⟨by rw [f2, List.length_append]; rfl, by rw [List.length_append]; simp only [ap_done, ap_pend, ap_dbt, ap_rel, ap_wrk, ap_trade, ap_mentor, ap_refused, ap_wdays, ap_today, ap_moves, st_day, st_needs, st_ments, st_aps, ap_eta, st_eta, List.length_cons, List.length_nil]; omega, fun i Y hi => ?_⟩ f3) 427 0 _ M (by omega) rfl (fun j => by rw [if_neg (by omega)]) (fun _ _ => rfl) rfl rfl rfl
    rcases app_get hi with ⟨h5, h6⟩ | ⟨h5, h6⟩
    · refine ⟨(hL i Y h6).1, (hL i Y h6).2.of (hL i Y h6).1 fun k hk => ?_⟩
      rw [f1, if_neg (by omega)]
    · subst h5 h6
      refine ⟨ws, r.of ws fun k hk => ?_⟩
      rw [f1, if_pos (by omega), Nat.add_sub_cancel_left]
  · have up : uPush L X = L.tail ++ [X] := by unfold uPush; rw [if_neg (by omega)]
    rw [up] at hQ
    refine lp_X10_keeps1 (by omega) (fun M1 f1 f2 f3 => ?_) 1281 0 _ M (by omega) rfl (fun j => by rw [if_neg (by omega)]) (fun _ _ => rfl) rfl rfl rfl
    refine lp_X10_keeps2 (n0 := 3) f2 (by omega) (fun M' g1 g2 g3 => hQ M' ⟨by rw [g2]; simp only [ap_done, ap_pend, ap_dbt, ap_rel, ap_wrk, ap_trade, ap_mentor, ap_refused, ap_wdays, ap_today, ap_moves, st_day, st_needs, st_ments, st_aps, ap_eta, st_eta, List.length_append, List.length_tail, List.length_cons, List.length_nil]; omega, by simp only [ap_done, ap_pend, ap_dbt, ap_rel, ap_wrk, ap_trade, ap_mentor, ap_refused, ap_wdays, ap_today, ap_moves, st_day, st_needs, st_ments, st_aps, ap_eta, st_eta, List.length_append, List.length_tail, List.length_cons, List.length_nil]; omega, fun i Y hi => ?_⟩ (f3.trans g3)) 427 0 _ M1 (by omega) rfl (fun j => by rw [if_neg (by omega)]) (fun _ _ => rfl) rfl rfl rfl
    rcases app_get hi with ⟨h5, h6⟩ | ⟨h5, h6⟩
    · rw [List.getElem?_tail] at h6
      simp only [ap_done, ap_pend, ap_dbt, ap_rel, ap_wrk, ap_trade, ap_mentor, ap_refused, ap_wdays, ap_today, ap_moves, st_day, st_needs, st_ments, st_aps, ap_eta, st_eta, List.length_tail] at h5
      refine ⟨(hL _ Y h6).1, (hL _ Y h6).2.of (hL _ Y h6).1 fun k hk => ?_⟩
      rw [g1, if_neg (by omega), f1, if_pos (by omega), show 427 * i + k + 427 = 427 * (i + 1) + k by omega]
    · simp only [ap_done, ap_pend, ap_dbt, ap_rel, ap_wrk, ap_trade, ap_mentor, ap_refused, ap_wdays, ap_today, ap_moves, st_day, st_needs, st_ments, st_aps, ap_eta, st_eta, List.length_tail] at h5
      subst h6
      refine ⟨ws, r.of ws fun k hk => ?_⟩
      rw [g1, if_pos (by omega), f3.1 1101 (by omega), show 427 * i + k - 427 * 3 = k by omega]
end SPR8
