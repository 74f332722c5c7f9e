/-! ===== EntryQueue: what changes it ===== -/
section SPQ4
variable {l : Launch} {G : GT} {M : Mm} {Q : PQ} {QX : PX} {q : Nat} {L : List En}
/-- the first w columns have lost what stood at k -/
def RmI (M M' : Mm) (q k n w : Nat) : Prop := (∀ v, v < 4 → mI M' (q + 2 + v) = if v < w then va_cpy (mI M (q + 2 + v)) (mI M (q + 2 + v)) (k + 1) k (n - k - 1) else mI M (q + 2 + v)) ∧ (∀ b, b < q + 2 ∨ q + 6 ≤ b → mI M' b = mI M b) ∧ mL M' = mL M ∧ mP M' = mP M ∧ mN M' = mN M
theorem lp_X5_removeAt {F : FX} {i : Int32} {k : Nat} (hq : QAt M q L) (hi : i.toInt = k) (hkl : k < L.length) (hQ : ∀ M', QAt M' q (L.eraseIdx k) → Sm M M' q (q + 6) → Q none M') : ∀ (n w : Nat) (j : Int32) (M' : Mm), w + n = 4 → j.toInt = w → RmI M M' q k L.length w → Wj true l G F Y_X5_removeAt Q QX 0 0 24 [.ref q, .int i, .int j] [] M'
  | 0, w, j, M', hw, hj, hI => by
    obtain ⟨hk, hs, h20, hL⟩ := hq
    obtain ⟨i1, i2, i3, i4, i5⟩ := hI
    refine g_X5_removeAt_24 _ _ _ ?_
    simp only [R_X5_removeAt_24, hk, k_q1, i_lt, i_le, i_eq, tI_0, tI_1, tI_2, tI_3, tI_4, tI_5, tI_6, tI_7, tI_8, tI_9, tI_10, tI_11, tI_12, tI_14, tI_20, tI_31, tI_32, tI_48, tI_57, tI_59, tI_96, tI_97, tI_99, tI_100, tI_122, tI_127, tI_150, tI_199, tI_200, tI_255, tI_427, tI_1708, tI_2000, tI_9999, tI_m1, tI_m10, cN_0, cN_1, cN_2, cN_3, cN_4, cN_5, cN_6, cN_7, cN_8, cN_9, cN_10, cN_11, cN_12, cN_14, cN_20, cN_31, cN_32, cN_48, cN_57, cN_59, cN_96, cN_97, cN_99, cN_100, cN_122, cN_127, cN_150, cN_199, cN_200, cN_255, cN_427, cN_1708, cN_2000, cN_9999, mI_sI, I_ic, I_lc, I_nul, I_il, I_ll, I_al, I_is, I_ls, I_as, I_inc, I_iadd, I_isub, I_imul, I_iand, I_ladd, I_lsub, I_lmul, I_land, I_lor, I_idiv, I_irem, I_ishr, I_lshl, I_lshr, I_lushr, I_lcmp, I_i2l, I_l2i, I_dup, I_pop, I_dup2, I_ifeq, I_ifne, I_iflt, I_ifge, I_ifgt, I_ifle, I_iceq, I_icne, I_iclt, I_icge, I_icgt, I_icle, I_ifnull, I_ifnonnull, I_sw, swK, I_gi, I_gl, I_gp, I_pi, I_pl, I_ial, I_lal, I_ias, I_las, I_aal, I_len, I_ir, I_zr, I_lr, I_vr, I_ar, I_cv, I_cs, I_csN, I_max, I_min, I_cpi, I_cpl, I_kl, popA, gt0, gt1, gt2, gt3, gt4, gt5, gt6, gt7, gt8, gt9, gt10, gt11, gt12, s1_0, s1_1, s1_2, s1_3, s1_4, s1_5, s1_6, s1_7, s1_8, s1_9, s1_10, s1_11, s1_12, s2_0, s2_1, s2_2, s2_3, s2_4, s2_5, s2_6, s2_7, s2_8, s2_9, s2_10, s2_11, se_0, se_1, se_2, se_3, se_4, se_5, se_6, se_7, se_8, se_9, se_10, se_11, se_12, kil_i, kil_l, kil_r, kil_n, kil_x, ap_done, ap_pend, ap_dbt, ap_rel, ap_wrk, ap_trade, ap_mentor, ap_refused, ap_wdays, ap_today, ap_moves, st_day, st_needs, st_ments, st_aps, ap_eta, st_eta, Value.category, List.map_cons, List.map_nil, List.sum_cons, List.sum_nil, Option.toList_some, Option.toList_none, List.cons_append, List.nil_append, Nat.reduceAdd, Nat.reduceLeDiff, true_and, and_true, true_or, or_true, forall_const, not_true_eq_false, false_implies, not_false_eq_true, false_and, ↓reduceIte, ad_1, ad_2, ad_3, ad_4, ad_5, nq_2]
    rw [hj]
    have hsz : (mI M' q 1).toInt = L.length := by rw [i2 q (by omega)]; exact hs
    have hne : ∀ w, ¬ (q + 2 + w = q) := fun w => by omega
    refine ⟨fun g => hQ _ ⟨hk, ?_, ?_, ?_⟩ ⟨?_, ?_, ?_⟩, fun g => by omega⟩
    · rw [mI_sI, if_pos ⟨rfl, rfl⟩, List.length_eraseIdx_of_lt hkl, i_sub, hsz, tI_1]; omega
      all_goals rw [hsz, tI_1]; omega
    · rw [List.length_eraseIdx_of_lt hkl]; omega
    · intro x e hx
      rw [List.getElem?_eraseIdx] at hx
      by_cases hxk : x < k
      · rw [if_pos hxk] at hx
        refine ⟨(hL x e hx).1, fun v hv => ?_⟩
        rw [mI_sI, if_neg (by simp [ap_done, ap_pend, ap_dbt, ap_rel, ap_wrk, ap_trade, ap_mentor, ap_refused, ap_wdays, ap_today, ap_moves, st_day, st_needs, st_ments, st_aps, ap_eta, st_eta, hne v]), i1 v hv, if_pos (by omega), cpy_eq, if_neg (by omega)]
        exact (hL x e hx).2 v hv
      · rw [if_neg hxk] at hx
        have hlt : x + 1 < L.length := by
          apply Classical.byContradiction
          intro hc
          rw [List.getElem?_eq_none (by omega)] at hx
          cases hx
        refine ⟨(hL _ e hx).1, fun v hv => ?_⟩
        rw [mI_sI, if_neg (by simp [ap_done, ap_pend, ap_dbt, ap_rel, ap_wrk, ap_trade, ap_mentor, ap_refused, ap_wdays, ap_today, ap_moves, st_day, st_needs, st_ments, st_aps, ap_eta, st_eta, hne v]), i1 v hv, if_pos (by omega), cpy_eq, if_pos (by omega), show k + 1 + (x - k) = x + 1 by omega]
        exact (hL _ e hx).2 v hv
    · intro b hb
      refine ⟨?_, by rw [mL_sI, i3]⟩
      funext x
      rw [mI_sI, if_neg (by omega), i2 b (by omega)]
    · exact i4
    · exact i5
  | n + 1, w, j, M', hw, hj, hI => by
    have hq2 := hq
    obtain ⟨hk, hs, h20, hL⟩ := hq
    have hI2 := hI
    obtain ⟨i1, i2, i3, i4, i5⟩ := hI
    refine g_X5_removeAt_24 _ _ _ ?_
    have hj2 : j.toNatClampNeg = w := by rw [i_cl]; omega
    have hsz : (mI M' q 1).toInt = L.length := by rw [i2 q (by omega)]; exact hs
    simp only [R_X5_removeAt_24, hk, k_q1, i_lt, i_le, i_eq, tI_0, tI_1, tI_2, tI_3, tI_4, tI_5, tI_6, tI_7, tI_8, tI_9, tI_10, tI_11, tI_12, tI_14, tI_20, tI_31, tI_32, tI_48, tI_57, tI_59, tI_96, tI_97, tI_99, tI_100, tI_122, tI_127, tI_150, tI_199, tI_200, tI_255, tI_427, tI_1708, tI_2000, tI_9999, tI_m1, tI_m10, cN_0, cN_1, cN_2, cN_3, cN_4, cN_5, cN_6, cN_7, cN_8, cN_9, cN_10, cN_11, cN_12, cN_14, cN_20, cN_31, cN_32, cN_48, cN_57, cN_59, cN_96, cN_97, cN_99, cN_100, cN_122, cN_127, cN_150, cN_199, cN_200, cN_255, cN_427, cN_1708, cN_2000, cN_9999, hj2, I_ic, I_lc, I_nul, I_il, I_ll, I_al, I_is, I_ls, I_as, I_inc, I_iadd, I_isub, I_imul, I_iand, I_ladd, I_lsub, I_lmul, I_land, I_lor, I_idiv, I_irem, I_ishr, I_lshl, I_lshr, I_lushr, I_lcmp, I_i2l, I_l2i, I_dup, I_pop, I_dup2, I_ifeq, I_ifne, I_iflt, I_ifge, I_ifgt, I_ifle, I_iceq, I_icne, I_iclt, I_icge, I_icgt, I_icle, I_ifnull, I_ifnonnull, I_sw, swK, I_gi, I_gl, I_gp, I_pi, I_pl, I_ial, I_lal, I_ias, I_las, I_aal, I_len, I_ir, I_zr, I_lr, I_vr, I_ar, I_cv, I_cs, I_csN, I_max, I_min, I_cpi, I_cpl, I_kl, popA, gt0, gt1, gt2, gt3, gt4, gt5, gt6, gt7, gt8, gt9, gt10, gt11, gt12, s1_0, s1_1, s1_2, s1_3, s1_4, s1_5, s1_6, s1_7, s1_8, s1_9, s1_10, s1_11, s1_12, s2_0, s2_1, s2_2, s2_3, s2_4, s2_5, s2_6, s2_7, s2_8, s2_9, s2_10, s2_11, se_0, se_1, se_2, se_3, se_4, se_5, se_6, se_7, se_8, se_9, se_10, se_11, se_12, kil_i, kil_l, kil_r, kil_n, kil_x, ap_done, ap_pend, ap_dbt, ap_rel, ap_wrk, ap_trade, ap_mentor, ap_refused, ap_wdays, ap_today, ap_moves, st_day, st_needs, st_ments, st_aps, ap_eta, st_eta, Value.category, List.map_cons, List.map_nil, List.sum_cons, List.sum_nil, Option.toList_some, Option.toList_none, List.cons_append, List.nil_append, Nat.reduceAdd, Nat.reduceLeDiff, true_and, and_true, true_or, or_true, forall_const, not_true_eq_false, false_implies, not_false_eq_true, false_and, ↓reduceIte, ad_1, ad_2, ad_3, ad_4, ad_5, nq_2]
    rw [hj]
    rw [k_qc hk w (by omega)]
    have e1 : (i + 1).toInt = k + 1 := by rw [i_add, tI_1, hi]; all_goals rw [tI_1]; omega
    have e2 : (mI M' q 1 - i).toInt = L.length - k := by rw [i_sub, hsz, hi]; all_goals rw [hsz, hi]; omega
    have e3 : (mI M' q 1 - i - 1).toInt = L.length - k - 1 := by rw [i_sub, e2, tI_1]; all_goals rw [e2, tI_1]; omega
    have n1 : (i + 1).toNatClampNeg = k + 1 := by rw [i_cl, e1]; omega
    have n2 : i.toNatClampNeg = k := by rw [i_cl, hi]; omega
    have n3 : (mI M' q 1 - i - 1).toNatClampNeg = L.length - k - 1 := by rw [i_cl, e3]; omega
    rw [e1, hi, e3, n1, n2, n3]
    refine ⟨fun g => by omega, fun g => ⟨i_in (n := 4) (by omega) (by omega), i_in (n := 4) (by omega) (by omega), rfl, rfl, by omega, by omega, by omega, by show _ ≤ 20; omega, by show _ ≤ 20; omega, ?_⟩⟩
    refine lp_X5_removeAt hq2 hi hkl hQ n (w + 1) _ _ (by omega) ?_ ⟨?_, ?_, ?_, i4, i5⟩
    · rw [i_add, hj, tI_1]; rfl; all_goals rw [hj, tI_1]; omega
    · intro v hv
      funext x
      rw [mI_cI]
      by_cases hvw : v = w
      · subst hvw
        rw [if_pos rfl, if_pos (by omega), i1 v hv, if_neg (by omega)]
      · rw [if_neg (by omega), i1 v hv]
        by_cases hv2 : v < w
        · rw [if_pos hv2, if_pos (by omega)]
        · rw [if_neg hv2, if_neg (by omega)]
    · intro b hb
      funext x
      rw [mI_cI, if_neg (by omega), i2 b hb]
    · rw [mL_cI, i3]
theorem sp_X5_removeAt {i : Int32} {k : Nat} (hq : QAt M q L) (hi : i.toInt = k) (hkl : k < L.length) (hQ : ∀ M', QAt M' q (L.eraseIdx k) → Sm M M' q (q + 6) → Q none M') : Tr true l G Y_X5_removeAt [.ref q, .int i] M Q QX := by
  have hq2 := hq
  obtain ⟨hk, hs, h20, hL⟩ := hq
  refine en_X5_removeAt fun F => ?_
  simp only [R_X5_removeAt_0, hk, i_lt, i_le, i_eq, tI_0, tI_1, tI_2, tI_3, tI_4, tI_5, tI_6, tI_7, tI_8, tI_9, tI_10, tI_11, tI_12, tI_14, tI_20, tI_31, tI_32, tI_48, tI_57, tI_59, tI_96, tI_97, tI_99, tI_100, tI_122, tI_127, tI_150, tI_199, tI_200, tI_255, tI_427, tI_1708, tI_2000, tI_9999, tI_m1, tI_m10, cN_0, cN_1, cN_2, cN_3, cN_4, cN_5, cN_6, cN_7, cN_8, cN_9, cN_10, cN_11, cN_12, cN_14, cN_20, cN_31, cN_32, cN_48, cN_57, cN_59, cN_96, cN_97, cN_99, cN_100, cN_122, cN_127, cN_150, cN_199, cN_200, cN_255, cN_427, cN_1708, cN_2000, cN_9999, I_ic, I_lc, I_nul, I_il, I_ll, I_al, I_is, I_ls, I_as, I_inc, I_iadd, I_isub, I_imul, I_iand, I_ladd, I_lsub, I_lmul, I_land, I_lor, I_idiv, I_irem, I_ishr, I_lshl, I_lshr, I_lushr, I_lcmp, I_i2l, I_l2i, I_dup, I_pop, I_dup2, I_ifeq, I_ifne, I_iflt, I_ifge, I_ifgt, I_ifle, I_iceq, I_icne, I_iclt, I_icge, I_icgt, I_icle, I_ifnull, I_ifnonnull, I_sw, swK, I_gi, I_gl, I_gp, I_pi, I_pl, I_ial, I_lal, I_ias, I_las, I_aal, I_len, I_ir, I_zr, I_lr, I_vr, I_ar, I_cv, I_cs, I_csN, I_max, I_min, I_cpi, I_cpl, I_kl, popA, gt0, gt1, gt2, gt3, gt4, gt5, gt6, gt7, gt8, gt9, gt10, gt11, gt12, s1_0, s1_1, s1_2, s1_3, s1_4, s1_5, s1_6, s1_7, s1_8, s1_9, s1_10, s1_11, s1_12, s2_0, s2_1, s2_2, s2_3, s2_4, s2_5, s2_6, s2_7, s2_8, s2_9, s2_10, s2_11, se_0, se_1, se_2, se_3, se_4, se_5, se_6, se_7, se_8, se_9, se_10, se_11, se_12, kil_i, kil_l, kil_r, kil_n, kil_x, ap_done, ap_pend, ap_dbt, ap_rel, ap_wrk, ap_trade, ap_mentor, ap_refused, ap_wdays, ap_today, ap_moves, st_day, st_needs, st_ments, st_aps, ap_eta, st_eta, Value.category, List.map_cons, List.map_nil, List.sum_cons, List.sum_nil, Option.toList_some, Option.toList_none, List.cons_append, List.nil_append, Nat.reduceAdd, Nat.reduceLeDiff, true_and, and_true, true_or, or_true, forall_const, not_true_eq_false, false_implies, not_false_eq_true, false_and, ↓reduceIte, ad_1, ad_2, ad_3, ad_4, ad_5, nq_2]
  rw [hs, hi]
  refine ⟨fun g => by omega, fun g => ⟨fun g => by omega, fun g => ⟨fun g => ?_, fun g => by omega⟩⟩⟩
  exact lp_X5_removeAt hq2 hi hkl hQ 4 0 _ _ (by omega) rfl ⟨fun v hv => by rw [if_neg (by omega)], fun b hb => rfl, rfl, rfl, rfl⟩
/-- the first w columns of a are those of b -/
def CpI (M M' : Mm) (a b w : Nat) : Prop := (∀ v, v < w → v < 4 → ∀ x, x < 20 → mI M' (a + 2 + v) x = mI M (b + 2 + v) x) ∧ (∀ c, c < a + 2 ∨ a + 6 ≤ c → mI M' c = mI M c) ∧ mL M' = mL M ∧ mP M' = mP M ∧ mN M' = mN M
theorem lp_X5_copyEntries {F : FX} {a : Nat} (ha : KX a = (1, 3, 2)) (hq : QAt M q L) (hd : a + 6 ≤ q ∨ q + 6 ≤ a) (hQ : ∀ M', QAt M' a L → Sm M M' a (a + 6) → Q none M') : ∀ (n w : Nat) (j : Int32) (M' : Mm), w + n = 4 → j.toInt = w → CpI M M' a q w → Wj true l G F Y_X5_copyEntries Q QX 0 0 2 [.ref a, .ref q, .int j] [] M'
  | 0, w, j, M', hw, hj, hI => by
    obtain ⟨hk, hs, h20, hL⟩ := hq
    obtain ⟨i1, i2, i3, i4, i5⟩ := hI
    refine g_X5_copyEntries_2 _ _ _ ?_
    simp only [R_X5_copyEntries_2, ha, hk, k_q1, i_lt, i_le, i_eq, tI_0, tI_1, tI_2, tI_3, tI_4, tI_5, tI_6, tI_7, tI_8, tI_9, tI_10, tI_11, tI_12, tI_14, tI_20, tI_31, tI_32, tI_48, tI_57, tI_59, tI_96, tI_97, tI_99, tI_100, tI_122, tI_127, tI_150, tI_199, tI_200, tI_255, tI_427, tI_1708, tI_2000, tI_9999, tI_m1, tI_m10, cN_0, cN_1, cN_2, cN_3, cN_4, cN_5, cN_6, cN_7, cN_8, cN_9, cN_10, cN_11, cN_12, cN_14, cN_20, cN_31, cN_32, cN_48, cN_57, cN_59, cN_96, cN_97, cN_99, cN_100, cN_122, cN_127, cN_150, cN_199, cN_200, cN_255, cN_427, cN_1708, cN_2000, cN_9999, I_ic, I_lc, I_nul, I_il, I_ll, I_al, I_is, I_ls, I_as, I_inc, I_iadd, I_isub, I_imul, I_iand, I_ladd, I_lsub, I_lmul, I_land, I_lor, I_idiv, I_irem, I_ishr, I_lshl, I_lshr, I_lushr, I_lcmp, I_i2l, I_l2i, I_dup, I_pop, I_dup2, I_ifeq, I_ifne, I_iflt, I_ifge, I_ifgt, I_ifle, I_iceq, I_icne, I_iclt, I_icge, I_icgt, I_icle, I_ifnull, I_ifnonnull, I_sw, swK, I_gi, I_gl, I_gp, I_pi, I_pl, I_ial, I_lal, I_ias, I_las, I_aal, I_len, I_ir, I_zr, I_lr, I_vr, I_ar, I_cv, I_cs, I_csN, I_max, I_min, I_cpi, I_cpl, I_kl, popA, gt0, gt1, gt2, gt3, gt4, gt5, gt6, gt7, gt8, gt9, gt10, gt11, gt12, s1_0, s1_1, s1_2, s1_3, s1_4, s1_5, s1_6, s1_7, s1_8, s1_9, s1_10, s1_11, s1_12, s2_0, s2_1, s2_2, s2_3, s2_4, s2_5, s2_6, s2_7, s2_8, s2_9, s2_10, s2_11, se_0, se_1, se_2, se_3, se_4, se_5, se_6, se_7, se_8, se_9, se_10, se_11, se_12, kil_i, kil_l, kil_r, kil_n, kil_x, ap_done, ap_pend, ap_dbt, ap_rel, ap_wrk, ap_trade, ap_mentor, ap_refused, ap_wdays, ap_today, ap_moves, st_day, st_needs, st_ments, st_aps, ap_eta, st_eta, Value.category, List.map_cons, List.map_nil, List.sum_cons, List.sum_nil, Option.toList_some, Option.toList_none, List.cons_append, List.nil_append, Nat.reduceAdd, Nat.reduceLeDiff, true_and, and_true, true_or, or_true, forall_const, not_true_eq_false, false_implies, not_false_eq_true, false_and, ↓reduceIte, ad_1, ad_2, ad_3, ad_4, ad_5, nq_2]
    rw [hj]
    have hne : ∀ w, ¬ (a + 2 + w = a) := fun w => by omega
    refine ⟨fun g => hQ _ ⟨ha, ?_, h20, ?_⟩ ⟨?_, i4, i5⟩, fun g => by omega⟩
    · rw [mI_sI, if_pos ⟨rfl, rfl⟩, i2 q (by omega)]; exact hs
    · intro x e hx
      have hlt : x < L.length := by
        apply Classical.byContradiction
        intro hc
        rw [List.getElem?_eq_none (by omega)] at hx
        cases hx
      refine ⟨(hL x e hx).1, fun v hv => ?_⟩
      rw [mI_sI, if_neg (by simp [ap_done, ap_pend, ap_dbt, ap_rel, ap_wrk, ap_trade, ap_mentor, ap_refused, ap_wdays, ap_today, ap_moves, st_day, st_needs, st_ments, st_aps, ap_eta, st_eta, hne v]), i1 v (by omega) hv x (by omega)]
      exact (hL x e hx).2 v hv
    · intro c hc
      refine ⟨?_, by rw [mL_sI, i3]⟩
      funext x
      rw [mI_sI, if_neg (by omega), i2 c (by omega)]
  | n + 1, w, j, M', hw, hj, hI => by
    have hq2 := hq
    obtain ⟨hk, hs, h20, hL⟩ := hq
    obtain ⟨i1, i2, i3, i4, i5⟩ := hI
    refine g_X5_copyEntries_2 _ _ _ ?_
    have hj2 : j.toNatClampNeg = w := by rw [i_cl]; omega
    simp only [R_X5_copyEntries_2, ha, hk, k_q1, i_lt, i_le, i_eq, tI_0, tI_1, tI_2, tI_3, tI_4, tI_5, tI_6, tI_7, tI_8, tI_9, tI_10, tI_11, tI_12, tI_14, tI_20, tI_31, tI_32, tI_48, tI_57, tI_59, tI_96, tI_97, tI_99, tI_100, tI_122, tI_127, tI_150, tI_199, tI_200, tI_255, tI_427, tI_1708, tI_2000, tI_9999, tI_m1, tI_m10, cN_0, cN_1, cN_2, cN_3, cN_4, cN_5, cN_6, cN_7, cN_8, cN_9, cN_10, cN_11, cN_12, cN_14, cN_20, cN_31, cN_32, cN_48, cN_57, cN_59, cN_96, cN_97, cN_99, cN_100, cN_122, cN_127, cN_150, cN_199, cN_200, cN_255, cN_427, cN_1708, cN_2000, cN_9999, hj2, I_ic, I_lc, I_nul, I_il, I_ll, I_al, I_is, I_ls, I_as, I_inc, I_iadd, I_isub, I_imul, I_iand, I_ladd, I_lsub, I_lmul, I_land, I_lor, I_idiv, I_irem, I_ishr, I_lshl, I_lshr, I_lushr, I_lcmp, I_i2l, I_l2i, I_dup, I_pop, I_dup2, I_ifeq, I_ifne, I_iflt, I_ifge, I_ifgt, I_ifle, I_iceq, I_icne, I_iclt, I_icge, I_icgt, I_icle, I_ifnull, I_ifnonnull, I_sw, swK, I_gi, I_gl, I_gp, I_pi, I_pl, I_ial, I_lal, I_ias, I_las, I_aal, I_len, I_ir, I_zr, I_lr, I_vr, I_ar, I_cv, I_cs, I_csN, I_max, I_min, I_cpi, I_cpl, I_kl, popA, gt0, gt1, gt2, gt3, gt4, gt5, gt6, gt7, gt8, gt9, gt10, gt11, gt12, s1_0, s1_1, s1_2, s1_3, s1_4, s1_5, s1_6, s1_7, s1_8, s1_9, s1_10, s1_11, s1_12, s2_0, s2_1, s2_2, s2_3, s2_4, s2_5, s2_6, s2_7, s2_8, s2_9, s2_10, s2_11, se_0, se_1, se_2, se_3, se_4, se_5, se_6, se_7, se_8, se_9, se_10, se_11, se_12, kil_i, kil_l, kil_r, kil_n, kil_x, ap_done, ap_pend, ap_dbt, ap_rel, ap_wrk, ap_trade, ap_mentor, ap_refused, ap_wdays, ap_today, ap_moves, st_day, st_needs, st_ments, st_aps, ap_eta, st_eta, Value.category, List.map_cons, List.map_nil, List.sum_cons, List.sum_nil, Option.toList_some, Option.toList_none, List.cons_append, List.nil_append, Nat.reduceAdd, Nat.reduceLeDiff, true_and, and_true, true_or, or_true, forall_const, not_true_eq_false, false_implies, not_false_eq_true, false_and, ↓reduceIte, ad_1, ad_2, ad_3, ad_4, ad_5, nq_2]
    rw [hj, k_qc hk w (by omega), k_qc ha w (by omega)]
    refine ⟨fun g => by omega, fun g => ⟨i_in (n := 4) (by omega) (by omega), i_in (n := 4) (by omega) (by omega), rfl, rfl, by omega, by omega, by omega, by decide, by decide, ?_⟩⟩
    refine lp_X5_copyEntries ha hq2 hd hQ n (w + 1) _ _ (by omega) ?_ ⟨?_, ?_, ?_, i4, i5⟩
    · rw [i_add, hj, tI_1]; rfl; all_goals rw [hj, tI_1]; omega
    · intro v hv hv4 x hx
      rw [mI_cI]
      by_cases hvw : v = w
      · subst hvw
        rw [if_pos rfl, cpy_eq, if_pos (by omega), i2 _ (by omega)]
        congr 1
        omega
      · rw [if_neg (by omega), i1 v (by omega) hv4 x hx]
    · intro c hc
      funext x
      rw [mI_cI, if_neg (by omega), i2 c hc]
    · rw [mL_cI, i3]
theorem sp_X5_copyEntries {a : Nat} (ha : KX a = (1, 3, 2)) (hq : QAt M q L) (hd : a + 6 ≤ q ∨ q + 6 ≤ a) (hQ : ∀ M', QAt M' a L → Sm M M' a (a + 6) → Q none M') : Tr true l G Y_X5_copyEntries [.ref a, .ref q] M Q QX := by
  refine en_X5_copyEntries fun F => ?_
  simp only [R_X5_copyEntries_0, I_ic, I_lc, I_nul, I_il, I_ll, I_al, I_is, I_ls, I_as, I_inc, I_iadd, I_isub, I_imul, I_iand, I_ladd, I_lsub, I_lmul, I_land, I_lor, I_idiv, I_irem, I_ishr, I_lshl, I_lshr, I_lushr, I_lcmp, I_i2l, I_l2i, I_dup, I_pop, I_dup2, I_ifeq, I_ifne, I_iflt, I_ifge, I_ifgt, I_ifle, I_iceq, I_icne, I_iclt, I_icge, I_icgt, I_icle, I_ifnull, I_ifnonnull, I_sw, swK, I_gi, I_gl, I_gp, I_pi, I_pl, I_ial, I_lal, I_ias, I_las, I_aal, I_len, I_ir, I_zr, I_lr, I_vr, I_ar, I_cv, I_cs, I_csN, I_max, I_min, I_cpi, I_cpl, I_kl, popA, gt0, gt1, gt2, gt3, gt4, gt5, gt6, gt7, gt8, gt9, gt10, gt11, gt12, s1_0, s1_1, s1_2, s1_3, s1_4, s1_5, s1_6, s1_7, s1_8, s1_9, s1_10, s1_11, s1_12, s2_0, s2_1, s2_2, s2_3, s2_4, s2_5, s2_6, s2_7, s2_8, s2_9, s2_10, s2_11, se_0, se_1, se_2, se_3, se_4, se_5, se_6, se_7, se_8, se_9, se_10, se_11, se_12, kil_i, kil_l, kil_r, kil_n, kil_x, ap_done, ap_pend, ap_dbt, ap_rel, ap_wrk, ap_trade, ap_mentor, ap_refused, ap_wdays, ap_today, ap_moves, st_day, st_needs, st_ments, st_aps, ap_eta, st_eta, Value.category, List.map_cons, List.map_nil, List.sum_cons, List.sum_nil, Option.toList_some, Option.toList_none, List.cons_append, List.nil_append, Nat.reduceAdd, Nat.reduceLeDiff, true_and, and_true, true_or, or_true, forall_const, not_true_eq_false, false_implies, not_false_eq_true, false_and, ↓reduceIte, ad_1, ad_2, ad_3, ad_4, ad_5, nq_2]
  exact lp_X5_copyEntries ha hq hd hQ 4 0 _ _ (by omega) rfl ⟨fun v hv => by omega, fun c hc => rfl, rfl, rfl, rfl⟩
end SPQ4
