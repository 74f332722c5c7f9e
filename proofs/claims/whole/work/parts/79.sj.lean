/-! ===== the reference: commands are carried out ===== -/
theorem rOp_ix {X : St} {w : Int} {f g : Nat → Int} (h : ∀ j, j < mny w → f j = g j) : rOp X w (f 0) (f 1) (f 2) = rOp X w (g 0) (g 1) (g 2) := by
  have mb := mny_b w
  rw [h 0 (by omega)]
  by_cases h1 : 1 < mny w
  · rw [h 1 h1]
    by_cases h2 : 2 < mny w
    · rw [h 2 h2]
    · unfold mny at h2
      have hw : ¬ w < 2 := fun c => h2 (by rw [if_pos c]; decide)
      have n0 : ¬ w = 0 := by omega
      have n1 : ¬ w = 1 := by omega
      simp only [ap_done, ap_pend, ap_dbt, ap_rel, ap_wrk, ap_trade, ap_mentor, ap_refused, ap_wdays, ap_today, ap_moves, st_day, st_needs, st_ments, st_aps, ap_eta, st_eta, rOp, n0, n1, if_false]
  · unfold mny at h1
    have hw : ¬ w < 2 := fun c => h1 (by rw [if_pos c]; decide)
    have hw7 : ¬ w < 7 := fun c => h1 (by rw [if_neg hw, if_pos c]; decide)
    have n0 : ¬ w = 0 := by omega
    have n1 : ¬ w = 1 := by omega
    have n2 : ¬ w = 2 := by omega
    have n3 : ¬ w = 3 := by omega
    have n4 : ¬ w = 4 := by omega
    have n5 : ¬ w = 5 := by omega
    have n6 : ¬ w = 6 := by omega
    simp only [ap_done, ap_pend, ap_dbt, ap_rel, ap_wrk, ap_trade, ap_mentor, ap_refused, ap_wdays, ap_today, ap_moves, st_day, st_needs, st_ments, st_aps, ap_eta, st_eta, rOp, n0, n1, n2, n3, n4, n5, n6, if_false]
theorem rOp_0 (X : St) (a b c : Int) : rOp X 0 a b c = rTrade X a b c := by simp [ap_done, ap_pend, ap_dbt, ap_rel, ap_wrk, ap_trade, ap_mentor, ap_refused, ap_wdays, ap_today, ap_moves, st_day, st_needs, st_ments, st_aps, ap_eta, st_eta, rOp]
theorem rOp_1 (X : St) (a b c : Int) : rOp X 1 a b c = rLog X a b c := by simp [ap_done, ap_pend, ap_dbt, ap_rel, ap_wrk, ap_trade, ap_mentor, ap_refused, ap_wdays, ap_today, ap_moves, st_day, st_needs, st_ments, st_aps, ap_eta, st_eta, rOp]
theorem rOp_2 (X : St) (a b c : Int) : rOp X 2 a b c = rMentor X a b := by simp [ap_done, ap_pend, ap_dbt, ap_rel, ap_wrk, ap_trade, ap_mentor, ap_refused, ap_wdays, ap_today, ap_moves, st_day, st_needs, st_ments, st_aps, ap_eta, st_eta, rOp]
theorem rOp_3 (X : St) (a b c : Int) : rOp X 3 a b c = rPupil X a b := by simp [ap_done, ap_pend, ap_dbt, ap_rel, ap_wrk, ap_trade, ap_mentor, ap_refused, ap_wdays, ap_today, ap_moves, st_day, st_needs, st_ments, st_aps, ap_eta, st_eta, rOp]
theorem rOp_4 (X : St) (a b c : Int) : rOp X 4 a b c = rMove X a b := by simp [ap_done, ap_pend, ap_dbt, ap_rel, ap_wrk, ap_trade, ap_mentor, ap_refused, ap_wdays, ap_today, ap_moves, st_day, st_needs, st_ments, st_aps, ap_eta, st_eta, rOp]
theorem rOp_5 (X : St) (a b c : Int) : rOp X 5 a b c = rSwap X a b := by simp [ap_done, ap_pend, ap_dbt, ap_rel, ap_wrk, ap_trade, ap_mentor, ap_refused, ap_wdays, ap_today, ap_moves, st_day, st_needs, st_ments, st_aps, ap_eta, st_eta, rOp]
theorem rOp_6 (X : St) (a b c : Int) : rOp X 6 a b c = rFree X a b := by simp [ap_done, ap_pend, ap_dbt, ap_rel, ap_wrk, ap_trade, ap_mentor, ap_refused, ap_wdays, ap_today, ap_moves, st_day, st_needs, st_ments, st_aps, ap_eta, st_eta, rOp]
theorem rOp_7 (X : St) (a b c : Int) : rOp X 7 a b c = rConf X a 99 := by simp [ap_done, ap_pend, ap_dbt, ap_rel, ap_wrk, ap_trade, ap_mentor, ap_refused, ap_wdays, ap_today, ap_moves, st_day, st_needs, st_ments, st_aps, ap_eta, st_eta, rOp]
theorem rOp_8 (X : St) (a b c : Int) : rOp X 8 a b c = rDoubt X a := by simp [ap_done, ap_pend, ap_dbt, ap_rel, ap_wrk, ap_trade, ap_mentor, ap_refused, ap_wdays, ap_today, ap_moves, st_day, st_needs, st_ments, st_aps, ap_eta, st_eta, rOp]
theorem rOp_9 (X : St) (a b c : Int) : rOp X 9 a b c = rSettle X a 1 := by simp [ap_done, ap_pend, ap_dbt, ap_rel, ap_wrk, ap_trade, ap_mentor, ap_refused, ap_wdays, ap_today, ap_moves, st_day, st_needs, st_ments, st_aps, ap_eta, st_eta, rOp]
theorem rOp_10 (X : St) (a b c : Int) : rOp X 10 a b c = rSettle X a 0 := by simp [ap_done, ap_pend, ap_dbt, ap_rel, ap_wrk, ap_trade, ap_mentor, ap_refused, ap_wdays, ap_today, ap_moves, st_day, st_needs, st_ments, st_aps, ap_eta, st_eta, rOp]
theorem rOp_11 (X : St) (a b c : Int) : rOp X 11 a b c = rPass X a := by simp [ap_done, ap_pend, ap_dbt, ap_rel, ap_wrk, ap_trade, ap_mentor, ap_refused, ap_wdays, ap_today, ap_moves, st_day, st_needs, st_ments, st_aps, ap_eta, st_eta, rOp]
/-- only the reference's row, the answer and what is kept ahead differ -/
def DF (M M' : Mm) : Prop := mI M' = mI M ∧ (∀ b, ¬ b = 1098 → ¬ b = 1099 → ¬ b = 1104 → mL M' b = mL M b) ∧ mP M' = mP M ∧ mN M' = mN M
theorem RV.df {M M' : Mm} (h : RV M M') : DF M M' := ⟨h.2.1, fun b b1 b2 _ => (h.1.1 b (by omega)).2, h.1.2.1, h.1.2.2⟩
theorem LR.df {M M' : Mm} {b c k : Nat} (h : LR M M' b c k) (hb : b = 1099 ∨ b = 1104) : DF M M' := ⟨h.2.2, fun d b1 b2 b3 => (h.2.1.1 d (by omega)).2, h.2.1.2.1, h.2.1.2.2⟩
theorem DF.trans {M M1 M2 : Mm} (h : DF M M1) (h2 : DF M1 M2) : DF M M2 := ⟨h2.1.trans h.1, fun b b1 b2 b3 => (h2.2.1 b b1 b2 b3).trans (h.2.1 b b1 b2 b3), h2.2.2.1.trans h.2.2.1, h2.2.2.2.trans h.2.2.2⟩
section SPSj
variable {l : Launch} {G : GT} {M : Mm} {Q : PQ} {QX : PX} {X : St} {T R : List Int}
theorem so_carriesOut {W : Int} (r : RS (mL M 1099) X) (ws : WfS X) (hmv : ∀ x ∈ X.aps, x.moves < 100000000) (hw : (mI M 1098 9).toInt = W) (hb : 0 ≤ W ∧ W ≤ 11) (h : RO' M Q (rOp X W (mI M 1103 0).toInt (mI M 1103 1).toInt (mI M 1103 2).toInt)) : Tr true l G Y_X10_carriesOut [.ref 1098] M Q QX := by
  refine en_X10_carriesOut fun F => ?_
  have kk := k_R
  have k5 := k_R5
  have v0 : vp_in 0 3 := i_in (n := 3) (by decide) (by decide)
  have v1 : vp_in 1 3 := i_in (n := 3) (by decide) (by decide)
  have v2 : vp_in 2 3 := i_in (n := 3) (by decide) (by decide)
  have fin : ∀ {R : Rs}, RO' M Q R → RO' M (fun v M' => match v.toList ++ ([] : List Value) with
    | [.int x] => Q (some (.int x)) M'
    | _ => False) R := fun {R} h => h
  simp only [R_X10_carriesOut_0, kk, k5, i_lt, i_le, i_eq, tI_0, tI_1, tI_2, tI_3, tI_4, tI_5, tI_6, tI_7, tI_8, tI_9, tI_10, tI_11, tI_12, tI_14, tI_20, tI_31, tI_32, tI_48, tI_57, tI_59, tI_96, tI_97, tI_99, tI_100, tI_122, tI_127, tI_150, tI_199, tI_200, tI_255, tI_427, tI_1708, tI_2000, tI_9999, tI_m1, tI_m10, cN_0, cN_1, cN_2, cN_3, cN_4, cN_5, cN_6, cN_7, cN_8, cN_9, cN_10, cN_11, cN_12, cN_14, cN_20, cN_31, cN_32, cN_48, cN_57, cN_59, cN_96, cN_97, cN_99, cN_100, cN_122, cN_127, cN_150, cN_199, cN_200, cN_255, cN_427, cN_1708, cN_2000, cN_9999, Int.reduceAdd, I_ic, I_lc, I_nul, I_il, I_ll, I_al, I_is, I_ls, I_as, I_inc, I_iadd, I_isub, I_imul, I_iand, I_ladd, I_lsub, I_lmul, I_land, I_lor, I_idiv, I_irem, I_ishr, I_lshl, I_lshr, I_lushr, I_lcmp, I_i2l, I_l2i, I_dup, I_pop, I_dup2, I_ifeq, I_ifne, I_iflt, I_ifge, I_ifgt, I_ifle, I_iceq, I_icne, I_iclt, I_icge, I_icgt, I_icle, I_ifnull, I_ifnonnull, I_sw, swK, I_gi, I_gl, I_gp, I_pi, I_pl, I_ial, I_lal, I_ias, I_las, I_aal, I_len, I_ir, I_zr, I_lr, I_vr, I_ar, I_cv, I_cs, I_csN, I_max, I_min, I_cpi, I_cpl, I_kl, popA, gt0, gt1, gt2, gt3, gt4, gt5, gt6, gt7, gt8, gt9, gt10, gt11, gt12, s1_0, s1_1, s1_2, s1_3, s1_4, s1_5, s1_6, s1_7, s1_8, s1_9, s1_10, s1_11, s1_12, s2_0, s2_1, s2_2, s2_3, s2_4, s2_5, s2_6, s2_7, s2_8, s2_9, s2_10, s2_11, se_0, se_1, se_2, se_3, se_4, se_5, se_6, se_7, se_8, se_9, se_10, se_11, se_12, kil_i, kil_l, kil_r, kil_n, kil_x, ap_done, ap_pend, ap_dbt, ap_rel, ap_wrk, ap_trade, ap_mentor, ap_refused, ap_wdays, ap_today, ap_moves, st_day, st_needs, st_ments, st_aps, ap_eta, st_eta, Value.category, List.map_cons, List.map_nil, List.sum_cons, List.sum_nil, Option.toList_some, Option.toList_none, List.cons_append, List.nil_append, Nat.reduceAdd, Nat.reduceLeDiff, true_and, and_true, true_or, or_true, forall_const, not_true_eq_false, false_implies, not_false_eq_true, false_and, ↓reduceIte, ad_1, ad_2, ad_3, ad_4, ad_5, nq_2]
  refine ⟨v0, v1, v2, ?_⟩
  rw [hw]
  refine ⟨fun g => ?_, fun _ => ⟨fun g => ?_, fun _ => ⟨fun g => ?_, fun _ => ⟨fun g => ?_, fun _ => ⟨fun g => ?_, fun _ => ⟨fun g => ?_, fun _ => ⟨fun g => ?_, fun _ => ⟨fun g => ?_, fun _ => ⟨fun g => ?_, fun _ => ⟨fun g => ?_, fun _ => ⟨fun g => ?_, fun g => ?_⟩⟩⟩⟩⟩⟩⟩⟩⟩⟩⟩
  · rw [g, rOp_0] at h
    exact so_trades r ws (RO'.to (fin h))
  · rw [g, rOp_1] at h
    exact so_logs r ws (RO'.to (fin h))
  · rw [g, rOp_2] at h
    exact so_mentors r ws (RO'.to (fin h))
  · rw [g, rOp_3] at h
    exact so_apprentices r ws (RO'.to (fin h))
  · rw [g, rOp_4] at h
    exact so_moves r ws (RO'.to (fin h))
  · rw [g, rOp_5] at h
    exact so_swaps r ws hmv (RO'.to (fin h))
  · rw [g, rOp_6] at h
    exact so_frees r ws (RO'.to (fin h))
  · rw [g, rOp_7] at h
    exact so_confirms r ws (RO'.to (fin h))
  · rw [g, rOp_8] at h
    exact so_doubtsOldest r ws (RO'.to (fin h))
  · rw [g, rOp_9] at h
    exact so_settles r ws (RO'.to (fin h))
  · rw [g, rOp_10] at h
    exact so_settles r ws (RO'.to (fin h))
  · have g11 : W = 11 := by omega
    rw [g11, rOp_11] at h
    exact so_passes r ws (fin h)
theorem lp_X10_does2 {F : FX} (hQ : ∀ M', LR M M' 1104 1099 427 → Tr true l G Y_X10_carriesOut [.ref 1098] M' (fun v M' => match v.toList ++ ([] : List Value) with
    | .int x :: r => (¬ x.toInt = 0 → Wj true l G F Y_X10_does Q QX 0 0 38 [.ref 1098, .int 0] r M') ∧ (x.toInt = 0 → match (Value.int 1 :: r) with
      | [.int x] => (x.toInt = 0 ∨ x.toInt = 1) ∧ Q (some (.int x)) M'
      | _ => False)
    | _ => False) QX) : ∀ (n k : Nat) (j : Int32) (M1 : Mm), k + n = 427 → j.toInt = k → LR M M1 1104 1099 k → Wj true l G F Y_X10_does Q QX 0 0 2 [.ref 1098, .int j] [] M1
  | 0, k, j, M1, hn, hj, h => by
    refine g_X10_does_2 _ _ _ ?_
    have kk := k_R
    simp only [R_X10_does_2, kk, i_lt, i_le, i_eq, tI_0, tI_1, tI_2, tI_3, tI_4, tI_5, tI_6, tI_7, tI_8, tI_9, tI_10, tI_11, tI_12, tI_14, tI_20, tI_31, tI_32, tI_48, tI_57, tI_59, tI_96, tI_97, tI_99, tI_100, tI_122, tI_127, tI_150, tI_199, tI_200, tI_255, tI_427, tI_1708, tI_2000, tI_9999, tI_m1, tI_m10, cN_0, cN_1, cN_2, cN_3, cN_4, cN_5, cN_6, cN_7, cN_8, cN_9, cN_10, cN_11, cN_12, cN_14, cN_20, cN_31, cN_32, cN_48, cN_57, cN_59, cN_96, cN_97, cN_99, cN_100, cN_122, cN_127, cN_150, cN_199, cN_200, cN_255, cN_427, cN_1708, cN_2000, cN_9999, I_ic, I_lc, I_nul, I_il, I_ll, I_al, I_is, I_ls, I_as, I_inc, I_iadd, I_isub, I_imul, I_iand, I_ladd, I_lsub, I_lmul, I_land, I_lor, I_idiv, I_irem, I_ishr, I_lshl, I_lshr, I_lushr, I_lcmp, I_i2l, I_l2i, I_dup, I_pop, I_dup2, I_ifeq, I_ifne, I_iflt, I_ifge, I_ifgt, I_ifle, I_iceq, I_icne, I_iclt, I_icge, I_icgt, I_icle, I_ifnull, I_ifnonnull, I_sw, swK, I_gi, I_gl, I_gp, I_pi, I_pl, I_ial, I_lal, I_ias, I_las, I_aal, I_len, I_ir, I_zr, I_lr, I_vr, I_ar, I_cv, I_cs, I_csN, I_max, I_min, I_cpi, I_cpl, I_kl, popA, gt0, gt1, gt2, gt3, gt4, gt5, gt6, gt7, gt8, gt9, gt10, gt11, gt12, s1_0, s1_1, s1_2, s1_3, s1_4, s1_5, s1_6, s1_7, s1_8, s1_9, s1_10, s1_11, s1_12, s2_0, s2_1, s2_2, s2_3, s2_4, s2_5, s2_6, s2_7, s2_8, s2_9, s2_10, s2_11, se_0, se_1, se_2, se_3, se_4, se_5, se_6, se_7, se_8, se_9, se_10, se_11, se_12, kil_i, kil_l, kil_r, kil_n, kil_x, ap_done, ap_pend, ap_dbt, ap_rel, ap_wrk, ap_trade, ap_mentor, ap_refused, ap_wdays, ap_today, ap_moves, st_day, st_needs, st_ments, st_aps, ap_eta, st_eta, Value.category, List.map_cons, List.map_nil, List.sum_cons, List.sum_nil, Option.toList_some, Option.toList_none, List.cons_append, List.nil_append, Nat.reduceAdd, Nat.reduceLeDiff, true_and, and_true, true_or, or_true, forall_const, not_true_eq_false, false_implies, not_false_eq_true, false_and, ↓reduceIte, ad_1, ad_2, ad_3, ad_4, ad_5, nq_2]
    rw [hj]
    have hk : k = 427 := by omega
    rw [hk] at h
    exact ⟨fun g => hQ M1 h, fun g => by omega⟩
  | n + 1, k, j, M1, hn, hj, h => by
    refine g_X10_does_2 _ _ _ ?_
    have kk := k_R
    have k1 := k_R1
    have k6 := k_R6
    have hjn : j.toNatClampNeg = k := by rw [i_cl, hj]; rfl
    have hj1 : (j + 1).toInt = ((k + 1 : Nat) : Int) := by rw [i_add, hj]; rfl; all_goals rw [hj, tI_1]; omega
    simp only [R_X10_does_2, kk, k1, k6, hjn, i_lt, i_le, i_eq, tI_0, tI_1, tI_2, tI_3, tI_4, tI_5, tI_6, tI_7, tI_8, tI_9, tI_10, tI_11, tI_12, tI_14, tI_20, tI_31, tI_32, tI_48, tI_57, tI_59, tI_96, tI_97, tI_99, tI_100, tI_122, tI_127, tI_150, tI_199, tI_200, tI_255, tI_427, tI_1708, tI_2000, tI_9999, tI_m1, tI_m10, cN_0, cN_1, cN_2, cN_3, cN_4, cN_5, cN_6, cN_7, cN_8, cN_9, cN_10, cN_11, cN_12, cN_14, cN_20, cN_31, cN_32, cN_48, cN_57, cN_59, cN_96, cN_97, cN_99, cN_100, cN_122, cN_127, cN_150, cN_199, cN_200, cN_255, cN_427, cN_1708, cN_2000, cN_9999, I_ic, I_lc, I_nul, I_il, I_ll, I_al, I_is, I_ls, I_as, I_inc, I_iadd, I_isub, I_imul, I_iand, I_ladd, I_lsub, I_lmul, I_land, I_lor, I_idiv, I_irem, I_ishr, I_lshl, I_lshr, I_lushr, I_lcmp, I_i2l, I_l2i, I_dup, I_pop, I_dup2, I_ifeq, I_ifne, I_iflt, I_ifge, I_ifgt, I_ifle, I_iceq, I_icne, I_iclt, I_icge, I_icgt, I_icle, I_ifnull, I_ifnonnull, I_sw, swK, I_gi, I_gl, I_gp, I_pi, I_pl, I_ial, I_lal, I_ias, I_las, I_aal, I_len, I_ir, I_zr, I_lr, I_vr, I_ar, I_cv, I_cs, I_csN, I_max, I_min, I_cpi, I_cpl, I_kl, popA, gt0, gt1, gt2, gt3, gt4, gt5, gt6, gt7, gt8, gt9, gt10, gt11, gt12, s1_0, s1_1, s1_2, s1_3, s1_4, s1_5, s1_6, s1_7, s1_8, s1_9, s1_10, s1_11, s1_12, s2_0, s2_1, s2_2, s2_3, s2_4, s2_5, s2_6, s2_7, s2_8, s2_9, s2_10, s2_11, se_0, se_1, se_2, se_3, se_4, se_5, se_6, se_7, se_8, se_9, se_10, se_11, se_12, kil_i, kil_l, kil_r, kil_n, kil_x, ap_done, ap_pend, ap_dbt, ap_rel, ap_wrk, ap_trade, ap_mentor, ap_refused, ap_wdays, ap_today, ap_moves, st_day, st_needs, st_ments, st_aps, ap_eta, st_eta, Value.category, List.map_cons, List.map_nil, List.sum_cons, List.sum_nil, Option.toList_some, Option.toList_none, List.cons_append, List.nil_append, Nat.reduceAdd, Nat.reduceLeDiff, true_and, and_true, true_or, or_true, forall_const, not_true_eq_false, false_implies, not_false_eq_true, false_and, ↓reduceIte, ad_1, ad_2, ad_3, ad_4, ad_5, nq_2]
    rw [hj]
    refine ⟨fun g => by omega, fun g => ⟨i_in (n := 427) (by omega) (by omega), i_in (n := 427) (by omega) (by omega), ?_⟩⟩
    exact lp_X10_does2 hQ n (k + 1) _ _ (by omega) hj1 (h.step (by decide))
theorem lp_X10_does38 {F : FX} (hQ : ∀ M', LR M M' 1099 1104 427 → Q (some (.int 0)) M') : ∀ (n k : Nat) (j : Int32) (M1 : Mm), k + n = 427 → j.toInt = k → LR M M1 1099 1104 k → Wj true l G F Y_X10_does Q QX 0 0 38 [.ref 1098, .int j] [] M1
  | 0, k, j, M1, hn, hj, h => by
    refine g_X10_does_38 _ _ _ ?_
    have kk := k_R
    simp only [R_X10_does_38, kk, i_lt, i_le, i_eq, tI_0, tI_1, tI_2, tI_3, tI_4, tI_5, tI_6, tI_7, tI_8, tI_9, tI_10, tI_11, tI_12, tI_14, tI_20, tI_31, tI_32, tI_48, tI_57, tI_59, tI_96, tI_97, tI_99, tI_100, tI_122, tI_127, tI_150, tI_199, tI_200, tI_255, tI_427, tI_1708, tI_2000, tI_9999, tI_m1, tI_m10, cN_0, cN_1, cN_2, cN_3, cN_4, cN_5, cN_6, cN_7, cN_8, cN_9, cN_10, cN_11, cN_12, cN_14, cN_20, cN_31, cN_32, cN_48, cN_57, cN_59, cN_96, cN_97, cN_99, cN_100, cN_122, cN_127, cN_150, cN_199, cN_200, cN_255, cN_427, cN_1708, cN_2000, cN_9999, I_ic, I_lc, I_nul, I_il, I_ll, I_al, I_is, I_ls, I_as, I_inc, I_iadd, I_isub, I_imul, I_iand, I_ladd, I_lsub, I_lmul, I_land, I_lor, I_idiv, I_irem, I_ishr, I_lshl, I_lshr, I_lushr, I_lcmp, I_i2l, I_l2i, I_dup, I_pop, I_dup2, I_ifeq, I_ifne, I_iflt, I_ifge, I_ifgt, I_ifle, I_iceq, I_icne, I_iclt, I_icge, I_icgt, I_icle, I_ifnull, I_ifnonnull, I_sw, swK, I_gi, I_gl, I_gp, I_pi, I_pl, I_ial, I_lal, I_ias, I_las, I_aal, I_len, I_ir, I_zr, I_lr, I_vr, I_ar, I_cv, I_cs, I_csN, I_max, I_min, I_cpi, I_cpl, I_kl, popA, gt0, gt1, gt2, gt3, gt4, gt5, gt6, gt7, gt8, gt9, gt10, gt11, gt12, s1_0, s1_1, s1_2, s1_3, s1_4, s1_5, s1_6, s1_7, s1_8, s1_9, s1_10, s1_11, s1_12, s2_0, s2_1, s2_2, s2_3, s2_4, s2_5, s2_6, s2_7, s2_8, s2_9, s2_10, s2_11, se_0, se_1, se_2, se_3, se_4, se_5, se_6, se_7, se_8, se_9, se_10, se_11, se_12, kil_i, kil_l, kil_r, kil_n, kil_x, ap_done, ap_pend, ap_dbt, ap_rel, ap_wrk, ap_trade, ap_mentor, ap_refused, ap_wdays, ap_today, ap_moves, st_day, st_needs, st_ments, st_aps, ap_eta, st_eta, Value.category, List.map_cons, List.map_nil, List.sum_cons, List.sum_nil, Option.toList_some, Option.toList_none, List.cons_append, List.nil_append, Nat.reduceAdd, Nat.reduceLeDiff, true_and, and_true, true_or, or_true, forall_const, not_true_eq_false, false_implies, not_false_eq_true, false_and, ↓reduceIte, ad_1, ad_2, ad_3, ad_4, ad_5, nq_2]
    rw [hj]
    have hk : k = 427 := by omega
    rw [hk] at h
    exact ⟨fun g => hQ M1 h, fun g => by omega⟩
  | n + 1, k, j, M1, hn, hj, h => by
    refine g_X10_does_38 _ _ _ ?_
    have kk := k_R
    have k1 := k_R1
    have k6 := k_R6
    have hjn : j.toNatClampNeg = k := by rw [i_cl, hj]; rfl
    have hj1 : (j + 1).toInt = ((k + 1 : Nat) : Int) := by rw [i_add, hj]; rfl; all_goals rw [hj, tI_1]; omega
    simp only [R_X10_does_38, kk, k1, k6, hjn, i_lt, i_le, i_eq, tI_0, tI_1, tI_2, tI_3, tI_4, tI_5, tI_6, tI_7, tI_8, tI_9, tI_10, tI_11, tI_12, tI_14, tI_20, tI_31, tI_32, tI_48, tI_57, tI_59, tI_96, tI_97, tI_99, tI_100, tI_122, tI_127, tI_150, tI_199, tI_200, tI_255, tI_427, tI_1708, tI_2000, tI_9999, tI_m1, tI_m10, cN_0, cN_1, cN_2, cN_3, cN_4, cN_5, cN_6, cN_7, cN_8, cN_9, cN_10, cN_11, cN_12, cN_14, cN_20, cN_31, cN_32, cN_48, cN_57, cN_59, cN_96, cN_97, cN_99, cN_100, cN_122, cN_127, cN_150, cN_199, cN_200, cN_255, cN_427, cN_1708, cN_2000, cN_9999, I_ic, I_lc, I_nul, I_il, I_ll, I_al, I_is, I_ls, I_as, I_inc, I_iadd, I_isub, I_imul, I_iand, I_ladd, I_lsub, I_lmul, I_land, I_lor, I_idiv, I_irem, I_ishr, I_lshl, I_lshr, I_lushr, I_lcmp, I_i2l, I_l2i, I_dup, I_pop, I_dup2, I_ifeq, I_ifne, I_iflt, I_ifge, I_ifgt, I_ifle, I_iceq, I_icne, I_iclt, I_icge, I_icgt, I_icle, I_ifnull, I_ifnonnull, I_sw, swK, I_gi, I_gl, I_gp, I_pi, I_pl, I_ial, I_lal, I_ias, I_las, I_aal, I_len, I_ir, I_zr, I_lr, I_vr, I_ar, I_cv, I_cs, I_csN, I_max, I_min, I_cpi, I_cpl, I_kl, popA, gt0, gt1, gt2, gt3, gt4, gt5, gt6, gt7, gt8, gt9, gt10, gt11, gt12, s1_0, s1_1, s1_2, s1_3, s1_4, s1_5, s1_6, s1_7, s1_8, s1_9, s1_10, s1_11, s1_12, s2_0, s2_1, s2_2, s2_3, s2_4, s2_5, s2_6, s2_7, s2_8, s2_9, s2_10, s2_11, se_0, se_1, se_2, se_3, se_4, se_5, se_6, se_7, se_8, se_9, se_10, se_11, se_12, kil_i, kil_l, kil_r, kil_n, kil_x, ap_done, ap_pend, ap_dbt, ap_rel, ap_wrk, ap_trade, ap_mentor, ap_refused, ap_wdays, ap_today, ap_moves, st_day, st_needs, st_ments, st_aps, ap_eta, st_eta, Value.category, List.map_cons, List.map_nil, List.sum_cons, List.sum_nil, Option.toList_some, Option.toList_none, List.cons_append, List.nil_append, Nat.reduceAdd, Nat.reduceLeDiff, true_and, and_true, true_or, or_true, forall_const, not_true_eq_false, false_implies, not_false_eq_true, false_and, ↓reduceIte, ad_1, ad_2, ad_3, ad_4, ad_5, nq_2]
    rw [hj]
    refine ⟨fun g => by omega, fun g => ⟨i_in (n := 427) (by omega) (by omega), i_in (n := 427) (by omega) (by omega), ?_⟩⟩
    exact lp_X10_does38 hQ n (k + 1) _ _ (by omega) hj1 (h.step (by decide))
theorem sp_X10_does {W : Int} {g : Nat → Int} (r : RS (mL M 1099) X) (ws : WfS X) (hmv : ∀ x ∈ X.aps, x.moves < 100000000) (hw : (mI M 1098 9).toInt = W) (hb : 0 ≤ W ∧ W ≤ 11) (hg : ∀ j, j < mny W → (mI M 1103 j).toInt = g j) (hY : (rOp X W (g 0) (g 1) (g 2)).1 = 0 → ∀ M', RS (mL M' 1099) (rOp X W (g 0) (g 1) (g 2)).2.1 → DF M M' → Q (some (.int 1)) M') (hN : ¬ (rOp X W (g 0) (g 1) (g 2)).1 = 0 → ∀ M', RS (mL M' 1099) X → DF M M' → Q (some (.int 0)) M') : Tr true l G Y_X10_does [.ref 1098] M Q QX := by
  refine en_X10_does fun F => ?_
  simp only [R_X10_does_0, I_ic, I_lc, I_nul, I_il, I_ll, I_al, I_is, I_ls, I_as, I_inc, I_iadd, I_isub, I_imul, I_iand, I_ladd, I_lsub, I_lmul, I_land, I_lor, I_idiv, I_irem, I_ishr, I_lshl, I_lshr, I_lushr, I_lcmp, I_i2l, I_l2i, I_dup, I_pop, I_dup2, I_ifeq, I_ifne, I_iflt, I_ifge, I_ifgt, I_ifle, I_iceq, I_icne, I_iclt, I_icge, I_icgt, I_icle, I_ifnull, I_ifnonnull, I_sw, swK, I_gi, I_gl, I_gp, I_pi, I_pl, I_ial, I_lal, I_ias, I_las, I_aal, I_len, I_ir, I_zr, I_lr, I_vr, I_ar, I_cv, I_cs, I_csN, I_max, I_min, I_cpi, I_cpl, I_kl, popA, gt0, gt1, gt2, gt3, gt4, gt5, gt6, gt7, gt8, gt9, gt10, gt11, gt12, s1_0, s1_1, s1_2, s1_3, s1_4, s1_5, s1_6, s1_7, s1_8, s1_9, s1_10, s1_11, s1_12, s2_0, s2_1, s2_2, s2_3, s2_4, s2_5, s2_6, s2_7, s2_8, s2_9, s2_10, s2_11, se_0, se_1, se_2, se_3, se_4, se_5, se_6, se_7, se_8, se_9, se_10, se_11, se_12, kil_i, kil_l, kil_r, kil_n, kil_x, ap_done, ap_pend, ap_dbt, ap_rel, ap_wrk, ap_trade, ap_mentor, ap_refused, ap_wdays, ap_today, ap_moves, st_day, st_needs, st_ments, st_aps, ap_eta, st_eta, Value.category, List.map_cons, List.map_nil, List.sum_cons, List.sum_nil, Option.toList_some, Option.toList_none, List.cons_append, List.nil_append, Nat.reduceAdd, Nat.reduceLeDiff, true_and, and_true, true_or, or_true, forall_const, not_true_eq_false, false_implies, not_false_eq_true, false_and, ↓reduceIte, ad_1, ad_2, ad_3, ad_4, ad_5, nq_2]
  refine lp_X10_does2 (M := M) (fun M1 h1 => ?_) 427 0 0 M rfl rfl (LR_refl _ _ _)
  have e1 : mL M1 1099 = mL M 1099 := (h1.2.1.1 1099 (by omega)).2
  have ei := h1.2.2
  refine so_carriesOut (W := W) (by rw [e1]; exact r) ws hmv (by rw [ei]; exact hw) hb ?_
  have ero : rOp X W (mI M1 1103 0).toInt (mI M1 1103 1).toInt (mI M1 1103 2).toInt = rOp X W (g 0) (g 1) (g 2) := rOp_ix (f := fun j => (mI M1 1103 j).toInt) (g := g) fun j hj => by
    show (mI M1 1103 j).toInt = g j
    rw [ei]
    exact hg j hj
  rw [ero]
  intro M2 p rv hp hc
  simp only [i_lt, i_le, i_eq, tI_0, tI_1, tI_2, tI_3, tI_4, tI_5, tI_6, tI_7, tI_8, tI_9, tI_10, tI_11, tI_12, tI_14, tI_20, tI_31, tI_32, tI_48, tI_57, tI_59, tI_96, tI_97, tI_99, tI_100, tI_122, tI_127, tI_150, tI_199, tI_200, tI_255, tI_427, tI_1708, tI_2000, tI_9999, tI_m1, tI_m10, cN_0, cN_1, cN_2, cN_3, cN_4, cN_5, cN_6, cN_7, cN_8, cN_9, cN_10, cN_11, cN_12, cN_14, cN_20, cN_31, cN_32, cN_48, cN_57, cN_59, cN_96, cN_97, cN_99, cN_100, cN_122, cN_127, cN_150, cN_199, cN_200, cN_255, cN_427, cN_1708, cN_2000, cN_9999, I_ic, I_lc, I_nul, I_il, I_ll, I_al, I_is, I_ls, I_as, I_inc, I_iadd, I_isub, I_imul, I_iand, I_ladd, I_lsub, I_lmul, I_land, I_lor, I_idiv, I_irem, I_ishr, I_lshl, I_lshr, I_lushr, I_lcmp, I_i2l, I_l2i, I_dup, I_pop, I_dup2, I_ifeq, I_ifne, I_iflt, I_ifge, I_ifgt, I_ifle, I_iceq, I_icne, I_iclt, I_icge, I_icgt, I_icle, I_ifnull, I_ifnonnull, I_sw, swK, I_gi, I_gl, I_gp, I_pi, I_pl, I_ial, I_lal, I_ias, I_las, I_aal, I_len, I_ir, I_zr, I_lr, I_vr, I_ar, I_cv, I_cs, I_csN, I_max, I_min, I_cpi, I_cpl, I_kl, popA, gt0, gt1, gt2, gt3, gt4, gt5, gt6, gt7, gt8, gt9, gt10, gt11, gt12, s1_0, s1_1, s1_2, s1_3, s1_4, s1_5, s1_6, s1_7, s1_8, s1_9, s1_10, s1_11, s1_12, s2_0, s2_1, s2_2, s2_3, s2_4, s2_5, s2_6, s2_7, s2_8, s2_9, s2_10, s2_11, se_0, se_1, se_2, se_3, se_4, se_5, se_6, se_7, se_8, se_9, se_10, se_11, se_12, kil_i, kil_l, kil_r, kil_n, kil_x, ap_done, ap_pend, ap_dbt, ap_rel, ap_wrk, ap_trade, ap_mentor, ap_refused, ap_wdays, ap_today, ap_moves, st_day, st_needs, st_ments, st_aps, ap_eta, st_eta, Value.category, List.map_cons, List.map_nil, List.sum_cons, List.sum_nil, Option.toList_some, Option.toList_none, List.cons_append, List.nil_append, Nat.reduceAdd, Nat.reduceLeDiff, true_and, and_true, true_or, or_true, forall_const, not_true_eq_false, false_implies, not_false_eq_true, false_and, ↓reduceIte, ad_1, ad_2, ad_3, ad_4, ad_5, nq_2]
  rw [hp]
  refine ⟨fun c => ?_, fun c => hY c M2 (hc c) ((h1.df (Or.inr rfl)).trans rv.df)⟩
  refine lp_X10_does38 (M := M2) (fun M3 h3 => hN c M3 ?_ (((h1.df (Or.inr rfl)).trans rv.df).trans (h3.df (Or.inl rfl)))) 427 0 0 M2 rfl rfl (LR_refl _ _ _)
  refine r.of ws fun k hk => ?_
  rw [h3.1, if_pos hk, (rv.1.1 1104 (by omega)).2, h1.1, if_pos hk]
end SPSj
