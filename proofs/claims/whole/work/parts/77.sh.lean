/-! ===== the reference: words, numbers, commands ===== -/
section SPSh
variable {l : Launch} {G : GT} {M : Mm} {Q : PQ} {QX : PX} {T R : List Int}
theorem wd_at (P : List Int) : ∀ (k : Nat) (W : List Int), wdT[k]? = some W → P = W → wd P = k := fun k W hk e => by
  have hl := lt_of hk
  have hl2 : k < 12 := hl
  have key : ∀ k : Nat, k < 12 → wd (wdT.getD k []) = k := by decide
  rw [e]
  have := key k hl2
  rw [List.getD_eq_getElem?_getD, hk] at this
  exact this
theorem wd_no (P : List Int) (h : ∀ (k : Nat) W, wdT[k]? = some W → ¬ P = W) : wd P = -1 := by
  unfold wd wdT
  simp only [ap_done, ap_pend, ap_dbt, ap_rel, ap_wrk, ap_trade, ap_mentor, ap_refused, ap_wdays, ap_today, ap_moves, st_day, st_needs, st_ments, st_aps, ap_eta, st_eta, wdI]
  rw [if_neg (h 0 _ rfl), if_neg (h 1 _ rfl), if_neg (h 2 _ rfl), if_neg (h 3 _ rfl), if_neg (h 4 _ rfl), if_neg (h 5 _ rfl), if_neg (h 6 _ rfl), if_neg (h 7 _ rfl), if_neg (h 8 _ rfl), if_neg (h 9 _ rfl), if_neg (h 10 _ rfl), if_neg (h 11 _ rfl)]
/-- the values of the words -/
def wdV : List Int := [21562501, 12775, 441930226, 17482028, 442053, 646192, 215205, 3739428429, 4707412, 36804116, 609441381, 132915]
theorem wdV_ok : ∀ k : Nat, k < 12 → valR (wdT.getD k []).reverse = wdV.getD k 0 := by decide
theorem wdT_lt : ∀ k : Nat, k < 12 → ∀ c ∈ (wdT.getD k []).reverse, isLt c := by decide
theorem wd_val {P : List Int} (hP : ∀ c ∈ P, isLt c) (k : Nat) (hk : k < 12) (h : valR P = wdV.getD k 0) : wd P.reverse = k := by
  have e := valR_inj P _ hP (wdT_lt k hk) (by rw [h, wdV_ok k hk])
  have hx : wdT[k]? = some (wdT.getD k []) := by
    have : k < wdT.length := hk
    rw [List.getD_eq_getElem?_getD, List.getElem?_eq_getElem this]
    rfl
  exact wd_at _ k _ hx (by rw [e, List.reverse_reverse])
theorem wd_val_no {P : List Int} (h : ∀ k : Nat, k < 12 → ¬ valR P = wdV.getD k 0) : wd P.reverse = -1 := by
  refine wd_no _ fun k W hk e => ?_
  have hl2 : k < 12 := lt_of hk
  refine h k hl2 ?_
  rw [← wdV_ok k hl2, List.getD_eq_getElem?_getD, hk]
  show valR P = valR W.reverse
  rw [← e, List.reverse_reverse]
theorem sp_X10_wordOf {z : Int64} {P : List Int} (hz : z.toInt = valR P) (hP : ∀ c ∈ P, isLt c) (hQ : qi Q M (wd P.reverse)) : Tr true l G Y_X10_wordOf [.long z] M Q QX := by
  refine en_X10_wordOf fun F => ?_
  have c0 : (21562501 : Int64).toInt = 21562501 := rfl
  have c1 : (12775 : Int64).toInt = 12775 := rfl
  have c2 : (441930226 : Int64).toInt = 441930226 := rfl
  have c3 : (17482028 : Int64).toInt = 17482028 := rfl
  have c4 : (442053 : Int64).toInt = 442053 := rfl
  have c5 : (646192 : Int64).toInt = 646192 := rfl
  have c6 : (215205 : Int64).toInt = 215205 := rfl
  have c7 : (3739428429 : Int64).toInt = 3739428429 := rfl
  have c8 : (4707412 : Int64).toInt = 4707412 := rfl
  have c9 : (36804116 : Int64).toInt = 36804116 := rfl
  have c10 : (609441381 : Int64).toInt = 609441381 := rfl
  have c11 : (132915 : Int64).toInt = 132915 := rfl
  have y : ∀ (k : Nat), k < 12 → valR P = wdV.getD k 0 → ∀ r : Int32, r.toInt = k → Q (some (.int r)) M := fun k hk h r hr => hQ r (by rw [wd_val hP k hk h]; exact hr)
  have n : (∀ k : Nat, k < 12 → ¬ valR P = wdV.getD k 0) → Q (some (.int (-1))) M := fun h => hQ (-1) (by rw [wd_val_no h]; rfl)
  simp only [R_X10_wordOf_0, i_lt, i_le, i_eq, tI_0, tI_1, tI_2, tI_3, tI_4, tI_5, tI_6, tI_7, tI_8, tI_9, tI_10, tI_11, tI_12, tI_14, tI_20, tI_31, tI_32, tI_48, tI_57, tI_59, tI_96, tI_97, tI_99, tI_100, tI_122, tI_127, tI_150, tI_199, tI_200, tI_255, tI_427, tI_1708, tI_2000, tI_9999, tI_m1, tI_m10, cN_0, cN_1, cN_2, cN_3, cN_4, cN_5, cN_6, cN_7, cN_8, cN_9, cN_10, cN_11, cN_12, cN_14, cN_20, cN_31, cN_32, cN_48, cN_57, cN_59, cN_96, cN_97, cN_99, cN_100, cN_122, cN_127, cN_150, cN_199, cN_200, cN_255, cN_427, cN_1708, cN_2000, cN_9999, l_of, lg_lt, lg_gt, lg_le, lg_ge, lg_eq, tL_m1, tL_0, tL_1, tL_2, tL_3, tL_4, tL_5, tL_6, tL_7, tL_8, tL_9, tL_10, tL_12, tL_20, tL_31, tL_32, tL_64, tL_96, tL_150, tL_427, tL_512, tL_2000, tL_9999, tL_43434, tL_2147483647, c0, c1, c2, c3, c4, c5, c6, c7, c8, c9, c10, c11, I_ic, I_lc, I_nul, I_il, I_ll, I_al, I_is, I_ls, I_as, I_inc, I_iadd, I_isub, I_imul, I_iand, I_ladd, I_lsub, I_lmul, I_land, I_lor, I_idiv, I_irem, I_ishr, I_lshl, I_lshr, I_lushr, I_lcmp, I_i2l, I_l2i, I_dup, I_pop, I_dup2, I_ifeq, I_ifne, I_iflt, I_ifge, I_ifgt, I_ifle, I_iceq, I_icne, I_iclt, I_icge, I_icgt, I_icle, I_ifnull, I_ifnonnull, I_sw, swK, I_gi, I_gl, I_gp, I_pi, I_pl, I_ial, I_lal, I_ias, I_las, I_aal, I_len, I_ir, I_zr, I_lr, I_vr, I_ar, I_cv, I_cs, I_csN, I_max, I_min, I_cpi, I_cpl, I_kl, popA, gt0, gt1, gt2, gt3, gt4, gt5, gt6, gt7, gt8, gt9, gt10, gt11, gt12, s1_0, s1_1, s1_2, s1_3, s1_4, s1_5, s1_6, s1_7, s1_8, s1_9, s1_10, s1_11, s1_12, s2_0, s2_1, s2_2, s2_3, s2_4, s2_5, s2_6, s2_7, s2_8, s2_9, s2_10, s2_11, se_0, se_1, se_2, se_3, se_4, se_5, se_6, se_7, se_8, se_9, se_10, se_11, se_12, kil_i, kil_l, kil_r, kil_n, kil_x, ap_done, ap_pend, ap_dbt, ap_rel, ap_wrk, ap_trade, ap_mentor, ap_refused, ap_wdays, ap_today, ap_moves, st_day, st_needs, st_ments, st_aps, ap_eta, st_eta, Value.category, List.map_cons, List.map_nil, List.sum_cons, List.sum_nil, Option.toList_some, Option.toList_none, List.cons_append, List.nil_append, Nat.reduceAdd, Nat.reduceLeDiff, true_and, and_true, true_or, or_true, forall_const, not_true_eq_false, false_implies, not_false_eq_true, false_and, ↓reduceIte, ad_1, ad_2, ad_3, ad_4, ad_5, nq_2]
  rw [hz]
  repeat' (first | refine ⟨?_, ?_⟩ | intro _)
  all_goals first | (exfalso; omega) | exact y 0 (by decide) (show valR P = 21562501 by omega) 0 rfl | exact y 1 (by decide) (show valR P = 12775 by omega) 1 rfl | exact y 2 (by decide) (show valR P = 441930226 by omega) 2 rfl | exact y 3 (by decide) (show valR P = 17482028 by omega) 3 rfl | exact y 4 (by decide) (show valR P = 442053 by omega) 4 rfl | exact y 5 (by decide) (show valR P = 646192 by omega) 5 rfl | exact y 6 (by decide) (show valR P = 215205 by omega) 6 rfl | exact y 7 (by decide) (show valR P = 3739428429 by omega) 7 rfl | exact y 8 (by decide) (show valR P = 4707412 by omega) 8 rfl | exact y 9 (by decide) (show valR P = 36804116 by omega) 9 rfl | exact y 10 (by decide) (show valR P = 609441381 by omega) 10 rfl | exact y 11 (by decide) (show valR P = 132915 by omega) 11 rfl | skip
  refine n fun k hk e => ?_
  have hc : k = 0 ∨ k = 1 ∨ k = 2 ∨ k = 3 ∨ k = 4 ∨ k = 5 ∨ k = 6 ∨ k = 7 ∨ k = 8 ∨ k = 9 ∨ k = 10 ∨ k = 11 := by omega
  rcases hc with h | h | h | h | h | h | h | h | h | h | h | h <;> subst h
  · have e2 : valR P = 21562501 := e; omega
  · have e2 : valR P = 12775 := e; omega
  · have e2 : valR P = 441930226 := e; omega
  · have e2 : valR P = 17482028 := e; omega
  · have e2 : valR P = 442053 := e; omega
  · have e2 : valR P = 646192 := e; omega
  · have e2 : valR P = 215205 := e; omega
  · have e2 : valR P = 3739428429 := e; omega
  · have e2 : valR P = 4707412 := e; omega
  · have e2 : valR P = 36804116 := e; omega
  · have e2 : valR P = 609441381 := e; omega
  · have e2 : valR P = 132915 := e; omega
theorem rdN_no {R : List Int} (h : (dgs 4 0 R).2.length = R.length ∨ isDh (dgs 4 0 R).2) : rdN R = (none, (dgs 4 0 R).2) := pIf_p h
theorem rdN_yes {R : List Int} (h : ¬ ((dgs 4 0 R).2.length = R.length ∨ isDh (dgs 4 0 R).2)) : rdN R = (some (dgs 4 0 R).1, (dgs 4 0 R).2) := pIf_n h
theorem k_R4' : KX 1102 = (2, 0, 150) := k_R4
theorem rg_X10_takesNumber_91 {F : FX} {f : Int32} {k : Nat} {R1 R2 : List Int} {M0 M : Mm} {s1 : Value} (h : AT M T R2) (hs : Sfx T R1) (h12 : R2.length ≤ R1.length) (hf : f.toInt = (T.length : Int) - R1.length) (hn : R2.length = R1.length ∨ isDh R2 → Q (some (.int 0)) M) (hy : ¬ (R2.length = R1.length ∨ isDh R2) → Q (some (.int 1)) M) : Wj true l G F Y_X10_takesNumber Q QX 0 0 91 [.ref 1098, s1, .int f] [] M := by
  refine g_X10_takesNumber_91 _ _ _ ?_
  have kk := k_R
  obtain ⟨tx, K, hK, hp⟩ := h
  have hl : (T.length : Int) = K.length + R2.length := by rw [hK, List.length_append]; omega
  simp only [R_X10_takesNumber_91, kk, i_lt, i_le, i_eq, tI_0, tI_1, tI_2, tI_3, tI_4, tI_5, tI_6, tI_7, tI_8, tI_9, tI_10, tI_11, tI_12, tI_14, tI_20, tI_31, tI_32, tI_48, tI_57, tI_59, tI_96, tI_97, tI_99, tI_100, tI_122, tI_127, tI_150, tI_199, tI_200, tI_255, tI_427, tI_1708, tI_2000, tI_9999, tI_m1, tI_m10, cN_0, cN_1, cN_2, cN_3, cN_4, cN_5, cN_6, cN_7, cN_8, cN_9, cN_10, cN_11, cN_12, cN_14, cN_20, cN_31, cN_32, cN_48, cN_57, cN_59, cN_96, cN_97, cN_99, cN_100, cN_122, cN_127, cN_150, cN_199, cN_200, cN_255, cN_427, cN_1708, cN_2000, cN_9999, I_ic, I_lc, I_nul, I_il, I_ll, I_al, I_is, I_ls, I_as, I_inc, I_iadd, I_isub, I_imul, I_iand, I_ladd, I_lsub, I_lmul, I_land, I_lor, I_idiv, I_irem, I_ishr, I_lshl, I_lshr, I_lushr, I_lcmp, I_i2l, I_l2i, I_dup, I_pop, I_dup2, I_ifeq, I_ifne, I_iflt, I_ifge, I_ifgt, I_ifle, I_iceq, I_icne, I_iclt, I_icge, I_icgt, I_icle, I_ifnull, I_ifnonnull, I_sw, swK, I_gi, I_gl, I_gp, I_pi, I_pl, I_ial, I_lal, I_ias, I_las, I_aal, I_len, I_ir, I_zr, I_lr, I_vr, I_ar, I_cv, I_cs, I_csN, I_max, I_min, I_cpi, I_cpl, I_kl, popA, gt0, gt1, gt2, gt3, gt4, gt5, gt6, gt7, gt8, gt9, gt10, gt11, gt12, s1_0, s1_1, s1_2, s1_3, s1_4, s1_5, s1_6, s1_7, s1_8, s1_9, s1_10, s1_11, s1_12, s2_0, s2_1, s2_2, s2_3, s2_4, s2_5, s2_6, s2_7, s2_8, s2_9, s2_10, s2_11, se_0, se_1, se_2, se_3, se_4, se_5, se_6, se_7, se_8, se_9, se_10, se_11, se_12, kil_i, kil_l, kil_r, kil_n, kil_x, ap_done, ap_pend, ap_dbt, ap_rel, ap_wrk, ap_trade, ap_mentor, ap_refused, ap_wdays, ap_today, ap_moves, st_day, st_needs, st_ments, st_aps, ap_eta, st_eta, Value.category, List.map_cons, List.map_nil, List.sum_cons, List.sum_nil, Option.toList_some, Option.toList_none, List.cons_append, List.nil_append, Nat.reduceAdd, Nat.reduceLeDiff, true_and, and_true, true_or, or_true, forall_const, not_true_eq_false, false_implies, not_false_eq_true, false_and, ↓reduceIte, ad_1, ad_2, ad_3, ad_4, ad_5, nq_2]
  rw [hp, hf]
  refine ⟨fun g => hn (Or.inl (by omega)), fun g => ?_⟩
  refine sp_X10_isAt ⟨tx, K, hK, hp⟩ ⟨fun g2 => ?_, fun g2 => ?_⟩
  · obtain ⟨c, R', e, e1, e2⟩ := g2
    rw [tI_48] at e1
    rw [tI_57] at e2
    simp only [i_lt, i_le, i_eq, tI_0, tI_1, tI_2, tI_3, tI_4, tI_5, tI_6, tI_7, tI_8, tI_9, tI_10, tI_11, tI_12, tI_14, tI_20, tI_31, tI_32, tI_48, tI_57, tI_59, tI_96, tI_97, tI_99, tI_100, tI_122, tI_127, tI_150, tI_199, tI_200, tI_255, tI_427, tI_1708, tI_2000, tI_9999, tI_m1, tI_m10, cN_0, cN_1, cN_2, cN_3, cN_4, cN_5, cN_6, cN_7, cN_8, cN_9, cN_10, cN_11, cN_12, cN_14, cN_20, cN_31, cN_32, cN_48, cN_57, cN_59, cN_96, cN_97, cN_99, cN_100, cN_122, cN_127, cN_150, cN_199, cN_200, cN_255, cN_427, cN_1708, cN_2000, cN_9999, I_ic, I_lc, I_nul, I_il, I_ll, I_al, I_is, I_ls, I_as, I_inc, I_iadd, I_isub, I_imul, I_iand, I_ladd, I_lsub, I_lmul, I_land, I_lor, I_idiv, I_irem, I_ishr, I_lshl, I_lshr, I_lushr, I_lcmp, I_i2l, I_l2i, I_dup, I_pop, I_dup2, I_ifeq, I_ifne, I_iflt, I_ifge, I_ifgt, I_ifle, I_iceq, I_icne, I_iclt, I_icge, I_icgt, I_icle, I_ifnull, I_ifnonnull, I_sw, swK, I_gi, I_gl, I_gp, I_pi, I_pl, I_ial, I_lal, I_ias, I_las, I_aal, I_len, I_ir, I_zr, I_lr, I_vr, I_ar, I_cv, I_cs, I_csN, I_max, I_min, I_cpi, I_cpl, I_kl, popA, gt0, gt1, gt2, gt3, gt4, gt5, gt6, gt7, gt8, gt9, gt10, gt11, gt12, s1_0, s1_1, s1_2, s1_3, s1_4, s1_5, s1_6, s1_7, s1_8, s1_9, s1_10, s1_11, s1_12, s2_0, s2_1, s2_2, s2_3, s2_4, s2_5, s2_6, s2_7, s2_8, s2_9, s2_10, s2_11, se_0, se_1, se_2, se_3, se_4, se_5, se_6, se_7, se_8, se_9, se_10, se_11, se_12, kil_i, kil_l, kil_r, kil_n, kil_x, ap_done, ap_pend, ap_dbt, ap_rel, ap_wrk, ap_trade, ap_mentor, ap_refused, ap_wdays, ap_today, ap_moves, st_day, st_needs, st_ments, st_aps, ap_eta, st_eta, Value.category, List.map_cons, List.map_nil, List.sum_cons, List.sum_nil, Option.toList_some, Option.toList_none, List.cons_append, List.nil_append, Nat.reduceAdd, Nat.reduceLeDiff, true_and, and_true, true_or, or_true, forall_const, not_true_eq_false, false_implies, not_false_eq_true, false_and, ↓reduceIte, ad_1, ad_2, ad_3, ad_4, ad_5, nq_2]
    refine ⟨fun _ => hn (Or.inr ?_), fun c => absurd c (by decide)⟩
    rw [e]
    exact ⟨e1, e2⟩
  · simp only [i_lt, i_le, i_eq, tI_0, tI_1, tI_2, tI_3, tI_4, tI_5, tI_6, tI_7, tI_8, tI_9, tI_10, tI_11, tI_12, tI_14, tI_20, tI_31, tI_32, tI_48, tI_57, tI_59, tI_96, tI_97, tI_99, tI_100, tI_122, tI_127, tI_150, tI_199, tI_200, tI_255, tI_427, tI_1708, tI_2000, tI_9999, tI_m1, tI_m10, cN_0, cN_1, cN_2, cN_3, cN_4, cN_5, cN_6, cN_7, cN_8, cN_9, cN_10, cN_11, cN_12, cN_14, cN_20, cN_31, cN_32, cN_48, cN_57, cN_59, cN_96, cN_97, cN_99, cN_100, cN_122, cN_127, cN_150, cN_199, cN_200, cN_255, cN_427, cN_1708, cN_2000, cN_9999, I_ic, I_lc, I_nul, I_il, I_ll, I_al, I_is, I_ls, I_as, I_inc, I_iadd, I_isub, I_imul, I_iand, I_ladd, I_lsub, I_lmul, I_land, I_lor, I_idiv, I_irem, I_ishr, I_lshl, I_lshr, I_lushr, I_lcmp, I_i2l, I_l2i, I_dup, I_pop, I_dup2, I_ifeq, I_ifne, I_iflt, I_ifge, I_ifgt, I_ifle, I_iceq, I_icne, I_iclt, I_icge, I_icgt, I_icle, I_ifnull, I_ifnonnull, I_sw, swK, I_gi, I_gl, I_gp, I_pi, I_pl, I_ial, I_lal, I_ias, I_las, I_aal, I_len, I_ir, I_zr, I_lr, I_vr, I_ar, I_cv, I_cs, I_csN, I_max, I_min, I_cpi, I_cpl, I_kl, popA, gt0, gt1, gt2, gt3, gt4, gt5, gt6, gt7, gt8, gt9, gt10, gt11, gt12, s1_0, s1_1, s1_2, s1_3, s1_4, s1_5, s1_6, s1_7, s1_8, s1_9, s1_10, s1_11, s1_12, s2_0, s2_1, s2_2, s2_3, s2_4, s2_5, s2_6, s2_7, s2_8, s2_9, s2_10, s2_11, se_0, se_1, se_2, se_3, se_4, se_5, se_6, se_7, se_8, se_9, se_10, se_11, se_12, kil_i, kil_l, kil_r, kil_n, kil_x, ap_done, ap_pend, ap_dbt, ap_rel, ap_wrk, ap_trade, ap_mentor, ap_refused, ap_wdays, ap_today, ap_moves, st_day, st_needs, st_ments, st_aps, ap_eta, st_eta, Value.category, List.map_cons, List.map_nil, List.sum_cons, List.sum_nil, Option.toList_some, Option.toList_none, List.cons_append, List.nil_append, Nat.reduceAdd, Nat.reduceLeDiff, true_and, and_true, true_or, or_true, forall_const, not_true_eq_false, false_implies, not_false_eq_true, false_and, ↓reduceIte, ad_1, ad_2, ad_3, ad_4, ad_5, nq_2]
    refine hy fun c => ?_
    rcases c with c | c
    · omega
    · cases R2 with
      | nil => exact c
      | cons d R' => exact g2 ⟨d, R', rfl, c.1, c.2⟩
theorem lp_X10_takesNumber {F : FX} {f kk' : Int32} {k : Nat} {R1 : List Int} {M0 : Mm} (hk : kk'.toInt = k) (hk3 : k < 3) (hs : Sfx T R1) (hf : f.toInt = (T.length : Int) - R1.length) (hy : ∀ M', AT M' T (dgs 4 0 R1).2 → PS M0 M' → mI M' 1098 9 = mI M0 1098 9 → (mI M' 1103 k).toInt = (dgs 4 0 R1).1 → (∀ j, ¬ j = k → mI M' 1103 j = mI M0 1103 j) → Wj true l G F Y_X10_takesNumber Q QX 0 0 91 [.ref 1098, xx, .int f] [] M') : ∀ (n d : Nat) (v : Int) (R : List Int) (M : Mm), d + n = 4 → 0 ≤ v → v < 10 ^ d → R.length + d = R1.length → dgs n v R = dgs 4 0 R1 → AT M T R → PS M0 M → mI M 1098 9 = mI M0 1098 9 → (mI M 1103 k).toInt = v → (∀ j, ¬ j = k → mI M 1103 j = mI M0 1103 j) → Wj true l G F Y_X10_takesNumber Q QX 0 0 29 [.ref 1098, .int kk', .int f] [] M
  | n, d, v, R, M, hn, v0, v1, hl, e, h, s, n9, nk, nj => by
    refine g_X10_takesNumber_29 _ _ _ ?_
    have kk := k_R
    have k4 := k_R4
    have k5 := k_R5
    obtain ⟨tx, K, hK, hp⟩ := h
    have h150 := tx.2.1
    have hlT : (T.length : Int) = K.length + R.length := by rw [hK, List.length_append]; omega
    have hkn : kk'.toNatClampNeg = k := by rw [i_cl, hk]; rfl
    have hpn : (mI M 1098 8).toNatClampNeg = K.length := by rw [i_cl, hp]; rfl
    have f4 : (f + 4).toInt = f.toInt + 4 := by rw [i_add, tI_4]; all_goals rw [tI_4]; omega
    have out : (∀ c R', R = c :: R' → n = 0 ∨ ¬ isDg c) → Wj true l G F Y_X10_takesNumber Q QX 0 0 91 [.ref 1098, xx, .int f] [] M := fun hc => by
      have e2 : dgs n v R = (v, R) := by
        cases R with
        | nil => cases n <;> rfl
        | cons c R' =>
          rcases hc c R' rfl with c0 | c0
          · subst c0; rfl
          · cases n with
            | zero => rfl
            | succ n => rw [dgs, if_neg c0]
      rw [e2] at e
      rw [← e] at hy
      exact hy M ⟨tx, K, hK, hp⟩ s n9 nk nj
    simp only [R_X10_takesNumber_29, kk, i_lt, i_le, i_eq, tI_0, tI_1, tI_2, tI_3, tI_4, tI_5, tI_6, tI_7, tI_8, tI_9, tI_10, tI_11, tI_12, tI_14, tI_20, tI_31, tI_32, tI_48, tI_57, tI_59, tI_96, tI_97, tI_99, tI_100, tI_122, tI_127, tI_150, tI_199, tI_200, tI_255, tI_427, tI_1708, tI_2000, tI_9999, tI_m1, tI_m10, cN_0, cN_1, cN_2, cN_3, cN_4, cN_5, cN_6, cN_7, cN_8, cN_9, cN_10, cN_11, cN_12, cN_14, cN_20, cN_31, cN_32, cN_48, cN_57, cN_59, cN_96, cN_97, cN_99, cN_100, cN_122, cN_127, cN_150, cN_199, cN_200, cN_255, cN_427, cN_1708, cN_2000, cN_9999, I_ic, I_lc, I_nul, I_il, I_ll, I_al, I_is, I_ls, I_as, I_inc, I_iadd, I_isub, I_imul, I_iand, I_ladd, I_lsub, I_lmul, I_land, I_lor, I_idiv, I_irem, I_ishr, I_lshl, I_lshr, I_lushr, I_lcmp, I_i2l, I_l2i, I_dup, I_pop, I_dup2, I_ifeq, I_ifne, I_iflt, I_ifge, I_ifgt, I_ifle, I_iceq, I_icne, I_iclt, I_icge, I_icgt, I_icle, I_ifnull, I_ifnonnull, I_sw, swK, I_gi, I_gl, I_gp, I_pi, I_pl, I_ial, I_lal, I_ias, I_las, I_aal, I_len, I_ir, I_zr, I_lr, I_vr, I_ar, I_cv, I_cs, I_csN, I_max, I_min, I_cpi, I_cpl, I_kl, popA, gt0, gt1, gt2, gt3, gt4, gt5, gt6, gt7, gt8, gt9, gt10, gt11, gt12, s1_0, s1_1, s1_2, s1_3, s1_4, s1_5, s1_6, s1_7, s1_8, s1_9, s1_10, s1_11, s1_12, s2_0, s2_1, s2_2, s2_3, s2_4, s2_5, s2_6, s2_7, s2_8, s2_9, s2_10, s2_11, se_0, se_1, se_2, se_3, se_4, se_5, se_6, se_7, se_8, se_9, se_10, se_11, se_12, kil_i, kil_l, kil_r, kil_n, kil_x, ap_done, ap_pend, ap_dbt, ap_rel, ap_wrk, ap_trade, ap_mentor, ap_refused, ap_wdays, ap_today, ap_moves, st_day, st_needs, st_ments, st_aps, ap_eta, st_eta, Value.category, List.map_cons, List.map_nil, List.sum_cons, List.sum_nil, Option.toList_some, Option.toList_none, List.cons_append, List.nil_append, Nat.reduceAdd, Nat.reduceLeDiff, true_and, and_true, true_or, or_true, forall_const, not_true_eq_false, false_implies, not_false_eq_true, false_and, ↓reduceIte, ad_1, ad_2, ad_3, ad_4, ad_5, nq_2]
    refine sp_X10_isAt ⟨tx, K, hK, hp⟩ ⟨fun g => ?_, fun g => ?_⟩
    · obtain ⟨c, R', eR, e1, e2⟩ := g
      subst eR
      rw [tI_48] at e1
      rw [tI_57] at e2
      simp only [ap_done, ap_pend, ap_dbt, ap_rel, ap_wrk, ap_trade, ap_mentor, ap_refused, ap_wdays, ap_today, ap_moves, st_day, st_needs, st_ments, st_aps, ap_eta, st_eta, List.length_cons] at hl hlT
      have hb := tx.2.2.2 K.length c (by rw [hK]; exact app_hd)
      simp only [kk, k4, k5, hkn, hpn, i_lt, i_le, i_eq, tI_0, tI_1, tI_2, tI_3, tI_4, tI_5, tI_6, tI_7, tI_8, tI_9, tI_10, tI_11, tI_12, tI_14, tI_20, tI_31, tI_32, tI_48, tI_57, tI_59, tI_96, tI_97, tI_99, tI_100, tI_122, tI_127, tI_150, tI_199, tI_200, tI_255, tI_427, tI_1708, tI_2000, tI_9999, tI_m1, tI_m10, cN_0, cN_1, cN_2, cN_3, cN_4, cN_5, cN_6, cN_7, cN_8, cN_9, cN_10, cN_11, cN_12, cN_14, cN_20, cN_31, cN_32, cN_48, cN_57, cN_59, cN_96, cN_97, cN_99, cN_100, cN_122, cN_127, cN_150, cN_199, cN_200, cN_255, cN_427, cN_1708, cN_2000, cN_9999, I_ic, I_lc, I_nul, I_il, I_ll, I_al, I_is, I_ls, I_as, I_inc, I_iadd, I_isub, I_imul, I_iand, I_ladd, I_lsub, I_lmul, I_land, I_lor, I_idiv, I_irem, I_ishr, I_lshl, I_lshr, I_lushr, I_lcmp, I_i2l, I_l2i, I_dup, I_pop, I_dup2, I_ifeq, I_ifne, I_iflt, I_ifge, I_ifgt, I_ifle, I_iceq, I_icne, I_iclt, I_icge, I_icgt, I_icle, I_ifnull, I_ifnonnull, I_sw, swK, I_gi, I_gl, I_gp, I_pi, I_pl, I_ial, I_lal, I_ias, I_las, I_aal, I_len, I_ir, I_zr, I_lr, I_vr, I_ar, I_cv, I_cs, I_csN, I_max, I_min, I_cpi, I_cpl, I_kl, popA, gt0, gt1, gt2, gt3, gt4, gt5, gt6, gt7, gt8, gt9, gt10, gt11, gt12, s1_0, s1_1, s1_2, s1_3, s1_4, s1_5, s1_6, s1_7, s1_8, s1_9, s1_10, s1_11, s1_12, s2_0, s2_1, s2_2, s2_3, s2_4, s2_5, s2_6, s2_7, s2_8, s2_9, s2_10, s2_11, se_0, se_1, se_2, se_3, se_4, se_5, se_6, se_7, se_8, se_9, se_10, se_11, se_12, kil_i, kil_l, kil_r, kil_n, kil_x, ap_done, ap_pend, ap_dbt, ap_rel, ap_wrk, ap_trade, ap_mentor, ap_refused, ap_wdays, ap_today, ap_moves, st_day, st_needs, st_ments, st_aps, ap_eta, st_eta, Value.category, List.map_cons, List.map_nil, List.sum_cons, List.sum_nil, Option.toList_some, Option.toList_none, List.cons_append, List.nil_append, Nat.reduceAdd, Nat.reduceLeDiff, true_and, and_true, true_or, or_true, forall_const, not_true_eq_false, false_implies, not_false_eq_true, false_and, ↓reduceIte, ad_1, ad_2, ad_3, ad_4, ad_5, nq_2]
      rw [hp, f4, hf]
      refine ⟨fun c => absurd c (by decide), fun _ => ⟨fun g2 => out fun _ _ _ => Or.inl (by omega), fun g2 => ?_⟩⟩
      cases n with
      | zero => omega
      | succ n =>
        have hv : vp_in kk' 3 := i_in (n := 3) (by omega) (by omega)
        have hv2 : vp_in (mI M 1098 8) 150 := i_in (n := 150) (by omega) (by omega)
        refine ⟨hv, hv2, hv, ?_⟩
        have v2 : v < 1000 := by
          have hd : d = 0 ∨ d = 1 ∨ d = 2 ∨ d = 3 := by omega
          rcases hd with e | e | e | e <;> subst e <;> simp [ap_done, ap_pend, ap_dbt, ap_rel, ap_wrk, ap_trade, ap_mentor, ap_refused, ap_wdays, ap_today, ap_moves, st_day, st_needs, st_ments, st_aps, ap_eta, st_eta] at v1 <;> omega
        have g1 : (10 * mI M 1103 k).toInt = 10 * v := by rw [i_mul, nk, tI_10]; all_goals rw [nk, tI_10]; omega
        have g3 : (10 * mI M 1103 k + mI M 1102 K.length).toInt = 10 * v + c := by rw [i_add, g1, hb]; all_goals rw [g1, hb]; omega
        have g4 : (10 * mI M 1103 k + mI M 1102 K.length - 48).toInt = 10 * v + (c - 48) := by rw [i_sub, g3, tI_48]; omega; all_goals rw [g3, tI_48]; omega
        have hA : AT (sI M 1103 k (10 * mI M 1103 k + mI M 1102 K.length - 48)) T (c :: R') := AT.ps ⟨tx, K, hK, hp⟩ (PS_n _ _ _) (by rw [mI_sI, if_neg (by omega)])
        have hS := hA.step
        rw [dgs, if_pos ⟨e1, e2⟩] at e
        refine lp_X10_takesNumber hk hk3 hs hf hy n (d + 1) (10 * v + (c - 48)) R' _ (by omega) (by omega) ?_ (by omega) e hS.1 ((s.trans (PS_n _ _ _)).trans hS.2) ?_ ?_ fun j hj => ?_
        · rw [Int.pow_succ]; omega
        · rw [mI_sI, if_neg (by omega), mI_sI, if_neg (by omega)]; exact n9
        · rw [mI_sI, if_neg (by omega), mI_sI, if_pos ⟨rfl, rfl⟩]; exact g4
        · rw [mI_sI, if_neg (by omega), mI_sI, if_neg (by omega)]; exact nj j hj
    · simp only [i_lt, i_le, i_eq, tI_0, tI_1, tI_2, tI_3, tI_4, tI_5, tI_6, tI_7, tI_8, tI_9, tI_10, tI_11, tI_12, tI_14, tI_20, tI_31, tI_32, tI_48, tI_57, tI_59, tI_96, tI_97, tI_99, tI_100, tI_122, tI_127, tI_150, tI_199, tI_200, tI_255, tI_427, tI_1708, tI_2000, tI_9999, tI_m1, tI_m10, cN_0, cN_1, cN_2, cN_3, cN_4, cN_5, cN_6, cN_7, cN_8, cN_9, cN_10, cN_11, cN_12, cN_14, cN_20, cN_31, cN_32, cN_48, cN_57, cN_59, cN_96, cN_97, cN_99, cN_100, cN_122, cN_127, cN_150, cN_199, cN_200, cN_255, cN_427, cN_1708, cN_2000, cN_9999, I_ic, I_lc, I_nul, I_il, I_ll, I_al, I_is, I_ls, I_as, I_inc, I_iadd, I_isub, I_imul, I_iand, I_ladd, I_lsub, I_lmul, I_land, I_lor, I_idiv, I_irem, I_ishr, I_lshl, I_lshr, I_lushr, I_lcmp, I_i2l, I_l2i, I_dup, I_pop, I_dup2, I_ifeq, I_ifne, I_iflt, I_ifge, I_ifgt, I_ifle, I_iceq, I_icne, I_iclt, I_icge, I_icgt, I_icle, I_ifnull, I_ifnonnull, I_sw, swK, I_gi, I_gl, I_gp, I_pi, I_pl, I_ial, I_lal, I_ias, I_las, I_aal, I_len, I_ir, I_zr, I_lr, I_vr, I_ar, I_cv, I_cs, I_csN, I_max, I_min, I_cpi, I_cpl, I_kl, popA, gt0, gt1, gt2, gt3, gt4, gt5, gt6, gt7, gt8, gt9, gt10, gt11, gt12, s1_0, s1_1, s1_2, s1_3, s1_4, s1_5, s1_6, s1_7, s1_8, s1_9, s1_10, s1_11, s1_12, s2_0, s2_1, s2_2, s2_3, s2_4, s2_5, s2_6, s2_7, s2_8, s2_9, s2_10, s2_11, se_0, se_1, se_2, se_3, se_4, se_5, se_6, se_7, se_8, se_9, se_10, se_11, se_12, kil_i, kil_l, kil_r, kil_n, kil_x, ap_done, ap_pend, ap_dbt, ap_rel, ap_wrk, ap_trade, ap_mentor, ap_refused, ap_wdays, ap_today, ap_moves, st_day, st_needs, st_ments, st_aps, ap_eta, st_eta, Value.category, List.map_cons, List.map_nil, List.sum_cons, List.sum_nil, Option.toList_some, Option.toList_none, List.cons_append, List.nil_append, Nat.reduceAdd, Nat.reduceLeDiff, true_and, and_true, true_or, or_true, forall_const, not_true_eq_false, false_implies, not_false_eq_true, false_and, ↓reduceIte, ad_1, ad_2, ad_3, ad_4, ad_5, nq_2]
      refine out fun c R' eR => Or.inr fun c2 => g ⟨c, R', eR, c2.1, c2.2⟩
termination_by n => n
theorem sp_X10_takesNumber {v : Int32} {k : Nat} (hk : v.toInt = k) (hk3 : k < 3) (h : AT M T R) (hn : (tNum R).1 = none → ∀ M', AT M' T (tNum R).2 → PS M M' → mI M' 1098 9 = mI M 1098 9 → Q (some (.int 0)) M') (hy : ∀ x, (tNum R).1 = some x → ∀ M', AT M' T (tNum R).2 → PS M M' → mI M' 1098 9 = mI M 1098 9 → (mI M' 1103 k).toInt = x → (∀ j, ¬ j = k → mI M' 1103 j = mI M 1103 j) → Q (some (.int 1)) M') : Tr true l G Y_X10_takesNumber [.ref 1098, .int v] M Q QX := by
  refine en_X10_takesNumber fun F => ?_
  have kk := k_R
  have k5 := k_R5
  have hkn : v.toNatClampNeg = k := by rw [i_cl, hk]; rfl
  simp only [R_X10_takesNumber_0, kk, i_lt, i_le, i_eq, tI_0, tI_1, tI_2, tI_3, tI_4, tI_5, tI_6, tI_7, tI_8, tI_9, tI_10, tI_11, tI_12, tI_14, tI_20, tI_31, tI_32, tI_48, tI_57, tI_59, tI_96, tI_97, tI_99, tI_100, tI_122, tI_127, tI_150, tI_199, tI_200, tI_255, tI_427, tI_1708, tI_2000, tI_9999, tI_m1, tI_m10, cN_0, cN_1, cN_2, cN_3, cN_4, cN_5, cN_6, cN_7, cN_8, cN_9, cN_10, cN_11, cN_12, cN_14, cN_20, cN_31, cN_32, cN_48, cN_57, cN_59, cN_96, cN_97, cN_99, cN_100, cN_122, cN_127, cN_150, cN_199, cN_200, cN_255, cN_427, cN_1708, cN_2000, cN_9999, I_ic, I_lc, I_nul, I_il, I_ll, I_al, I_is, I_ls, I_as, I_inc, I_iadd, I_isub, I_imul, I_iand, I_ladd, I_lsub, I_lmul, I_land, I_lor, I_idiv, I_irem, I_ishr, I_lshl, I_lshr, I_lushr, I_lcmp, I_i2l, I_l2i, I_dup, I_pop, I_dup2, I_ifeq, I_ifne, I_iflt, I_ifge, I_ifgt, I_ifle, I_iceq, I_icne, I_iclt, I_icge, I_icgt, I_icle, I_ifnull, I_ifnonnull, I_sw, swK, I_gi, I_gl, I_gp, I_pi, I_pl, I_ial, I_lal, I_ias, I_las, I_aal, I_len, I_ir, I_zr, I_lr, I_vr, I_ar, I_cv, I_cs, I_csN, I_max, I_min, I_cpi, I_cpl, I_kl, popA, gt0, gt1, gt2, gt3, gt4, gt5, gt6, gt7, gt8, gt9, gt10, gt11, gt12, s1_0, s1_1, s1_2, s1_3, s1_4, s1_5, s1_6, s1_7, s1_8, s1_9, s1_10, s1_11, s1_12, s2_0, s2_1, s2_2, s2_3, s2_4, s2_5, s2_6, s2_7, s2_8, s2_9, s2_10, s2_11, se_0, se_1, se_2, se_3, se_4, se_5, se_6, se_7, se_8, se_9, se_10, se_11, se_12, kil_i, kil_l, kil_r, kil_n, kil_x, ap_done, ap_pend, ap_dbt, ap_rel, ap_wrk, ap_trade, ap_mentor, ap_refused, ap_wdays, ap_today, ap_moves, st_day, st_needs, st_ments, st_aps, ap_eta, st_eta, Value.category, List.map_cons, List.map_nil, List.sum_cons, List.sum_nil, Option.toList_some, Option.toList_none, List.cons_append, List.nil_append, Nat.reduceAdd, Nat.reduceLeDiff, true_and, and_true, true_or, or_true, forall_const, not_true_eq_false, false_implies, not_false_eq_true, false_and, ↓reduceIte, ad_1, ad_2, ad_3, ad_4, ad_5, nq_2]
  refine sp_X10_isAt h ⟨fun g => ?_, fun g => ?_⟩
  · obtain ⟨c, R', eR, e1, e2⟩ := g
    subst eR
    rw [tI_32] at e1 e2
    have hc : c = 32 := by omega
    rw [tNum, if_pos hc] at hn hy
    simp only [kk, i_lt, i_le, i_eq, tI_0, tI_1, tI_2, tI_3, tI_4, tI_5, tI_6, tI_7, tI_8, tI_9, tI_10, tI_11, tI_12, tI_14, tI_20, tI_31, tI_32, tI_48, tI_57, tI_59, tI_96, tI_97, tI_99, tI_100, tI_122, tI_127, tI_150, tI_199, tI_200, tI_255, tI_427, tI_1708, tI_2000, tI_9999, tI_m1, tI_m10, cN_0, cN_1, cN_2, cN_3, cN_4, cN_5, cN_6, cN_7, cN_8, cN_9, cN_10, cN_11, cN_12, cN_14, cN_20, cN_31, cN_32, cN_48, cN_57, cN_59, cN_96, cN_97, cN_99, cN_100, cN_122, cN_127, cN_150, cN_199, cN_200, cN_255, cN_427, cN_1708, cN_2000, cN_9999, I_ic, I_lc, I_nul, I_il, I_ll, I_al, I_is, I_ls, I_as, I_inc, I_iadd, I_isub, I_imul, I_iand, I_ladd, I_lsub, I_lmul, I_land, I_lor, I_idiv, I_irem, I_ishr, I_lshl, I_lshr, I_lushr, I_lcmp, I_i2l, I_l2i, I_dup, I_pop, I_dup2, I_ifeq, I_ifne, I_iflt, I_ifge, I_ifgt, I_ifle, I_iceq, I_icne, I_iclt, I_icge, I_icgt, I_icle, I_ifnull, I_ifnonnull, I_sw, swK, I_gi, I_gl, I_gp, I_pi, I_pl, I_ial, I_lal, I_ias, I_las, I_aal, I_len, I_ir, I_zr, I_lr, I_vr, I_ar, I_cv, I_cs, I_csN, I_max, I_min, I_cpi, I_cpl, I_kl, popA, gt0, gt1, gt2, gt3, gt4, gt5, gt6, gt7, gt8, gt9, gt10, gt11, gt12, s1_0, s1_1, s1_2, s1_3, s1_4, s1_5, s1_6, s1_7, s1_8, s1_9, s1_10, s1_11, s1_12, s2_0, s2_1, s2_2, s2_3, s2_4, s2_5, s2_6, s2_7, s2_8, s2_9, s2_10, s2_11, se_0, se_1, se_2, se_3, se_4, se_5, se_6, se_7, se_8, se_9, se_10, se_11, se_12, kil_i, kil_l, kil_r, kil_n, kil_x, ap_done, ap_pend, ap_dbt, ap_rel, ap_wrk, ap_trade, ap_mentor, ap_refused, ap_wdays, ap_today, ap_moves, st_day, st_needs, st_ments, st_aps, ap_eta, st_eta, Value.category, List.map_cons, List.map_nil, List.sum_cons, List.sum_nil, Option.toList_some, Option.toList_none, List.cons_append, List.nil_append, Nat.reduceAdd, Nat.reduceLeDiff, true_and, and_true, true_or, or_true, forall_const, not_true_eq_false, false_implies, not_false_eq_true, false_and, ↓reduceIte, ad_1, ad_2, ad_3, ad_4, ad_5, nq_2]
    refine ⟨fun _ => ?_, fun c => absurd c (by decide)⟩
    refine sp_X10_skips h fun M1 n1 w1 a1 s1 => ?_
    rw [sk, if_pos hc] at a1
    simp only [kk, k5, hkn, i_lt, i_le, i_eq, tI_0, tI_1, tI_2, tI_3, tI_4, tI_5, tI_6, tI_7, tI_8, tI_9, tI_10, tI_11, tI_12, tI_14, tI_20, tI_31, tI_32, tI_48, tI_57, tI_59, tI_96, tI_97, tI_99, tI_100, tI_122, tI_127, tI_150, tI_199, tI_200, tI_255, tI_427, tI_1708, tI_2000, tI_9999, tI_m1, tI_m10, cN_0, cN_1, cN_2, cN_3, cN_4, cN_5, cN_6, cN_7, cN_8, cN_9, cN_10, cN_11, cN_12, cN_14, cN_20, cN_31, cN_32, cN_48, cN_57, cN_59, cN_96, cN_97, cN_99, cN_100, cN_122, cN_127, cN_150, cN_199, cN_200, cN_255, cN_427, cN_1708, cN_2000, cN_9999, I_ic, I_lc, I_nul, I_il, I_ll, I_al, I_is, I_ls, I_as, I_inc, I_iadd, I_isub, I_imul, I_iand, I_ladd, I_lsub, I_lmul, I_land, I_lor, I_idiv, I_irem, I_ishr, I_lshl, I_lshr, I_lushr, I_lcmp, I_i2l, I_l2i, I_dup, I_pop, I_dup2, I_ifeq, I_ifne, I_iflt, I_ifge, I_ifgt, I_ifle, I_iceq, I_icne, I_iclt, I_icge, I_icgt, I_icle, I_ifnull, I_ifnonnull, I_sw, swK, I_gi, I_gl, I_gp, I_pi, I_pl, I_ial, I_lal, I_ias, I_las, I_aal, I_len, I_ir, I_zr, I_lr, I_vr, I_ar, I_cv, I_cs, I_csN, I_max, I_min, I_cpi, I_cpl, I_kl, popA, gt0, gt1, gt2, gt3, gt4, gt5, gt6, gt7, gt8, gt9, gt10, gt11, gt12, s1_0, s1_1, s1_2, s1_3, s1_4, s1_5, s1_6, s1_7, s1_8, s1_9, s1_10, s1_11, s1_12, s2_0, s2_1, s2_2, s2_3, s2_4, s2_5, s2_6, s2_7, s2_8, s2_9, s2_10, s2_11, se_0, se_1, se_2, se_3, se_4, se_5, se_6, se_7, se_8, se_9, se_10, se_11, se_12, kil_i, kil_l, kil_r, kil_n, kil_x, ap_done, ap_pend, ap_dbt, ap_rel, ap_wrk, ap_trade, ap_mentor, ap_refused, ap_wdays, ap_today, ap_moves, st_day, st_needs, st_ments, st_aps, ap_eta, st_eta, Value.category, List.map_cons, List.map_nil, List.sum_cons, List.sum_nil, Option.toList_some, Option.toList_none, List.cons_append, List.nil_append, Nat.reduceAdd, Nat.reduceLeDiff, true_and, and_true, true_or, or_true, forall_const, not_true_eq_false, false_implies, not_false_eq_true, false_and, ↓reduceIte, ad_1, ad_2, ad_3, ad_4, ad_5, nq_2]
    have hv : vp_in v 3 := i_in (n := 3) (by omega) (by omega)
    refine ⟨hv, ?_⟩
    obtain ⟨tx1, K1, hK1, hp1⟩ := a1
    have a2 : AT (sI M1 1103 k 0) T (sk R') := AT.ps ⟨tx1, K1, hK1, hp1⟩ (PS_n _ _ _) (by rw [mI_sI, if_neg (by omega)])
    have hf : (mI M1 1098 8).toInt = (T.length : Int) - (sk R').length := by rw [hp1, hK1, List.length_append]; omega
    refine lp_X10_takesNumber (M0 := M) (k := k) hk hk3 ⟨K1, hK1⟩ hf (fun M2 a3 s3 w3 e3 n3 => ?_) 4 0 0 (sk R') _ rfl (by decide) (by decide) rfl rfl a2 (s1.trans (PS_n _ _ _)) (by rw [mI_sI, if_neg (by omega)]; exact w1) (by rw [mI_sI, if_pos ⟨rfl, rfl⟩]; rfl) fun j hj => by rw [mI_sI, if_neg (by omega)]; exact n1 j
    refine rg_X10_takesNumber_91 (k := k) (M0 := M) a3 ⟨K1, hK1⟩ (dgs_sfx _ _ _).len hf (fun c => ?_) fun c => ?_
    · rw [rdN_no c] at hn
      exact hn rfl M2 a3 s3 w3
    · rw [rdN_yes c] at hy
      exact hy _ rfl M2 a3 s3 w3 e3 n3
  · have e : tNum R = (none, R) := by
      cases R with
      | nil => rfl
      | cons c R' =>
        rw [tNum, if_neg fun hc => g ⟨c, R', rfl, by rw [hc]; decide, by rw [hc]; decide⟩]
    rw [e] at hn
    simp only [i_lt, i_le, i_eq, tI_0, tI_1, tI_2, tI_3, tI_4, tI_5, tI_6, tI_7, tI_8, tI_9, tI_10, tI_11, tI_12, tI_14, tI_20, tI_31, tI_32, tI_48, tI_57, tI_59, tI_96, tI_97, tI_99, tI_100, tI_122, tI_127, tI_150, tI_199, tI_200, tI_255, tI_427, tI_1708, tI_2000, tI_9999, tI_m1, tI_m10, cN_0, cN_1, cN_2, cN_3, cN_4, cN_5, cN_6, cN_7, cN_8, cN_9, cN_10, cN_11, cN_12, cN_14, cN_20, cN_31, cN_32, cN_48, cN_57, cN_59, cN_96, cN_97, cN_99, cN_100, cN_122, cN_127, cN_150, cN_199, cN_200, cN_255, cN_427, cN_1708, cN_2000, cN_9999, I_ic, I_lc, I_nul, I_il, I_ll, I_al, I_is, I_ls, I_as, I_inc, I_iadd, I_isub, I_imul, I_iand, I_ladd, I_lsub, I_lmul, I_land, I_lor, I_idiv, I_irem, I_ishr, I_lshl, I_lshr, I_lushr, I_lcmp, I_i2l, I_l2i, I_dup, I_pop, I_dup2, I_ifeq, I_ifne, I_iflt, I_ifge, I_ifgt, I_ifle, I_iceq, I_icne, I_iclt, I_icge, I_icgt, I_icle, I_ifnull, I_ifnonnull, I_sw, swK, I_gi, I_gl, I_gp, I_pi, I_pl, I_ial, I_lal, I_ias, I_las, I_aal, I_len, I_ir, I_zr, I_lr, I_vr, I_ar, I_cv, I_cs, I_csN, I_max, I_min, I_cpi, I_cpl, I_kl, popA, gt0, gt1, gt2, gt3, gt4, gt5, gt6, gt7, gt8, gt9, gt10, gt11, gt12, s1_0, s1_1, s1_2, s1_3, s1_4, s1_5, s1_6, s1_7, s1_8, s1_9, s1_10, s1_11, s1_12, s2_0, s2_1, s2_2, s2_3, s2_4, s2_5, s2_6, s2_7, s2_8, s2_9, s2_10, s2_11, se_0, se_1, se_2, se_3, se_4, se_5, se_6, se_7, se_8, se_9, se_10, se_11, se_12, kil_i, kil_l, kil_r, kil_n, kil_x, ap_done, ap_pend, ap_dbt, ap_rel, ap_wrk, ap_trade, ap_mentor, ap_refused, ap_wdays, ap_today, ap_moves, st_day, st_needs, st_ments, st_aps, ap_eta, st_eta, Value.category, List.map_cons, List.map_nil, List.sum_cons, List.sum_nil, Option.toList_some, Option.toList_none, List.cons_append, List.nil_append, Nat.reduceAdd, Nat.reduceLeDiff, true_and, and_true, true_or, or_true, forall_const, not_true_eq_false, false_implies, not_false_eq_true, false_and, ↓reduceIte, ad_1, ad_2, ad_3, ad_4, ad_5, nq_2]
    exact hn rfl M h (PS_refl _) rfl
end SPSh
