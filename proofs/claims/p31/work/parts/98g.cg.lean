/-! ===== the constructors of the undo stack, the command text, the class, the reference ===== -/
theorem kU_st : ∀ i, i < 4 → ∀ r, r < 214 → KX (217 + 214 * i + r) = kSt r := by decide +kernel
theorem kF_st : ∀ r, r < 214 → KX (1 + r) = kSt r := by decide +kernel
theorem pvU (k : Nat) : PV 215 k = if k = 0 then 217 else 0 := by unfold PV; rw [k_U]; rfl
theorem pvU1 (k : Nat) : PV 216 k = if k < 4 then 218 + 214 * k else 0 := by
  have : PV 216 k = if k < 4 then 216 + 2 + 214 * k else 0 := by unfold PV; rw [k_U1]; rfl
  rw [this]
theorem pvC (k : Nat) : PV 1073 k = if k = 0 then 1075 else if k = 1 then 1076 else if k = 2 then 1077 else 0 := by unfold PV; rw [k_C]; rfl
theorem pvC2 (k : Nat) : PV 1075 k = 0 := by unfold PV; rw [k_C2]; rfl
theorem pvF (k : Nat) : PV 0 k = if k = 0 then 2 else if k = 1 then 216 else if k = 2 then 1074 else 0 := by unfold PV; rw [k_F]; rfl
def EU (b : Nat) : Prop := b = 215 ∨ b = 216
section SPch
variable {l : Launch} {G : GT} {M : Mm} {Q : PQ} {QX : PX}
theorem lp_X8_init_14 {F : FX} {M0 : Mm} (hQ : ∀ M', CB 215 858 M0 M' → Q none M') : ∀ (n i : Nat) (j : Int32) (M : Mm), i + n = 4 → j.toInt = i → BI EU 215 (217 + 214 * i) M0 M → mP M 215 0 = 216 + 1 → (∀ q, q < i → mP M 216 q = 218 + 214 * q) → Wj false l G F Y_X8_init Q QX (1 + 214 * i) (4 + 2244 * i) 14 [.ref 215, .int j] [] M
  | 0, i, j, M, hn, hj, b, f, a => by
    refine g_X8_init_14e ⟨by omega, by omega⟩ _ _ _ ?_
    have i4 : i = 4 := by omega
    subst i4
    simp only [i_lt, i_le, i_eq, tI_0, tI_1, tI_2, tI_3, tI_4, tI_5, tI_6, tI_7, tI_8, tI_9, tI_10, tI_11, tI_12, tI_14, tI_20, tI_31, tI_32, tI_48, tI_57, tI_59, tI_96, tI_97, tI_99, tI_100, tI_122, tI_127, tI_150, tI_199, tI_200, tI_255, tI_427, tI_1708, tI_2000, tI_9999, tI_m1, tI_m10, cN_0, cN_1, cN_2, cN_3, cN_4, cN_5, cN_6, cN_7, cN_8, cN_9, cN_10, cN_11, cN_12, cN_14, cN_20, cN_31, cN_32, cN_48, cN_57, cN_59, cN_96, cN_97, cN_99, cN_100, cN_122, cN_127, cN_150, cN_199, cN_200, cN_255, cN_427, cN_1708, cN_2000, cN_9999, I_ic, I_lc, I_nul, I_il, I_ll, I_al, I_is, I_ls, I_as, I_inc, I_iadd, I_isub, I_imul, I_iand, I_ladd, I_lsub, I_lmul, I_land, I_lor, I_idiv, I_irem, I_ishr, I_lshl, I_lshr, I_lushr, I_lcmp, I_i2l, I_l2i, I_dup, I_pop, I_dup2, I_ifeq, I_ifne, I_iflt, I_ifge, I_ifgt, I_ifle, I_iceq, I_icne, I_iclt, I_icge, I_icgt, I_icle, I_ifnull, I_ifnonnull, I_sw, swK, I_gi, I_gl, I_gp, I_pi, I_pl, I_ial, I_lal, I_ias, I_las, I_aal, I_len, I_ir, I_zr, I_lr, I_vr, I_ar, I_cv, I_cs, I_csN, I_max, I_min, I_cpi, I_cpl, I_kl, popA, gt0, gt1, gt2, gt3, gt4, gt5, gt6, gt7, gt8, gt9, gt10, gt11, gt12, s1_0, s1_1, s1_2, s1_3, s1_4, s1_5, s1_6, s1_7, s1_8, s1_9, s1_10, s1_11, s1_12, s2_0, s2_1, s2_2, s2_3, s2_4, s2_5, s2_6, s2_7, s2_8, s2_9, s2_10, s2_11, se_0, se_1, se_2, se_3, se_4, se_5, se_6, se_7, se_8, se_9, se_10, se_11, se_12, kil_i, kil_l, kil_r, kil_n, kil_x, ap_done, ap_pend, ap_dbt, ap_rel, ap_wrk, ap_trade, ap_mentor, ap_refused, ap_wdays, ap_today, ap_moves, st_day, st_needs, st_ments, st_aps, ap_eta, st_eta, Value.category, List.map_cons, List.map_nil, List.sum_cons, List.sum_nil, Option.toList_some, Option.toList_none, List.cons_append, List.nil_append, Nat.reduceAdd, Nat.reduceLeDiff, true_and, and_true, true_or, or_true, forall_const, not_true_eq_false, false_implies, not_false_eq_true, false_and, ↓reduceIte, ad_1, ad_2, ad_3, ad_4, ad_5, nq_2]
    rw [hj]
    refine ⟨fun _ => ?_, fun g => by omega⟩
    refine hQ M ((b.hi (by omega)).fin fun x k g1 g2 g3 g4 => ?_)
    rcases g3 with rfl | rfl
    · rw [pvU] at g4 ⊢
      by_cases e : k = 0
      · rw [if_pos e, e]; exact f
      · rw [if_neg e] at g4; exact absurd rfl g4
    · rw [pvU1] at g4 ⊢
      by_cases e : k < 4
      · rw [if_pos e]; exact a k e
      · rw [if_neg e] at g4; exact absurd rfl g4
  | n + 1, i, j, M, hn, hj, b, f, a => by
    refine g_X8_init_14 ⟨by omega, by omega⟩ _ _ _ ?_
    have k0 := k_U
    have k1 := k_U1
    have n1 : mN M = 217 + 214 * i := b.1
    have hj1 : (j + 1).toInt = ((i + 1 : Nat) : Int) := by rw [i_add, hj]; rfl; all_goals rw [hj, tI_1]; omega
    have hjn : j.toNatClampNeg = i := by rw [i_cl, hj]; rfl
    have ks := kU_st i (by omega)
    have kx : KX (217 + 214 * i) = (1, 5, 9) := ks 0 (by decide)
    have kl : 215 < 217 + 214 * i := by omega
    simp only [R_X8_init_14, I_gq, I_new, I_ci, I_asz, i_lt, i_le, i_eq, tI_0, tI_1, tI_2, tI_3, tI_4, tI_5, tI_6, tI_7, tI_8, tI_9, tI_10, tI_11, tI_12, tI_14, tI_20, tI_31, tI_32, tI_48, tI_57, tI_59, tI_96, tI_97, tI_99, tI_100, tI_122, tI_127, tI_150, tI_199, tI_200, tI_255, tI_427, tI_1708, tI_2000, tI_9999, tI_m1, tI_m10, cN_0, cN_1, cN_2, cN_3, cN_4, cN_5, cN_6, cN_7, cN_8, cN_9, cN_10, cN_11, cN_12, cN_14, cN_20, cN_31, cN_32, cN_48, cN_57, cN_59, cN_96, cN_97, cN_99, cN_100, cN_122, cN_127, cN_150, cN_199, cN_200, cN_255, cN_427, cN_1708, cN_2000, cN_9999, n1, k0, k1, kx, I_ic, I_lc, I_nul, I_il, I_ll, I_al, I_is, I_ls, I_as, I_inc, I_iadd, I_isub, I_imul, I_iand, I_ladd, I_lsub, I_lmul, I_land, I_lor, I_idiv, I_irem, I_ishr, I_lshl, I_lshr, I_lushr, I_lcmp, I_i2l, I_l2i, I_dup, I_pop, I_dup2, I_ifeq, I_ifne, I_iflt, I_ifge, I_ifgt, I_ifle, I_iceq, I_icne, I_iclt, I_icge, I_icgt, I_icle, I_ifnull, I_ifnonnull, I_sw, swK, I_gi, I_gl, I_gp, I_pi, I_pl, I_ial, I_lal, I_ias, I_las, I_aal, I_len, I_ir, I_zr, I_lr, I_vr, I_ar, I_cv, I_cs, I_csN, I_max, I_min, I_cpi, I_cpl, I_kl, popA, gt0, gt1, gt2, gt3, gt4, gt5, gt6, gt7, gt8, gt9, gt10, gt11, gt12, s1_0, s1_1, s1_2, s1_3, s1_4, s1_5, s1_6, s1_7, s1_8, s1_9, s1_10, s1_11, s1_12, s2_0, s2_1, s2_2, s2_3, s2_4, s2_5, s2_6, s2_7, s2_8, s2_9, s2_10, s2_11, se_0, se_1, se_2, se_3, se_4, se_5, se_6, se_7, se_8, se_9, se_10, se_11, se_12, kil_i, kil_l, kil_r, kil_n, kil_x, ap_done, ap_pend, ap_dbt, ap_rel, ap_wrk, ap_trade, ap_mentor, ap_refused, ap_wdays, ap_today, ap_moves, st_day, st_needs, st_ments, st_aps, ap_eta, st_eta, Value.category, List.map_cons, List.map_nil, List.sum_cons, List.sum_nil, Option.toList_some, Option.toList_none, List.cons_append, List.nil_append, Nat.reduceAdd, Nat.reduceLeDiff, true_and, and_true, true_or, or_true, forall_const, not_true_eq_false, false_implies, not_false_eq_true, false_and, ↓reduceIte, ad_1, ad_2, ad_3, ad_4, ad_5, nq_2]
    rw [hj]
    refine ⟨fun g => by omega, fun _ => ⟨kl, _, f, ?_⟩⟩
    refine sp_X7_init ks (by omega) (by rw [mN_aN, n1]) b.2.1.an fun M2 c2 => ?_
    have c2' : CB (217 + 214 * i) 214 (aN M) M2 := c2
    obtain ⟨b2, p2⟩ := b.cb (by omega) c2'
    have n2 : mN M2 = 217 + 214 * (i + 1) := by rw [b2.1]; omega
    simp only [R_X8_init_14, I_gq, I_new, I_ci, I_asz, i_lt, i_le, i_eq, tI_0, tI_1, tI_2, tI_3, tI_4, tI_5, tI_6, tI_7, tI_8, tI_9, tI_10, tI_11, tI_12, tI_14, tI_20, tI_31, tI_32, tI_48, tI_57, tI_59, tI_96, tI_97, tI_99, tI_100, tI_122, tI_127, tI_150, tI_199, tI_200, tI_255, tI_427, tI_1708, tI_2000, tI_9999, tI_m1, tI_m10, cN_0, cN_1, cN_2, cN_3, cN_4, cN_5, cN_6, cN_7, cN_8, cN_9, cN_10, cN_11, cN_12, cN_14, cN_20, cN_31, cN_32, cN_48, cN_57, cN_59, cN_96, cN_97, cN_99, cN_100, cN_122, cN_127, cN_150, cN_199, cN_200, cN_255, cN_427, cN_1708, cN_2000, cN_9999, n1, n2, k0, k1, kx, hjn, I_ic, I_lc, I_nul, I_il, I_ll, I_al, I_is, I_ls, I_as, I_inc, I_iadd, I_isub, I_imul, I_iand, I_ladd, I_lsub, I_lmul, I_land, I_lor, I_idiv, I_irem, I_ishr, I_lshl, I_lshr, I_lushr, I_lcmp, I_i2l, I_l2i, I_dup, I_pop, I_dup2, I_ifeq, I_ifne, I_iflt, I_ifge, I_ifgt, I_ifle, I_iceq, I_icne, I_iclt, I_icge, I_icgt, I_icle, I_ifnull, I_ifnonnull, I_sw, swK, I_gi, I_gl, I_gp, I_pi, I_pl, I_ial, I_lal, I_ias, I_las, I_aal, I_len, I_ir, I_zr, I_lr, I_vr, I_ar, I_cv, I_cs, I_csN, I_max, I_min, I_cpi, I_cpl, I_kl, popA, gt0, gt1, gt2, gt3, gt4, gt5, gt6, gt7, gt8, gt9, gt10, gt11, gt12, s1_0, s1_1, s1_2, s1_3, s1_4, s1_5, s1_6, s1_7, s1_8, s1_9, s1_10, s1_11, s1_12, s2_0, s2_1, s2_2, s2_3, s2_4, s2_5, s2_6, s2_7, s2_8, s2_9, s2_10, s2_11, se_0, se_1, se_2, se_3, se_4, se_5, se_6, se_7, se_8, se_9, se_10, se_11, se_12, kil_i, kil_l, kil_r, kil_n, kil_x, ap_done, ap_pend, ap_dbt, ap_rel, ap_wrk, ap_trade, ap_mentor, ap_refused, ap_wdays, ap_today, ap_moves, st_day, st_needs, st_ments, st_aps, ap_eta, st_eta, Value.category, List.map_cons, List.map_nil, List.sum_cons, List.sum_nil, Option.toList_some, Option.toList_none, List.cons_append, List.nil_append, Nat.reduceAdd, Nat.reduceLeDiff, true_and, and_true, true_or, or_true, forall_const, not_true_eq_false, false_implies, not_false_eq_true, false_and, ↓reduceIte, ad_1, ad_2, ad_3, ad_4, ad_5, nq_2]
    have l8 : 216 < 217 + 214 * (i + 1) := by omega
    have l9 : 217 + 214 * i < 217 + 214 * (i + 1) := by omega
    refine ⟨l8, i_in (n := 4) (by omega) (by omega), l9, ?_⟩
    have b3 := (b2.hi (show _ = 217 + 214 * (i + 1) by omega)).sp (a := 216) (k := i) (v := 217 + 214 * i + 1) (by omega) (Or.inr rfl)
    have lp := lp_X8_init_14 (F := F) hQ n (i + 1) (j + 1) (sP M2 216 i (217 + 214 * i + 1)) (by omega) hj1 b3 (by rw [mP_sP, if_neg (by omega), p2 215 0 (by omega)]; exact f) fun q hq => by
      rw [mP_sP]
      by_cases e : q = i
      · rw [if_pos ⟨rfl, e⟩, e]; omega
      · rw [if_neg (fun c => e c.2), p2 216 q (by omega)]
        exact a q (by omega)
    rw [show 1 + 214 * (i + 1) = 1 + 214 * i + 214 by omega, show 4 + 2244 * (i + 1) = 4 + 2244 * i + 2244 by omega] at lp
    exact lp
theorem sp_X8_init (hn : mN M = 216) (hz : Zr M) (hQ : ∀ M', CB 215 858 M M' → Q none M') : Tr false l G Y_X8_init [.ref 215] M Q QX := by
  refine en_X8_init fun F => ?_
  have k0 := k_U
  have k1 := k_U1
  have b0 : BI EU 215 216 M M := (BI.start (o := 215) hn hz).mono fun b h => Or.inl h
  have b1 := (b0.an (by omega) fun k c => absurd (Or.inr rfl) c).sp (a := 215) (k := 0) (v := 217) (by omega) (Or.inl rfl)
  simp only [R_X8_init_0, I_oi, I_naA, I_pp, mN_sP, mN_aN, hn, k0, k1, I_ic, I_lc, I_nul, I_il, I_ll, I_al, I_is, I_ls, I_as, I_inc, I_iadd, I_isub, I_imul, I_iand, I_ladd, I_lsub, I_lmul, I_land, I_lor, I_idiv, I_irem, I_ishr, I_lshl, I_lshr, I_lushr, I_lcmp, I_i2l, I_l2i, I_dup, I_pop, I_dup2, I_ifeq, I_ifne, I_iflt, I_ifge, I_ifgt, I_ifle, I_iceq, I_icne, I_iclt, I_icge, I_icgt, I_icle, I_ifnull, I_ifnonnull, I_sw, swK, I_gi, I_gl, I_gp, I_pi, I_pl, I_ial, I_lal, I_ias, I_las, I_aal, I_len, I_ir, I_zr, I_lr, I_vr, I_ar, I_cv, I_cs, I_csN, I_max, I_min, I_cpi, I_cpl, I_kl, popA, gt0, gt1, gt2, gt3, gt4, gt5, gt6, gt7, gt8, gt9, gt10, gt11, gt12, s1_0, s1_1, s1_2, s1_3, s1_4, s1_5, s1_6, s1_7, s1_8, s1_9, s1_10, s1_11, s1_12, s2_0, s2_1, s2_2, s2_3, s2_4, s2_5, s2_6, s2_7, s2_8, s2_9, s2_10, s2_11, se_0, se_1, se_2, se_3, se_4, se_5, se_6, se_7, se_8, se_9, se_10, se_11, se_12, kil_i, kil_l, kil_r, kil_n, kil_x, ap_done, ap_pend, ap_dbt, ap_rel, ap_wrk, ap_trade, ap_mentor, ap_refused, ap_wdays, ap_today, ap_moves, st_day, st_needs, st_ments, st_aps, ap_eta, st_eta, Value.category, List.map_cons, List.map_nil, List.sum_cons, List.sum_nil, Option.toList_some, Option.toList_none, List.cons_append, List.nil_append, Nat.reduceAdd, Nat.reduceLeDiff, true_and, and_true, true_or, or_true, forall_const, not_true_eq_false, false_implies, not_false_eq_true, false_and, ↓reduceIte, ad_1, ad_2, ad_3, ad_4, ad_5, nq_2]
  have q1 : (215 : Nat) < 217 := by omega
  refine ⟨q1, ?_⟩
  exact lp_X8_init_14 hQ 4 0 0 _ rfl rfl b1 (by rw [mP_sP, if_pos ⟨rfl, rfl⟩]) fun q hq => absurd hq (Nat.not_lt_zero _)
theorem sp_X3_init (hn : mN M = 1074) (hz : Zr M) (hQ : ∀ M', CB 1073 25 M M' → Q none M') : Tr false l G Y_X3_init [.ref 1073] M Q QX := by
  refine en_X3_init fun F => ?_
  have k0 := k_C
  have k1 := k_C1
  have k2 := k_C2
  have k3 := k_C3
  have kr : ∀ j, j < 21 → KX (1076 + 1 + j) = (2, 0, 3) := fun j hj => k_Cn j hj
  have b0 := BI.start (o := 1073) hn hz
  have b1 := (b0.an (by omega) fun k _ => pv_2 k1 k).sp (a := 1073) (k := 0) (v := 1075) (by omega) rfl
  have b2 := (b1.an (by omega) fun k _ => pvC2 k).sp (a := 1073) (k := 1) (v := 1076) (by omega) rfl
  have b3 := (b2.mn (by omega) k3 kr).sp (a := 1073) (k := 2) (v := 1077) (by omega) rfl
  simp only [R_X3_init_0, I_oi, I_naI, I_naA, I_mnA, I_pp, mN_sP, mN_aN, mN_mn, hn, k0, k1, k2, k3, I_ic, I_lc, I_nul, I_il, I_ll, I_al, I_is, I_ls, I_as, I_inc, I_iadd, I_isub, I_imul, I_iand, I_ladd, I_lsub, I_lmul, I_land, I_lor, I_idiv, I_irem, I_ishr, I_lshl, I_lshr, I_lushr, I_lcmp, I_i2l, I_l2i, I_dup, I_pop, I_dup2, I_ifeq, I_ifne, I_iflt, I_ifge, I_ifgt, I_ifle, I_iceq, I_icne, I_iclt, I_icge, I_icgt, I_icle, I_ifnull, I_ifnonnull, I_sw, swK, I_gi, I_gl, I_gp, I_pi, I_pl, I_ial, I_lal, I_ias, I_las, I_aal, I_len, I_ir, I_zr, I_lr, I_vr, I_ar, I_cv, I_cs, I_csN, I_max, I_min, I_cpi, I_cpl, I_kl, popA, gt0, gt1, gt2, gt3, gt4, gt5, gt6, gt7, gt8, gt9, gt10, gt11, gt12, s1_0, s1_1, s1_2, s1_3, s1_4, s1_5, s1_6, s1_7, s1_8, s1_9, s1_10, s1_11, s1_12, s2_0, s2_1, s2_2, s2_3, s2_4, s2_5, s2_6, s2_7, s2_8, s2_9, s2_10, s2_11, se_0, se_1, se_2, se_3, se_4, se_5, se_6, se_7, se_8, se_9, se_10, se_11, se_12, kil_i, kil_l, kil_r, kil_n, kil_x, ap_done, ap_pend, ap_dbt, ap_rel, ap_wrk, ap_trade, ap_mentor, ap_refused, ap_wdays, ap_today, ap_moves, st_day, st_needs, st_ments, st_aps, ap_eta, st_eta, Value.category, List.map_cons, List.map_nil, List.sum_cons, List.sum_nil, Option.toList_some, Option.toList_none, List.cons_append, List.nil_append, Nat.reduceAdd, Nat.reduceLeDiff, true_and, and_true, true_or, or_true, forall_const, not_true_eq_false, false_implies, not_false_eq_true, false_and, ↓reduceIte, ad_1, ad_2, ad_3, ad_4, ad_5, nq_2]
  refine ⟨by decide, by decide, k_Cn, by decide, hQ _ (b3.fin fun b k g1 g2 g3 g4 => ?_)⟩
  subst g3
  rw [pvC] at g4 ⊢
  have p3 : ∀ k, mP (sP (mnM (sP (aN (sP (aN M) 1073 0 1075)) 1073 1 1076) 21) 1073 2 1077) 1073 k = if k = 2 then 1077 else if k = 1 then 1076 else if k = 0 then 1075 else mP (aN M) 1073 k := fun k => by
    rw [mP_sP]
    by_cases e2 : k = 2
    · rw [if_pos ⟨rfl, e2⟩, if_pos e2]
    rw [if_neg (fun c => e2 c.2), if_neg e2, mn_p _ 21 k (by rw [b2.1]; omega), mP_sP]
    by_cases e1 : k = 1
    · rw [if_pos ⟨rfl, e1⟩, if_pos e1]
    rw [if_neg (fun c => e1 c.2), if_neg e1, an_p _ k (by rw [b1.1]; omega), mP_sP]
    by_cases e0 : k = 0
    · rw [if_pos ⟨rfl, e0⟩, if_pos e0]
    rw [if_neg (fun c => e0 c.2), if_neg e0]
  rw [p3]
  have hk3 : k = 0 ∨ k = 1 ∨ k = 2 := by
    by_cases e0 : k = 0
    · omega
    by_cases e1 : k = 1
    · omega
    by_cases e2 : k = 2
    · omega
    · rw [if_neg e0, if_neg e1, if_neg e2] at g4
      exact absurd rfl g4
  rcases hk3 with rfl | rfl | rfl <;> rfl
theorem sp_X9_init (hn : mN M = 1) (hz : Zr M) (hQ : ∀ M', CB 0 1098 M M' → Q none M') : Tr false l G Y_X9_init [.ref 0] M Q QX := by
  refine en_X9_init fun F => ?_
  have k0 := k_F
  have k1 := k_S
  have k2 := k_U
  have k3 := k_C
  have b0 := BI.start (o := 0) hn hz
  simp only [R_X9_init_0, I_oi, I_new, I_ci, I_pp, mN_sP, mN_aN, hn, k0, k1, I_ic, I_lc, I_nul, I_il, I_ll, I_al, I_is, I_ls, I_as, I_inc, I_iadd, I_isub, I_imul, I_iand, I_ladd, I_lsub, I_lmul, I_land, I_lor, I_idiv, I_irem, I_ishr, I_lshl, I_lshr, I_lushr, I_lcmp, I_i2l, I_l2i, I_dup, I_pop, I_dup2, I_ifeq, I_ifne, I_iflt, I_ifge, I_ifgt, I_ifle, I_iceq, I_icne, I_iclt, I_icge, I_icgt, I_icle, I_ifnull, I_ifnonnull, I_sw, swK, I_gi, I_gl, I_gp, I_pi, I_pl, I_ial, I_lal, I_ias, I_las, I_aal, I_len, I_ir, I_zr, I_lr, I_vr, I_ar, I_cv, I_cs, I_csN, I_max, I_min, I_cpi, I_cpl, I_kl, popA, gt0, gt1, gt2, gt3, gt4, gt5, gt6, gt7, gt8, gt9, gt10, gt11, gt12, s1_0, s1_1, s1_2, s1_3, s1_4, s1_5, s1_6, s1_7, s1_8, s1_9, s1_10, s1_11, s1_12, s2_0, s2_1, s2_2, s2_3, s2_4, s2_5, s2_6, s2_7, s2_8, s2_9, s2_10, s2_11, se_0, se_1, se_2, se_3, se_4, se_5, se_6, se_7, se_8, se_9, se_10, se_11, se_12, kil_i, kil_l, kil_r, kil_n, kil_x, ap_done, ap_pend, ap_dbt, ap_rel, ap_wrk, ap_trade, ap_mentor, ap_refused, ap_wdays, ap_today, ap_moves, st_day, st_needs, st_ments, st_aps, ap_eta, st_eta, Value.category, List.map_cons, List.map_nil, List.sum_cons, List.sum_nil, Option.toList_some, Option.toList_none, List.cons_append, List.nil_append, Nat.reduceAdd, Nat.reduceLeDiff, true_and, and_true, true_or, or_true, forall_const, not_true_eq_false, false_implies, not_false_eq_true, false_and, ↓reduceIte, ad_1, ad_2, ad_3, ad_4, ad_5, nq_2]
  refine sp_X7_init (S := 1) kF_st (by decide) (by rw [mN_aN, hn]) hz.an fun M1 c1 => ?_
  obtain ⟨b1, p1⟩ := b0.cb (by omega) c1
  have n1 : mN M1 = 215 := by rw [b1.1]
  have b1' := BI.sp (b1.hi (h2 := 215) rfl) (a := 0) (k := 0) (v := 2) (Nat.le_refl 0) rfl
  simp only [R_X9_init_0, I_oi, I_new, I_ci, I_pp, mN_sP, mN_aN, n1, k0, k2, I_ic, I_lc, I_nul, I_il, I_ll, I_al, I_is, I_ls, I_as, I_inc, I_iadd, I_isub, I_imul, I_iand, I_ladd, I_lsub, I_lmul, I_land, I_lor, I_idiv, I_irem, I_ishr, I_lshl, I_lshr, I_lushr, I_lcmp, I_i2l, I_l2i, I_dup, I_pop, I_dup2, I_ifeq, I_ifne, I_iflt, I_ifge, I_ifgt, I_ifle, I_iceq, I_icne, I_iclt, I_icge, I_icgt, I_icle, I_ifnull, I_ifnonnull, I_sw, swK, I_gi, I_gl, I_gp, I_pi, I_pl, I_ial, I_lal, I_ias, I_las, I_aal, I_len, I_ir, I_zr, I_lr, I_vr, I_ar, I_cv, I_cs, I_csN, I_max, I_min, I_cpi, I_cpl, I_kl, popA, gt0, gt1, gt2, gt3, gt4, gt5, gt6, gt7, gt8, gt9, gt10, gt11, gt12, s1_0, s1_1, s1_2, s1_3, s1_4, s1_5, s1_6, s1_7, s1_8, s1_9, s1_10, s1_11, s1_12, s2_0, s2_1, s2_2, s2_3, s2_4, s2_5, s2_6, s2_7, s2_8, s2_9, s2_10, s2_11, se_0, se_1, se_2, se_3, se_4, se_5, se_6, se_7, se_8, se_9, se_10, se_11, se_12, kil_i, kil_l, kil_r, kil_n, kil_x, ap_done, ap_pend, ap_dbt, ap_rel, ap_wrk, ap_trade, ap_mentor, ap_refused, ap_wdays, ap_today, ap_moves, st_day, st_needs, st_ments, st_aps, ap_eta, st_eta, Value.category, List.map_cons, List.map_nil, List.sum_cons, List.sum_nil, Option.toList_some, Option.toList_none, List.cons_append, List.nil_append, Nat.reduceAdd, Nat.reduceLeDiff, true_and, and_true, true_or, or_true, forall_const, not_true_eq_false, false_implies, not_false_eq_true, false_and, ↓reduceIte, ad_1, ad_2, ad_3, ad_4, ad_5, nq_2]
  refine ⟨by decide, sp_X8_init (by rw [mN_aN, b1'.1]) b1'.2.1.an fun M2 c2 => ?_⟩
  obtain ⟨b2, p2⟩ := b1'.cb (by omega) c2
  have n2 : mN M2 = 1073 := by rw [b2.1]
  have b2' := BI.sp (b2.hi (h2 := 1073) rfl) (a := 0) (k := 1) (v := 216) (Nat.le_refl 0) rfl
  simp only [R_X9_init_0, I_oi, I_new, I_ci, I_pp, mN_sP, mN_aN, n2, k0, k3, I_ic, I_lc, I_nul, I_il, I_ll, I_al, I_is, I_ls, I_as, I_inc, I_iadd, I_isub, I_imul, I_iand, I_ladd, I_lsub, I_lmul, I_land, I_lor, I_idiv, I_irem, I_ishr, I_lshl, I_lshr, I_lushr, I_lcmp, I_i2l, I_l2i, I_dup, I_pop, I_dup2, I_ifeq, I_ifne, I_iflt, I_ifge, I_ifgt, I_ifle, I_iceq, I_icne, I_iclt, I_icge, I_icgt, I_icle, I_ifnull, I_ifnonnull, I_sw, swK, I_gi, I_gl, I_gp, I_pi, I_pl, I_ial, I_lal, I_ias, I_las, I_aal, I_len, I_ir, I_zr, I_lr, I_vr, I_ar, I_cv, I_cs, I_csN, I_max, I_min, I_cpi, I_cpl, I_kl, popA, gt0, gt1, gt2, gt3, gt4, gt5, gt6, gt7, gt8, gt9, gt10, gt11, gt12, s1_0, s1_1, s1_2, s1_3, s1_4, s1_5, s1_6, s1_7, s1_8, s1_9, s1_10, s1_11, s1_12, s2_0, s2_1, s2_2, s2_3, s2_4, s2_5, s2_6, s2_7, s2_8, s2_9, s2_10, s2_11, se_0, se_1, se_2, se_3, se_4, se_5, se_6, se_7, se_8, se_9, se_10, se_11, se_12, kil_i, kil_l, kil_r, kil_n, kil_x, ap_done, ap_pend, ap_dbt, ap_rel, ap_wrk, ap_trade, ap_mentor, ap_refused, ap_wdays, ap_today, ap_moves, st_day, st_needs, st_ments, st_aps, ap_eta, st_eta, Value.category, List.map_cons, List.map_nil, List.sum_cons, List.sum_nil, Option.toList_some, Option.toList_none, List.cons_append, List.nil_append, Nat.reduceAdd, Nat.reduceLeDiff, true_and, and_true, true_or, or_true, forall_const, not_true_eq_false, false_implies, not_false_eq_true, false_and, ↓reduceIte, ad_1, ad_2, ad_3, ad_4, ad_5, nq_2]
  refine ⟨by decide, sp_X3_init (by rw [mN_aN, b2'.1]) b2'.2.1.an fun M3 c3 => ?_⟩
  obtain ⟨b3, p3⟩ := b2'.cb (by omega) c3
  have n3 : mN M3 = 1098 := by rw [b3.1]
  have b3' := BI.sp (b3.hi (h2 := 0 + 1098) rfl) (a := 0) (k := 2) (v := 1074) (Nat.le_refl 0) rfl
  simp only [R_X9_init_0, I_oi, I_new, I_ci, I_pp, mN_sP, mN_aN, n3, k0, I_ic, I_lc, I_nul, I_il, I_ll, I_al, I_is, I_ls, I_as, I_inc, I_iadd, I_isub, I_imul, I_iand, I_ladd, I_lsub, I_lmul, I_land, I_lor, I_idiv, I_irem, I_ishr, I_lshl, I_lshr, I_lushr, I_lcmp, I_i2l, I_l2i, I_dup, I_pop, I_dup2, I_ifeq, I_ifne, I_iflt, I_ifge, I_ifgt, I_ifle, I_iceq, I_icne, I_iclt, I_icge, I_icgt, I_icle, I_ifnull, I_ifnonnull, I_sw, swK, I_gi, I_gl, I_gp, I_pi, I_pl, I_ial, I_lal, I_ias, I_las, I_aal, I_len, I_ir, I_zr, I_lr, I_vr, I_ar, I_cv, I_cs, I_csN, I_max, I_min, I_cpi, I_cpl, I_kl, popA, gt0, gt1, gt2, gt3, gt4, gt5, gt6, gt7, gt8, gt9, gt10, gt11, gt12, s1_0, s1_1, s1_2, s1_3, s1_4, s1_5, s1_6, s1_7, s1_8, s1_9, s1_10, s1_11, s1_12, s2_0, s2_1, s2_2, s2_3, s2_4, s2_5, s2_6, s2_7, s2_8, s2_9, s2_10, s2_11, se_0, se_1, se_2, se_3, se_4, se_5, se_6, se_7, se_8, se_9, se_10, se_11, se_12, kil_i, kil_l, kil_r, kil_n, kil_x, ap_done, ap_pend, ap_dbt, ap_rel, ap_wrk, ap_trade, ap_mentor, ap_refused, ap_wdays, ap_today, ap_moves, st_day, st_needs, st_ments, st_aps, ap_eta, st_eta, Value.category, List.map_cons, List.map_nil, List.sum_cons, List.sum_nil, Option.toList_some, Option.toList_none, List.cons_append, List.nil_append, Nat.reduceAdd, Nat.reduceLeDiff, true_and, and_true, true_or, or_true, forall_const, not_true_eq_false, false_implies, not_false_eq_true, false_and, ↓reduceIte, ad_1, ad_2, ad_3, ad_4, ad_5, nq_2]
  refine ⟨by decide, hQ _ (b3'.fin fun b k g1 g2 g3 g4 => ?_)⟩
  subst g3
  rw [pvF] at g4 ⊢
  have pp : ∀ k, mP (sP M3 0 2 1074) 0 k = if k = 2 then 1074 else if k = 1 then 216 else if k = 0 then 2 else mP M1 0 k := fun k => by
    rw [mP_sP]
    by_cases e2 : k = 2
    · rw [if_pos ⟨rfl, e2⟩, if_pos e2]
    rw [if_neg (fun c => e2 c.2), if_neg e2, p3 0 k (by omega), mP_sP]
    by_cases e1 : k = 1
    · rw [if_pos ⟨rfl, e1⟩, if_pos e1]
    rw [if_neg (fun c => e1 c.2), if_neg e1, p2 0 k (by omega), mP_sP]
    by_cases e0 : k = 0
    · rw [if_pos ⟨rfl, e0⟩, if_pos e0]
    rw [if_neg (fun c => e0 c.2), if_neg e0]
  rw [pp]
  have hk3 : k = 0 ∨ k = 1 ∨ k = 2 := by
    by_cases e0 : k = 0
    · omega
    by_cases e1 : k = 1
    · omega
    by_cases e2 : k = 2
    · omega
    · rw [if_neg e0, if_neg e1, if_neg e2] at g4
      exact absurd rfl g4
  rcases hk3 with rfl | rfl | rfl <;> rfl
end SPch
