/-! ===== what stays well ===== -/
theorem WfA.of {X Y : St} {x : Ap} (h : WfA X x) (h1 : X.needs.length ≤ Y.needs.length) (h2 : X.ments.length ≤ Y.ments.length) : WfA Y x := ⟨h.t0, by have := h.t1; omega, h.m0, by have := h.m1; omega, h.dn, h.ln, h.td, h.rf, h.wd, h.mv, h.ep, h.ed⟩
theorem fl_len {α : Type} (f : α → Bool) : ∀ L : List α, (L.filter (fun e => !f e)).length + (L.filter f).length = L.length
  | [] => rfl
  | e :: L => by
    have := fl_len f L
    cases h : f e <;> simp [h] <;> omega
theorem WfA.dbt {X : St} {x : Ap} (h : WfA X x) (f : En → Bool) : WfA X (aDbt x f) := ⟨h.t0, h.t1, h.m0, h.m1, h.dn, by
  have h1 := h.ln
  have h2 := fl_len f x.pend
  simp only [aDbt, List.length_append]
  omega, h.td, h.rf, h.wd, h.mv, fun e he => h.ep e (List.mem_filter.mp he).1, fun e he => by
  simp only [aDbt, List.mem_append] at he
  rcases he with he | he
  · exact h.ed e he
  · exact h.ep e (List.mem_filter.mp he).1⟩
theorem WfA.pd {X : St} {x : Ap} (h : WfA X x) (d : Int) : WfA X (pdA d x) :=
  have h2 := h.dbt (fun e => decide (e.2.2.1 ≤ d - 14))
  ⟨h2.t0, h2.t1, h2.m0, h2.m1, h2.dn, h2.ln, ⟨Int.le_refl 0, by show (0 : Int) ≤ 12; omega⟩, h2.rf, h2.wd, h2.mv, h2.ep, h2.ed⟩
theorem WfS.pass {X : St} (h : WfS X) (hd : X.day < 9999) : WfS X.pass := ⟨by have := h.day; simp only [St.pass]; omega, h.l5, h.l6, by simpa [St.pass] using h.l10, h.nb, h.mb, fun x hx => by
  simp only [St.pass, List.mem_map] at hx
  obtain ⟨z, hz, rfl⟩ := hx
  exact ((h.ab z hz).pd X.day).of (Nat.le_refl _) (Nat.le_refl _)⟩
section SPS7
variable {l : Launch} {G : GT} {M : Mm} {Q : PQ} {QX : PX} {S : Nat} {X : St}
theorem lp_X7_passDays {F : FX} {d : Int32} : ∀ (n : Nat) (X : St) (w : Nat) (j : Int32) (M1 : Mm), StAt M1 S X → WfS X → Sm M M1 S (S + 214) → j.toInt = w → d.toInt = ((w + n : Nat) : Int) → X.day + n ≤ 9999 → (∀ M2, StAt M2 S (X.passN n) → Sm M M2 S (S + 214) → Q none M2) → Wj true l G F Y_X7_passDays Q QX 0 0 2 [.ref S, .int d, .int j] [] M1
  | 0, X, w, j, M1, h, ws, hs, hj, hd, hl, hQ => by
    refine g_X7_passDays_2 _ _ _ ?_
    have hk := h.k
    simp only [R_X7_passDays_2, hk, i_lt, i_le, i_eq, tI_0, tI_1, tI_2, tI_3, tI_4, tI_5, tI_6, tI_7, tI_8, tI_9, tI_10, tI_11, tI_12, tI_14, tI_20, tI_31, tI_32, tI_48, tI_57, tI_59, tI_96, tI_97, tI_99, tI_100, tI_122, tI_127, tI_150, tI_199, tI_200, tI_255, tI_427, tI_1708, tI_2000, tI_9999, tI_m1, tI_m10, cN_0, cN_1, cN_2, cN_3, cN_4, cN_5, cN_6, cN_7, cN_8, cN_9, cN_10, cN_11, cN_12, cN_14, cN_20, cN_31, cN_32, cN_48, cN_57, cN_59, cN_96, cN_97, cN_99, cN_100, cN_122, cN_127, cN_150, cN_199, cN_200, cN_255, cN_427, cN_1708, cN_2000, cN_9999, I_ic, I_lc, I_nul, I_il, I_ll, I_al, I_is, I_ls, I_as, I_inc, I_iadd, I_isub, I_imul, I_iand, I_ladd, I_lsub, I_lmul, I_land, I_lor, I_idiv, I_irem, I_ishr, I_lshl, I_lshr, I_lushr, I_lcmp, I_i2l, I_l2i, I_dup, I_pop, I_dup2, I_ifeq, I_ifne, I_iflt, I_ifge, I_ifgt, I_ifle, I_iceq, I_icne, I_iclt, I_icge, I_icgt, I_icle, I_ifnull, I_ifnonnull, I_sw, swK, I_gi, I_gl, I_gp, I_pi, I_pl, I_ial, I_lal, I_ias, I_las, I_aal, I_len, I_ir, I_zr, I_lr, I_vr, I_ar, I_cv, I_cs, I_csN, I_max, I_min, I_cpi, I_cpl, I_kl, popA, gt0, gt1, gt2, gt3, gt4, gt5, gt6, gt7, gt8, gt9, gt10, gt11, gt12, s1_0, s1_1, s1_2, s1_3, s1_4, s1_5, s1_6, s1_7, s1_8, s1_9, s1_10, s1_11, s1_12, s2_0, s2_1, s2_2, s2_3, s2_4, s2_5, s2_6, s2_7, s2_8, s2_9, s2_10, s2_11, se_0, se_1, se_2, se_3, se_4, se_5, se_6, se_7, se_8, se_9, se_10, se_11, se_12, kil_i, kil_l, kil_r, kil_n, kil_x, Value.category, List.map_cons, List.map_nil, List.sum_cons, List.sum_nil, Option.toList_some, Option.toList_none, List.cons_append, List.nil_append, Nat.reduceAdd, Nat.reduceLeDiff, true_and, and_true, true_or, or_true, forall_const, not_true_eq_false, false_implies, not_false_eq_true, false_and, ↓reduceIte, ad_1, ad_2, ad_3, ad_4, ad_5, nq_2]
    rw [hj, hd]
    exact ⟨fun g => hQ M1 h hs, fun g => by omega⟩
  | n + 1, X, w, j, M1, h, ws, hs, hj, hd, hl, hQ => by
    refine g_X7_passDays_2 _ _ _ ?_
    have hk := h.k
    have hb := i_b d
    have hj1 : (j + 1).toInt = ((w + 1 : Nat) : Int) := by rw [i_add, hj]; rfl; all_goals rw [hj, tI_1]; omega
    simp only [R_X7_passDays_2, hk, i_lt, i_le, i_eq, tI_0, tI_1, tI_2, tI_3, tI_4, tI_5, tI_6, tI_7, tI_8, tI_9, tI_10, tI_11, tI_12, tI_14, tI_20, tI_31, tI_32, tI_48, tI_57, tI_59, tI_96, tI_97, tI_99, tI_100, tI_122, tI_127, tI_150, tI_199, tI_200, tI_255, tI_427, tI_1708, tI_2000, tI_9999, tI_m1, tI_m10, cN_0, cN_1, cN_2, cN_3, cN_4, cN_5, cN_6, cN_7, cN_8, cN_9, cN_10, cN_11, cN_12, cN_14, cN_20, cN_31, cN_32, cN_48, cN_57, cN_59, cN_96, cN_97, cN_99, cN_100, cN_122, cN_127, cN_150, cN_199, cN_200, cN_255, cN_427, cN_1708, cN_2000, cN_9999, I_ic, I_lc, I_nul, I_il, I_ll, I_al, I_is, I_ls, I_as, I_inc, I_iadd, I_isub, I_imul, I_iand, I_ladd, I_lsub, I_lmul, I_land, I_lor, I_idiv, I_irem, I_ishr, I_lshl, I_lshr, I_lushr, I_lcmp, I_i2l, I_l2i, I_dup, I_pop, I_dup2, I_ifeq, I_ifne, I_iflt, I_ifge, I_ifgt, I_ifle, I_iceq, I_icne, I_iclt, I_icge, I_icgt, I_icle, I_ifnull, I_ifnonnull, I_sw, swK, I_gi, I_gl, I_gp, I_pi, I_pl, I_ial, I_lal, I_ias, I_las, I_aal, I_len, I_ir, I_zr, I_lr, I_vr, I_ar, I_cv, I_cs, I_csN, I_max, I_min, I_cpi, I_cpl, I_kl, popA, gt0, gt1, gt2, gt3, gt4, gt5, gt6, gt7, gt8, gt9, gt10, gt11, gt12, s1_0, s1_1, s1_2, s1_3, s1_4, s1_5, s1_6, s1_7, s1_8, s1_9, s1_10, s1_11, s1_12, s2_0, s2_1, s2_2, s2_3, s2_4, s2_5, s2_6, s2_7, s2_8, s2_9, s2_10, s2_11, se_0, se_1, se_2, se_3, se_4, se_5, se_6, se_7, se_8, se_9, se_10, se_11, se_12, kil_i, kil_l, kil_r, kil_n, kil_x, Value.category, List.map_cons, List.map_nil, List.sum_cons, List.sum_nil, Option.toList_some, Option.toList_none, List.cons_append, List.nil_append, Nat.reduceAdd, Nat.reduceLeDiff, true_and, and_true, true_or, or_true, forall_const, not_true_eq_false, false_implies, not_false_eq_true, false_and, ↓reduceIte, ad_1, ad_2, ad_3, ad_4, ad_5, nq_2]
    rw [hj, hd]
    refine ⟨fun g => by omega, fun g => ?_⟩
    refine sp_X7_passDay h ws fun M2 h2 m2 => ?_
    intro r hr
    simp only [I_ic, I_lc, I_nul, I_il, I_ll, I_al, I_is, I_ls, I_as, I_inc, I_iadd, I_isub, I_imul, I_iand, I_ladd, I_lsub, I_lmul, I_land, I_lor, I_idiv, I_irem, I_ishr, I_lshl, I_lshr, I_lushr, I_lcmp, I_i2l, I_l2i, I_dup, I_pop, I_dup2, I_ifeq, I_ifne, I_iflt, I_ifge, I_ifgt, I_ifle, I_iceq, I_icne, I_iclt, I_icge, I_icgt, I_icle, I_ifnull, I_ifnonnull, I_sw, swK, I_gi, I_gl, I_gp, I_pi, I_pl, I_ial, I_lal, I_ias, I_las, I_aal, I_len, I_ir, I_zr, I_lr, I_vr, I_ar, I_cv, I_cs, I_csN, I_max, I_min, I_cpi, I_cpl, I_kl, popA, gt0, gt1, gt2, gt3, gt4, gt5, gt6, gt7, gt8, gt9, gt10, gt11, gt12, s1_0, s1_1, s1_2, s1_3, s1_4, s1_5, s1_6, s1_7, s1_8, s1_9, s1_10, s1_11, s1_12, s2_0, s2_1, s2_2, s2_3, s2_4, s2_5, s2_6, s2_7, s2_8, s2_9, s2_10, s2_11, se_0, se_1, se_2, se_3, se_4, se_5, se_6, se_7, se_8, se_9, se_10, se_11, se_12, kil_i, kil_l, kil_r, kil_n, kil_x, Value.category, List.map_cons, List.map_nil, List.sum_cons, List.sum_nil, Option.toList_some, Option.toList_none, List.cons_append, List.nil_append, Nat.reduceAdd, Nat.reduceLeDiff, true_and, and_true, true_or, or_true, forall_const, not_true_eq_false, false_implies, not_false_eq_true, false_and, ↓reduceIte, ad_1, ad_2, ad_3, ad_4, ad_5, nq_2]
    exact lp_X7_passDays n X.pass (w + 1) _ M2 h2 (ws.pass (by omega)) (hs.trans m2 (by omega) (by omega) (by omega) (by omega)) hj1 (by rw [hd]; omega) (by simp only [St.pass]; omega) hQ
theorem sp_X7_passDays {d : Int32} {n : Nat} (h : StAt M S X) (ws : WfS X) (hd : d.toInt = n) (hl : X.day + n ≤ 9999) (hQ : ∀ M2, StAt M2 S (X.passN n) → Sm M M2 S (S + 214) → Q none M2) : Tr true l G Y_X7_passDays [.ref S, .int d] M Q QX := by
  refine en_X7_passDays fun F => ?_
  simp only [R_X7_passDays_0, I_ic, I_lc, I_nul, I_il, I_ll, I_al, I_is, I_ls, I_as, I_inc, I_iadd, I_isub, I_imul, I_iand, I_ladd, I_lsub, I_lmul, I_land, I_lor, I_idiv, I_irem, I_ishr, I_lshl, I_lshr, I_lushr, I_lcmp, I_i2l, I_l2i, I_dup, I_pop, I_dup2, I_ifeq, I_ifne, I_iflt, I_ifge, I_ifgt, I_ifle, I_iceq, I_icne, I_iclt, I_icge, I_icgt, I_icle, I_ifnull, I_ifnonnull, I_sw, swK, I_gi, I_gl, I_gp, I_pi, I_pl, I_ial, I_lal, I_ias, I_las, I_aal, I_len, I_ir, I_zr, I_lr, I_vr, I_ar, I_cv, I_cs, I_csN, I_max, I_min, I_cpi, I_cpl, I_kl, popA, gt0, gt1, gt2, gt3, gt4, gt5, gt6, gt7, gt8, gt9, gt10, gt11, gt12, s1_0, s1_1, s1_2, s1_3, s1_4, s1_5, s1_6, s1_7, s1_8, s1_9, s1_10, s1_11, s1_12, s2_0, s2_1, s2_2, s2_3, s2_4, s2_5, s2_6, s2_7, s2_8, s2_9, s2_10, s2_11, se_0, se_1, se_2, se_3, se_4, se_5, se_6, se_7, se_8, se_9, se_10, se_11, se_12, kil_i, kil_l, kil_r, kil_n, kil_x, Value.category, List.map_cons, List.map_nil, List.sum_cons, List.sum_nil, Option.toList_some, Option.toList_none, List.cons_append, List.nil_append, Nat.reduceAdd, Nat.reduceLeDiff, true_and, and_true, true_or, or_true, forall_const, not_true_eq_false, false_implies, not_false_eq_true, false_and, ↓reduceIte, ad_1, ad_2, ad_3, ad_4, ad_5, nq_2]
  exact lp_X7_passDays n X 0 _ M h ws (Sm_refl _ _ _) rfl (by omega) hl hQ
/-! copying: what of S is already that of T -/
structure CpS (M1 : Mm) (S : Nat) (X : St) (a b c : Nat) : Prop where
  nt : (mI M1 S 5).toInt = X.needs.length
  nm : (mI M1 S 6).toInt = X.ments.length
  na : (mI M1 S 7).toInt = X.aps.length
  day : (mI M1 S 8).toInt = X.day
  needs : ∀ (t : Nat) n, t < a → X.needs[t]? = some n → ∀ p, p < 3 → (mI M1 (S + 2 + t) p).toInt = n p
  ments : ∀ (m : Nat) y, m < b → X.ments[m]? = some y → MtAt M1 (S + 28 + m) y
  aps : ∀ (i : Nat) x, i < c → X.aps[i]? = some x → ApAt M1 (S + 34 + 18 * i) x
theorem lp_X7_copy3 {F : FX} {T : Nat} (hS : KX S = (1, 5, 9)) (h : StAt M T X) (hd : S + 214 ≤ T ∨ T + 214 ≤ S) (hQ : ∀ M2, StAt M2 S X → Sm M M2 S (S + 214) → Q none M2) : ∀ (n i : Nat) (j : Int32) (M1 : Mm), i + n = X.aps.length → CpS M1 S X 5 6 i → Sm M M1 S (S + 214) → j.toInt = i → Wj true l G F Y_X7_copyState Q QX 0 0 99 [.ref S, .ref T, .int j] [] M1
  | 0, i, j, M1, hi, hc, hs, hj => by
    refine g_X7_copyState_99 _ _ _ ?_
    have hT := h.sm hs (by omega)
    simp only [R_X7_copyState_99, hS, k_s8, i_lt, i_le, i_eq, tI_0, tI_1, tI_2, tI_3, tI_4, tI_5, tI_6, tI_7, tI_8, tI_9, tI_10, tI_11, tI_12, tI_14, tI_20, tI_31, tI_32, tI_48, tI_57, tI_59, tI_96, tI_97, tI_99, tI_100, tI_122, tI_127, tI_150, tI_199, tI_200, tI_255, tI_427, tI_1708, tI_2000, tI_9999, tI_m1, tI_m10, cN_0, cN_1, cN_2, cN_3, cN_4, cN_5, cN_6, cN_7, cN_8, cN_9, cN_10, cN_11, cN_12, cN_14, cN_20, cN_31, cN_32, cN_48, cN_57, cN_59, cN_96, cN_97, cN_99, cN_100, cN_122, cN_127, cN_150, cN_199, cN_200, cN_255, cN_427, cN_1708, cN_2000, cN_9999, I_ic, I_lc, I_nul, I_il, I_ll, I_al, I_is, I_ls, I_as, I_inc, I_iadd, I_isub, I_imul, I_iand, I_ladd, I_lsub, I_lmul, I_land, I_lor, I_idiv, I_irem, I_ishr, I_lshl, I_lshr, I_lushr, I_lcmp, I_i2l, I_l2i, I_dup, I_pop, I_dup2, I_ifeq, I_ifne, I_iflt, I_ifge, I_ifgt, I_ifle, I_iceq, I_icne, I_iclt, I_icge, I_icgt, I_icle, I_ifnull, I_ifnonnull, I_sw, swK, I_gi, I_gl, I_gp, I_pi, I_pl, I_ial, I_lal, I_ias, I_las, I_aal, I_len, I_ir, I_zr, I_lr, I_vr, I_ar, I_cv, I_cs, I_csN, I_max, I_min, I_cpi, I_cpl, I_kl, popA, gt0, gt1, gt2, gt3, gt4, gt5, gt6, gt7, gt8, gt9, gt10, gt11, gt12, s1_0, s1_1, s1_2, s1_3, s1_4, s1_5, s1_6, s1_7, s1_8, s1_9, s1_10, s1_11, s1_12, s2_0, s2_1, s2_2, s2_3, s2_4, s2_5, s2_6, s2_7, s2_8, s2_9, s2_10, s2_11, se_0, se_1, se_2, se_3, se_4, se_5, se_6, se_7, se_8, se_9, se_10, se_11, se_12, kil_i, kil_l, kil_r, kil_n, kil_x, Value.category, List.map_cons, List.map_nil, List.sum_cons, List.sum_nil, Option.toList_some, Option.toList_none, List.cons_append, List.nil_append, Nat.reduceAdd, Nat.reduceLeDiff, true_and, and_true, true_or, or_true, forall_const, not_true_eq_false, false_implies, not_false_eq_true, false_and, ↓reduceIte, ad_1, ad_2, ad_3, ad_4, ad_5, nq_2]
    rw [hc.na, hj]
    refine ⟨fun g => hQ M1 ⟨hS, hc.nt, hc.nm, hc.na, hc.day, h.l5, h.l6, h.l10, fun t n ht => hc.needs t n (by have := lt_of ht; have := h.l5; omega) ht, fun m y hm => hc.ments m y (by have := lt_of hm; have := h.l6; omega) hm, fun k x hx => hc.aps k x (by have := lt_of hx; omega) hx⟩ hs, fun g => by omega⟩
  | n + 1, i, j, M1, hi, hc, hs, hj => by
    refine g_X7_copyState_99 _ _ _ ?_
    have hT := h.sm hs (by omega)
    have hkT := h.k
    have l10 := h.l10
    obtain ⟨x, hx, hdr⟩ := ex_of (L := X.aps) (i := i) (by omega)
    have hn : j.toNatClampNeg = i := by rw [i_cl, hj]; rfl
    have hka := k_sa hS i (by omega)
    have hj1 : (j + 1).toInt = ((i + 1 : Nat) : Int) := by rw [i_add, hj]; rfl; all_goals rw [hj, tI_1]; omega
    simp only [R_X7_copyState_99, hS, hkT, k_s8, hn, hka, i_lt, i_le, i_eq, tI_0, tI_1, tI_2, tI_3, tI_4, tI_5, tI_6, tI_7, tI_8, tI_9, tI_10, tI_11, tI_12, tI_14, tI_20, tI_31, tI_32, tI_48, tI_57, tI_59, tI_96, tI_97, tI_99, tI_100, tI_122, tI_127, tI_150, tI_199, tI_200, tI_255, tI_427, tI_1708, tI_2000, tI_9999, tI_m1, tI_m10, cN_0, cN_1, cN_2, cN_3, cN_4, cN_5, cN_6, cN_7, cN_8, cN_9, cN_10, cN_11, cN_12, cN_14, cN_20, cN_31, cN_32, cN_48, cN_57, cN_59, cN_96, cN_97, cN_99, cN_100, cN_122, cN_127, cN_150, cN_199, cN_200, cN_255, cN_427, cN_1708, cN_2000, cN_9999, I_ic, I_lc, I_nul, I_il, I_ll, I_al, I_is, I_ls, I_as, I_inc, I_iadd, I_isub, I_imul, I_iand, I_ladd, I_lsub, I_lmul, I_land, I_lor, I_idiv, I_irem, I_ishr, I_lshl, I_lshr, I_lushr, I_lcmp, I_i2l, I_l2i, I_dup, I_pop, I_dup2, I_ifeq, I_ifne, I_iflt, I_ifge, I_ifgt, I_ifle, I_iceq, I_icne, I_iclt, I_icge, I_icgt, I_icle, I_ifnull, I_ifnonnull, I_sw, swK, I_gi, I_gl, I_gp, I_pi, I_pl, I_ial, I_lal, I_ias, I_las, I_aal, I_len, I_ir, I_zr, I_lr, I_vr, I_ar, I_cv, I_cs, I_csN, I_max, I_min, I_cpi, I_cpl, I_kl, popA, gt0, gt1, gt2, gt3, gt4, gt5, gt6, gt7, gt8, gt9, gt10, gt11, gt12, s1_0, s1_1, s1_2, s1_3, s1_4, s1_5, s1_6, s1_7, s1_8, s1_9, s1_10, s1_11, s1_12, s2_0, s2_1, s2_2, s2_3, s2_4, s2_5, s2_6, s2_7, s2_8, s2_9, s2_10, s2_11, se_0, se_1, se_2, se_3, se_4, se_5, se_6, se_7, se_8, se_9, se_10, se_11, se_12, kil_i, kil_l, kil_r, kil_n, kil_x, Value.category, List.map_cons, List.map_nil, List.sum_cons, List.sum_nil, Option.toList_some, Option.toList_none, List.cons_append, List.nil_append, Nat.reduceAdd, Nat.reduceLeDiff, true_and, and_true, true_or, or_true, forall_const, not_true_eq_false, false_implies, not_false_eq_true, false_and, ↓reduceIte, ad_1, ad_2, ad_3, ad_4, ad_5, nq_2]
    rw [hc.na, hj]
    refine ⟨fun g => by omega, fun g => ⟨i_in (n := 10) (by omega) (by omega), i_in (n := 10) (by omega) (by omega), ?_⟩⟩
    refine sp_X1_copyApprentice hka (hT.aps i x hx) (by omega) fun M2 a2 m2 => ?_
    simp only [I_ic, I_lc, I_nul, I_il, I_ll, I_al, I_is, I_ls, I_as, I_inc, I_iadd, I_isub, I_imul, I_iand, I_ladd, I_lsub, I_lmul, I_land, I_lor, I_idiv, I_irem, I_ishr, I_lshl, I_lshr, I_lushr, I_lcmp, I_i2l, I_l2i, I_dup, I_pop, I_dup2, I_ifeq, I_ifne, I_iflt, I_ifge, I_ifgt, I_ifle, I_iceq, I_icne, I_iclt, I_icge, I_icgt, I_icle, I_ifnull, I_ifnonnull, I_sw, swK, I_gi, I_gl, I_gp, I_pi, I_pl, I_ial, I_lal, I_ias, I_las, I_aal, I_len, I_ir, I_zr, I_lr, I_vr, I_ar, I_cv, I_cs, I_csN, I_max, I_min, I_cpi, I_cpl, I_kl, popA, gt0, gt1, gt2, gt3, gt4, gt5, gt6, gt7, gt8, gt9, gt10, gt11, gt12, s1_0, s1_1, s1_2, s1_3, s1_4, s1_5, s1_6, s1_7, s1_8, s1_9, s1_10, s1_11, s1_12, s2_0, s2_1, s2_2, s2_3, s2_4, s2_5, s2_6, s2_7, s2_8, s2_9, s2_10, s2_11, se_0, se_1, se_2, se_3, se_4, se_5, se_6, se_7, se_8, se_9, se_10, se_11, se_12, kil_i, kil_l, kil_r, kil_n, kil_x, Value.category, List.map_cons, List.map_nil, List.sum_cons, List.sum_nil, Option.toList_some, Option.toList_none, List.cons_append, List.nil_append, Nat.reduceAdd, Nat.reduceLeDiff, true_and, and_true, true_or, or_true, forall_const, not_true_eq_false, false_implies, not_false_eq_true, false_and, ↓reduceIte, ad_1, ad_2, ad_3, ad_4, ad_5, nq_2]
    have e0 := (m2.1 S (by omega)).1
    refine lp_X7_copy3 hS h hd hQ n (i + 1) _ M2 (by omega) ⟨by rw [e0]; exact hc.nt, by rw [e0]; exact hc.nm, by rw [e0]; exact hc.na, by rw [e0]; exact hc.day, fun t n ht hn p hp => ?_, fun m y hm hy => (hc.ments m y hm hy).fr (m2.fr (by omega)), fun k z hk hz => ?_⟩ (hs.trans m2 (by omega) (by omega) (by omega) (by omega)) hj1
    · rw [(m2.1 _ (by omega)).1]
      exact hc.needs t n ht hn p hp
    · by_cases e : k = i
      · subst e
        rw [hx] at hz
        cases hz
        exact a2
      · exact (hc.aps k z (by omega) hz).fr (m2.fr (by omega))
theorem lp_X7_copy2 {F : FX} {T : Nat} (hS : KX S = (1, 5, 9)) (h : StAt M T X) (hd : S + 214 ≤ T ∨ T + 214 ≤ S) (hQ : ∀ M2, StAt M2 S X → Sm M M2 S (S + 214) → Q none M2) : ∀ (n i : Nat) (j : Int32) (M1 : Mm), i + n = X.ments.length → CpS M1 S X 5 i 0 → Sm M M1 S (S + 214) → j.toInt = i → Wj true l G F Y_X7_copyState Q QX 0 0 68 [.ref S, .ref T, .int j] [] M1
  | 0, i, j, M1, hi, hc, hs, hj => by
    refine g_X7_copyState_68 _ _ _ ?_
    have hT := h.sm hs (by omega)
    simp only [R_X7_copyState_68, hS, k_s7, i_lt, i_le, i_eq, tI_0, tI_1, tI_2, tI_3, tI_4, tI_5, tI_6, tI_7, tI_8, tI_9, tI_10, tI_11, tI_12, tI_14, tI_20, tI_31, tI_32, tI_48, tI_57, tI_59, tI_96, tI_97, tI_99, tI_100, tI_122, tI_127, tI_150, tI_199, tI_200, tI_255, tI_427, tI_1708, tI_2000, tI_9999, tI_m1, tI_m10, cN_0, cN_1, cN_2, cN_3, cN_4, cN_5, cN_6, cN_7, cN_8, cN_9, cN_10, cN_11, cN_12, cN_14, cN_20, cN_31, cN_32, cN_48, cN_57, cN_59, cN_96, cN_97, cN_99, cN_100, cN_122, cN_127, cN_150, cN_199, cN_200, cN_255, cN_427, cN_1708, cN_2000, cN_9999, I_ic, I_lc, I_nul, I_il, I_ll, I_al, I_is, I_ls, I_as, I_inc, I_iadd, I_isub, I_imul, I_iand, I_ladd, I_lsub, I_lmul, I_land, I_lor, I_idiv, I_irem, I_ishr, I_lshl, I_lshr, I_lushr, I_lcmp, I_i2l, I_l2i, I_dup, I_pop, I_dup2, I_ifeq, I_ifne, I_iflt, I_ifge, I_ifgt, I_ifle, I_iceq, I_icne, I_iclt, I_icge, I_icgt, I_icle, I_ifnull, I_ifnonnull, I_sw, swK, I_gi, I_gl, I_gp, I_pi, I_pl, I_ial, I_lal, I_ias, I_las, I_aal, I_len, I_ir, I_zr, I_lr, I_vr, I_ar, I_cv, I_cs, I_csN, I_max, I_min, I_cpi, I_cpl, I_kl, popA, gt0, gt1, gt2, gt3, gt4, gt5, gt6, gt7, gt8, gt9, gt10, gt11, gt12, s1_0, s1_1, s1_2, s1_3, s1_4, s1_5, s1_6, s1_7, s1_8, s1_9, s1_10, s1_11, s1_12, s2_0, s2_1, s2_2, s2_3, s2_4, s2_5, s2_6, s2_7, s2_8, s2_9, s2_10, s2_11, se_0, se_1, se_2, se_3, se_4, se_5, se_6, se_7, se_8, se_9, se_10, se_11, se_12, kil_i, kil_l, kil_r, kil_n, kil_x, Value.category, List.map_cons, List.map_nil, List.sum_cons, List.sum_nil, Option.toList_some, Option.toList_none, List.cons_append, List.nil_append, Nat.reduceAdd, Nat.reduceLeDiff, true_and, and_true, true_or, or_true, forall_const, not_true_eq_false, false_implies, not_false_eq_true, false_and, ↓reduceIte, ad_1, ad_2, ad_3, ad_4, ad_5, nq_2]
    rw [hc.nm, hj]
    refine ⟨fun g => lp_X7_copy3 hS h hd hQ X.aps.length 0 _ M1 (by omega) ⟨hc.nt, hc.nm, hc.na, hc.day, hc.needs, fun m y hm hy => hc.ments m y (by have := lt_of hy; omega) hy, fun k x hk => by omega⟩ hs rfl, fun g => by omega⟩
  | n + 1, i, j, M1, hi, hc, hs, hj => by
    refine g_X7_copyState_68 _ _ _ ?_
    have hT := h.sm hs (by omega)
    have hkT := h.k
    have l6 := h.l6
    obtain ⟨x, hx, hdr⟩ := ex_of (L := X.ments) (i := i) (by omega)
    have hn : j.toNatClampNeg = i := by rw [i_cl, hj]; rfl
    have hka := k_sm hS i (by omega)
    have hj1 : (j + 1).toInt = ((i + 1 : Nat) : Int) := by rw [i_add, hj]; rfl; all_goals rw [hj, tI_1]; omega
    simp only [R_X7_copyState_68, hS, hkT, k_s7, hn, hka, i_lt, i_le, i_eq, tI_0, tI_1, tI_2, tI_3, tI_4, tI_5, tI_6, tI_7, tI_8, tI_9, tI_10, tI_11, tI_12, tI_14, tI_20, tI_31, tI_32, tI_48, tI_57, tI_59, tI_96, tI_97, tI_99, tI_100, tI_122, tI_127, tI_150, tI_199, tI_200, tI_255, tI_427, tI_1708, tI_2000, tI_9999, tI_m1, tI_m10, cN_0, cN_1, cN_2, cN_3, cN_4, cN_5, cN_6, cN_7, cN_8, cN_9, cN_10, cN_11, cN_12, cN_14, cN_20, cN_31, cN_32, cN_48, cN_57, cN_59, cN_96, cN_97, cN_99, cN_100, cN_122, cN_127, cN_150, cN_199, cN_200, cN_255, cN_427, cN_1708, cN_2000, cN_9999, I_ic, I_lc, I_nul, I_il, I_ll, I_al, I_is, I_ls, I_as, I_inc, I_iadd, I_isub, I_imul, I_iand, I_ladd, I_lsub, I_lmul, I_land, I_lor, I_idiv, I_irem, I_ishr, I_lshl, I_lshr, I_lushr, I_lcmp, I_i2l, I_l2i, I_dup, I_pop, I_dup2, I_ifeq, I_ifne, I_iflt, I_ifge, I_ifgt, I_ifle, I_iceq, I_icne, I_iclt, I_icge, I_icgt, I_icle, I_ifnull, I_ifnonnull, I_sw, swK, I_gi, I_gl, I_gp, I_pi, I_pl, I_ial, I_lal, I_ias, I_las, I_aal, I_len, I_ir, I_zr, I_lr, I_vr, I_ar, I_cv, I_cs, I_csN, I_max, I_min, I_cpi, I_cpl, I_kl, popA, gt0, gt1, gt2, gt3, gt4, gt5, gt6, gt7, gt8, gt9, gt10, gt11, gt12, s1_0, s1_1, s1_2, s1_3, s1_4, s1_5, s1_6, s1_7, s1_8, s1_9, s1_10, s1_11, s1_12, s2_0, s2_1, s2_2, s2_3, s2_4, s2_5, s2_6, s2_7, s2_8, s2_9, s2_10, s2_11, se_0, se_1, se_2, se_3, se_4, se_5, se_6, se_7, se_8, se_9, se_10, se_11, se_12, kil_i, kil_l, kil_r, kil_n, kil_x, Value.category, List.map_cons, List.map_nil, List.sum_cons, List.sum_nil, Option.toList_some, Option.toList_none, List.cons_append, List.nil_append, Nat.reduceAdd, Nat.reduceLeDiff, true_and, and_true, true_or, or_true, forall_const, not_true_eq_false, false_implies, not_false_eq_true, false_and, ↓reduceIte, ad_1, ad_2, ad_3, ad_4, ad_5, nq_2]
    rw [hc.nm, hj]
    refine ⟨fun g => by omega, fun g => ⟨i_in (n := 6) (by omega) (by omega), i_in (n := 6) (by omega) (by omega), ?_⟩⟩
    refine sp_X6_copyMentor hka (hT.ments i x hx) (by omega) fun M2 a2 m2 => ?_
    simp only [I_ic, I_lc, I_nul, I_il, I_ll, I_al, I_is, I_ls, I_as, I_inc, I_iadd, I_isub, I_imul, I_iand, I_ladd, I_lsub, I_lmul, I_land, I_lor, I_idiv, I_irem, I_ishr, I_lshl, I_lshr, I_lushr, I_lcmp, I_i2l, I_l2i, I_dup, I_pop, I_dup2, I_ifeq, I_ifne, I_iflt, I_ifge, I_ifgt, I_ifle, I_iceq, I_icne, I_iclt, I_icge, I_icgt, I_icle, I_ifnull, I_ifnonnull, I_sw, swK, I_gi, I_gl, I_gp, I_pi, I_pl, I_ial, I_lal, I_ias, I_las, I_aal, I_len, I_ir, I_zr, I_lr, I_vr, I_ar, I_cv, I_cs, I_csN, I_max, I_min, I_cpi, I_cpl, I_kl, popA, gt0, gt1, gt2, gt3, gt4, gt5, gt6, gt7, gt8, gt9, gt10, gt11, gt12, s1_0, s1_1, s1_2, s1_3, s1_4, s1_5, s1_6, s1_7, s1_8, s1_9, s1_10, s1_11, s1_12, s2_0, s2_1, s2_2, s2_3, s2_4, s2_5, s2_6, s2_7, s2_8, s2_9, s2_10, s2_11, se_0, se_1, se_2, se_3, se_4, se_5, se_6, se_7, se_8, se_9, se_10, se_11, se_12, kil_i, kil_l, kil_r, kil_n, kil_x, Value.category, List.map_cons, List.map_nil, List.sum_cons, List.sum_nil, Option.toList_some, Option.toList_none, List.cons_append, List.nil_append, Nat.reduceAdd, Nat.reduceLeDiff, true_and, and_true, true_or, or_true, forall_const, not_true_eq_false, false_implies, not_false_eq_true, false_and, ↓reduceIte, ad_1, ad_2, ad_3, ad_4, ad_5, nq_2]
    have e0 := (m2.1 S (by omega)).1
    refine lp_X7_copy2 hS h hd hQ n (i + 1) _ M2 (by omega) ⟨by rw [e0]; exact hc.nt, by rw [e0]; exact hc.nm, by rw [e0]; exact hc.na, by rw [e0]; exact hc.day, fun t n ht hn p hp => ?_, fun k z hk hz => ?_, fun k z hk => by omega⟩ (hs.trans m2 (by omega) (by omega) (by omega) (by omega)) hj1
    · rw [(m2.1 _ (by omega)).1]
      exact hc.needs t n ht hn p hp
    · by_cases e : k = i
      · subst e
        rw [hx] at hz
        cases hz
        exact a2
      · exact (hc.ments k z (by omega) hz).fr (m2.fr (by omega))
theorem lp_X7_copy1 {F : FX} {T : Nat} (hS : KX S = (1, 5, 9)) (h : StAt M T X) (hd : S + 214 ≤ T ∨ T + 214 ≤ S) (hQ : ∀ M2, StAt M2 S X → Sm M M2 S (S + 214) → Q none M2) : ∀ (n i : Nat) (j : Int32) (M1 : Mm), i + n = X.needs.length → CpS M1 S X i 0 0 → Sm M M1 S (S + 214) → j.toInt = i → Wj true l G F Y_X7_copyState Q QX 0 0 34 [.ref S, .ref T, .int j] [] M1
  | 0, i, j, M1, hi, hc, hs, hj => by
    refine g_X7_copyState_34 _ _ _ ?_
    have hT := h.sm hs (by omega)
    simp only [R_X7_copyState_34, hS, k_s1, i_lt, i_le, i_eq, tI_0, tI_1, tI_2, tI_3, tI_4, tI_5, tI_6, tI_7, tI_8, tI_9, tI_10, tI_11, tI_12, tI_14, tI_20, tI_31, tI_32, tI_48, tI_57, tI_59, tI_96, tI_97, tI_99, tI_100, tI_122, tI_127, tI_150, tI_199, tI_200, tI_255, tI_427, tI_1708, tI_2000, tI_9999, tI_m1, tI_m10, cN_0, cN_1, cN_2, cN_3, cN_4, cN_5, cN_6, cN_7, cN_8, cN_9, cN_10, cN_11, cN_12, cN_14, cN_20, cN_31, cN_32, cN_48, cN_57, cN_59, cN_96, cN_97, cN_99, cN_100, cN_122, cN_127, cN_150, cN_199, cN_200, cN_255, cN_427, cN_1708, cN_2000, cN_9999, I_ic, I_lc, I_nul, I_il, I_ll, I_al, I_is, I_ls, I_as, I_inc, I_iadd, I_isub, I_imul, I_iand, I_ladd, I_lsub, I_lmul, I_land, I_lor, I_idiv, I_irem, I_ishr, I_lshl, I_lshr, I_lushr, I_lcmp, I_i2l, I_l2i, I_dup, I_pop, I_dup2, I_ifeq, I_ifne, I_iflt, I_ifge, I_ifgt, I_ifle, I_iceq, I_icne, I_iclt, I_icge, I_icgt, I_icle, I_ifnull, I_ifnonnull, I_sw, swK, I_gi, I_gl, I_gp, I_pi, I_pl, I_ial, I_lal, I_ias, I_las, I_aal, I_len, I_ir, I_zr, I_lr, I_vr, I_ar, I_cv, I_cs, I_csN, I_max, I_min, I_cpi, I_cpl, I_kl, popA, gt0, gt1, gt2, gt3, gt4, gt5, gt6, gt7, gt8, gt9, gt10, gt11, gt12, s1_0, s1_1, s1_2, s1_3, s1_4, s1_5, s1_6, s1_7, s1_8, s1_9, s1_10, s1_11, s1_12, s2_0, s2_1, s2_2, s2_3, s2_4, s2_5, s2_6, s2_7, s2_8, s2_9, s2_10, s2_11, se_0, se_1, se_2, se_3, se_4, se_5, se_6, se_7, se_8, se_9, se_10, se_11, se_12, kil_i, kil_l, kil_r, kil_n, kil_x, Value.category, List.map_cons, List.map_nil, List.sum_cons, List.sum_nil, Option.toList_some, Option.toList_none, List.cons_append, List.nil_append, Nat.reduceAdd, Nat.reduceLeDiff, true_and, and_true, true_or, or_true, forall_const, not_true_eq_false, false_implies, not_false_eq_true, false_and, ↓reduceIte, ad_1, ad_2, ad_3, ad_4, ad_5, nq_2]
    rw [hc.nt, hj]
    refine ⟨fun g => lp_X7_copy2 hS h hd hQ X.ments.length 0 _ M1 (by omega) ⟨hc.nt, hc.nm, hc.na, hc.day, fun t n ht hn => hc.needs t n (by have := lt_of hn; omega) hn, fun m y hm => by omega, fun k x hk => by omega⟩ hs rfl, fun g => by omega⟩
  | n + 1, i, j, M1, hi, hc, hs, hj => by
    refine g_X7_copyState_34 _ _ _ ?_
    have hT := h.sm hs (by omega)
    have hkT := h.k
    have l5 := h.l5
    obtain ⟨x, hx, hdr⟩ := ex_of (L := X.needs) (i := i) (by omega)
    have hn : j.toNatClampNeg = i := by rw [i_cl, hj]; rfl
    have hka := k_sn hS i (by omega)
    have hkb := k_sn hkT i (by omega)
    have hj1 : (j + 1).toInt = ((i + 1 : Nat) : Int) := by rw [i_add, hj]; rfl; all_goals rw [hj, tI_1]; omega
    simp only [R_X7_copyState_34, hS, hkT, k_s1, hn, hka, hkb, i_lt, i_le, i_eq, tI_0, tI_1, tI_2, tI_3, tI_4, tI_5, tI_6, tI_7, tI_8, tI_9, tI_10, tI_11, tI_12, tI_14, tI_20, tI_31, tI_32, tI_48, tI_57, tI_59, tI_96, tI_97, tI_99, tI_100, tI_122, tI_127, tI_150, tI_199, tI_200, tI_255, tI_427, tI_1708, tI_2000, tI_9999, tI_m1, tI_m10, cN_0, cN_1, cN_2, cN_3, cN_4, cN_5, cN_6, cN_7, cN_8, cN_9, cN_10, cN_11, cN_12, cN_14, cN_20, cN_31, cN_32, cN_48, cN_57, cN_59, cN_96, cN_97, cN_99, cN_100, cN_122, cN_127, cN_150, cN_199, cN_200, cN_255, cN_427, cN_1708, cN_2000, cN_9999, I_ic, I_lc, I_nul, I_il, I_ll, I_al, I_is, I_ls, I_as, I_inc, I_iadd, I_isub, I_imul, I_iand, I_ladd, I_lsub, I_lmul, I_land, I_lor, I_idiv, I_irem, I_ishr, I_lshl, I_lshr, I_lushr, I_lcmp, I_i2l, I_l2i, I_dup, I_pop, I_dup2, I_ifeq, I_ifne, I_iflt, I_ifge, I_ifgt, I_ifle, I_iceq, I_icne, I_iclt, I_icge, I_icgt, I_icle, I_ifnull, I_ifnonnull, I_sw, swK, I_gi, I_gl, I_gp, I_pi, I_pl, I_ial, I_lal, I_ias, I_las, I_aal, I_len, I_ir, I_zr, I_lr, I_vr, I_ar, I_cv, I_cs, I_csN, I_max, I_min, I_cpi, I_cpl, I_kl, popA, gt0, gt1, gt2, gt3, gt4, gt5, gt6, gt7, gt8, gt9, gt10, gt11, gt12, s1_0, s1_1, s1_2, s1_3, s1_4, s1_5, s1_6, s1_7, s1_8, s1_9, s1_10, s1_11, s1_12, s2_0, s2_1, s2_2, s2_3, s2_4, s2_5, s2_6, s2_7, s2_8, s2_9, s2_10, s2_11, se_0, se_1, se_2, se_3, se_4, se_5, se_6, se_7, se_8, se_9, se_10, se_11, se_12, kil_i, kil_l, kil_r, kil_n, kil_x, Value.category, List.map_cons, List.map_nil, List.sum_cons, List.sum_nil, Option.toList_some, Option.toList_none, List.cons_append, List.nil_append, Nat.reduceAdd, Nat.reduceLeDiff, true_and, and_true, true_or, or_true, forall_const, not_true_eq_false, false_implies, not_false_eq_true, false_and, ↓reduceIte, ad_1, ad_2, ad_3, ad_4, ad_5, nq_2]
    rw [hc.nt, hj]
    refine ⟨fun g => by omega, fun g => ⟨i_in (n := 5) (by omega) (by omega), i_in (n := 5) (by omega) (by omega), by decide, by decide, by decide, ?_⟩⟩
    have m2 : Sm M1 (cI M1 (T + 2 + i) 0 (S + 2 + i) 0 3) (S + 2 + i) (S + 2 + i + 1) := ⟨fun b hb => ⟨by funext k; rw [mI_cI, if_neg (by omega)], rfl⟩, rfl, rfl⟩
    have e0 := (m2.1 S (by omega)).1
    refine lp_X7_copy1 hS h hd hQ n (i + 1) _ _ (by omega) ⟨by rw [e0]; exact hc.nt, by rw [e0]; exact hc.nm, by rw [e0]; exact hc.na, by rw [e0]; exact hc.day, fun t nn ht hnn p hp => ?_, fun k z hk => by omega, fun k z hk => by omega⟩ (hs.trans m2 (by omega) (by omega) (by omega) (by omega)) hj1
    by_cases e : t = i
    · subst e
      rw [hx] at hnn
      cases hnn
      rw [mI_cI, if_pos rfl, cpy_eq, if_pos (by omega), ← hT.needs t x hx p hp]
      congr 2
      omega
    · rw [(m2.1 _ (by omega)).1]
      exact hc.needs t nn (by omega) hnn p hp
theorem sp_X7_copyState {T : Nat} (hS : KX S = (1, 5, 9)) (h : StAt M T X) (hd : S + 214 ≤ T ∨ T + 214 ≤ S) (hQ : ∀ M2, StAt M2 S X → Sm M M2 S (S + 214) → Q none M2) : Tr true l G Y_X7_copyState [.ref S, .ref T] M Q QX := by
  refine en_X7_copyState fun F => ?_
  have hkT := h.k
  have hne : ¬ T = S := by omega
  simp only [R_X7_copyState_0, hS, hkT, mI_sI, hne, I_ic, I_lc, I_nul, I_il, I_ll, I_al, I_is, I_ls, I_as, I_inc, I_iadd, I_isub, I_imul, I_iand, I_ladd, I_lsub, I_lmul, I_land, I_lor, I_idiv, I_irem, I_ishr, I_lshl, I_lshr, I_lushr, I_lcmp, I_i2l, I_l2i, I_dup, I_pop, I_dup2, I_ifeq, I_ifne, I_iflt, I_ifge, I_ifgt, I_ifle, I_iceq, I_icne, I_iclt, I_icge, I_icgt, I_icle, I_ifnull, I_ifnonnull, I_sw, swK, I_gi, I_gl, I_gp, I_pi, I_pl, I_ial, I_lal, I_ias, I_las, I_aal, I_len, I_ir, I_zr, I_lr, I_vr, I_ar, I_cv, I_cs, I_csN, I_max, I_min, I_cpi, I_cpl, I_kl, popA, gt0, gt1, gt2, gt3, gt4, gt5, gt6, gt7, gt8, gt9, gt10, gt11, gt12, s1_0, s1_1, s1_2, s1_3, s1_4, s1_5, s1_6, s1_7, s1_8, s1_9, s1_10, s1_11, s1_12, s2_0, s2_1, s2_2, s2_3, s2_4, s2_5, s2_6, s2_7, s2_8, s2_9, s2_10, s2_11, se_0, se_1, se_2, se_3, se_4, se_5, se_6, se_7, se_8, se_9, se_10, se_11, se_12, kil_i, kil_l, kil_r, kil_n, kil_x, Value.category, List.map_cons, List.map_nil, List.sum_cons, List.sum_nil, Option.toList_some, Option.toList_none, List.cons_append, List.nil_append, Nat.reduceAdd, Nat.reduceLeDiff, true_and, and_true, true_or, or_true, forall_const, not_true_eq_false, false_implies, not_false_eq_true, false_and, ↓reduceIte, ad_1, ad_2, ad_3, ad_4, ad_5, nq_2]
  have hb : ∀ b, b < S ∨ S + 1 ≤ b → ¬ b = S := fun b hb => by omega
  refine lp_X7_copy1 hS h hd hQ X.needs.length 0 _ _ (by omega) ⟨by simp [mI_sI]; exact h.nt, by simp [mI_sI]; exact h.nm, by simp [mI_sI]; exact h.na, by simp [mI_sI]; exact h.day, fun t n ht => by omega, fun t n ht => by omega, fun t n ht => by omega⟩ ⟨fun b hb2 => ⟨?_, rfl⟩, rfl, rfl⟩ rfl
  have h2 := hb b (by omega)
  funext k
  simp only [mI_sI, h2, false_and, if_false]
end SPS7
