/-! ===== EntryQueue: a queue as a list ===== -/
def EW (e : En) : Prop := (0 ≤ e.1 ∧ e.1 ≤ 2) ∧ (1 ≤ e.2.1 ∧ e.2.1 ≤ 12) ∧ (0 ≤ e.2.2.1 ∧ e.2.2.1 ≤ 9999) ∧ (0 ≤ e.2.2.2 ∧ e.2.2.2 ≤ 5)
def ev (e : En) (w : Nat) : Int := match w with
  | 0 => e.1
  | 1 => e.2.1
  | 2 => e.2.2.1
  | _ => e.2.2.2
def QAt (M : Mm) (q : Nat) (L : List En) : Prop := KX q = (1, 3, 2) ∧ (mI M q 1).toInt = L.length ∧ L.length ≤ 20 ∧ (∀ i e, L[i]? = some e → EW e ∧ ∀ w, w < 4 → (mI M (q + 2 + w) i).toInt = ev e w)
def evA (L : List En) (i : Int) (w : Nat) : Int := if 0 ≤ i then (match L[i.toNat]? with
  | some e => ev e w
  | none => -1) else -1
/-- what lies outside of lo .. hi - 1 is as it was -/
def Sm (M M' : Mm) (lo hi : Nat) : Prop := (∀ b, b < lo ∨ hi ≤ b → mI M' b = mI M b ∧ mL M' b = mL M b) ∧ mP M' = mP M ∧ mN M' = mN M
/-- an int answer by its number -/
def qi (Q : PQ) (M : Mm) (v : Int) : Prop := ∀ r : Int32, r.toInt = v → Q (some (.int r)) M
/-- a truth value -/
def qb (Q : PQ) (M : Mm) (P : Prop) : Prop := (P → Q (some (.int 1)) M) ∧ (¬ P → Q (some (.int 0)) M)
section SPQ
variable {l : Launch} {G : GT} {M : Mm} {Q : PQ} {QX : PX} {q : Nat} {L : List En}
theorem sp_X9_isWithin {v x y : Int32} (h : qb Q M (x.toInt ≤ v.toInt ∧ v.toInt ≤ y.toInt)) : Tr true l G Y_X9_isWithin [.int v, .int x, .int y] M Q QX := by
  refine en_X9_isWithin fun F => ?_
  simp only [R_X9_isWithin_0, i_lt, i_le, i_eq, tI_0, tI_1, tI_2, tI_3, tI_4, tI_5, tI_6, tI_7, tI_8, tI_9, tI_10, tI_11, tI_12, tI_14, tI_20, tI_31, tI_32, tI_48, tI_57, tI_59, tI_96, tI_97, tI_99, tI_100, tI_122, tI_127, tI_150, tI_199, tI_200, tI_255, tI_427, tI_1708, tI_2000, tI_9999, tI_m1, tI_m10, cN_0, cN_1, cN_2, cN_3, cN_4, cN_5, cN_6, cN_7, cN_8, cN_9, cN_10, cN_11, cN_12, cN_14, cN_20, cN_31, cN_32, cN_48, cN_57, cN_59, cN_96, cN_97, cN_99, cN_100, cN_122, cN_127, cN_150, cN_199, cN_200, cN_255, cN_427, cN_1708, cN_2000, cN_9999, I_ic, I_lc, I_nul, I_il, I_ll, I_al, I_is, I_ls, I_as, I_inc, I_iadd, I_isub, I_imul, I_iand, I_ladd, I_lsub, I_lmul, I_land, I_lor, I_idiv, I_irem, I_ishr, I_lshl, I_lshr, I_lushr, I_lcmp, I_i2l, I_l2i, I_dup, I_pop, I_dup2, I_ifeq, I_ifne, I_iflt, I_ifge, I_ifgt, I_ifle, I_iceq, I_icne, I_iclt, I_icge, I_icgt, I_icle, I_ifnull, I_ifnonnull, I_sw, swK, I_gi, I_gl, I_gp, I_pi, I_pl, I_ial, I_lal, I_ias, I_las, I_aal, I_len, I_ir, I_zr, I_lr, I_vr, I_ar, I_cv, I_cs, I_csN, I_max, I_min, I_cpi, I_cpl, I_kl, popA, gt0, gt1, gt2, gt3, gt4, gt5, gt6, gt7, gt8, gt9, gt10, gt11, gt12, s1_0, s1_1, s1_2, s1_3, s1_4, s1_5, s1_6, s1_7, s1_8, s1_9, s1_10, s1_11, s1_12, s2_0, s2_1, s2_2, s2_3, s2_4, s2_5, s2_6, s2_7, s2_8, s2_9, s2_10, s2_11, se_0, se_1, se_2, se_3, se_4, se_5, se_6, se_7, se_8, se_9, se_10, se_11, se_12, kil_i, kil_l, kil_r, kil_n, kil_x, ap_done, ap_pend, ap_dbt, ap_rel, ap_wrk, ap_trade, ap_mentor, ap_refused, ap_wdays, ap_today, ap_moves, st_day, st_needs, st_ments, st_aps, ap_eta, st_eta, Value.category, List.map_cons, List.map_nil, List.sum_cons, List.sum_nil, Option.toList_some, Option.toList_none, List.cons_append, List.nil_append, Nat.reduceAdd, Nat.reduceLeDiff, true_and, and_true, true_or, or_true, forall_const, not_true_eq_false, false_implies, not_false_eq_true, false_and, ↓reduceIte, ad_1, ad_2, ad_3, ad_4, ad_5, nq_2]
  exact ⟨fun g => h.2 (by omega), fun g => ⟨fun g2 => h.2 (by omega), fun g2 => h.1 (by omega)⟩⟩
theorem sp_X9_isPart {v : Int32} (h : qb Q M (0 ≤ v.toInt ∧ v.toInt ≤ 2)) : Tr true l G Y_X9_isPart [.int v] M Q QX := by
  refine en_X9_isPart fun F => ?_
  simp only [R_X9_isPart_0, i_lt, i_le, i_eq, tI_0, tI_1, tI_2, tI_3, tI_4, tI_5, tI_6, tI_7, tI_8, tI_9, tI_10, tI_11, tI_12, tI_14, tI_20, tI_31, tI_32, tI_48, tI_57, tI_59, tI_96, tI_97, tI_99, tI_100, tI_122, tI_127, tI_150, tI_199, tI_200, tI_255, tI_427, tI_1708, tI_2000, tI_9999, tI_m1, tI_m10, cN_0, cN_1, cN_2, cN_3, cN_4, cN_5, cN_6, cN_7, cN_8, cN_9, cN_10, cN_11, cN_12, cN_14, cN_20, cN_31, cN_32, cN_48, cN_57, cN_59, cN_96, cN_97, cN_99, cN_100, cN_122, cN_127, cN_150, cN_199, cN_200, cN_255, cN_427, cN_1708, cN_2000, cN_9999, I_ic, I_lc, I_nul, I_il, I_ll, I_al, I_is, I_ls, I_as, I_inc, I_iadd, I_isub, I_imul, I_iand, I_ladd, I_lsub, I_lmul, I_land, I_lor, I_idiv, I_irem, I_ishr, I_lshl, I_lshr, I_lushr, I_lcmp, I_i2l, I_l2i, I_dup, I_pop, I_dup2, I_ifeq, I_ifne, I_iflt, I_ifge, I_ifgt, I_ifle, I_iceq, I_icne, I_iclt, I_icge, I_icgt, I_icle, I_ifnull, I_ifnonnull, I_sw, swK, I_gi, I_gl, I_gp, I_pi, I_pl, I_ial, I_lal, I_ias, I_las, I_aal, I_len, I_ir, I_zr, I_lr, I_vr, I_ar, I_cv, I_cs, I_csN, I_max, I_min, I_cpi, I_cpl, I_kl, popA, gt0, gt1, gt2, gt3, gt4, gt5, gt6, gt7, gt8, gt9, gt10, gt11, gt12, s1_0, s1_1, s1_2, s1_3, s1_4, s1_5, s1_6, s1_7, s1_8, s1_9, s1_10, s1_11, s1_12, s2_0, s2_1, s2_2, s2_3, s2_4, s2_5, s2_6, s2_7, s2_8, s2_9, s2_10, s2_11, se_0, se_1, se_2, se_3, se_4, se_5, se_6, se_7, se_8, se_9, se_10, se_11, se_12, kil_i, kil_l, kil_r, kil_n, kil_x, ap_done, ap_pend, ap_dbt, ap_rel, ap_wrk, ap_trade, ap_mentor, ap_refused, ap_wdays, ap_today, ap_moves, st_day, st_needs, st_ments, st_aps, ap_eta, st_eta, Value.category, List.map_cons, List.map_nil, List.sum_cons, List.sum_nil, Option.toList_some, Option.toList_none, List.cons_append, List.nil_append, Nat.reduceAdd, Nat.reduceLeDiff, true_and, and_true, true_or, or_true, forall_const, not_true_eq_false, false_implies, not_false_eq_true, false_and, ↓reduceIte, ad_1, ad_2, ad_3, ad_4, ad_5, nq_2]
  exact ⟨fun g => h.2 (by omega), fun g => ⟨fun g2 => h.2 (by omega), fun g2 => h.1 (by omega)⟩⟩
theorem evA_in {i : Nat} {e : En} (h : L[i]? = some e) (w : Nat) : evA L i w = ev e w := by
  unfold evA
  rw [if_pos (by omega)]
  simp [ap_done, ap_pend, ap_dbt, ap_rel, ap_wrk, ap_trade, ap_mentor, ap_refused, ap_wdays, ap_today, ap_moves, st_day, st_needs, st_ments, st_aps, ap_eta, st_eta, h]
theorem sp_X5_valueAt {i w : Int32} {v : Nat} (hq : QAt M q L) (hv : w.toInt = v) (hw : v < 4) (h : qi Q M (evA L i.toInt v)) : Tr true l G Y_X5_valueAt [.ref q, .int i, .int w] M Q QX := by
  obtain ⟨hk, hs, h20, hL⟩ := hq
  refine en_X5_valueAt fun F => ?_
  have bad : (¬ (0 ≤ i.toInt ∧ i.toInt < (L.length : Int))) → Wj true l G F Y_X5_valueAt Q QX 0 0 31 [.ref q, .int i, .int w, xx] [] M := fun hb => by
    refine g_X5_valueAt_31 _ _ _ ?_
    simp only [R_X5_valueAt_31, I_ic, I_lc, I_nul, I_il, I_ll, I_al, I_is, I_ls, I_as, I_inc, I_iadd, I_isub, I_imul, I_iand, I_ladd, I_lsub, I_lmul, I_land, I_lor, I_idiv, I_irem, I_ishr, I_lshl, I_lshr, I_lushr, I_lcmp, I_i2l, I_l2i, I_dup, I_pop, I_dup2, I_ifeq, I_ifne, I_iflt, I_ifge, I_ifgt, I_ifle, I_iceq, I_icne, I_iclt, I_icge, I_icgt, I_icle, I_ifnull, I_ifnonnull, I_sw, swK, I_gi, I_gl, I_gp, I_pi, I_pl, I_ial, I_lal, I_ias, I_las, I_aal, I_len, I_ir, I_zr, I_lr, I_vr, I_ar, I_cv, I_cs, I_csN, I_max, I_min, I_cpi, I_cpl, I_kl, popA, gt0, gt1, gt2, gt3, gt4, gt5, gt6, gt7, gt8, gt9, gt10, gt11, gt12, s1_0, s1_1, s1_2, s1_3, s1_4, s1_5, s1_6, s1_7, s1_8, s1_9, s1_10, s1_11, s1_12, s2_0, s2_1, s2_2, s2_3, s2_4, s2_5, s2_6, s2_7, s2_8, s2_9, s2_10, s2_11, se_0, se_1, se_2, se_3, se_4, se_5, se_6, se_7, se_8, se_9, se_10, se_11, se_12, kil_i, kil_l, kil_r, kil_n, kil_x, ap_done, ap_pend, ap_dbt, ap_rel, ap_wrk, ap_trade, ap_mentor, ap_refused, ap_wdays, ap_today, ap_moves, st_day, st_needs, st_ments, st_aps, ap_eta, st_eta, Value.category, List.map_cons, List.map_nil, List.sum_cons, List.sum_nil, Option.toList_some, Option.toList_none, List.cons_append, List.nil_append, Nat.reduceAdd, Nat.reduceLeDiff, true_and, and_true, true_or, or_true, forall_const, not_true_eq_false, false_implies, not_false_eq_true, false_and, ↓reduceIte, ad_1, ad_2, ad_3, ad_4, ad_5, nq_2]
    refine h _ ?_
    unfold evA
    split
    · rw [List.getElem?_eq_none (by omega)]; rfl
    · rfl
  simp only [R_X5_valueAt_0, hk, k_q1, hk, i_lt, i_le, i_eq, tI_0, tI_1, tI_2, tI_3, tI_4, tI_5, tI_6, tI_7, tI_8, tI_9, tI_10, tI_11, tI_12, tI_14, tI_20, tI_31, tI_32, tI_48, tI_57, tI_59, tI_96, tI_97, tI_99, tI_100, tI_122, tI_127, tI_150, tI_199, tI_200, tI_255, tI_427, tI_1708, tI_2000, tI_9999, tI_m1, tI_m10, cN_0, cN_1, cN_2, cN_3, cN_4, cN_5, cN_6, cN_7, cN_8, cN_9, cN_10, cN_11, cN_12, cN_14, cN_20, cN_31, cN_32, cN_48, cN_57, cN_59, cN_96, cN_97, cN_99, cN_100, cN_122, cN_127, cN_150, cN_199, cN_200, cN_255, cN_427, cN_1708, cN_2000, cN_9999, I_ic, I_lc, I_nul, I_il, I_ll, I_al, I_is, I_ls, I_as, I_inc, I_iadd, I_isub, I_imul, I_iand, I_ladd, I_lsub, I_lmul, I_land, I_lor, I_idiv, I_irem, I_ishr, I_lshl, I_lshr, I_lushr, I_lcmp, I_i2l, I_l2i, I_dup, I_pop, I_dup2, I_ifeq, I_ifne, I_iflt, I_ifge, I_ifgt, I_ifle, I_iceq, I_icne, I_iclt, I_icge, I_icgt, I_icle, I_ifnull, I_ifnonnull, I_sw, swK, I_gi, I_gl, I_gp, I_pi, I_pl, I_ial, I_lal, I_ias, I_las, I_aal, I_len, I_ir, I_zr, I_lr, I_vr, I_ar, I_cv, I_cs, I_csN, I_max, I_min, I_cpi, I_cpl, I_kl, popA, gt0, gt1, gt2, gt3, gt4, gt5, gt6, gt7, gt8, gt9, gt10, gt11, gt12, s1_0, s1_1, s1_2, s1_3, s1_4, s1_5, s1_6, s1_7, s1_8, s1_9, s1_10, s1_11, s1_12, s2_0, s2_1, s2_2, s2_3, s2_4, s2_5, s2_6, s2_7, s2_8, s2_9, s2_10, s2_11, se_0, se_1, se_2, se_3, se_4, se_5, se_6, se_7, se_8, se_9, se_10, se_11, se_12, kil_i, kil_l, kil_r, kil_n, kil_x, ap_done, ap_pend, ap_dbt, ap_rel, ap_wrk, ap_trade, ap_mentor, ap_refused, ap_wdays, ap_today, ap_moves, st_day, st_needs, st_ments, st_aps, ap_eta, st_eta, Value.category, List.map_cons, List.map_nil, List.sum_cons, List.sum_nil, Option.toList_some, Option.toList_none, List.cons_append, List.nil_append, Nat.reduceAdd, Nat.reduceLeDiff, true_and, and_true, true_or, or_true, forall_const, not_true_eq_false, false_implies, not_false_eq_true, false_and, ↓reduceIte, ad_1, ad_2, ad_3, ad_4, ad_5, nq_2]
  rw [hs]
  refine ⟨fun g => bad (by omega), fun g1 => ⟨fun g => bad (by omega), fun g2 => ⟨fun g => bad (by omega), fun g3 => ⟨fun g => by omega, fun g4 => ⟨fun g => by omega, fun g5 => ⟨fun g => by omega, fun _ => ?_⟩⟩⟩⟩⟩⟩
  have hv2 : w.toNatClampNeg = v := by rw [i_cl]; omega
  rw [hv2, k_qc hk v hw]
  refine ⟨i_in (n := 4) (by omega) (by omega), rfl, i_in (n := 20) (by omega) (by omega), h _ ?_⟩
  obtain ⟨j, hj⟩ : ∃ j : Nat, i.toInt = j := ⟨i.toInt.toNat, by omega⟩
  have hjl : j < L.length := by omega
  have he := List.getElem?_eq_getElem hjl
  rw [hj, evA_in he, show i.toNatClampNeg = j by rw [i_cl]; omega]
  exact (hL j _ he).2 v hw
theorem sp_X5_append {p h d m : Int32} (hq : QAt M q L) (hn : L.length < 20) (he : EW (p.toInt, h.toInt, d.toInt, m.toInt)) (hQ : ∀ M', QAt M' q (L ++ [(p.toInt, h.toInt, d.toInt, m.toInt)]) → Sm M M' q (q + 6) → Q none M') : Tr true l G Y_X5_append [.ref q, .int p, .int h, .int d, .int m] M Q QX := by
  obtain ⟨hk, hs, h20, hL⟩ := hq
  refine en_X5_append fun F => ?_
  have q0 := k_qc hk 0 (by decide)
  have q1 := k_qc hk 1 (by decide)
  have q2 := k_qc hk 2 (by decide)
  have q3 := k_qc hk 3 (by decide)
  simp only [R_X5_append_0, hk, k_q1, hk, i_lt, i_le, i_eq, tI_0, tI_1, tI_2, tI_3, tI_4, tI_5, tI_6, tI_7, tI_8, tI_9, tI_10, tI_11, tI_12, tI_14, tI_20, tI_31, tI_32, tI_48, tI_57, tI_59, tI_96, tI_97, tI_99, tI_100, tI_122, tI_127, tI_150, tI_199, tI_200, tI_255, tI_427, tI_1708, tI_2000, tI_9999, tI_m1, tI_m10, cN_0, cN_1, cN_2, cN_3, cN_4, cN_5, cN_6, cN_7, cN_8, cN_9, cN_10, cN_11, cN_12, cN_14, cN_20, cN_31, cN_32, cN_48, cN_57, cN_59, cN_96, cN_97, cN_99, cN_100, cN_122, cN_127, cN_150, cN_199, cN_200, cN_255, cN_427, cN_1708, cN_2000, cN_9999, mI_sI, q0, q1, q2, q3, I_ic, I_lc, I_nul, I_il, I_ll, I_al, I_is, I_ls, I_as, I_inc, I_iadd, I_isub, I_imul, I_iand, I_ladd, I_lsub, I_lmul, I_land, I_lor, I_idiv, I_irem, I_ishr, I_lshl, I_lshr, I_lushr, I_lcmp, I_i2l, I_l2i, I_dup, I_pop, I_dup2, I_ifeq, I_ifne, I_iflt, I_ifge, I_ifgt, I_ifle, I_iceq, I_icne, I_iclt, I_icge, I_icgt, I_icle, I_ifnull, I_ifnonnull, I_sw, swK, I_gi, I_gl, I_gp, I_pi, I_pl, I_ial, I_lal, I_ias, I_las, I_aal, I_len, I_ir, I_zr, I_lr, I_vr, I_ar, I_cv, I_cs, I_csN, I_max, I_min, I_cpi, I_cpl, I_kl, popA, gt0, gt1, gt2, gt3, gt4, gt5, gt6, gt7, gt8, gt9, gt10, gt11, gt12, s1_0, s1_1, s1_2, s1_3, s1_4, s1_5, s1_6, s1_7, s1_8, s1_9, s1_10, s1_11, s1_12, s2_0, s2_1, s2_2, s2_3, s2_4, s2_5, s2_6, s2_7, s2_8, s2_9, s2_10, s2_11, se_0, se_1, se_2, se_3, se_4, se_5, se_6, se_7, se_8, se_9, se_10, se_11, se_12, kil_i, kil_l, kil_r, kil_n, kil_x, ap_done, ap_pend, ap_dbt, ap_rel, ap_wrk, ap_trade, ap_mentor, ap_refused, ap_wdays, ap_today, ap_moves, st_day, st_needs, st_ments, st_aps, ap_eta, st_eta, Value.category, List.map_cons, List.map_nil, List.sum_cons, List.sum_nil, Option.toList_some, Option.toList_none, List.cons_append, List.nil_append, Nat.reduceAdd, Nat.reduceLeDiff, true_and, and_true, true_or, or_true, forall_const, not_true_eq_false, false_implies, not_false_eq_true, false_and, ↓reduceIte, ad_1, ad_2, ad_3, ad_4, ad_5, nq_2]
  rw [hs]
  have hn2 : (mI M q 1).toNatClampNeg = L.length := by rw [i_cl]; omega
  have hin : vp_in (mI M q 1) 20 := i_in (n := 20) (by omega) (by omega)
  rw [hn2]
  refine ⟨fun g => by omega, fun g => ⟨i_in (n := 4) (by decide) (by decide), hin, i_in (n := 4) (by decide) (by decide), hin, i_in (n := 4) (by decide) (by decide), hin, i_in (n := 4) (by decide) (by decide), hin, hQ _ ⟨hk, ?_, ?_, ?_⟩ ⟨?_, rfl, rfl⟩⟩⟩
  · rw [mI_sI, if_pos ⟨rfl, rfl⟩, i_add (by rw [hs, tI_1]; omega) (by rw [hs, tI_1]; omega), hs, List.length_append]
    rfl
  · rw [List.length_append]; simp only [ap_done, ap_pend, ap_dbt, ap_rel, ap_wrk, ap_trade, ap_mentor, ap_refused, ap_wdays, ap_today, ap_moves, st_day, st_needs, st_ments, st_aps, ap_eta, st_eta, List.length_cons, List.length_nil]; omega
  · intro i e hi
    have hne : ∀ w, ¬ (q + 2 + w = q) := fun w => by omega
    by_cases hlt : i < L.length
    · rw [List.getElem?_append_left hlt] at hi
      refine ⟨(hL i e hi).1, fun w hw => ?_⟩
      rw [← (hL i e hi).2 w hw]
      have hi2 : ¬ (i = L.length) := by omega
      simp only [ap_done, ap_pend, ap_dbt, ap_rel, ap_wrk, ap_trade, ap_mentor, ap_refused, ap_wdays, ap_today, ap_moves, st_day, st_needs, st_ments, st_aps, ap_eta, st_eta, mI_sI, hne, hi2, and_false, false_and, if_false]
    · rw [List.getElem?_append_right (by omega)] at hi
      have h0 : i - L.length = 0 := by
        apply Classical.byContradiction
        intro hc
        rw [List.getElem?_eq_none (by simp only [ap_done, ap_pend, ap_dbt, ap_rel, ap_wrk, ap_trade, ap_mentor, ap_refused, ap_wdays, ap_today, ap_moves, st_day, st_needs, st_ments, st_aps, ap_eta, st_eta, List.length_cons, List.length_nil]; omega)] at hi
        cases hi
      have hil : i = L.length := by omega
      subst hil
      rw [h0] at hi
      cases hi
      refine ⟨he, fun w hw => ?_⟩
      match w, hw with
      | 0, _ => simp [ap_done, ap_pend, ap_dbt, ap_rel, ap_wrk, ap_trade, ap_mentor, ap_refused, ap_wdays, ap_today, ap_moves, st_day, st_needs, st_ments, st_aps, ap_eta, st_eta, mI_sI, ev, hne 0]
      | 1, _ => simp [ap_done, ap_pend, ap_dbt, ap_rel, ap_wrk, ap_trade, ap_mentor, ap_refused, ap_wdays, ap_today, ap_moves, st_day, st_needs, st_ments, st_aps, ap_eta, st_eta, mI_sI, ev, hne 1]
      | 2, _ => simp [ap_done, ap_pend, ap_dbt, ap_rel, ap_wrk, ap_trade, ap_mentor, ap_refused, ap_wdays, ap_today, ap_moves, st_day, st_needs, st_ments, st_aps, ap_eta, st_eta, mI_sI, ev, hne 2]
      | 3, _ => simp [ap_done, ap_pend, ap_dbt, ap_rel, ap_wrk, ap_trade, ap_mentor, ap_refused, ap_wdays, ap_today, ap_moves, st_day, st_needs, st_ments, st_aps, ap_eta, st_eta, mI_sI, ev, hne 3]
  · intro b hb
    have e1 : ∀ w, w < 4 → ¬ (b = q + 2 + w) := fun w hw => by omega
    have e2 : ¬ b = q := by omega
    refine ⟨?_, rfl⟩
    funext j
    simp only [ap_done, ap_pend, ap_dbt, ap_rel, ap_wrk, ap_trade, ap_mentor, ap_refused, ap_wdays, ap_today, ap_moves, st_day, st_needs, st_ments, st_aps, ap_eta, st_eta, mI_sI, e1 0 (by omega), e1 1 (by omega), e1 2 (by omega), e1 3 (by omega), e2, false_and, if_false]
theorem g_at {i : Nat} (h : i < L.length) : ∃ e, L[i]? = some e ∧ L.drop i = e :: L.drop (i + 1) := ⟨L[i], List.getElem?_eq_getElem h, List.drop_eq_getElem_cons h⟩
end SPQ
def hAll : List En → Int
  | [] => 0
  | e :: L => e.2.1 + hAll L
def hPart (p : Int) : List En → Int
  | [] => 0
  | e :: L => (if e.1 = p then e.2.1 else 0) + hPart p L
def cWith (m : Int) : List En → Int
  | [] => 0
  | e :: L => (if e.2.2.2 = m then 1 else 0) + cWith m L
def hFirst (m p : Int) : Int → List En → Int
  | _, [] => 0
  | k, e :: L => if k ≤ 0 then 0 else if e.2.2.2 = m then (if e.1 = p then e.2.1 else 0) + hFirst m p (k - 1) L else hFirst m p k L
section SPQ2
variable {l : Launch} {G : GT} {M : Mm} {Q : PQ} {QX : PX} {q : Nat} {L : List En}
theorem lp_X5_hoursInAll {F : FX} (hq : QAt M q L) {v : Int} (h : qi Q M v) : ∀ (n i : Nat) (s j : Int32), i + n = L.length → j.toInt = i → 0 ≤ s.toInt → s.toInt ≤ 12 * i → s.toInt + hAll (L.drop i) = v → Wj true l G F Y_X5_hoursInAll Q QX 0 0 4 [.ref q, .int s, .int j] [] M
  | 0, i, s, j, hi, hj, h0, h1, hv => by
    refine g_X5_hoursInAll_4 _ _ _ ?_
    simp only [R_X5_hoursInAll_4, hq.1, i_lt, i_le, i_eq, tI_0, tI_1, tI_2, tI_3, tI_4, tI_5, tI_6, tI_7, tI_8, tI_9, tI_10, tI_11, tI_12, tI_14, tI_20, tI_31, tI_32, tI_48, tI_57, tI_59, tI_96, tI_97, tI_99, tI_100, tI_122, tI_127, tI_150, tI_199, tI_200, tI_255, tI_427, tI_1708, tI_2000, tI_9999, tI_m1, tI_m10, cN_0, cN_1, cN_2, cN_3, cN_4, cN_5, cN_6, cN_7, cN_8, cN_9, cN_10, cN_11, cN_12, cN_14, cN_20, cN_31, cN_32, cN_48, cN_57, cN_59, cN_96, cN_97, cN_99, cN_100, cN_122, cN_127, cN_150, cN_199, cN_200, cN_255, cN_427, cN_1708, cN_2000, cN_9999, I_ic, I_lc, I_nul, I_il, I_ll, I_al, I_is, I_ls, I_as, I_inc, I_iadd, I_isub, I_imul, I_iand, I_ladd, I_lsub, I_lmul, I_land, I_lor, I_idiv, I_irem, I_ishr, I_lshl, I_lshr, I_lushr, I_lcmp, I_i2l, I_l2i, I_dup, I_pop, I_dup2, I_ifeq, I_ifne, I_iflt, I_ifge, I_ifgt, I_ifle, I_iceq, I_icne, I_iclt, I_icge, I_icgt, I_icle, I_ifnull, I_ifnonnull, I_sw, swK, I_gi, I_gl, I_gp, I_pi, I_pl, I_ial, I_lal, I_ias, I_las, I_aal, I_len, I_ir, I_zr, I_lr, I_vr, I_ar, I_cv, I_cs, I_csN, I_max, I_min, I_cpi, I_cpl, I_kl, popA, gt0, gt1, gt2, gt3, gt4, gt5, gt6, gt7, gt8, gt9, gt10, gt11, gt12, s1_0, s1_1, s1_2, s1_3, s1_4, s1_5, s1_6, s1_7, s1_8, s1_9, s1_10, s1_11, s1_12, s2_0, s2_1, s2_2, s2_3, s2_4, s2_5, s2_6, s2_7, s2_8, s2_9, s2_10, s2_11, se_0, se_1, se_2, se_3, se_4, se_5, se_6, se_7, se_8, se_9, se_10, se_11, se_12, kil_i, kil_l, kil_r, kil_n, kil_x, ap_done, ap_pend, ap_dbt, ap_rel, ap_wrk, ap_trade, ap_mentor, ap_refused, ap_wdays, ap_today, ap_moves, st_day, st_needs, st_ments, st_aps, ap_eta, st_eta, Value.category, List.map_cons, List.map_nil, List.sum_cons, List.sum_nil, Option.toList_some, Option.toList_none, List.cons_append, List.nil_append, Nat.reduceAdd, Nat.reduceLeDiff, true_and, and_true, true_or, or_true, forall_const, not_true_eq_false, false_implies, not_false_eq_true, false_and, ↓reduceIte, ad_1, ad_2, ad_3, ad_4, ad_5, nq_2]
    rw [hq.2.1, hj]
    refine ⟨fun g => h _ ?_, fun g => by omega⟩
    rw [List.drop_eq_nil_of_le (by omega)] at hv
    simpa [ap_done, ap_pend, ap_dbt, ap_rel, ap_wrk, ap_trade, ap_mentor, ap_refused, ap_wdays, ap_today, ap_moves, st_day, st_needs, st_ments, st_aps, ap_eta, st_eta, hAll] using hv
  | n + 1, i, s, j, hi, hj, h0, h1, hv => by
    have hq2 := hq
    obtain ⟨hk, hs, h20, hL⟩ := hq
    obtain ⟨e, he, hd⟩ := g_at (L := L) (i := i) (by omega)
    have hw := (hL i e he).1.2.1
    refine g_X5_hoursInAll_4 _ _ _ ?_
    simp only [R_X5_hoursInAll_4, hk, i_lt, i_le, i_eq, tI_0, tI_1, tI_2, tI_3, tI_4, tI_5, tI_6, tI_7, tI_8, tI_9, tI_10, tI_11, tI_12, tI_14, tI_20, tI_31, tI_32, tI_48, tI_57, tI_59, tI_96, tI_97, tI_99, tI_100, tI_122, tI_127, tI_150, tI_199, tI_200, tI_255, tI_427, tI_1708, tI_2000, tI_9999, tI_m1, tI_m10, cN_0, cN_1, cN_2, cN_3, cN_4, cN_5, cN_6, cN_7, cN_8, cN_9, cN_10, cN_11, cN_12, cN_14, cN_20, cN_31, cN_32, cN_48, cN_57, cN_59, cN_96, cN_97, cN_99, cN_100, cN_122, cN_127, cN_150, cN_199, cN_200, cN_255, cN_427, cN_1708, cN_2000, cN_9999, I_ic, I_lc, I_nul, I_il, I_ll, I_al, I_is, I_ls, I_as, I_inc, I_iadd, I_isub, I_imul, I_iand, I_ladd, I_lsub, I_lmul, I_land, I_lor, I_idiv, I_irem, I_ishr, I_lshl, I_lshr, I_lushr, I_lcmp, I_i2l, I_l2i, I_dup, I_pop, I_dup2, I_ifeq, I_ifne, I_iflt, I_ifge, I_ifgt, I_ifle, I_iceq, I_icne, I_iclt, I_icge, I_icgt, I_icle, I_ifnull, I_ifnonnull, I_sw, swK, I_gi, I_gl, I_gp, I_pi, I_pl, I_ial, I_lal, I_ias, I_las, I_aal, I_len, I_ir, I_zr, I_lr, I_vr, I_ar, I_cv, I_cs, I_csN, I_max, I_min, I_cpi, I_cpl, I_kl, popA, gt0, gt1, gt2, gt3, gt4, gt5, gt6, gt7, gt8, gt9, gt10, gt11, gt12, s1_0, s1_1, s1_2, s1_3, s1_4, s1_5, s1_6, s1_7, s1_8, s1_9, s1_10, s1_11, s1_12, s2_0, s2_1, s2_2, s2_3, s2_4, s2_5, s2_6, s2_7, s2_8, s2_9, s2_10, s2_11, se_0, se_1, se_2, se_3, se_4, se_5, se_6, se_7, se_8, se_9, se_10, se_11, se_12, kil_i, kil_l, kil_r, kil_n, kil_x, ap_done, ap_pend, ap_dbt, ap_rel, ap_wrk, ap_trade, ap_mentor, ap_refused, ap_wdays, ap_today, ap_moves, st_day, st_needs, st_ments, st_aps, ap_eta, st_eta, Value.category, List.map_cons, List.map_nil, List.sum_cons, List.sum_nil, Option.toList_some, Option.toList_none, List.cons_append, List.nil_append, Nat.reduceAdd, Nat.reduceLeDiff, true_and, and_true, true_or, or_true, forall_const, not_true_eq_false, false_implies, not_false_eq_true, false_and, ↓reduceIte, ad_1, ad_2, ad_3, ad_4, ad_5, nq_2]
    rw [hs, hj]
    refine ⟨fun g => by omega, fun g => sp_X5_valueAt (v := 1) hq2 (by decide) (by decide) fun r hr => ?_⟩
    rw [hj, evA_in he] at hr
    simp only [I_ic, I_lc, I_nul, I_il, I_ll, I_al, I_is, I_ls, I_as, I_inc, I_iadd, I_isub, I_imul, I_iand, I_ladd, I_lsub, I_lmul, I_land, I_lor, I_idiv, I_irem, I_ishr, I_lshl, I_lshr, I_lushr, I_lcmp, I_i2l, I_l2i, I_dup, I_pop, I_dup2, I_ifeq, I_ifne, I_iflt, I_ifge, I_ifgt, I_ifle, I_iceq, I_icne, I_iclt, I_icge, I_icgt, I_icle, I_ifnull, I_ifnonnull, I_sw, swK, I_gi, I_gl, I_gp, I_pi, I_pl, I_ial, I_lal, I_ias, I_las, I_aal, I_len, I_ir, I_zr, I_lr, I_vr, I_ar, I_cv, I_cs, I_csN, I_max, I_min, I_cpi, I_cpl, I_kl, popA, gt0, gt1, gt2, gt3, gt4, gt5, gt6, gt7, gt8, gt9, gt10, gt11, gt12, s1_0, s1_1, s1_2, s1_3, s1_4, s1_5, s1_6, s1_7, s1_8, s1_9, s1_10, s1_11, s1_12, s2_0, s2_1, s2_2, s2_3, s2_4, s2_5, s2_6, s2_7, s2_8, s2_9, s2_10, s2_11, se_0, se_1, se_2, se_3, se_4, se_5, se_6, se_7, se_8, se_9, se_10, se_11, se_12, kil_i, kil_l, kil_r, kil_n, kil_x, ap_done, ap_pend, ap_dbt, ap_rel, ap_wrk, ap_trade, ap_mentor, ap_refused, ap_wdays, ap_today, ap_moves, st_day, st_needs, st_ments, st_aps, ap_eta, st_eta, Value.category, List.map_cons, List.map_nil, List.sum_cons, List.sum_nil, Option.toList_some, Option.toList_none, List.cons_append, List.nil_append, Nat.reduceAdd, Nat.reduceLeDiff, true_and, and_true, true_or, or_true, forall_const, not_true_eq_false, false_implies, not_false_eq_true, false_and, ↓reduceIte, ad_1, ad_2, ad_3, ad_4, ad_5, nq_2]
    have hs2 : (s + r).toInt = s.toInt + e.2.1 := by rw [i_add, hr]; rfl; all_goals rw [hr]; simp only [ap_done, ap_pend, ap_dbt, ap_rel, ap_wrk, ap_trade, ap_mentor, ap_refused, ap_wdays, ap_today, ap_moves, st_day, st_needs, st_ments, st_aps, ap_eta, st_eta, ev]; omega
    refine lp_X5_hoursInAll hq2 h n (i + 1) _ _ (by omega) ?_ ?_ ?_ ?_
    · rw [i_add, hj]; rfl; all_goals rw [hj, tI_1]; omega
    · rw [hs2]; omega
    · rw [hs2]; omega
    · rw [hs2]; rw [hd, hAll] at hv; omega
theorem sp_X5_hoursInAll (hq : QAt M q L) (h : qi Q M (hAll L)) : Tr true l G Y_X5_hoursInAll [.ref q] M Q QX := by
  refine en_X5_hoursInAll fun F => ?_
  simp only [R_X5_hoursInAll_0, I_ic, I_lc, I_nul, I_il, I_ll, I_al, I_is, I_ls, I_as, I_inc, I_iadd, I_isub, I_imul, I_iand, I_ladd, I_lsub, I_lmul, I_land, I_lor, I_idiv, I_irem, I_ishr, I_lshl, I_lshr, I_lushr, I_lcmp, I_i2l, I_l2i, I_dup, I_pop, I_dup2, I_ifeq, I_ifne, I_iflt, I_ifge, I_ifgt, I_ifle, I_iceq, I_icne, I_iclt, I_icge, I_icgt, I_icle, I_ifnull, I_ifnonnull, I_sw, swK, I_gi, I_gl, I_gp, I_pi, I_pl, I_ial, I_lal, I_ias, I_las, I_aal, I_len, I_ir, I_zr, I_lr, I_vr, I_ar, I_cv, I_cs, I_csN, I_max, I_min, I_cpi, I_cpl, I_kl, popA, gt0, gt1, gt2, gt3, gt4, gt5, gt6, gt7, gt8, gt9, gt10, gt11, gt12, s1_0, s1_1, s1_2, s1_3, s1_4, s1_5, s1_6, s1_7, s1_8, s1_9, s1_10, s1_11, s1_12, s2_0, s2_1, s2_2, s2_3, s2_4, s2_5, s2_6, s2_7, s2_8, s2_9, s2_10, s2_11, se_0, se_1, se_2, se_3, se_4, se_5, se_6, se_7, se_8, se_9, se_10, se_11, se_12, kil_i, kil_l, kil_r, kil_n, kil_x, ap_done, ap_pend, ap_dbt, ap_rel, ap_wrk, ap_trade, ap_mentor, ap_refused, ap_wdays, ap_today, ap_moves, st_day, st_needs, st_ments, st_aps, ap_eta, st_eta, Value.category, List.map_cons, List.map_nil, List.sum_cons, List.sum_nil, Option.toList_some, Option.toList_none, List.cons_append, List.nil_append, Nat.reduceAdd, Nat.reduceLeDiff, true_and, and_true, true_or, or_true, forall_const, not_true_eq_false, false_implies, not_false_eq_true, false_and, ↓reduceIte, ad_1, ad_2, ad_3, ad_4, ad_5, nq_2]
  exact lp_X5_hoursInAll hq h L.length 0 _ _ (by omega) rfl (by decide) (by decide) (by simp [ap_done, ap_pend, ap_dbt, ap_rel, ap_wrk, ap_trade, ap_mentor, ap_refused, ap_wdays, ap_today, ap_moves, st_day, st_needs, st_ments, st_aps, ap_eta, st_eta, tI_0])
end SPQ2
