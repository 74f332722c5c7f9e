/-! ===== UndoStack: the saved states, the oldest one first ===== -/
/-- the cells of the saved states -/
def sv (i : Nat) : Nat := 217 + 214 * i
def UAt (M : Mm) (L : List St) : Prop := (0 ≤ (mI M 215 1).toInt ∧ (mI M 215 1).toInt < 4) ∧ ((mI M 215 2).toInt = L.length) ∧ (L.length ≤ 4) ∧ (∀ (i : Nat) X, L[i]? = some X → StAt M (sv (((mI M 215 1).toInt.toNat + i) % 4)) X)
theorem UAt.ol {M : Mm} {L : List St} (h : UAt M L) : 0 ≤ (mI M 215 1).toInt ∧ (mI M 215 1).toInt < 4 := h.1
theorem UAt.sz {M : Mm} {L : List St} (h : UAt M L) : (mI M 215 2).toInt = L.length := h.2.1
theorem UAt.l4 {M : Mm} {L : List St} (h : UAt M L) : L.length ≤ 4 := h.2.2.1
theorem UAt.at' {M : Mm} {L : List St} (h : UAt M L) : ∀ (i : Nat) X, L[i]? = some X → StAt M (sv (((mI M 215 1).toInt.toNat + i) % 4)) X := h.2.2.2
def uPush (L : List St) (X : St) : List St := if L.length < 4 then L ++ [X] else L.tail ++ [X]
theorem k_U : KX 215 = (1, 6, 3) := by decide +kernel
theorem k_U1 : KX 216 = (4, 5, 4) := by decide +kernel
theorem k_sv : ∀ i, i < 4 → KX (sv i) = (1, 5, 9) := by decide +kernel
theorem UAt.fr {M M' : Mm} {L : List St} (h : UAt M L) (f : Fr M M' 215 1073) : UAt M' L := by
  have e := (f 215 (by omega) (by omega)).1
  refine ⟨by rw [e]; exact h.ol, by rw [e]; exact h.sz, h.l4, fun i X hi => ?_⟩
  rw [e]
  have : ((mI M 215 1).toInt.toNat + i) % 4 < 4 := by omega
  exact (h.at' i X hi).fr (f.sub (by unfold sv; omega) (by unfold sv; omega))
section SPU
variable {l : Launch} {G : GT} {M : Mm} {Q : PQ} {QX : PX} {L : List St} {X : St}
theorem sp_X8_save {S : Nat} (hu : UAt M L) (h : StAt M S X) (hS : S + 214 ≤ 215 ∨ 1073 ≤ S) (hQ : ∀ M2, UAt M2 (uPush L X) → Sm M M2 215 1073 → Q none M2) : Tr true l G Y_X8_save [.ref 215, .ref S] M Q QX := by
  refine en_X8_save fun F => ?_
  have hk := h.k
  have kU := k_U
  have kU1 := k_U1
  have ol := hu.ol
  have sz := hu.sz
  have l4 := hu.l4
  have k217 : ∀ x : Nat, 215 + 2 + 214 * x = sv x := fun x => rfl
  have t4 : (4 : Int32).toInt = 4 := rfl
  have es : (mI M 215 1 + mI M 215 2).toInt = (mI M 215 1).toInt + L.length := by rw [i_add, sz]; all_goals rw [sz]; omega
  have er : (mI M 215 1 + mI M 215 2 - (mI M 215 1 + mI M 215 2) / 4 * 4).toInt = ((mI M 215 1).toInt + L.length) % 4 := by rw [i_rem (by omega) (by decide), es, t4]
  have eo : (mI M 215 1).toInt = ((mI M 215 1).toInt.toNat : Int) := by omega
  have en : (mI M 215 1 + mI M 215 2 - (mI M 215 1 + mI M 215 2) / 4 * 4).toNatClampNeg = ((mI M 215 1).toInt.toNat + L.length) % 4 := by rw [i_cl, er]; omega
  have hlt : ((mI M 215 1).toInt.toNat + L.length) % 4 < 4 := by omega
  have kd := k_sv _ hlt
  have hvp : vp_in (mI M 215 1 + mI M 215 2 - (mI M 215 1 + mI M 215 2) / 4 * 4) 4 := i_in (n := 4) (by rw [er]; omega) (by rw [er]; omega)
  simp only [R_X8_save_0, kU, kU1, i_lt, i_le, i_eq, tI_0, tI_1, tI_2, tI_3, tI_4, tI_5, tI_6, tI_7, tI_8, tI_9, tI_10, tI_11, tI_12, tI_14, tI_20, tI_31, tI_32, tI_48, tI_57, tI_59, tI_96, tI_97, tI_99, tI_100, tI_122, tI_127, tI_150, tI_199, tI_200, tI_255, tI_427, tI_1708, tI_2000, tI_9999, tI_m1, tI_m10, cN_0, cN_1, cN_2, cN_3, cN_4, cN_5, cN_6, cN_7, cN_8, cN_9, cN_10, cN_11, cN_12, cN_14, cN_20, cN_31, cN_32, cN_48, cN_57, cN_59, cN_96, cN_97, cN_99, cN_100, cN_122, cN_127, cN_150, cN_199, cN_200, cN_255, cN_427, cN_1708, cN_2000, cN_9999, I_ic, I_lc, I_nul, I_il, I_ll, I_al, I_is, I_ls, I_as, I_inc, I_iadd, I_isub, I_imul, I_iand, I_ladd, I_lsub, I_lmul, I_land, I_lor, I_idiv, I_irem, I_ishr, I_lshl, I_lshr, I_lushr, I_lcmp, I_i2l, I_l2i, I_dup, I_pop, I_dup2, I_ifeq, I_ifne, I_iflt, I_ifge, I_ifgt, I_ifle, I_iceq, I_icne, I_iclt, I_icge, I_icgt, I_icle, I_ifnull, I_ifnonnull, I_sw, swK, I_gi, I_gl, I_gp, I_pi, I_pl, I_ial, I_lal, I_ias, I_las, I_aal, I_len, I_ir, I_zr, I_lr, I_vr, I_ar, I_cv, I_cs, I_csN, I_max, I_min, I_cpi, I_cpl, I_kl, popA, gt0, gt1, gt2, gt3, gt4, gt5, gt6, gt7, gt8, gt9, gt10, gt11, gt12, s1_0, s1_1, s1_2, s1_3, s1_4, s1_5, s1_6, s1_7, s1_8, s1_9, s1_10, s1_11, s1_12, s2_0, s2_1, s2_2, s2_3, s2_4, s2_5, s2_6, s2_7, s2_8, s2_9, s2_10, s2_11, se_0, se_1, se_2, se_3, se_4, se_5, se_6, se_7, se_8, se_9, se_10, se_11, se_12, kil_i, kil_l, kil_r, kil_n, kil_x, ap_done, ap_pend, ap_dbt, ap_rel, ap_wrk, ap_trade, ap_mentor, ap_refused, ap_wdays, ap_today, ap_moves, st_day, st_needs, st_ments, st_aps, ap_eta, st_eta, Value.category, List.map_cons, List.map_nil, List.sum_cons, List.sum_nil, Option.toList_some, Option.toList_none, List.cons_append, List.nil_append, Nat.reduceAdd, Nat.reduceLeDiff, true_and, and_true, true_or, or_true, forall_const, not_true_eq_false, false_implies, not_false_eq_true, false_and, ↓reduceIte, ad_1, ad_2, ad_3, ad_4, ad_5, nq_2]
  rw [en, k217]
  refine ⟨by decide, hvp, kd, ?_⟩
  refine sp_X7_copyState kd h (by unfold sv; omega) fun M2 h2 m2 => ?_
  have e0 : mI M2 215 = mI M 215 := (m2.1 215 (by unfold sv; omega)).1
  simp only [I_ic, I_lc, I_nul, I_il, I_ll, I_al, I_is, I_ls, I_as, I_inc, I_iadd, I_isub, I_imul, I_iand, I_ladd, I_lsub, I_lmul, I_land, I_lor, I_idiv, I_irem, I_ishr, I_lshl, I_lshr, I_lushr, I_lcmp, I_i2l, I_l2i, I_dup, I_pop, I_dup2, I_ifeq, I_ifne, I_iflt, I_ifge, I_ifgt, I_ifle, I_iceq, I_icne, I_iclt, I_icge, I_icgt, I_icle, I_ifnull, I_ifnonnull, I_sw, swK, I_gi, I_gl, I_gp, I_pi, I_pl, I_ial, I_lal, I_ias, I_las, I_aal, I_len, I_ir, I_zr, I_lr, I_vr, I_ar, I_cv, I_cs, I_csN, I_max, I_min, I_cpi, I_cpl, I_kl, popA, gt0, gt1, gt2, gt3, gt4, gt5, gt6, gt7, gt8, gt9, gt10, gt11, gt12, s1_0, s1_1, s1_2, s1_3, s1_4, s1_5, s1_6, s1_7, s1_8, s1_9, s1_10, s1_11, s1_12, s2_0, s2_1, s2_2, s2_3, s2_4, s2_5, s2_6, s2_7, s2_8, s2_9, s2_10, s2_11, se_0, se_1, se_2, se_3, se_4, se_5, se_6, se_7, se_8, se_9, se_10, se_11, se_12, kil_i, kil_l, kil_r, kil_n, kil_x, ap_done, ap_pend, ap_dbt, ap_rel, ap_wrk, ap_trade, ap_mentor, ap_refused, ap_wdays, ap_today, ap_moves, st_day, st_needs, st_ments, st_aps, ap_eta, st_eta, Value.category, List.map_cons, List.map_nil, List.sum_cons, List.sum_nil, Option.toList_some, Option.toList_none, List.cons_append, List.nil_append, Nat.reduceAdd, Nat.reduceLeDiff, true_and, and_true, true_or, or_true, forall_const, not_true_eq_false, false_implies, not_false_eq_true, false_and, ↓reduceIte, ad_1, ad_2, ad_3, ad_4, ad_5, nq_2]
  rw [e0, sz]
  have m3 : Sm M M2 215 1073 := m2.wd (by unfold sv; omega) (by unfold sv; omega)
  refine ⟨fun g => ⟨by decide, ?_⟩, fun g => ?_⟩
  · have l44 : L.length = 4 := by omega
    have e1 : (mI M 215 1 + 1).toInt = (mI M 215 1).toInt + 1 := by rw [i_add, tI_1]; all_goals rw [tI_1]; omega
    have e2 : (mI M 215 1 + 1 - (mI M 215 1 + 1) / 4 * 4).toInt = ((mI M 215 1).toInt + 1) % 4 := by rw [i_rem (by rw [e1]; omega) (by decide), e1, t4]
    have s2 := Sm_sI M2 215 1 (mI M 215 1 + 1 - (mI M 215 1 + 1) / 4 * 4) (lo := 215) (hi := 216) (by omega) (by omega)
    have r1 : mI (sI M2 215 1 (mI M 215 1 + 1 - (mI M 215 1 + 1) / 4 * 4)) 215 1 = mI M 215 1 + 1 - (mI M 215 1 + 1) / 4 * 4 := by simp [ap_done, ap_pend, ap_dbt, ap_rel, ap_wrk, ap_trade, ap_mentor, ap_refused, ap_wdays, ap_today, ap_moves, st_day, st_needs, st_ments, st_aps, ap_eta, st_eta, mI_sI]
    have r2 : mI (sI M2 215 1 (mI M 215 1 + 1 - (mI M 215 1 + 1) / 4 * 4)) 215 2 = mI M 215 2 := by simp [ap_done, ap_pend, ap_dbt, ap_rel, ap_wrk, ap_trade, ap_mentor, ap_refused, ap_wdays, ap_today, ap_moves, st_day, st_needs, st_ments, st_aps, ap_eta, st_eta, mI_sI, e0]
    have up : uPush L X = L.tail ++ [X] := by unfold uPush; rw [if_neg (by omega)]
    rw [up] at hQ
    refine hQ _ ⟨by rw [r1, e2]; omega, by rw [r2, sz]; simp [ap_done, ap_pend, ap_dbt, ap_rel, ap_wrk, ap_trade, ap_mentor, ap_refused, ap_wdays, ap_today, ap_moves, st_day, st_needs, st_ments, st_aps, ap_eta, st_eta]; omega, by simp [ap_done, ap_pend, ap_dbt, ap_rel, ap_wrk, ap_trade, ap_mentor, ap_refused, ap_wdays, ap_today, ap_moves, st_day, st_needs, st_ments, st_aps, ap_eta, st_eta]; omega, fun i Y hi => ?_⟩ (m3.trans s2 (by omega) (by omega) (by omega) (by omega))
    rw [r1, e2]
    rcases app_get hi with ⟨h1, h2'⟩ | ⟨h1, h2'⟩
    · rw [List.getElem?_tail] at h2'
      simp only [ap_done, ap_pend, ap_dbt, ap_rel, ap_wrk, ap_trade, ap_mentor, ap_refused, ap_wdays, ap_today, ap_moves, st_day, st_needs, st_ments, st_aps, ap_eta, st_eta, List.length_tail] at h1
      have e3 : (((mI M 215 1).toInt + 1) % 4).toNat = ((mI M 215 1).toInt.toNat + 1) % 4 := by omega
      have e4 : ((((mI M 215 1).toInt + 1) % 4).toNat + i) % 4 = ((mI M 215 1).toInt.toNat + (i + 1)) % 4 := by rw [e3]; omega
      rw [e4]
      have h5 := hu.at' (i + 1) Y h2'
      refine (h5.sm m2 ?_).sm s2 (by unfold sv; omega)
      unfold sv
      omega
    · subst h2'
      simp only [ap_done, ap_pend, ap_dbt, ap_rel, ap_wrk, ap_trade, ap_mentor, ap_refused, ap_wdays, ap_today, ap_moves, st_day, st_needs, st_ments, st_aps, ap_eta, st_eta, List.length_tail] at h1
      have e4 : ((((mI M 215 1).toInt + 1) % 4).toNat + i) % 4 = ((mI M 215 1).toInt.toNat + L.length) % 4 := by omega
      rw [e4]
      exact h2.sm s2 (by unfold sv; omega)
  · have s2 := Sm_sI M2 215 2 (mI M 215 2 + 1) (lo := 215) (hi := 216) (by omega) (by omega)
    have e1 : (mI M 215 2 + 1).toInt = L.length + 1 := by rw [i_add, sz, tI_1]; all_goals rw [sz, tI_1]; omega
    have r1 : mI (sI M2 215 2 (mI M 215 2 + 1)) 215 1 = mI M 215 1 := by simp [ap_done, ap_pend, ap_dbt, ap_rel, ap_wrk, ap_trade, ap_mentor, ap_refused, ap_wdays, ap_today, ap_moves, st_day, st_needs, st_ments, st_aps, ap_eta, st_eta, mI_sI, e0]
    have r2 : mI (sI M2 215 2 (mI M 215 2 + 1)) 215 2 = mI M 215 2 + 1 := by simp [ap_done, ap_pend, ap_dbt, ap_rel, ap_wrk, ap_trade, ap_mentor, ap_refused, ap_wdays, ap_today, ap_moves, st_day, st_needs, st_ments, st_aps, ap_eta, st_eta, mI_sI]
    have up : uPush L X = L ++ [X] := by unfold uPush; rw [if_pos (by omega)]
    rw [up] at hQ
    refine hQ _ ⟨by rw [r1]; omega, by rw [r2, e1]; simp, by simp [ap_done, ap_pend, ap_dbt, ap_rel, ap_wrk, ap_trade, ap_mentor, ap_refused, ap_wdays, ap_today, ap_moves, st_day, st_needs, st_ments, st_aps, ap_eta, st_eta]; omega, fun i Y hi => ?_⟩ (m3.trans s2 (by omega) (by omega) (by omega) (by omega))
    rw [r1]
    rcases app_get hi with ⟨h1, h2'⟩ | ⟨h1, h2'⟩
    · refine ((hu.at' i Y h2').sm m2 ?_).sm s2 (by unfold sv; omega)
      unfold sv
      omega
    · subst h1 h2'
      exact h2.sm s2 (by unfold sv; omega)
theorem sp_X8_restore {S : Nat} (hu : UAt M L) (hS : KX S = (1, 5, 9)) (hd : S + 214 ≤ 215 ∨ 1073 ≤ S) {L0 : List St} (hL : L = L0 ++ [X]) (hQ : ∀ M2, UAt M2 L0 → StAt M2 S X → (∀ b, ¬ b = 215 → (b < S ∨ S + 214 ≤ b) → mI M2 b = mI M b ∧ mL M2 b = mL M b) → mP M2 = mP M → mN M2 = mN M → qi Q M2 L0.length) : Tr true l G Y_X8_restore [.ref 215, .ref S] M Q QX := by
  refine en_X8_restore fun F => ?_
  have kU := k_U
  have kU1 := k_U1
  have ol := hu.ol
  have sz := hu.sz
  have l4 := hu.l4
  have k217 : ∀ x : Nat, 215 + 2 + 214 * x = sv x := fun x => rfl
  have t4 : (4 : Int32).toInt = 4 := rfl
  have hLl : L.length = L0.length + 1 := by rw [hL]; simp
  have e1 : (mI M 215 2 - 1).toInt = L0.length := by rw [i_sub, sz, tI_1]; omega; all_goals rw [sz, tI_1]; omega
  have es : (mI M 215 1 + (mI M 215 2 - 1)).toInt = (mI M 215 1).toInt + L0.length := by rw [i_add, e1]; all_goals rw [e1]; omega
  have er : (mI M 215 1 + (mI M 215 2 - 1) - (mI M 215 1 + (mI M 215 2 - 1)) / 4 * 4).toInt = ((mI M 215 1).toInt + L0.length) % 4 := by rw [i_rem (by omega) (by decide), es, t4]
  have en : (mI M 215 1 + (mI M 215 2 - 1) - (mI M 215 1 + (mI M 215 2 - 1)) / 4 * 4).toNatClampNeg = ((mI M 215 1).toInt.toNat + L0.length) % 4 := by rw [i_cl, er]; omega
  have hlt : ((mI M 215 1).toInt.toNat + L0.length) % 4 < 4 := by omega
  have hvp : vp_in (mI M 215 1 + (mI M 215 2 - 1) - (mI M 215 1 + (mI M 215 2 - 1)) / 4 * 4) 4 := i_in (n := 4) (by rw [er]; omega) (by rw [er]; omega)
  have q1 : mI (sI M 215 2 (mI M 215 2 - 1)) 215 1 = mI M 215 1 := by simp [ap_done, ap_pend, ap_dbt, ap_rel, ap_wrk, ap_trade, ap_mentor, ap_refused, ap_wdays, ap_today, ap_moves, st_day, st_needs, st_ments, st_aps, ap_eta, st_eta, mI_sI]
  have q2 : mI (sI M 215 2 (mI M 215 2 - 1)) 215 2 = mI M 215 2 - 1 := by simp [ap_done, ap_pend, ap_dbt, ap_rel, ap_wrk, ap_trade, ap_mentor, ap_refused, ap_wdays, ap_today, ap_moves, st_day, st_needs, st_ments, st_aps, ap_eta, st_eta, mI_sI]
  simp only [R_X8_restore_0, kU, kU1, hS, i_lt, i_le, i_eq, tI_0, tI_1, tI_2, tI_3, tI_4, tI_5, tI_6, tI_7, tI_8, tI_9, tI_10, tI_11, tI_12, tI_14, tI_20, tI_31, tI_32, tI_48, tI_57, tI_59, tI_96, tI_97, tI_99, tI_100, tI_122, tI_127, tI_150, tI_199, tI_200, tI_255, tI_427, tI_1708, tI_2000, tI_9999, tI_m1, tI_m10, cN_0, cN_1, cN_2, cN_3, cN_4, cN_5, cN_6, cN_7, cN_8, cN_9, cN_10, cN_11, cN_12, cN_14, cN_20, cN_31, cN_32, cN_48, cN_57, cN_59, cN_96, cN_97, cN_99, cN_100, cN_122, cN_127, cN_150, cN_199, cN_200, cN_255, cN_427, cN_1708, cN_2000, cN_9999, I_ic, I_lc, I_nul, I_il, I_ll, I_al, I_is, I_ls, I_as, I_inc, I_iadd, I_isub, I_imul, I_iand, I_ladd, I_lsub, I_lmul, I_land, I_lor, I_idiv, I_irem, I_ishr, I_lshl, I_lshr, I_lushr, I_lcmp, I_i2l, I_l2i, I_dup, I_pop, I_dup2, I_ifeq, I_ifne, I_iflt, I_ifge, I_ifgt, I_ifle, I_iceq, I_icne, I_iclt, I_icge, I_icgt, I_icle, I_ifnull, I_ifnonnull, I_sw, swK, I_gi, I_gl, I_gp, I_pi, I_pl, I_ial, I_lal, I_ias, I_las, I_aal, I_len, I_ir, I_zr, I_lr, I_vr, I_ar, I_cv, I_cs, I_csN, I_max, I_min, I_cpi, I_cpl, I_kl, popA, gt0, gt1, gt2, gt3, gt4, gt5, gt6, gt7, gt8, gt9, gt10, gt11, gt12, s1_0, s1_1, s1_2, s1_3, s1_4, s1_5, s1_6, s1_7, s1_8, s1_9, s1_10, s1_11, s1_12, s2_0, s2_1, s2_2, s2_3, s2_4, s2_5, s2_6, s2_7, s2_8, s2_9, s2_10, s2_11, se_0, se_1, se_2, se_3, se_4, se_5, se_6, se_7, se_8, se_9, se_10, se_11, se_12, kil_i, kil_l, kil_r, kil_n, kil_x, ap_done, ap_pend, ap_dbt, ap_rel, ap_wrk, ap_trade, ap_mentor, ap_refused, ap_wdays, ap_today, ap_moves, st_day, st_needs, st_ments, st_aps, ap_eta, st_eta, Value.category, List.map_cons, List.map_nil, List.sum_cons, List.sum_nil, Option.toList_some, Option.toList_none, List.cons_append, List.nil_append, Nat.reduceAdd, Nat.reduceLeDiff, true_and, and_true, true_or, or_true, forall_const, not_true_eq_false, false_implies, not_false_eq_true, false_and, ↓reduceIte, ad_1, ad_2, ad_3, ad_4, ad_5, nq_2]
  rw [q1, q2, sz, en, k217]
  refine ⟨fun g => by omega, fun g => ⟨by decide, hvp, ?_⟩⟩
  have m1 := Sm_sI M 215 2 (mI M 215 2 - 1) (lo := 215) (hi := 216) (by omega) (by omega)
  have hX : L[L0.length]? = some X := by rw [hL]; exact app_at'
  have hsv : 217 ≤ sv (((mI M 215 1).toInt.toNat + L0.length) % 4) ∧ sv (((mI M 215 1).toInt.toNat + L0.length) % 4) + 214 ≤ 1073 := by unfold sv; omega
  have hX2 := (hu.at' _ X hX).sm m1 (by omega)
  refine sp_X7_copyState hS hX2 (by omega) fun M2 h2 m2 => ?_
  simp only [I_ic, I_lc, I_nul, I_il, I_ll, I_al, I_is, I_ls, I_as, I_inc, I_iadd, I_isub, I_imul, I_iand, I_ladd, I_lsub, I_lmul, I_land, I_lor, I_idiv, I_irem, I_ishr, I_lshl, I_lshr, I_lushr, I_lcmp, I_i2l, I_l2i, I_dup, I_pop, I_dup2, I_ifeq, I_ifne, I_iflt, I_ifge, I_ifgt, I_ifle, I_iceq, I_icne, I_iclt, I_icge, I_icgt, I_icle, I_ifnull, I_ifnonnull, I_sw, swK, I_gi, I_gl, I_gp, I_pi, I_pl, I_ial, I_lal, I_ias, I_las, I_aal, I_len, I_ir, I_zr, I_lr, I_vr, I_ar, I_cv, I_cs, I_csN, I_max, I_min, I_cpi, I_cpl, I_kl, popA, gt0, gt1, gt2, gt3, gt4, gt5, gt6, gt7, gt8, gt9, gt10, gt11, gt12, s1_0, s1_1, s1_2, s1_3, s1_4, s1_5, s1_6, s1_7, s1_8, s1_9, s1_10, s1_11, s1_12, s2_0, s2_1, s2_2, s2_3, s2_4, s2_5, s2_6, s2_7, s2_8, s2_9, s2_10, s2_11, se_0, se_1, se_2, se_3, se_4, se_5, se_6, se_7, se_8, se_9, se_10, se_11, se_12, kil_i, kil_l, kil_r, kil_n, kil_x, ap_done, ap_pend, ap_dbt, ap_rel, ap_wrk, ap_trade, ap_mentor, ap_refused, ap_wdays, ap_today, ap_moves, st_day, st_needs, st_ments, st_aps, ap_eta, st_eta, Value.category, List.map_cons, List.map_nil, List.sum_cons, List.sum_nil, Option.toList_some, Option.toList_none, List.cons_append, List.nil_append, Nat.reduceAdd, Nat.reduceLeDiff, true_and, and_true, true_or, or_true, forall_const, not_true_eq_false, false_implies, not_false_eq_true, false_and, ↓reduceIte, ad_1, ad_2, ad_3, ad_4, ad_5, nq_2]
  have e0 : mI M2 215 = mI (sI M 215 2 (mI M 215 2 - 1)) 215 := (m2.1 215 (by omega)).1
  rw [e0, q2]
  refine hQ M2 ⟨by rw [e0, q1]; omega, by rw [e0, q2]; exact e1, by omega, fun i Y hi => ?_⟩ h2 (fun b hb1 hb2 => ?_) (m2.2.1) (m2.2.2) _ e1
  · rw [e0, q1]
    have hi2 : L[i]? = some Y := by rw [hL, List.getElem?_append_left (lt_of hi)]; exact hi
    have hsv2 : 217 ≤ sv (((mI M 215 1).toInt.toNat + i) % 4) ∧ sv (((mI M 215 1).toInt.toNat + i) % 4) + 214 ≤ 1073 := by unfold sv; omega
    exact ((hu.at' i Y hi2).sm m1 (by omega)).sm m2 (by omega)
  · have h3 := m2.1 b (by omega)
    have h4 := m1.1 b (by omega)
    exact ⟨h3.1.trans h4.1, h3.2.trans h4.2⟩
end SPU
