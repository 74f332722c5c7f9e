/-! ===== State: the loops over apprentices; copying ===== -/
section SPS6
variable {l : Launch} {G : GT} {M : Mm} {Q : PQ} {QX : PX} {S : Nat} {X : St}
theorem lp_X7_confirmPending {F : FX} {m k : Int32} {y : Mt} (hm0 : 0 ≤ m.toInt) (hy : X.ments[m.toInt.toNat]? = some y) (hc9 : C9 y.2.2) (hkb : 0 ≤ k.toInt ∧ k.toInt ≤ 99) : ∀ (R P : List Ap) (c j : Int32) (M1 : Mm), StAt M1 S { X with aps := P ++ R } → Sm M M1 S (S + 214) → j.toInt = P.length → 0 ≤ c.toInt → c.toInt ≤ k.toInt → (∀ x ∈ R, WfA X x) → cCf m.toInt (k.toInt - c.toInt) R → (∀ M2, StAt M2 S { X with aps := P ++ cfL m.toInt (k.toInt - c.toInt) R, ments := X.ments.set m.toInt.toNat (addC y (c.toInt + cfN m.toInt (k.toInt - c.toInt) R)) } → Sm M M2 S (S + 214) → qi Q M2 (c.toInt + cfN m.toInt (k.toInt - c.toInt) R)) → Wj true l G F Y_X7_confirmPending Q QX 0 0 5 [.ref S, .int m, .int k, .int c, .int j] [] M1
  | [], P, c, j, M1, h, hs, hj, h0, h1, hw, hcf, hQ => by
    refine g_X7_confirmPending_5 _ _ _ ?_
    have hk := h.k
    have hna := h.na
    have l6 := h.l6
    have l10 := h.l10
    have hlm := lt_of hy
    simp only [List.append_nil] at hna
    simp only [R_X7_confirmPending_5, hk, k_s8, i_lt, i_le, i_eq, tI_0, tI_1, tI_2, tI_3, tI_4, tI_5, tI_6, tI_7, tI_8, tI_9, tI_10, tI_11, tI_12, tI_14, tI_20, tI_31, tI_32, tI_48, tI_57, tI_59, tI_96, tI_97, tI_99, tI_100, tI_122, tI_127, tI_150, tI_199, tI_200, tI_255, tI_427, tI_1708, tI_2000, tI_9999, tI_m1, tI_m10, cN_0, cN_1, cN_2, cN_3, cN_4, cN_5, cN_6, cN_7, cN_8, cN_9, cN_10, cN_11, cN_12, cN_14, cN_20, cN_31, cN_32, cN_48, cN_57, cN_59, cN_96, cN_97, cN_99, cN_100, cN_122, cN_127, cN_150, cN_199, cN_200, cN_255, cN_427, cN_1708, cN_2000, cN_9999, I_ic, I_lc, I_nul, I_il, I_ll, I_al, I_is, I_ls, I_as, I_inc, I_iadd, I_isub, I_imul, I_iand, I_ladd, I_lsub, I_lmul, I_land, I_lor, I_idiv, I_irem, I_ishr, I_lshl, I_lshr, I_lushr, I_lcmp, I_i2l, I_l2i, I_dup, I_pop, I_dup2, I_ifeq, I_ifne, I_iflt, I_ifge, I_ifgt, I_ifle, I_iceq, I_icne, I_iclt, I_icge, I_icgt, I_icle, I_ifnull, I_ifnonnull, I_sw, swK, I_gi, I_gl, I_gp, I_pi, I_pl, I_ial, I_lal, I_ias, I_las, I_aal, I_len, I_ir, I_zr, I_lr, I_vr, I_ar, I_cv, I_cs, I_csN, I_max, I_min, I_cpi, I_cpl, I_kl, popA, gt0, gt1, gt2, gt3, gt4, gt5, gt6, gt7, gt8, gt9, gt10, gt11, gt12, s1_0, s1_1, s1_2, s1_3, s1_4, s1_5, s1_6, s1_7, s1_8, s1_9, s1_10, s1_11, s1_12, s2_0, s2_1, s2_2, s2_3, s2_4, s2_5, s2_6, s2_7, s2_8, s2_9, s2_10, s2_11, se_0, se_1, se_2, se_3, se_4, se_5, se_6, se_7, se_8, se_9, se_10, se_11, se_12, kil_i, kil_l, kil_r, kil_n, kil_x, Value.category, List.map_cons, List.map_nil, List.sum_cons, List.sum_nil, Option.toList_some, Option.toList_none, List.cons_append, List.nil_append, Nat.reduceAdd, Nat.reduceLeDiff, true_and, and_true, true_or, or_true, forall_const, not_true_eq_false, false_implies, not_false_eq_true, false_and, ↓reduceIte, ad_1, ad_2, ad_3, ad_4, ad_5, nq_2]
    rw [hna, hj]
    refine ⟨fun g => ?_, fun g => by omega⟩
    refine sp_X7_mentorAt (m := m.toInt.toNat) h (by omega) (lt_of hy) ?_
    have hmt := h.ments _ y hy
    have hko := hmt.1
    have c0 := hc9.1
    have c1 := hc9.2
    simp only [hko, i_lt, i_le, i_eq, tI_0, tI_1, tI_2, tI_3, tI_4, tI_5, tI_6, tI_7, tI_8, tI_9, tI_10, tI_11, tI_12, tI_14, tI_20, tI_31, tI_32, tI_48, tI_57, tI_59, tI_96, tI_97, tI_99, tI_100, tI_122, tI_127, tI_150, tI_199, tI_200, tI_255, tI_427, tI_1708, tI_2000, tI_9999, tI_m1, tI_m10, cN_0, cN_1, cN_2, cN_3, cN_4, cN_5, cN_6, cN_7, cN_8, cN_9, cN_10, cN_11, cN_12, cN_14, cN_20, cN_31, cN_32, cN_48, cN_57, cN_59, cN_96, cN_97, cN_99, cN_100, cN_122, cN_127, cN_150, cN_199, cN_200, cN_255, cN_427, cN_1708, cN_2000, cN_9999, I_ic, I_lc, I_nul, I_il, I_ll, I_al, I_is, I_ls, I_as, I_inc, I_iadd, I_isub, I_imul, I_iand, I_ladd, I_lsub, I_lmul, I_land, I_lor, I_idiv, I_irem, I_ishr, I_lshl, I_lshr, I_lushr, I_lcmp, I_i2l, I_l2i, I_dup, I_pop, I_dup2, I_ifeq, I_ifne, I_iflt, I_ifge, I_ifgt, I_ifle, I_iceq, I_icne, I_iclt, I_icge, I_icgt, I_icle, I_ifnull, I_ifnonnull, I_sw, swK, I_gi, I_gl, I_gp, I_pi, I_pl, I_ial, I_lal, I_ias, I_las, I_aal, I_len, I_ir, I_zr, I_lr, I_vr, I_ar, I_cv, I_cs, I_csN, I_max, I_min, I_cpi, I_cpl, I_kl, popA, gt0, gt1, gt2, gt3, gt4, gt5, gt6, gt7, gt8, gt9, gt10, gt11, gt12, s1_0, s1_1, s1_2, s1_3, s1_4, s1_5, s1_6, s1_7, s1_8, s1_9, s1_10, s1_11, s1_12, s2_0, s2_1, s2_2, s2_3, s2_4, s2_5, s2_6, s2_7, s2_8, s2_9, s2_10, s2_11, se_0, se_1, se_2, se_3, se_4, se_5, se_6, se_7, se_8, se_9, se_10, se_11, se_12, kil_i, kil_l, kil_r, kil_n, kil_x, Value.category, List.map_cons, List.map_nil, List.sum_cons, List.sum_nil, Option.toList_some, Option.toList_none, List.cons_append, List.nil_append, Nat.reduceAdd, Nat.reduceLeDiff, true_and, and_true, true_or, or_true, forall_const, not_true_eq_false, false_implies, not_false_eq_true, false_and, ↓reduceIte, ad_1, ad_2, ad_3, ad_4, ad_5, nq_2]
    simp only [cfL, cfN, List.append_nil, Int.add_zero] at hQ h
    have s2 := Sm_sI M1 (S + 28 + m.toInt.toNat) 2 (mI M1 (S + 28 + m.toInt.toNat) 2 + c) (lo := S + 28 + m.toInt.toNat) (hi := S + 28 + m.toInt.toNat + 1) (by omega) (by omega)
    have hmt2 : MtAt (sI M1 (S + 28 + m.toInt.toNat) 2 (mI M1 (S + 28 + m.toInt.toNat) 2 + c)) (S + 28 + m.toInt.toNat) (addC y c.toInt) := ⟨hko, by simp [mI_sI]; exact hmt.2.1, by simp [mI_sI]; exact hmt.2.2.1, by
      simp only [mI_sI, and_self, if_true]
      rw [i_add, hmt.2.2.2]
      · rfl
      all_goals rw [hmt.2.2.2]; omega⟩
    refine hQ _ ?_ (hs.trans s2 (by omega) (by omega) (by omega) (by simp only at l6; omega)) c rfl
    exact h.setM hmt2 hlm s2
  | x :: R, P, c, j, M1, h, hs, hj, h0, h1, hw, hcf, hQ => by
    refine g_X7_confirmPending_5 _ _ _ ?_
    have hk := h.k
    have hna := h.na
    have l10 := h.l10
    simp only [List.length_append, List.length_cons] at hna l10
    have ha := h.aps P.length x app_at'
    have hxk := ha.k
    have hn : j.toNatClampNeg = P.length := by rw [i_cl, hj]; rfl
    have hj1 : (j + 1).toInt = ((P.length + 1 : Nat) : Int) := by rw [i_add, hj]; rfl; all_goals rw [hj, tI_1]; omega
    have wx := hw x (List.mem_cons_self ..)
    have hwR : ∀ z ∈ R, WfA X z := fun z hz => hw z (List.mem_cons_of_mem _ hz)
    rw [cCf] at hcf
    simp only [cfL, cfN] at hQ
    simp only [R_X7_confirmPending_5, hk, k_s8, hxk, hn, i_lt, i_le, i_eq, tI_0, tI_1, tI_2, tI_3, tI_4, tI_5, tI_6, tI_7, tI_8, tI_9, tI_10, tI_11, tI_12, tI_14, tI_20, tI_31, tI_32, tI_48, tI_57, tI_59, tI_96, tI_97, tI_99, tI_100, tI_122, tI_127, tI_150, tI_199, tI_200, tI_255, tI_427, tI_1708, tI_2000, tI_9999, tI_m1, tI_m10, cN_0, cN_1, cN_2, cN_3, cN_4, cN_5, cN_6, cN_7, cN_8, cN_9, cN_10, cN_11, cN_12, cN_14, cN_20, cN_31, cN_32, cN_48, cN_57, cN_59, cN_96, cN_97, cN_99, cN_100, cN_122, cN_127, cN_150, cN_199, cN_200, cN_255, cN_427, cN_1708, cN_2000, cN_9999, I_ic, I_lc, I_nul, I_il, I_ll, I_al, I_is, I_ls, I_as, I_inc, I_iadd, I_isub, I_imul, I_iand, I_ladd, I_lsub, I_lmul, I_land, I_lor, I_idiv, I_irem, I_ishr, I_lshl, I_lshr, I_lushr, I_lcmp, I_i2l, I_l2i, I_dup, I_pop, I_dup2, I_ifeq, I_ifne, I_iflt, I_ifge, I_ifgt, I_ifle, I_iceq, I_icne, I_iclt, I_icge, I_icgt, I_icle, I_ifnull, I_ifnonnull, I_sw, swK, I_gi, I_gl, I_gp, I_pi, I_pl, I_ial, I_lal, I_ias, I_las, I_aal, I_len, I_ir, I_zr, I_lr, I_vr, I_ar, I_cv, I_cs, I_csN, I_max, I_min, I_cpi, I_cpl, I_kl, popA, gt0, gt1, gt2, gt3, gt4, gt5, gt6, gt7, gt8, gt9, gt10, gt11, gt12, s1_0, s1_1, s1_2, s1_3, s1_4, s1_5, s1_6, s1_7, s1_8, s1_9, s1_10, s1_11, s1_12, s2_0, s2_1, s2_2, s2_3, s2_4, s2_5, s2_6, s2_7, s2_8, s2_9, s2_10, s2_11, se_0, se_1, se_2, se_3, se_4, se_5, se_6, se_7, se_8, se_9, se_10, se_11, se_12, kil_i, kil_l, kil_r, kil_n, kil_x, Value.category, List.map_cons, List.map_nil, List.sum_cons, List.sum_nil, Option.toList_some, Option.toList_none, List.cons_append, List.nil_append, Nat.reduceAdd, Nat.reduceLeDiff, true_and, and_true, true_or, or_true, forall_const, not_true_eq_false, false_implies, not_false_eq_true, false_and, ↓reduceIte, ad_1, ad_2, ad_3, ad_4, ad_5, nq_2]
    rw [hna, hj, ha.mentor]
    refine ⟨fun g => by omega, fun g => ⟨i_in (n := 10) (by omega) (by omega), fun g2 => ?_, fun g2 => ⟨i_in (n := 10) (by omega) (by omega), ?_⟩⟩⟩
    · simp only [g2, if_false] at hcf hQ
      refine lp_X7_confirmPending hm0 hy hc9 hkb R (P ++ [x]) c _ M1 (by simpa using h) hs (by simpa using hj1) h0 h1 hwR hcf fun M2 a2 m2 => ?_
      exact hQ M2 (by simpa using a2) m2
    · simp only [g2, if_true] at hcf hQ
      have ek : (k - c).toInt = k.toInt - c.toInt := by rw [i_sub]; all_goals omega
      have el := tk_len m.toInt x.pend (k.toInt - c.toInt) (by omega)
      have hln := wx.ln
      have hcw := cWith_b m.toInt x.pend
      refine sp_X1_takeFirst ha (by rw [ek]; exact ok_take wx hcf.1) fun M2 a2 m2 => ?_
      rw [ek] at a2 ⊢
      intro r hr
      rw [g2] at hr
      simp only [I_ic, I_lc, I_nul, I_il, I_ll, I_al, I_is, I_ls, I_as, I_inc, I_iadd, I_isub, I_imul, I_iand, I_ladd, I_lsub, I_lmul, I_land, I_lor, I_idiv, I_irem, I_ishr, I_lshl, I_lshr, I_lushr, I_lcmp, I_i2l, I_l2i, I_dup, I_pop, I_dup2, I_ifeq, I_ifne, I_iflt, I_ifge, I_ifgt, I_ifle, I_iceq, I_icne, I_iclt, I_icge, I_icgt, I_icle, I_ifnull, I_ifnonnull, I_sw, swK, I_gi, I_gl, I_gp, I_pi, I_pl, I_ial, I_lal, I_ias, I_las, I_aal, I_len, I_ir, I_zr, I_lr, I_vr, I_ar, I_cv, I_cs, I_csN, I_max, I_min, I_cpi, I_cpl, I_kl, popA, gt0, gt1, gt2, gt3, gt4, gt5, gt6, gt7, gt8, gt9, gt10, gt11, gt12, s1_0, s1_1, s1_2, s1_3, s1_4, s1_5, s1_6, s1_7, s1_8, s1_9, s1_10, s1_11, s1_12, s2_0, s2_1, s2_2, s2_3, s2_4, s2_5, s2_6, s2_7, s2_8, s2_9, s2_10, s2_11, se_0, se_1, se_2, se_3, se_4, se_5, se_6, se_7, se_8, se_9, se_10, se_11, se_12, kil_i, kil_l, kil_r, kil_n, kil_x, Value.category, List.map_cons, List.map_nil, List.sum_cons, List.sum_nil, Option.toList_some, Option.toList_none, List.cons_append, List.nil_append, Nat.reduceAdd, Nat.reduceLeDiff, true_and, and_true, true_or, or_true, forall_const, not_true_eq_false, false_implies, not_false_eq_true, false_and, ↓reduceIte, ad_1, ad_2, ad_3, ad_4, ad_5, nq_2]
      have ec : (c + r).toInt = c.toInt + ((tkT m.toInt (k.toInt - c.toInt) x.pend).length : Int) := by rw [i_add, hr]; all_goals rw [hr]; omega
      have h2 := h.setA a2 (by simp) m2
      simp only [St.setA, app_set] at h2
      have e2 : k.toInt - (c + r).toInt = k.toInt - c.toInt - ((tkT m.toInt (k.toInt - c.toInt) x.pend).length : Int) := by rw [ec]; omega
      refine lp_X7_confirmPending hm0 hy hc9 hkb R (P ++ [aTake x (k.toInt - c.toInt)]) (c + r) _ M2 (by simpa using h2) (hs.trans m2 (by omega) (by omega) (by omega) (by omega)) (by simpa using hj1) (by rw [ec]; omega) (by rw [ec]; omega) hwR (by rw [e2, el]; exact hcf.2) fun M3 a3 m3 => ?_
      rw [e2, ec] at a3 ⊢
      rw [Int.add_assoc] at a3 ⊢
      exact hQ M3 (by simpa using a3) m3
theorem sp_X7_confirmPending {m k : Int32} {y : Mt} (h : StAt M S X) (ws : WfS X) (hm0 : 0 ≤ m.toInt) (hy : X.ments[m.toInt.toNat]? = some y) (hkb : 0 ≤ k.toInt ∧ k.toInt ≤ 99) (hcf : cCf m.toInt k.toInt X.aps) (hQ : ∀ M2, StAt M2 S { X with aps := cfL m.toInt k.toInt X.aps, ments := X.ments.set m.toInt.toNat (addC y (cfN m.toInt k.toInt X.aps)) } → Sm M M2 S (S + 214) → qi Q M2 (cfN m.toInt k.toInt X.aps)) : Tr true l G Y_X7_confirmPending [.ref S, .int m, .int k] M Q QX := by
  refine en_X7_confirmPending fun F => ?_
  have e : k.toInt - (0 : Int32).toInt = k.toInt := by rw [tI_0]; omega
  simp only [R_X7_confirmPending_0, I_ic, I_lc, I_nul, I_il, I_ll, I_al, I_is, I_ls, I_as, I_inc, I_iadd, I_isub, I_imul, I_iand, I_ladd, I_lsub, I_lmul, I_land, I_lor, I_idiv, I_irem, I_ishr, I_lshl, I_lshr, I_lushr, I_lcmp, I_i2l, I_l2i, I_dup, I_pop, I_dup2, I_ifeq, I_ifne, I_iflt, I_ifge, I_ifgt, I_ifle, I_iceq, I_icne, I_iclt, I_icge, I_icgt, I_icle, I_ifnull, I_ifnonnull, I_sw, swK, I_gi, I_gl, I_gp, I_pi, I_pl, I_ial, I_lal, I_ias, I_las, I_aal, I_len, I_ir, I_zr, I_lr, I_vr, I_ar, I_cv, I_cs, I_csN, I_max, I_min, I_cpi, I_cpl, I_kl, popA, gt0, gt1, gt2, gt3, gt4, gt5, gt6, gt7, gt8, gt9, gt10, gt11, gt12, s1_0, s1_1, s1_2, s1_3, s1_4, s1_5, s1_6, s1_7, s1_8, s1_9, s1_10, s1_11, s1_12, s2_0, s2_1, s2_2, s2_3, s2_4, s2_5, s2_6, s2_7, s2_8, s2_9, s2_10, s2_11, se_0, se_1, se_2, se_3, se_4, se_5, se_6, se_7, se_8, se_9, se_10, se_11, se_12, kil_i, kil_l, kil_r, kil_n, kil_x, Value.category, List.map_cons, List.map_nil, List.sum_cons, List.sum_nil, Option.toList_some, Option.toList_none, List.cons_append, List.nil_append, Nat.reduceAdd, Nat.reduceLeDiff, true_and, and_true, true_or, or_true, forall_const, not_true_eq_false, false_implies, not_false_eq_true, false_and, ↓reduceIte, ad_1, ad_2, ad_3, ad_4, ad_5, nq_2]
  refine lp_X7_confirmPending hm0 hy (ws.mb y (List.mem_of_getElem? hy)).2.2 hkb X.aps [] 0 0 M (by simpa using h) (Sm_refl _ _ _) rfl (by decide) (by rw [tI_0]; omega) ws.ab (by rw [e]; exact hcf) fun M2 a2 m2 => ?_
  rw [e] at a2 ⊢
  have := hQ M2 (by simpa [tI_0] using a2) m2
  simpa [tI_0] using this
theorem lp_X7_passDay {F : FX} (hd0 : 0 ≤ X.day ∧ X.day ≤ 9999) : ∀ (R P : List Ap) (c j : Int32) (M1 : Mm), StAt M1 S { X with aps := P ++ R } → Sm M M1 S (S + 214) → j.toInt = P.length → 0 ≤ c.toInt → c.toInt ≤ 20 * P.length → (∀ x ∈ R, WfA X x) → (∀ M2, StAt M2 S { X with day := X.day + 1, aps := P ++ R.map (pdA X.day) } → Sm M M2 S (S + 214) → qi Q M2 (c.toInt + pdN X.day R)) → Wj true l G F Y_X7_passDay Q QX 0 0 4 [.ref S, .int c, .int j] [] M1
  | [], P, c, j, M1, h, hs, hj, h0, h1, hw, hQ => by
    refine g_X7_passDay_4 _ _ _ ?_
    have hk := h.k
    have hna := h.na
    have hdy := h.day
    simp only [List.append_nil] at hna hdy
    simp only [R_X7_passDay_4, hk, k_s8, i_lt, i_le, i_eq, tI_0, tI_1, tI_2, tI_3, tI_4, tI_5, tI_6, tI_7, tI_8, tI_9, tI_10, tI_11, tI_12, tI_14, tI_20, tI_31, tI_32, tI_48, tI_57, tI_59, tI_96, tI_97, tI_99, tI_100, tI_122, tI_127, tI_150, tI_199, tI_200, tI_255, tI_427, tI_1708, tI_2000, tI_9999, tI_m1, tI_m10, cN_0, cN_1, cN_2, cN_3, cN_4, cN_5, cN_6, cN_7, cN_8, cN_9, cN_10, cN_11, cN_12, cN_14, cN_20, cN_31, cN_32, cN_48, cN_57, cN_59, cN_96, cN_97, cN_99, cN_100, cN_122, cN_127, cN_150, cN_199, cN_200, cN_255, cN_427, cN_1708, cN_2000, cN_9999, I_ic, I_lc, I_nul, I_il, I_ll, I_al, I_is, I_ls, I_as, I_inc, I_iadd, I_isub, I_imul, I_iand, I_ladd, I_lsub, I_lmul, I_land, I_lor, I_idiv, I_irem, I_ishr, I_lshl, I_lshr, I_lushr, I_lcmp, I_i2l, I_l2i, I_dup, I_pop, I_dup2, I_ifeq, I_ifne, I_iflt, I_ifge, I_ifgt, I_ifle, I_iceq, I_icne, I_iclt, I_icge, I_icgt, I_icle, I_ifnull, I_ifnonnull, I_sw, swK, I_gi, I_gl, I_gp, I_pi, I_pl, I_ial, I_lal, I_ias, I_las, I_aal, I_len, I_ir, I_zr, I_lr, I_vr, I_ar, I_cv, I_cs, I_csN, I_max, I_min, I_cpi, I_cpl, I_kl, popA, gt0, gt1, gt2, gt3, gt4, gt5, gt6, gt7, gt8, gt9, gt10, gt11, gt12, s1_0, s1_1, s1_2, s1_3, s1_4, s1_5, s1_6, s1_7, s1_8, s1_9, s1_10, s1_11, s1_12, s2_0, s2_1, s2_2, s2_3, s2_4, s2_5, s2_6, s2_7, s2_8, s2_9, s2_10, s2_11, se_0, se_1, se_2, se_3, se_4, se_5, se_6, se_7, se_8, se_9, se_10, se_11, se_12, kil_i, kil_l, kil_r, kil_n, kil_x, Value.category, List.map_cons, List.map_nil, List.sum_cons, List.sum_nil, Option.toList_some, Option.toList_none, List.cons_append, List.nil_append, Nat.reduceAdd, Nat.reduceLeDiff, true_and, and_true, true_or, or_true, forall_const, not_true_eq_false, false_implies, not_false_eq_true, false_and, ↓reduceIte, ad_1, ad_2, ad_3, ad_4, ad_5, nq_2]
    rw [hna, hj]
    refine ⟨fun g => ?_, fun g => by omega⟩
    have s2 := Sm_sI M1 S 8 (mI M1 S 8 + 1) (lo := S) (hi := S + 1) (by omega) (by omega)
    simp only [pdN, List.map_nil, List.append_nil, Int.add_zero] at hQ
    have h2 := h.sc s2 (d := X.day + 1) (by simp [mI_sI]) (by simp [mI_sI]) (by simp [mI_sI]) (by
      simp only [mI_sI, and_self, if_true]
      rw [i_add, hdy, tI_1]
      all_goals rw [hdy, tI_1]; omega)
    exact hQ _ (by simpa using h2) (hs.trans s2 (by omega) (by omega) (by omega) (by omega)) c rfl
  | x :: R, P, c, j, M1, h, hs, hj, h0, h1, hw, hQ => by
    refine g_X7_passDay_4 _ _ _ ?_
    have hk := h.k
    have hna := h.na
    have l10 := h.l10
    have hdy := h.day
    simp only [List.length_append, List.length_cons] at hna l10 hdy
    have ha := h.aps P.length x app_at'
    have hxk := ha.k
    have hn : j.toNatClampNeg = P.length := by rw [i_cl, hj]; rfl
    have hj1 : (j + 1).toInt = ((P.length + 1 : Nat) : Int) := by rw [i_add, hj]; rfl; all_goals rw [hj, tI_1]; omega
    have wx := hw x (List.mem_cons_self ..)
    have hwR : ∀ z ∈ R, WfA X z := fun z hz => hw z (List.mem_cons_of_mem _ hz)
    have t14 : (14 : Int32).toInt = 14 := rfl
    have e14 : (mI M1 S 8 - 14).toInt = X.day - 14 := by rw [i_sub, hdy, t14]; all_goals rw [hdy, t14]; omega
    have hln := wx.ln
    simp only [pdN, List.map_cons] at hQ
    have hfl : (x.pend.filter (fun e => decide (e.2.2.1 ≤ X.day - 14))).length ≤ x.pend.length := List.length_filter_le _ _
    simp only [R_X7_passDay_4, hk, k_s8, hxk, hn, i_lt, i_le, i_eq, tI_0, tI_1, tI_2, tI_3, tI_4, tI_5, tI_6, tI_7, tI_8, tI_9, tI_10, tI_11, tI_12, tI_14, tI_20, tI_31, tI_32, tI_48, tI_57, tI_59, tI_96, tI_97, tI_99, tI_100, tI_122, tI_127, tI_150, tI_199, tI_200, tI_255, tI_427, tI_1708, tI_2000, tI_9999, tI_m1, tI_m10, cN_0, cN_1, cN_2, cN_3, cN_4, cN_5, cN_6, cN_7, cN_8, cN_9, cN_10, cN_11, cN_12, cN_14, cN_20, cN_31, cN_32, cN_48, cN_57, cN_59, cN_96, cN_97, cN_99, cN_100, cN_122, cN_127, cN_150, cN_199, cN_200, cN_255, cN_427, cN_1708, cN_2000, cN_9999, I_ic, I_lc, I_nul, I_il, I_ll, I_al, I_is, I_ls, I_as, I_inc, I_iadd, I_isub, I_imul, I_iand, I_ladd, I_lsub, I_lmul, I_land, I_lor, I_idiv, I_irem, I_ishr, I_lshl, I_lshr, I_lushr, I_lcmp, I_i2l, I_l2i, I_dup, I_pop, I_dup2, I_ifeq, I_ifne, I_iflt, I_ifge, I_ifgt, I_ifle, I_iceq, I_icne, I_iclt, I_icge, I_icgt, I_icle, I_ifnull, I_ifnonnull, I_sw, swK, I_gi, I_gl, I_gp, I_pi, I_pl, I_ial, I_lal, I_ias, I_las, I_aal, I_len, I_ir, I_zr, I_lr, I_vr, I_ar, I_cv, I_cs, I_csN, I_max, I_min, I_cpi, I_cpl, I_kl, popA, gt0, gt1, gt2, gt3, gt4, gt5, gt6, gt7, gt8, gt9, gt10, gt11, gt12, s1_0, s1_1, s1_2, s1_3, s1_4, s1_5, s1_6, s1_7, s1_8, s1_9, s1_10, s1_11, s1_12, s2_0, s2_1, s2_2, s2_3, s2_4, s2_5, s2_6, s2_7, s2_8, s2_9, s2_10, s2_11, se_0, se_1, se_2, se_3, se_4, se_5, se_6, se_7, se_8, se_9, se_10, se_11, se_12, kil_i, kil_l, kil_r, kil_n, kil_x, Value.category, List.map_cons, List.map_nil, List.sum_cons, List.sum_nil, Option.toList_some, Option.toList_none, List.cons_append, List.nil_append, Nat.reduceAdd, Nat.reduceLeDiff, true_and, and_true, true_or, or_true, forall_const, not_true_eq_false, false_implies, not_false_eq_true, false_and, ↓reduceIte, ad_1, ad_2, ad_3, ad_4, ad_5, nq_2]
    rw [hna, hj]
    refine ⟨fun g => by omega, fun g => ⟨i_in (n := 10) (by omega) (by omega), ?_⟩⟩
    refine sp_X1_doubtUntil ha wx.ln fun M2 a2 m2 => ?_
    rw [e14] at a2 ⊢
    intro r hr
    have h2 := h.setA a2 (by simp) m2
    simp only [hk, k_s8, hxk, hn, i_lt, i_le, i_eq, tI_0, tI_1, tI_2, tI_3, tI_4, tI_5, tI_6, tI_7, tI_8, tI_9, tI_10, tI_11, tI_12, tI_14, tI_20, tI_31, tI_32, tI_48, tI_57, tI_59, tI_96, tI_97, tI_99, tI_100, tI_122, tI_127, tI_150, tI_199, tI_200, tI_255, tI_427, tI_1708, tI_2000, tI_9999, tI_m1, tI_m10, cN_0, cN_1, cN_2, cN_3, cN_4, cN_5, cN_6, cN_7, cN_8, cN_9, cN_10, cN_11, cN_12, cN_14, cN_20, cN_31, cN_32, cN_48, cN_57, cN_59, cN_96, cN_97, cN_99, cN_100, cN_122, cN_127, cN_150, cN_199, cN_200, cN_255, cN_427, cN_1708, cN_2000, cN_9999, I_ic, I_lc, I_nul, I_il, I_ll, I_al, I_is, I_ls, I_as, I_inc, I_iadd, I_isub, I_imul, I_iand, I_ladd, I_lsub, I_lmul, I_land, I_lor, I_idiv, I_irem, I_ishr, I_lshl, I_lshr, I_lushr, I_lcmp, I_i2l, I_l2i, I_dup, I_pop, I_dup2, I_ifeq, I_ifne, I_iflt, I_ifge, I_ifgt, I_ifle, I_iceq, I_icne, I_iclt, I_icge, I_icgt, I_icle, I_ifnull, I_ifnonnull, I_sw, swK, I_gi, I_gl, I_gp, I_pi, I_pl, I_ial, I_lal, I_ias, I_las, I_aal, I_len, I_ir, I_zr, I_lr, I_vr, I_ar, I_cv, I_cs, I_csN, I_max, I_min, I_cpi, I_cpl, I_kl, popA, gt0, gt1, gt2, gt3, gt4, gt5, gt6, gt7, gt8, gt9, gt10, gt11, gt12, s1_0, s1_1, s1_2, s1_3, s1_4, s1_5, s1_6, s1_7, s1_8, s1_9, s1_10, s1_11, s1_12, s2_0, s2_1, s2_2, s2_3, s2_4, s2_5, s2_6, s2_7, s2_8, s2_9, s2_10, s2_11, se_0, se_1, se_2, se_3, se_4, se_5, se_6, se_7, se_8, se_9, se_10, se_11, se_12, kil_i, kil_l, kil_r, kil_n, kil_x, Value.category, List.map_cons, List.map_nil, List.sum_cons, List.sum_nil, Option.toList_some, Option.toList_none, List.cons_append, List.nil_append, Nat.reduceAdd, Nat.reduceLeDiff, true_and, and_true, true_or, or_true, forall_const, not_true_eq_false, false_implies, not_false_eq_true, false_and, ↓reduceIte, ad_1, ad_2, ad_3, ad_4, ad_5, nq_2]
    refine ⟨i_in (n := 10) (by omega) (by omega), ?_⟩
    have s3 := Sm_sI M2 (S + 34 + 18 * P.length) 9 0 (lo := S + 34 + 18 * P.length) (hi := S + 34 + 18 * P.length + 1) (by omega) (by omega)
    have a3 := a2.sc s3 (t := x.trade) (m := x.mentor) (r := x.refused) (w := x.wdays) (d := 0) (v := x.moves) (by simp [mI_sI]; exact a2.trade) (by simp [mI_sI]; exact a2.mentor) (by simp [mI_sI]; exact a2.refused) (by simp [mI_sI]; exact a2.wdays) (by simp only [mI_sI, and_self, if_true]; rfl) (by simp [mI_sI]; exact a2.moves)
    have h3 := h2.setA a3 (by simp [St.setA]) (s3.wd (by omega) (by omega))
    simp only [St.setA, app_set] at h3
    have ec : (c + r).toInt = c.toInt + ((x.pend.filter (fun e => decide (e.2.2.1 ≤ X.day - 14))).length : Int) := by rw [i_add, hr]; all_goals rw [hr]; omega
    refine lp_X7_passDay hd0 R (P ++ [pdA X.day x]) (c + r) _ _ (by simpa [pdA, aDbt] using h3) ((hs.trans m2 (lo := S) (hi := S + 214) (by omega) (by omega) (by omega) (by omega)).trans s3 (by omega) (by omega) (by omega) (by omega)) (by simpa using hj1) (by rw [ec]; omega) (by rw [ec]; simp; omega) hwR fun M4 a4 m4 => ?_
    rw [ec, Int.add_assoc]
    exact hQ M4 (by simpa using a4) m4
theorem sp_X7_passDay (h : StAt M S X) (ws : WfS X) (hQ : ∀ M2, StAt M2 S X.pass → Sm M M2 S (S + 214) → qi Q M2 (pdN X.day X.aps)) : Tr true l G Y_X7_passDay [.ref S] M Q QX := by
  refine en_X7_passDay fun F => ?_
  simp only [R_X7_passDay_0, I_ic, I_lc, I_nul, I_il, I_ll, I_al, I_is, I_ls, I_as, I_inc, I_iadd, I_isub, I_imul, I_iand, I_ladd, I_lsub, I_lmul, I_land, I_lor, I_idiv, I_irem, I_ishr, I_lshl, I_lshr, I_lushr, I_lcmp, I_i2l, I_l2i, I_dup, I_pop, I_dup2, I_ifeq, I_ifne, I_iflt, I_ifge, I_ifgt, I_ifle, I_iceq, I_icne, I_iclt, I_icge, I_icgt, I_icle, I_ifnull, I_ifnonnull, I_sw, swK, I_gi, I_gl, I_gp, I_pi, I_pl, I_ial, I_lal, I_ias, I_las, I_aal, I_len, I_ir, I_zr, I_lr, I_vr, I_ar, I_cv, I_cs, I_csN, I_max, I_min, I_cpi, I_cpl, I_kl, popA, gt0, gt1, gt2, gt3, gt4, gt5, gt6, gt7, gt8, gt9, gt10, gt11, gt12, s1_0, s1_1, s1_2, s1_3, s1_4, s1_5, s1_6, s1_7, s1_8, s1_9, s1_10, s1_11, s1_12, s2_0, s2_1, s2_2, s2_3, s2_4, s2_5, s2_6, s2_7, s2_8, s2_9, s2_10, s2_11, se_0, se_1, se_2, se_3, se_4, se_5, se_6, se_7, se_8, se_9, se_10, se_11, se_12, kil_i, kil_l, kil_r, kil_n, kil_x, Value.category, List.map_cons, List.map_nil, List.sum_cons, List.sum_nil, Option.toList_some, Option.toList_none, List.cons_append, List.nil_append, Nat.reduceAdd, Nat.reduceLeDiff, true_and, and_true, true_or, or_true, forall_const, not_true_eq_false, false_implies, not_false_eq_true, false_and, ↓reduceIte, ad_1, ad_2, ad_3, ad_4, ad_5, nq_2]
  refine lp_X7_passDay ws.day X.aps [] 0 0 M (by simpa using h) (Sm_refl _ _ _) rfl (by decide) (by decide) ws.ab fun M2 a2 m2 => ?_
  have := hQ M2 (by simpa [St.pass] using a2) m2
  simpa [tI_0] using this
end SPS6
