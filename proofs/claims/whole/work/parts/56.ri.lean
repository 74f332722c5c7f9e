/-! ===== the reference: logs ===== -/
abbrev canW (X : St) (x : Ap) (h : Int) : Prop := x.mentor ≠ -1 ∧ ¬ hasD x.rel X.day ∧ x.today + h ≤ 12 ∧ x.pend.length + x.dbt.length < 20
/-- the entries behind the pending ones are moved up by one -/
def SH (M M' : Mm) (a k n : Nat) : Prop := (∀ j, mL M' 1099 (37 + 39 * a + j) = if 19 + k < j ∧ j ≤ 19 + n then mL M 1099 (37 + 39 * a + (j - 1)) else mL M 1099 (37 + 39 * a + j)) ∧ RU M M' a
theorem RA.work {F0 F6 : Nat → Int64} {x : Ap} {p h d : Int} (r : RA F0 x) (lo : ∀ k, k < 15 → ¬ k = 7 → ¬ k = 8 → ¬ k = 9 → F6 k = F0 k) (f7 : (F6 7).toInt = if x.today = 0 then x.wdays + 1 else x.wdays) (f8 : (F6 8).toInt = x.today + h) (f9 : (F6 9).toInt = x.pend.length + 1) (fw : ∀ b, b < 200 → lb (F6 (15 + b / 50)) (b % 50) = sPutI x.wrk d b) (e1 : ∀ j, j < x.pend.length → F6 (19 + j) = F0 (19 + j)) (e2 : (F6 (19 + x.pend.length)).toInt = pk (p, h, d, x.mentor)) (e3 : ∀ j, x.pend.length ≤ j → j < x.pend.length + x.dbt.length → F6 (19 + (j + 1)) = F0 (19 + j)) : RA F6 (aWork x p h d) := by
  unfold aWork
  refine ⟨?_, ?_, fun q hq => ?_, ?_, ?_, ?_, ?_, ?_, ?_, fun b hb => ?_, fun b hb => ?_, fun j f hf => ?_⟩
  all_goals try dsimp only
  · rw [lo 0 (by decide) (by decide) (by decide) (by decide)]; exact r.trade
  · rw [lo 1 (by decide) (by decide) (by decide) (by decide)]; exact r.mentor
  · rw [lo (2 + q) (by omega) (by omega) (by omega) (by omega)]; exact r.done q hq
  · rw [lo 5 (by decide) (by decide) (by decide) (by decide)]; exact r.refused
  · rw [lo 6 (by decide) (by decide) (by decide) (by decide)]; exact r.moves
  · exact f7
  · exact f8
  · rw [f9, ap_pend, List.length_append]; rfl
  · rw [lo 10 (by decide) (by decide) (by decide) (by decide)]; exact r.nd
  · rw [lo (11 + b / 50) (by omega) (by omega) (by omega) (by omega)]; exact r.rel b hb
  · exact fw b hb
  · simp only [ap_done, ap_pend, ap_dbt, ap_rel, ap_wrk, ap_trade, ap_mentor, ap_refused, ap_wdays, ap_today, ap_moves, st_day, st_needs, st_ments, st_aps, ap_eta, st_eta, ap_pend, ap_dbt, List.append_assoc, List.cons_append, List.nil_append] at hf
    by_cases h1 : j < x.pend.length
    · rw [List.getElem?_append_left h1] at hf
      rw [e1 j h1]
      exact r.es j f (by rw [List.getElem?_append_left h1]; exact hf)
    · rw [List.getElem?_append_right (by omega)] at hf
      by_cases h2 : j = x.pend.length
      · subst h2
        rw [Nat.sub_self] at hf
        cases hf
        exact e2
      · obtain ⟨i, hi⟩ : ∃ i, j - x.pend.length = i + 1 := ⟨j - x.pend.length - 1, by omega⟩
        rw [hi, List.getElem?_cons_succ] at hf
        have := lt_of hf
        rw [show 19 + j = 19 + (x.pend.length + i + 1) by omega, e3 (x.pend.length + i) (by omega) (by omega)]
        exact r.es _ f (by rw [List.getElem?_append_right (by omega), Nat.add_sub_cancel_left]; exact hf)
section SPRi
variable {l : Launch} {G : GT} {M : Mm} {Q : PQ} {QX : PX} {X : St} {v : Int32}
theorem sp_X10_mentorOf0 {a : Nat} {m : Int} (hv : v.toInt = a) (ha : a < 10) (r : (mL M 1099 (37 + 39 * a + 1)).toInt = m) (hm : -1 ≤ m ∧ m ≤ 5) (h : qi Q M m) : Tr true l G Y_X10_mentorOf [.ref 1098, .int v] M Q QX := by
  refine en_X10_mentorOf fun F => ?_
  have kk := k_R
  simp only [R_X10_mentorOf_0, kk, I_ic, I_lc, I_nul, I_il, I_ll, I_al, I_is, I_ls, I_as, I_inc, I_iadd, I_isub, I_imul, I_iand, I_ladd, I_lsub, I_lmul, I_land, I_lor, I_idiv, I_irem, I_ishr, I_lshl, I_lshr, I_lushr, I_lcmp, I_i2l, I_l2i, I_dup, I_pop, I_dup2, I_ifeq, I_ifne, I_iflt, I_ifge, I_ifgt, I_ifle, I_iceq, I_icne, I_iclt, I_icge, I_icgt, I_icle, I_ifnull, I_ifnonnull, I_sw, swK, I_gi, I_gl, I_gp, I_pi, I_pl, I_ial, I_lal, I_ias, I_las, I_aal, I_len, I_ir, I_zr, I_lr, I_vr, I_ar, I_cv, I_cs, I_csN, I_max, I_min, I_cpi, I_cpl, I_kl, popA, gt0, gt1, gt2, gt3, gt4, gt5, gt6, gt7, gt8, gt9, gt10, gt11, gt12, s1_0, s1_1, s1_2, s1_3, s1_4, s1_5, s1_6, s1_7, s1_8, s1_9, s1_10, s1_11, s1_12, s2_0, s2_1, s2_2, s2_3, s2_4, s2_5, s2_6, s2_7, s2_8, s2_9, s2_10, s2_11, se_0, se_1, se_2, se_3, se_4, se_5, se_6, se_7, se_8, se_9, se_10, se_11, se_12, kil_i, kil_l, kil_r, kil_n, kil_x, ap_done, ap_pend, ap_dbt, ap_rel, ap_wrk, ap_trade, ap_mentor, ap_refused, ap_wdays, ap_today, ap_moves, st_day, st_needs, st_ments, st_aps, ap_eta, st_eta, Value.category, List.map_cons, List.map_nil, List.sum_cons, List.sum_nil, Option.toList_some, Option.toList_none, List.cons_append, List.nil_append, Nat.reduceAdd, Nat.reduceLeDiff, true_and, and_true, true_or, or_true, forall_const, not_true_eq_false, false_implies, not_false_eq_true, false_and, ↓reduceIte, ad_1, ad_2, ad_3, ad_4, ad_5, nq_2]
  refine sp_X10_of (k := 1) hv ha rfl (by decide) ?_
  simp only [I_ic, I_lc, I_nul, I_il, I_ll, I_al, I_is, I_ls, I_as, I_inc, I_iadd, I_isub, I_imul, I_iand, I_ladd, I_lsub, I_lmul, I_land, I_lor, I_idiv, I_irem, I_ishr, I_lshl, I_lshr, I_lushr, I_lcmp, I_i2l, I_l2i, I_dup, I_pop, I_dup2, I_ifeq, I_ifne, I_iflt, I_ifge, I_ifgt, I_ifle, I_iceq, I_icne, I_iclt, I_icge, I_icgt, I_icle, I_ifnull, I_ifnonnull, I_sw, swK, I_gi, I_gl, I_gp, I_pi, I_pl, I_ial, I_lal, I_ias, I_las, I_aal, I_len, I_ir, I_zr, I_lr, I_vr, I_ar, I_cv, I_cs, I_csN, I_max, I_min, I_cpi, I_cpl, I_kl, popA, gt0, gt1, gt2, gt3, gt4, gt5, gt6, gt7, gt8, gt9, gt10, gt11, gt12, s1_0, s1_1, s1_2, s1_3, s1_4, s1_5, s1_6, s1_7, s1_8, s1_9, s1_10, s1_11, s1_12, s2_0, s2_1, s2_2, s2_3, s2_4, s2_5, s2_6, s2_7, s2_8, s2_9, s2_10, s2_11, se_0, se_1, se_2, se_3, se_4, se_5, se_6, se_7, se_8, se_9, se_10, se_11, se_12, kil_i, kil_l, kil_r, kil_n, kil_x, ap_done, ap_pend, ap_dbt, ap_rel, ap_wrk, ap_trade, ap_mentor, ap_refused, ap_wdays, ap_today, ap_moves, st_day, st_needs, st_ments, st_aps, ap_eta, st_eta, Value.category, List.map_cons, List.map_nil, List.sum_cons, List.sum_nil, Option.toList_some, Option.toList_none, List.cons_append, List.nil_append, Nat.reduceAdd, Nat.reduceLeDiff, true_and, and_true, true_or, or_true, forall_const, not_true_eq_false, false_implies, not_false_eq_true, false_and, ↓reduceIte, ad_1, ad_2, ad_3, ad_4, ad_5, nq_2]
  exact h _ (by rw [l_to, r]; all_goals rw [r]; omega)
theorem rg_X10_logs_212 {F : FX} {p h d : Int32} {a y : Nat} {x : Ap} {z : Int64} {M2 : Mm} (hv : v.toInt = a) (ha : a < 10) (r : RAt M a x) (wa : WfA X x) (hd : d.toInt = y) (hb : EW (p.toInt, h.toInt, d.toInt, x.mentor)) (ht : x.today + h.toInt ≤ 12) (hl : x.pend.length + x.dbt.length < 20) (hz : z.toInt = if x.today = 0 then 1 else 0) (lo : ∀ k, k < 19 → ¬ k = 9 → mL M2 1099 (37 + 39 * a + k) = mL M 1099 (37 + 39 * a + k)) (f9 : (mL M2 1099 (37 + 39 * a + 9)).toInt = x.pend.length + 1) (e1 : ∀ j, j < x.pend.length → mL M2 1099 (37 + 39 * a + (19 + j)) = mL M 1099 (37 + 39 * a + (19 + j))) (e2 : (mL M2 1099 (37 + 39 * a + (19 + x.pend.length))).toInt = pk (p.toInt, h.toInt, d.toInt, x.mentor)) (e3 : ∀ j, x.pend.length ≤ j → j < x.pend.length + x.dbt.length → mL M2 1099 (37 + 39 * a + (19 + (j + 1))) = mL M 1099 (37 + 39 * a + (19 + j))) (u2 : RU M M2 a) (hQ : ∀ M', RAt M' a (aWork x p.toInt h.toInt d.toInt) → RU M M' a → Q (some (.int 0)) (sL M' 1098 5 (mL M' 1099 (37 + 39 * a + 9)))) {s2 s5 : Value} : Wj true l G F Y_X10_logs Q QX 0 0 212 [.ref 1098, .int v, s2, .int h, .int d, s5] [.long z, .int 7, .int v, .ref 1098] M2 := by
  refine g_X10_logs_212 _ _ _ ?_
  have kk := k_R
  have w0 := wa.wd
  have w1 := w0.1
  have w2 := w0.2
  have t0 := wa.td
  have hb2 : 1 ≤ h.toInt ∧ h.toInt ≤ 12 := hb.2.1
  simp only [R_X10_logs_212, kk, I_ic, I_lc, I_nul, I_il, I_ll, I_al, I_is, I_ls, I_as, I_inc, I_iadd, I_isub, I_imul, I_iand, I_ladd, I_lsub, I_lmul, I_land, I_lor, I_idiv, I_irem, I_ishr, I_lshl, I_lshr, I_lushr, I_lcmp, I_i2l, I_l2i, I_dup, I_pop, I_dup2, I_ifeq, I_ifne, I_iflt, I_ifge, I_ifgt, I_ifle, I_iceq, I_icne, I_iclt, I_icge, I_icgt, I_icle, I_ifnull, I_ifnonnull, I_sw, swK, I_gi, I_gl, I_gp, I_pi, I_pl, I_ial, I_lal, I_ias, I_las, I_aal, I_len, I_ir, I_zr, I_lr, I_vr, I_ar, I_cv, I_cs, I_csN, I_max, I_min, I_cpi, I_cpl, I_kl, popA, gt0, gt1, gt2, gt3, gt4, gt5, gt6, gt7, gt8, gt9, gt10, gt11, gt12, s1_0, s1_1, s1_2, s1_3, s1_4, s1_5, s1_6, s1_7, s1_8, s1_9, s1_10, s1_11, s1_12, s2_0, s2_1, s2_2, s2_3, s2_4, s2_5, s2_6, s2_7, s2_8, s2_9, s2_10, s2_11, se_0, se_1, se_2, se_3, se_4, se_5, se_6, se_7, se_8, se_9, se_10, se_11, se_12, kil_i, kil_l, kil_r, kil_n, kil_x, ap_done, ap_pend, ap_dbt, ap_rel, ap_wrk, ap_trade, ap_mentor, ap_refused, ap_wdays, ap_today, ap_moves, st_day, st_needs, st_ments, st_aps, ap_eta, st_eta, Value.category, List.map_cons, List.map_nil, List.sum_cons, List.sum_nil, Option.toList_some, Option.toList_none, List.cons_append, List.nil_append, Nat.reduceAdd, Nat.reduceLeDiff, true_and, and_true, true_or, or_true, forall_const, not_true_eq_false, false_implies, not_false_eq_true, false_and, ↓reduceIte, ad_1, ad_2, ad_3, ad_4, ad_5, nq_2]
  refine sp_X10_adds' (k := 7) hv ha rfl (by decide) fun M3 f3 u3 => ?_
  simp only [kk, I_ic, I_lc, I_nul, I_il, I_ll, I_al, I_is, I_ls, I_as, I_inc, I_iadd, I_isub, I_imul, I_iand, I_ladd, I_lsub, I_lmul, I_land, I_lor, I_idiv, I_irem, I_ishr, I_lshl, I_lshr, I_lushr, I_lcmp, I_i2l, I_l2i, I_dup, I_pop, I_dup2, I_ifeq, I_ifne, I_iflt, I_ifge, I_ifgt, I_ifle, I_iceq, I_icne, I_iclt, I_icge, I_icgt, I_icle, I_ifnull, I_ifnonnull, I_sw, swK, I_gi, I_gl, I_gp, I_pi, I_pl, I_ial, I_lal, I_ias, I_las, I_aal, I_len, I_ir, I_zr, I_lr, I_vr, I_ar, I_cv, I_cs, I_csN, I_max, I_min, I_cpi, I_cpl, I_kl, popA, gt0, gt1, gt2, gt3, gt4, gt5, gt6, gt7, gt8, gt9, gt10, gt11, gt12, s1_0, s1_1, s1_2, s1_3, s1_4, s1_5, s1_6, s1_7, s1_8, s1_9, s1_10, s1_11, s1_12, s2_0, s2_1, s2_2, s2_3, s2_4, s2_5, s2_6, s2_7, s2_8, s2_9, s2_10, s2_11, se_0, se_1, se_2, se_3, se_4, se_5, se_6, se_7, se_8, se_9, se_10, se_11, se_12, kil_i, kil_l, kil_r, kil_n, kil_x, ap_done, ap_pend, ap_dbt, ap_rel, ap_wrk, ap_trade, ap_mentor, ap_refused, ap_wdays, ap_today, ap_moves, st_day, st_needs, st_ments, st_aps, ap_eta, st_eta, Value.category, List.map_cons, List.map_nil, List.sum_cons, List.sum_nil, Option.toList_some, Option.toList_none, List.cons_append, List.nil_append, Nat.reduceAdd, Nat.reduceLeDiff, true_and, and_true, true_or, or_true, forall_const, not_true_eq_false, false_implies, not_false_eq_true, false_and, ↓reduceIte, ad_1, ad_2, ad_3, ad_4, ad_5, nq_2]
  refine sp_X10_adds' (k := 8) hv ha rfl (by decide) fun M4 f4 u4 => ?_
  simp only [kk, I_ic, I_lc, I_nul, I_il, I_ll, I_al, I_is, I_ls, I_as, I_inc, I_iadd, I_isub, I_imul, I_iand, I_ladd, I_lsub, I_lmul, I_land, I_lor, I_idiv, I_irem, I_ishr, I_lshl, I_lshr, I_lushr, I_lcmp, I_i2l, I_l2i, I_dup, I_pop, I_dup2, I_ifeq, I_ifne, I_iflt, I_ifge, I_ifgt, I_ifle, I_iceq, I_icne, I_iclt, I_icge, I_icgt, I_icle, I_ifnull, I_ifnonnull, I_sw, swK, I_gi, I_gl, I_gp, I_pi, I_pl, I_ial, I_lal, I_ias, I_las, I_aal, I_len, I_ir, I_zr, I_lr, I_vr, I_ar, I_cv, I_cs, I_csN, I_max, I_min, I_cpi, I_cpl, I_kl, popA, gt0, gt1, gt2, gt3, gt4, gt5, gt6, gt7, gt8, gt9, gt10, gt11, gt12, s1_0, s1_1, s1_2, s1_3, s1_4, s1_5, s1_6, s1_7, s1_8, s1_9, s1_10, s1_11, s1_12, s2_0, s2_1, s2_2, s2_3, s2_4, s2_5, s2_6, s2_7, s2_8, s2_9, s2_10, s2_11, se_0, se_1, se_2, se_3, se_4, se_5, se_6, se_7, se_8, se_9, se_10, se_11, se_12, kil_i, kil_l, kil_r, kil_n, kil_x, ap_done, ap_pend, ap_dbt, ap_rel, ap_wrk, ap_trade, ap_mentor, ap_refused, ap_wdays, ap_today, ap_moves, st_day, st_needs, st_ments, st_aps, ap_eta, st_eta, Value.category, List.map_cons, List.map_nil, List.sum_cons, List.sum_nil, Option.toList_some, Option.toList_none, List.cons_append, List.nil_append, Nat.reduceAdd, Nat.reduceLeDiff, true_and, and_true, true_or, or_true, forall_const, not_true_eq_false, false_implies, not_false_eq_true, false_and, ↓reduceIte, ad_1, ad_2, ad_3, ad_4, ad_5, nq_2]
  have g7 : (mL M4 1099 (37 + 39 * a + 7)).toInt = if x.today = 0 then x.wdays + 1 else x.wdays := by
    have e := r.wdays
    rw [f4, if_neg (by decide), f3, if_pos rfl, lo 7 (by decide) (by decide), l_add, e, hz]
    · by_cases c : x.today = 0
      · rw [if_pos c, if_pos c]
      · rw [if_neg c, if_neg c]; omega
    all_goals rw [e, hz]; split <;> omega
  have g8 : (mL M4 1099 (37 + 39 * a + 8)).toInt = x.today + h.toInt := by
    have e := r.today
    rw [f4, if_pos rfl, f3, if_neg (by decide), lo 8 (by decide) (by decide), l_add, e, l_of]
    all_goals rw [e, l_of]; omega
  have g9 : (mL M4 1099 (37 + 39 * a + 9)).toInt = x.pend.length + 1 := by rw [f4, if_neg (by decide), f3, if_neg (by decide)]; exact f9
  have lo4 : ∀ k, ¬ k = 7 → ¬ k = 8 → mL M4 1099 (37 + 39 * a + k) = mL M2 1099 (37 + 39 * a + k) := fun k h1 h2 => by rw [f4, if_neg h2, f3, if_neg h1]
  have fin : ∀ M5, RU M4 M5 a → (∀ k, k < 15 ∨ 19 ≤ k → mL M5 1099 (37 + 39 * a + k) = mL M4 1099 (37 + 39 * a + k)) → (∀ b, b < 200 → lb (mL M5 1099 (37 + 39 * a + (15 + b / 50))) (b % 50) = sPutI x.wrk d.toInt b) → Q (some (.int 0)) (sL M5 1098 5 (mL M5 1099 (37 + 39 * a + 9))) := fun M5 u5 h1 h2 => by
    refine hQ M5 (RA.work r (fun k a1 a2 a3 a4 => ?_) ?_ ?_ ?_ h2 (fun j hj => ?_) ?_ (fun j a1 a2 => ?_)) (((u2.trans u3).trans u4).trans u5)
    all_goals try dsimp only
    · rw [h1 k (Or.inl a1), lo4 k a2 a3, lo k (by omega) a4]
    · rw [h1 7 (Or.inl (by decide))]; exact g7
    · rw [h1 8 (Or.inl (by decide))]; exact g8
    · rw [h1 9 (Or.inl (by decide))]; exact g9
    · rw [h1 _ (Or.inr (by omega)), lo4 _ (by omega) (by omega)]; exact e1 j hj
    · rw [h1 _ (Or.inr (by omega)), lo4 _ (by omega) (by omega)]; exact e2
    · rw [h1 _ (Or.inr (by omega)), lo4 _ (by omega) (by omega)]; exact e3 j a1 a2
  have wk : ∀ b, b < 200 → lb (mL M4 1099 (37 + 39 * a + (15 + b / 50))) (b % 50) = x.wrk b := fun b hb => by
    rw [lo4 _ (by omega) (by omega), lo _ (by omega) (by omega)]
    exact r.wrk b hb
  refine sp_X10_putDay (k := 15) (y := y) hv ha rfl (by decide) hd (fun c => ?_) fun z2 hz2 fz => ?_
  · simp only [kk, I_ic, I_lc, I_nul, I_il, I_ll, I_al, I_is, I_ls, I_as, I_inc, I_iadd, I_isub, I_imul, I_iand, I_ladd, I_lsub, I_lmul, I_land, I_lor, I_idiv, I_irem, I_ishr, I_lshl, I_lshr, I_lushr, I_lcmp, I_i2l, I_l2i, I_dup, I_pop, I_dup2, I_ifeq, I_ifne, I_iflt, I_ifge, I_ifgt, I_ifle, I_iceq, I_icne, I_iclt, I_icge, I_icgt, I_icle, I_ifnull, I_ifnonnull, I_sw, swK, I_gi, I_gl, I_gp, I_pi, I_pl, I_ial, I_lal, I_ias, I_las, I_aal, I_len, I_ir, I_zr, I_lr, I_vr, I_ar, I_cv, I_cs, I_csN, I_max, I_min, I_cpi, I_cpl, I_kl, popA, gt0, gt1, gt2, gt3, gt4, gt5, gt6, gt7, gt8, gt9, gt10, gt11, gt12, s1_0, s1_1, s1_2, s1_3, s1_4, s1_5, s1_6, s1_7, s1_8, s1_9, s1_10, s1_11, s1_12, s2_0, s2_1, s2_2, s2_3, s2_4, s2_5, s2_6, s2_7, s2_8, s2_9, s2_10, s2_11, se_0, se_1, se_2, se_3, se_4, se_5, se_6, se_7, se_8, se_9, se_10, se_11, se_12, kil_i, kil_l, kil_r, kil_n, kil_x, ap_done, ap_pend, ap_dbt, ap_rel, ap_wrk, ap_trade, ap_mentor, ap_refused, ap_wdays, ap_today, ap_moves, st_day, st_needs, st_ments, st_aps, ap_eta, st_eta, Value.category, List.map_cons, List.map_nil, List.sum_cons, List.sum_nil, Option.toList_some, Option.toList_none, List.cons_append, List.nil_append, Nat.reduceAdd, Nat.reduceLeDiff, true_and, and_true, true_or, or_true, forall_const, not_true_eq_false, false_implies, not_false_eq_true, false_and, ↓reduceIte, ad_1, ad_2, ad_3, ad_4, ad_5, nq_2]
    refine sp_X10_of (k := 9) hv ha rfl (by decide) ?_
    simp only [kk, I_ic, I_lc, I_nul, I_il, I_ll, I_al, I_is, I_ls, I_as, I_inc, I_iadd, I_isub, I_imul, I_iand, I_ladd, I_lsub, I_lmul, I_land, I_lor, I_idiv, I_irem, I_ishr, I_lshl, I_lshr, I_lushr, I_lcmp, I_i2l, I_l2i, I_dup, I_pop, I_dup2, I_ifeq, I_ifne, I_iflt, I_ifge, I_ifgt, I_ifle, I_iceq, I_icne, I_iclt, I_icge, I_icgt, I_icle, I_ifnull, I_ifnonnull, I_sw, swK, I_gi, I_gl, I_gp, I_pi, I_pl, I_ial, I_lal, I_ias, I_las, I_aal, I_len, I_ir, I_zr, I_lr, I_vr, I_ar, I_cv, I_cs, I_csN, I_max, I_min, I_cpi, I_cpl, I_kl, popA, gt0, gt1, gt2, gt3, gt4, gt5, gt6, gt7, gt8, gt9, gt10, gt11, gt12, s1_0, s1_1, s1_2, s1_3, s1_4, s1_5, s1_6, s1_7, s1_8, s1_9, s1_10, s1_11, s1_12, s2_0, s2_1, s2_2, s2_3, s2_4, s2_5, s2_6, s2_7, s2_8, s2_9, s2_10, s2_11, se_0, se_1, se_2, se_3, se_4, se_5, se_6, se_7, se_8, se_9, se_10, se_11, se_12, kil_i, kil_l, kil_r, kil_n, kil_x, ap_done, ap_pend, ap_dbt, ap_rel, ap_wrk, ap_trade, ap_mentor, ap_refused, ap_wdays, ap_today, ap_moves, st_day, st_needs, st_ments, st_aps, ap_eta, st_eta, Value.category, List.map_cons, List.map_nil, List.sum_cons, List.sum_nil, Option.toList_some, Option.toList_none, List.cons_append, List.nil_append, Nat.reduceAdd, Nat.reduceLeDiff, true_and, and_true, true_or, or_true, forall_const, not_true_eq_false, false_implies, not_false_eq_true, false_and, ↓reduceIte, ad_1, ad_2, ad_3, ad_4, ad_5, nq_2]
    refine fin M4 (RU_refl _ _) (fun _ _ => rfl) fun b hb => ?_
    rw [wk b hb]
    unfold sPutI
    rw [if_neg (by omega)]
  · simp only [kk, I_ic, I_lc, I_nul, I_il, I_ll, I_al, I_is, I_ls, I_as, I_inc, I_iadd, I_isub, I_imul, I_iand, I_ladd, I_lsub, I_lmul, I_land, I_lor, I_idiv, I_irem, I_ishr, I_lshl, I_lshr, I_lushr, I_lcmp, I_i2l, I_l2i, I_dup, I_pop, I_dup2, I_ifeq, I_ifne, I_iflt, I_ifge, I_ifgt, I_ifle, I_iceq, I_icne, I_iclt, I_icge, I_icgt, I_icle, I_ifnull, I_ifnonnull, I_sw, swK, I_gi, I_gl, I_gp, I_pi, I_pl, I_ial, I_lal, I_ias, I_las, I_aal, I_len, I_ir, I_zr, I_lr, I_vr, I_ar, I_cv, I_cs, I_csN, I_max, I_min, I_cpi, I_cpl, I_kl, popA, gt0, gt1, gt2, gt3, gt4, gt5, gt6, gt7, gt8, gt9, gt10, gt11, gt12, s1_0, s1_1, s1_2, s1_3, s1_4, s1_5, s1_6, s1_7, s1_8, s1_9, s1_10, s1_11, s1_12, s2_0, s2_1, s2_2, s2_3, s2_4, s2_5, s2_6, s2_7, s2_8, s2_9, s2_10, s2_11, se_0, se_1, se_2, se_3, se_4, se_5, se_6, se_7, se_8, se_9, se_10, se_11, se_12, kil_i, kil_l, kil_r, kil_n, kil_x, ap_done, ap_pend, ap_dbt, ap_rel, ap_wrk, ap_trade, ap_mentor, ap_refused, ap_wdays, ap_today, ap_moves, st_day, st_needs, st_ments, st_aps, ap_eta, st_eta, Value.category, List.map_cons, List.map_nil, List.sum_cons, List.sum_nil, Option.toList_some, Option.toList_none, List.cons_append, List.nil_append, Nat.reduceAdd, Nat.reduceLeDiff, true_and, and_true, true_or, or_true, forall_const, not_true_eq_false, false_implies, not_false_eq_true, false_and, ↓reduceIte, ad_1, ad_2, ad_3, ad_4, ad_5, nq_2]
    refine sp_X10_of (k := 9) hv ha rfl (by decide) ?_
    simp only [kk, I_ic, I_lc, I_nul, I_il, I_ll, I_al, I_is, I_ls, I_as, I_inc, I_iadd, I_isub, I_imul, I_iand, I_ladd, I_lsub, I_lmul, I_land, I_lor, I_idiv, I_irem, I_ishr, I_lshl, I_lshr, I_lushr, I_lcmp, I_i2l, I_l2i, I_dup, I_pop, I_dup2, I_ifeq, I_ifne, I_iflt, I_ifge, I_ifgt, I_ifle, I_iceq, I_icne, I_iclt, I_icge, I_icgt, I_icle, I_ifnull, I_ifnonnull, I_sw, swK, I_gi, I_gl, I_gp, I_pi, I_pl, I_ial, I_lal, I_ias, I_las, I_aal, I_len, I_ir, I_zr, I_lr, I_vr, I_ar, I_cv, I_cs, I_csN, I_max, I_min, I_cpi, I_cpl, I_kl, popA, gt0, gt1, gt2, gt3, gt4, gt5, gt6, gt7, gt8, gt9, gt10, gt11, gt12, s1_0, s1_1, s1_2, s1_3, s1_4, s1_5, s1_6, s1_7, s1_8, s1_9, s1_10, s1_11, s1_12, s2_0, s2_1, s2_2, s2_3, s2_4, s2_5, s2_6, s2_7, s2_8, s2_9, s2_10, s2_11, se_0, se_1, se_2, se_3, se_4, se_5, se_6, se_7, se_8, se_9, se_10, se_11, se_12, kil_i, kil_l, kil_r, kil_n, kil_x, ap_done, ap_pend, ap_dbt, ap_rel, ap_wrk, ap_trade, ap_mentor, ap_refused, ap_wdays, ap_today, ap_moves, st_day, st_needs, st_ments, st_aps, ap_eta, st_eta, Value.category, List.map_cons, List.map_nil, List.sum_cons, List.sum_nil, Option.toList_some, Option.toList_none, List.cons_append, List.nil_append, Nat.reduceAdd, Nat.reduceLeDiff, true_and, and_true, true_or, or_true, forall_const, not_true_eq_false, false_implies, not_false_eq_true, false_and, ↓reduceIte, ad_1, ad_2, ad_3, ad_4, ad_5, nq_2]
    refine fin _ (RU_sL _ _ _ _ (by omega)) (fun k hk => ?_) fun b hb => ?_
    · rw [mL_sL, if_neg (by omega)]
    · rw [mL_sL]
      have hwb := wk b hb
      have ep : sPutI x.wrk d.toInt = sPut x.wrk y := by
        unfold sPutI
        rw [if_pos (by omega), hd]
        rfl
      rw [ep]
      by_cases e : b / 50 = y / 50
      · rw [if_pos ⟨rfl, by omega⟩, fz _ (by omega), ← e, hwb]
        unfold sPut
        congr 1
        apply decide_eq_decide.mpr
        omega
      · rw [if_neg (by omega), hwb]
        have e2 : ¬ b = y := fun c => e (by rw [c])
        unfold sPut
        simp [ap_done, ap_pend, ap_dbt, ap_rel, ap_wrk, ap_trade, ap_mentor, ap_refused, ap_wdays, ap_today, ap_moves, st_day, st_needs, st_ments, st_aps, ap_eta, st_eta, e2]
end SPRi
