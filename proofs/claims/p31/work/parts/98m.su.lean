/-! ===== low, cell, the sum ===== -/
theorem gt13 {a b c d e f g h i j k m n p : Value} {l : List Value} : (a :: b :: c :: d :: e :: f :: g :: h :: i :: j :: k :: m :: n :: p :: l)[13]? = some p := rfl
theorem s1_13 {a b c d e f g h i j k m n p : Value} {v : Value} {l : List Value} : st1 (a :: b :: c :: d :: e :: f :: g :: h :: i :: j :: k :: m :: n :: p :: l) 13 v = a :: b :: c :: d :: e :: f :: g :: h :: i :: j :: k :: m :: kil n :: v :: l := rfl
theorem se_13 {a b c d e f g h i j k m n p : Value} {v : Value} {l : List Value} : (a :: b :: c :: d :: e :: f :: g :: h :: i :: j :: k :: m :: n :: p :: l).set 13 v = a :: b :: c :: d :: e :: f :: g :: h :: i :: j :: k :: m :: n :: v :: l := rfl
def lowV (v n : Int32) : Int32 := (v &&& 2147483647) - (v &&& 2147483647) / n * n
theorem and_pos (v : Int32) : 0 ≤ (v &&& 2147483647).toInt := by
  have h : (v &&& 2147483647).toBitVec.msb = false := by
    rw [Int32.toBitVec_and, BitVec.msb_and]
    have : (2147483647 : Int32).toBitVec.msb = false := by decide
    rw [this, Bool.and_false]
  show 0 ≤ (v &&& 2147483647).toBitVec.toInt
  rw [BitVec.toInt_eq_msb_cond, h]
  simp
theorem low_b {v n : Int32} (hn : 0 < n.toInt) : 0 ≤ (lowV v n).toInt ∧ (lowV v n).toInt < n.toInt := by
  unfold lowV
  rw [i_rem (and_pos v) hn]
  exact ⟨Int.emod_nonneg _ (by omega), Int.emod_lt_of_pos _ hn⟩
section LOW
variable {l : Launch} {G : GT} {M : Mm} {Q : PQ} {QX : PX} {X : St} {L : List St} {T : List Int} {v n : Int32}
theorem sp_L_low (hn : 0 < n.toInt) (h : Q (some (.int (lowV v n))) M) : Tr true l G Y_L_low [.int v, .int n] M Q QX := by
  refine en_L_low fun F => ?_
  simp only [R_L_low_0, I_ic, I_lc, I_nul, I_il, I_ll, I_al, I_is, I_ls, I_as, I_inc, I_iadd, I_isub, I_imul, I_iand, I_ladd, I_lsub, I_lmul, I_land, I_lor, I_idiv, I_irem, I_ishr, I_lshl, I_lshr, I_lushr, I_lcmp, I_i2l, I_l2i, I_dup, I_pop, I_dup2, I_ifeq, I_ifne, I_iflt, I_ifge, I_ifgt, I_ifle, I_iceq, I_icne, I_iclt, I_icge, I_icgt, I_icle, I_ifnull, I_ifnonnull, I_sw, swK, I_gi, I_gl, I_gp, I_pi, I_pl, I_ial, I_lal, I_ias, I_las, I_aal, I_len, I_ir, I_zr, I_lr, I_vr, I_ar, I_cv, I_cs, I_csN, I_max, I_min, I_cpi, I_cpl, I_kl, popA, I_csH, I_ixor, I_iushr, I_sil, I_sln, I_no, gt13, s1_13, se_13, gt0, gt1, gt2, gt3, gt4, gt5, gt6, gt7, gt8, gt9, gt10, gt11, gt12, s1_0, s1_1, s1_2, s1_3, s1_4, s1_5, s1_6, s1_7, s1_8, s1_9, s1_10, s1_11, s1_12, s2_0, s2_1, s2_2, s2_3, s2_4, s2_5, s2_6, s2_7, s2_8, s2_9, s2_10, s2_11, se_0, se_1, se_2, se_3, se_4, se_5, se_6, se_7, se_8, se_9, se_10, se_11, se_12, kil_i, kil_l, kil_r, kil_n, kil_x, ap_done, ap_pend, ap_dbt, ap_rel, ap_wrk, ap_trade, ap_mentor, ap_refused, ap_wdays, ap_today, ap_moves, st_day, st_needs, st_ments, st_aps, ap_eta, st_eta, Value.category, List.map_cons, List.map_nil, List.sum_cons, List.sum_nil, Option.toList_some, Option.toList_none, List.cons_append, List.nil_append, Nat.reduceAdd, Nat.reduceLeDiff, true_and, and_true, true_or, or_true, forall_const, not_true_eq_false, false_implies, not_false_eq_true, false_and, ↓reduceIte, ad_1, ad_2, ad_3, ad_4, ad_5, nq_2]
  exact ⟨fun c => by rw [c, tI_0] at hn; omega, h⟩
theorem sp_L_cell (hk : 0 ≤ v.toInt) (hl : gXL G < 2147483648) (h : ∀ r : Int32, Q (some (.int r)) M) : Tr true l G Y_L_cell [.ref 1000100, .int v] M Q QX := by
  refine en_L_cell fun F => ?_
  have hi : inST G (1000100 - 1000000) .int (gXL G) (fun j => .int (gXV G j)) := ⟨rfl, rfl, rfl, rfl⟩
  have el : (Int32.ofNat (gXL G)).toInt = gXL G := by
    exact Int32.toInt_ofNat_of_lt (by omega)
  simp only [R_L_cell_0, i_lt, i_le, i_eq, tI_0, tI_1, tI_2, tI_3, tI_4, tI_5, tI_6, tI_7, tI_8, tI_9, tI_10, tI_11, tI_12, tI_14, tI_20, tI_31, tI_32, tI_48, tI_57, tI_59, tI_96, tI_97, tI_99, tI_100, tI_122, tI_127, tI_150, tI_199, tI_200, tI_255, tI_427, tI_1708, tI_2000, tI_9999, tI_m1, tI_m10, cN_0, cN_1, cN_2, cN_3, cN_4, cN_5, cN_6, cN_7, cN_8, cN_9, cN_10, cN_11, cN_12, cN_14, cN_20, cN_31, cN_32, cN_48, cN_57, cN_59, cN_96, cN_97, cN_99, cN_100, cN_122, cN_127, cN_150, cN_199, cN_200, cN_255, cN_427, cN_1708, cN_2000, cN_9999, I_ic, I_lc, I_nul, I_il, I_ll, I_al, I_is, I_ls, I_as, I_inc, I_iadd, I_isub, I_imul, I_iand, I_ladd, I_lsub, I_lmul, I_land, I_lor, I_idiv, I_irem, I_ishr, I_lshl, I_lshr, I_lushr, I_lcmp, I_i2l, I_l2i, I_dup, I_pop, I_dup2, I_ifeq, I_ifne, I_iflt, I_ifge, I_ifgt, I_ifle, I_iceq, I_icne, I_iclt, I_icge, I_icgt, I_icle, I_ifnull, I_ifnonnull, I_sw, swK, I_gi, I_gl, I_gp, I_pi, I_pl, I_ial, I_lal, I_ias, I_las, I_aal, I_len, I_ir, I_zr, I_lr, I_vr, I_ar, I_cv, I_cs, I_csN, I_max, I_min, I_cpi, I_cpl, I_kl, popA, I_csH, I_ixor, I_iushr, I_sil, I_sln, I_no, gt13, s1_13, se_13, gt0, gt1, gt2, gt3, gt4, gt5, gt6, gt7, gt8, gt9, gt10, gt11, gt12, s1_0, s1_1, s1_2, s1_3, s1_4, s1_5, s1_6, s1_7, s1_8, s1_9, s1_10, s1_11, s1_12, s2_0, s2_1, s2_2, s2_3, s2_4, s2_5, s2_6, s2_7, s2_8, s2_9, s2_10, s2_11, se_0, se_1, se_2, se_3, se_4, se_5, se_6, se_7, se_8, se_9, se_10, se_11, se_12, kil_i, kil_l, kil_r, kil_n, kil_x, ap_done, ap_pend, ap_dbt, ap_rel, ap_wrk, ap_trade, ap_mentor, ap_refused, ap_wdays, ap_today, ap_moves, st_day, st_needs, st_ments, st_aps, ap_eta, st_eta, Value.category, List.map_cons, List.map_nil, List.sum_cons, List.sum_nil, Option.toList_some, Option.toList_none, List.cons_append, List.nil_append, Nat.reduceAdd, Nat.reduceLeDiff, true_and, and_true, true_or, or_true, forall_const, not_true_eq_false, false_implies, not_false_eq_true, false_and, ↓reduceIte, ad_1, ad_2, ad_3, ad_4, ad_5, nq_2]
  refine ⟨_, _, _, hi, ?_⟩
  rw [el]
  exact ⟨fun g => h _, fun g => ⟨_, _, hi, i_in hk (by omega), h _⟩⟩
/-- a value more in the sum -/
def hs (h : Int64) (v : Int) : Int64 := 31 * h + (Int32.ofInt v).toInt64
theorem hs_r {h : Int64} {r : Int32} {v : Int} (e : r.toInt = v) : 31 * h + r.toInt64 = hs h v := by
  unfold hs
  rw [← e, Int32.ofInt_toInt]
def flS (g : Nat → Int) : Nat → Nat → Int64 → Int64
  | 0, _, h => h
  | n + 1, k, h => flS g n (k + 1) (hs h (g k))
def sA (X : St) (x : Ap) (h : Int64) : Int64 := hs (flS (fun k => evA x.dbt ((k / 4 : Nat) : Int) (k % 4)) (4 * x.dbt.length) 0 (flS (fun k => evA x.pend ((k / 4 : Nat) : Int) (k % 4)) (4 * x.pend.length) 0 (flS (fun k => pVal X x (k / 5) ((k % 5 : Nat) : Int)) 15 0 (flS (fun k => aVal X x ((k : Nat) : Int)) 12 0 h)))) (ffrom x.rel 200 0)
def sAs (X : St) : List Ap → Int64 → Int64
  | [], h => h
  | x :: L, h => sAs X L (sA X x h)
def smV (X : St) (t : Int) : Int64 := sAs X X.aps (flS (fun k => mVal X ((k / 5 : Nat) : Int) ((k % 5 : Nat) : Int)) (5 * X.ments.length) 0 (flS (fun k => wTold X t ((k : Nat) : Int)) 10 0 17))
theorem dv_i {j y : Int32} {k m : Nat} (hj : j.toInt = k) (hy : y.toInt = m) (hm : 0 < m) : (j / y).toInt = ((k / m : Nat) : Int) ∧ (j - j / y * y).toInt = ((k % m : Nat) : Int) := by
  refine ⟨?_, ?_⟩
  · rw [i_div (by omega) (by omega), hj, hy]; rfl
  · rw [i_rem (by omega) (by omega), hj, hy]; rfl
theorem j_1 {j : Int32} {k : Nat} (hj : j.toInt = k) (hk : k ≤ 1000000) : (j + 1).toInt = ((k + 1 : Nat) : Int) := by
  rw [i_add, hj, tI_1]
  · rfl
  all_goals rw [hj, tI_1]; omega
theorem n5 : ¬ (5 : Int32) = 0 := by decide
theorem n4 : ¬ (4 : Int32) = 0 := by decide
theorem lp_sum6 {F : FX} {h0 : Int64} (c : CT l M X L T) (hQ : Wj true l G F Y_L_sum Q QX 0 0 33 [.ref 0, .long (flS (fun k => wTold X T.length ((k : Nat) : Int)) 10 0 h0), xx, .int 0, xx] [] M) : ∀ (n k : Nat) (h : Int64) (j : Int32), k + n = 10 → j.toInt = k → flS (fun k => wTold X T.length ((k : Nat) : Int)) n k h = flS (fun k => wTold X T.length ((k : Nat) : Int)) 10 0 h0 → Wj true l G F Y_L_sum Q QX 0 0 6 [.ref 0, .long h, xx, .int j, xx] [] M
  | 0, k, h, j, hk, hj, he => by
    refine g_L_sum_6 _ _ _ ?_
    simp only [R_L_sum_6, i_lt, i_le, i_eq, tI_0, tI_1, tI_2, tI_3, tI_4, tI_5, tI_6, tI_7, tI_8, tI_9, tI_10, tI_11, tI_12, tI_14, tI_20, tI_31, tI_32, tI_48, tI_57, tI_59, tI_96, tI_97, tI_99, tI_100, tI_122, tI_127, tI_150, tI_199, tI_200, tI_255, tI_427, tI_1708, tI_2000, tI_9999, tI_m1, tI_m10, cN_0, cN_1, cN_2, cN_3, cN_4, cN_5, cN_6, cN_7, cN_8, cN_9, cN_10, cN_11, cN_12, cN_14, cN_20, cN_31, cN_32, cN_48, cN_57, cN_59, cN_96, cN_97, cN_99, cN_100, cN_122, cN_127, cN_150, cN_199, cN_200, cN_255, cN_427, cN_1708, cN_2000, cN_9999, I_ic, I_lc, I_nul, I_il, I_ll, I_al, I_is, I_ls, I_as, I_inc, I_iadd, I_isub, I_imul, I_iand, I_ladd, I_lsub, I_lmul, I_land, I_lor, I_idiv, I_irem, I_ishr, I_lshl, I_lshr, I_lushr, I_lcmp, I_i2l, I_l2i, I_dup, I_pop, I_dup2, I_ifeq, I_ifne, I_iflt, I_ifge, I_ifgt, I_ifle, I_iceq, I_icne, I_iclt, I_icge, I_icgt, I_icle, I_ifnull, I_ifnonnull, I_sw, swK, I_gi, I_gl, I_gp, I_pi, I_pl, I_ial, I_lal, I_ias, I_las, I_aal, I_len, I_ir, I_zr, I_lr, I_vr, I_ar, I_cv, I_cs, I_csN, I_max, I_min, I_cpi, I_cpl, I_kl, popA, I_csH, I_ixor, I_iushr, I_sil, I_sln, I_no, gt13, s1_13, se_13, gt0, gt1, gt2, gt3, gt4, gt5, gt6, gt7, gt8, gt9, gt10, gt11, gt12, s1_0, s1_1, s1_2, s1_3, s1_4, s1_5, s1_6, s1_7, s1_8, s1_9, s1_10, s1_11, s1_12, s2_0, s2_1, s2_2, s2_3, s2_4, s2_5, s2_6, s2_7, s2_8, s2_9, s2_10, s2_11, se_0, se_1, se_2, se_3, se_4, se_5, se_6, se_7, se_8, se_9, se_10, se_11, se_12, kil_i, kil_l, kil_r, kil_n, kil_x, ap_done, ap_pend, ap_dbt, ap_rel, ap_wrk, ap_trade, ap_mentor, ap_refused, ap_wdays, ap_today, ap_moves, st_day, st_needs, st_ments, st_aps, ap_eta, st_eta, Value.category, List.map_cons, List.map_nil, List.sum_cons, List.sum_nil, Option.toList_some, Option.toList_none, List.cons_append, List.nil_append, Nat.reduceAdd, Nat.reduceLeDiff, true_and, and_true, true_or, or_true, forall_const, not_true_eq_false, false_implies, not_false_eq_true, false_and, ↓reduceIte, ad_1, ad_2, ad_3, ad_4, ad_5, nq_2]
    rw [hj]
    refine ⟨fun g => ?_, fun g => by omega⟩
    rw [flS] at he
    rw [he]
    exact hQ
  | n + 1, k, h, j, hk, hj, he => by
    refine g_L_sum_6 _ _ _ ?_
    simp only [R_L_sum_6, i_lt, i_le, i_eq, tI_0, tI_1, tI_2, tI_3, tI_4, tI_5, tI_6, tI_7, tI_8, tI_9, tI_10, tI_11, tI_12, tI_14, tI_20, tI_31, tI_32, tI_48, tI_57, tI_59, tI_96, tI_97, tI_99, tI_100, tI_122, tI_127, tI_150, tI_199, tI_200, tI_255, tI_427, tI_1708, tI_2000, tI_9999, tI_m1, tI_m10, cN_0, cN_1, cN_2, cN_3, cN_4, cN_5, cN_6, cN_7, cN_8, cN_9, cN_10, cN_11, cN_12, cN_14, cN_20, cN_31, cN_32, cN_48, cN_57, cN_59, cN_96, cN_97, cN_99, cN_100, cN_122, cN_127, cN_150, cN_199, cN_200, cN_255, cN_427, cN_1708, cN_2000, cN_9999, I_ic, I_lc, I_nul, I_il, I_ll, I_al, I_is, I_ls, I_as, I_inc, I_iadd, I_isub, I_imul, I_iand, I_ladd, I_lsub, I_lmul, I_land, I_lor, I_idiv, I_irem, I_ishr, I_lshl, I_lshr, I_lushr, I_lcmp, I_i2l, I_l2i, I_dup, I_pop, I_dup2, I_ifeq, I_ifne, I_iflt, I_ifge, I_ifgt, I_ifle, I_iceq, I_icne, I_iclt, I_icge, I_icgt, I_icle, I_ifnull, I_ifnonnull, I_sw, swK, I_gi, I_gl, I_gp, I_pi, I_pl, I_ial, I_lal, I_ias, I_las, I_aal, I_len, I_ir, I_zr, I_lr, I_vr, I_ar, I_cv, I_cs, I_csN, I_max, I_min, I_cpi, I_cpl, I_kl, popA, I_csH, I_ixor, I_iushr, I_sil, I_sln, I_no, gt13, s1_13, se_13, gt0, gt1, gt2, gt3, gt4, gt5, gt6, gt7, gt8, gt9, gt10, gt11, gt12, s1_0, s1_1, s1_2, s1_3, s1_4, s1_5, s1_6, s1_7, s1_8, s1_9, s1_10, s1_11, s1_12, s2_0, s2_1, s2_2, s2_3, s2_4, s2_5, s2_6, s2_7, s2_8, s2_9, s2_10, s2_11, se_0, se_1, se_2, se_3, se_4, se_5, se_6, se_7, se_8, se_9, se_10, se_11, se_12, kil_i, kil_l, kil_r, kil_n, kil_x, ap_done, ap_pend, ap_dbt, ap_rel, ap_wrk, ap_trade, ap_mentor, ap_refused, ap_wdays, ap_today, ap_moves, st_day, st_needs, st_ments, st_aps, ap_eta, st_eta, Value.category, List.map_cons, List.map_nil, List.sum_cons, List.sum_nil, Option.toList_some, Option.toList_none, List.cons_append, List.nil_append, Nat.reduceAdd, Nat.reduceLeDiff, true_and, and_true, true_or, or_true, forall_const, not_true_eq_false, false_implies, not_false_eq_true, false_and, ↓reduceIte, ad_1, ad_2, ad_3, ad_4, ad_5, nq_2]
    rw [hj]
    refine ⟨fun g => by omega, fun g => ?_⟩
    try refine ⟨by decide, ?_⟩
    refine qz_whole (k := ((k : Nat) : Int)) c hj (by omega) fun r hr => ?_
    simp only [I_ic, I_lc, I_nul, I_il, I_ll, I_al, I_is, I_ls, I_as, I_inc, I_iadd, I_isub, I_imul, I_iand, I_ladd, I_lsub, I_lmul, I_land, I_lor, I_idiv, I_irem, I_ishr, I_lshl, I_lshr, I_lushr, I_lcmp, I_i2l, I_l2i, I_dup, I_pop, I_dup2, I_ifeq, I_ifne, I_iflt, I_ifge, I_ifgt, I_ifle, I_iceq, I_icne, I_iclt, I_icge, I_icgt, I_icle, I_ifnull, I_ifnonnull, I_sw, swK, I_gi, I_gl, I_gp, I_pi, I_pl, I_ial, I_lal, I_ias, I_las, I_aal, I_len, I_ir, I_zr, I_lr, I_vr, I_ar, I_cv, I_cs, I_csN, I_max, I_min, I_cpi, I_cpl, I_kl, popA, I_csH, I_ixor, I_iushr, I_sil, I_sln, I_no, gt13, s1_13, se_13, gt0, gt1, gt2, gt3, gt4, gt5, gt6, gt7, gt8, gt9, gt10, gt11, gt12, s1_0, s1_1, s1_2, s1_3, s1_4, s1_5, s1_6, s1_7, s1_8, s1_9, s1_10, s1_11, s1_12, s2_0, s2_1, s2_2, s2_3, s2_4, s2_5, s2_6, s2_7, s2_8, s2_9, s2_10, s2_11, se_0, se_1, se_2, se_3, se_4, se_5, se_6, se_7, se_8, se_9, se_10, se_11, se_12, kil_i, kil_l, kil_r, kil_n, kil_x, ap_done, ap_pend, ap_dbt, ap_rel, ap_wrk, ap_trade, ap_mentor, ap_refused, ap_wdays, ap_today, ap_moves, st_day, st_needs, st_ments, st_aps, ap_eta, st_eta, Value.category, List.map_cons, List.map_nil, List.sum_cons, List.sum_nil, Option.toList_some, Option.toList_none, List.cons_append, List.nil_append, Nat.reduceAdd, Nat.reduceLeDiff, true_and, and_true, true_or, or_true, forall_const, not_true_eq_false, false_implies, not_false_eq_true, false_and, ↓reduceIte, ad_1, ad_2, ad_3, ad_4, ad_5, nq_2]
    rw [hs_r hr]
    exact lp_sum6 c hQ n (k + 1) _ _ (by omega) (j_1 hj (by omega)) he
end LOW
