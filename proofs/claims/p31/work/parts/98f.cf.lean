/-! ===== the constructor of a state ===== -/
theorem BI.mono {E E2 : Nat → Prop} {lo hi : Nat} {M0 M : Mm} (h : BI E lo hi M0 M) (he : ∀ b, E b → E2 b) : BI E2 lo hi M0 M := ⟨h.1, h.2.1, h.2.2.1, fun b k g1 g2 g3 g4 => h.2.2.2 b k g1 g2 (fun c => g3 (he b c)) g4⟩
theorem BI.hi {E : Nat → Prop} {lo hi h2 : Nat} {M0 M : Mm} (h : BI E lo hi M0 M) (e : hi = h2) : BI E lo h2 M0 M := by subst e; exact h
def ES (S b : Nat) : Prop := b = S ∨ b = S + 7 ∨ b = S + 8
theorem kSt_m : ∀ i, i < 6 → kSt (28 + i) = (1, 4, 3) := by decide +kernel
theorem kSt_a : ∀ i, i < 10 → ∀ r, r < 18 → kSt (34 + 18 * i + r) = kAp r := by decide +kernel
theorem kSt_0 : ∀ r, r < 18 → kSt (10 + r) = kAp r := by decide +kernel
theorem kSt_n : ∀ j, j < 5 → kSt (2 + j) = (2, 0, 3) := by decide +kernel
theorem pvS {S : Nat} (h : KX S = (1, 5, 9)) (k : Nat) : PV S k = if k = 0 then S + 2 else if k = 1 then S + 8 else if k = 2 then S + 9 else if k = 3 then S + 10 else if k = 4 then S + 11 else 0 := by unfold PV; rw [h]; rfl
theorem pvS7 {S : Nat} (h : KX (S + 7) = (4, 3, 6)) (k : Nat) : PV (S + 7) k = if k < 6 then S + 29 + k else 0 := by
  have : PV (S + 7) k = if k < 6 then S + 7 + 22 + k else 0 := by unfold PV; rw [h]; rfl
  rw [this]
theorem pvS8 {S : Nat} (h : KX (S + 8) = (4, 4, 10)) (k : Nat) : PV (S + 8) k = if k < 10 then S + 35 + 18 * k else 0 := by
  have : PV (S + 8) k = if k < 10 then S + 8 + 27 + 18 * k else 0 := by unfold PV; rw [h]; rfl
  rw [this]
/-- a state that is being made: its own fields, its two rows so far -/
def SI (S hi m a : Nat) (M0 M : Mm) : Prop := BI (ES S) S hi M0 M ∧ (∀ k, PV S k ≠ 0 → mP M S k = PV S k) ∧ (∀ q, q < m → mP M (S + 7) q = S + 29 + q) ∧ ∀ q, q < a → mP M (S + 8) q = S + 35 + 18 * q
section SPcg
variable {l : Launch} {G : GT} {M : Mm} {Q : PQ} {QX : PX} {S : Nat}
theorem lp_X7_init_83 {F : FX} {M0 : Mm} (hk : ∀ r, r < 214 → KX (S + r) = kSt r) (hS : S + 214 ≤ 1098) (hQ : ∀ M', CB S 214 M0 M' → Q none M') : ∀ (n i : Nat) (j : Int32) (M : Mm), i + n = 10 → j.toInt = i → SI S (S + 34 + 18 * i) 6 i M0 M → Wj false l G F Y_X7_init Q QX (33 + 18 * i) (255 + 198 * i) 83 [.ref S, .int j] [] M
  | 0, i, j, M, hn, hj, hM => by
    refine g_X7_init_83e ⟨by omega, by omega⟩ _ _ _ ?_
    have i10 : i = 10 := by omega
    subst i10
    simp only [i_lt, i_le, i_eq, tI_0, tI_1, tI_2, tI_3, tI_4, tI_5, tI_6, tI_7, tI_8, tI_9, tI_10, tI_11, tI_12, tI_14, tI_20, tI_31, tI_32, tI_48, tI_57, tI_59, tI_96, tI_97, tI_99, tI_100, tI_122, tI_127, tI_150, tI_199, tI_200, tI_255, tI_427, tI_1708, tI_2000, tI_9999, tI_m1, tI_m10, cN_0, cN_1, cN_2, cN_3, cN_4, cN_5, cN_6, cN_7, cN_8, cN_9, cN_10, cN_11, cN_12, cN_14, cN_20, cN_31, cN_32, cN_48, cN_57, cN_59, cN_96, cN_97, cN_99, cN_100, cN_122, cN_127, cN_150, cN_199, cN_200, cN_255, cN_427, cN_1708, cN_2000, cN_9999, I_ic, I_lc, I_nul, I_il, I_ll, I_al, I_is, I_ls, I_as, I_inc, I_iadd, I_isub, I_imul, I_iand, I_ladd, I_lsub, I_lmul, I_land, I_lor, I_idiv, I_irem, I_ishr, I_lshl, I_lshr, I_lushr, I_lcmp, I_i2l, I_l2i, I_dup, I_pop, I_dup2, I_ifeq, I_ifne, I_iflt, I_ifge, I_ifgt, I_ifle, I_iceq, I_icne, I_iclt, I_icge, I_icgt, I_icle, I_ifnull, I_ifnonnull, I_sw, swK, I_gi, I_gl, I_gp, I_pi, I_pl, I_ial, I_lal, I_ias, I_las, I_aal, I_len, I_ir, I_zr, I_lr, I_vr, I_ar, I_cv, I_cs, I_csN, I_max, I_min, I_cpi, I_cpl, I_kl, popA, gt0, gt1, gt2, gt3, gt4, gt5, gt6, gt7, gt8, gt9, gt10, gt11, gt12, s1_0, s1_1, s1_2, s1_3, s1_4, s1_5, s1_6, s1_7, s1_8, s1_9, s1_10, s1_11, s1_12, s2_0, s2_1, s2_2, s2_3, s2_4, s2_5, s2_6, s2_7, s2_8, s2_9, s2_10, s2_11, se_0, se_1, se_2, se_3, se_4, se_5, se_6, se_7, se_8, se_9, se_10, se_11, se_12, kil_i, kil_l, kil_r, kil_n, kil_x, ap_done, ap_pend, ap_dbt, ap_rel, ap_wrk, ap_trade, ap_mentor, ap_refused, ap_wdays, ap_today, ap_moves, st_day, st_needs, st_ments, st_aps, ap_eta, st_eta, Value.category, List.map_cons, List.map_nil, List.sum_cons, List.sum_nil, Option.toList_some, Option.toList_none, List.cons_append, List.nil_append, Nat.reduceAdd, Nat.reduceLeDiff, true_and, and_true, true_or, or_true, forall_const, not_true_eq_false, false_implies, not_false_eq_true, false_and, ↓reduceIte, ad_1, ad_2, ad_3, ad_4, ad_5, nq_2]
    rw [hj]
    refine ⟨fun _ => ?_, fun g => by omega⟩
    obtain ⟨b, f, m, a⟩ := hM
    have k0 : KX S = (1, 5, 9) := hk 0 (by decide)
    refine hQ M ((b.hi (by omega)).fin fun x k g1 g2 g3 g4 => ?_)
    rcases g3 with rfl | rfl | rfl
    · exact f k g4
    · have k7 : KX (S + 7) = (4, 3, 6) := hk 7 (by decide)
      rw [pvS7 k7] at g4 ⊢
      by_cases e : k < 6
      · rw [if_pos e]; exact m k e
      · rw [if_neg e] at g4; exact absurd rfl g4
    · have k8 : KX (S + 8) = (4, 4, 10) := hk 8 (by decide)
      rw [pvS8 k8] at g4 ⊢
      by_cases e : k < 10
      · rw [if_pos e]; exact a k e
      · rw [if_neg e] at g4; exact absurd rfl g4
  | n + 1, i, j, M, hn, hj, hM => by
    refine g_X7_init_83 ⟨by omega, by omega⟩ _ _ _ ?_
    obtain ⟨b, f, m, a⟩ := hM
    have k0 : KX S = (1, 5, 9) := hk 0 (by decide)
    have k8 : KX (S + 8) = (4, 4, 10) := hk 8 (by decide)
    have n1 : mN M = S + 34 + 18 * i := b.1
    have hj1 : (j + 1).toInt = ((i + 1 : Nat) : Int) := by rw [i_add, hj]; rfl; all_goals rw [hj, tI_1]; omega
    have hjn : j.toNatClampNeg = i := by rw [i_cl, hj]; rfl
    have f2 : mP M S 2 = S + 8 + 1 := by
      have := f 2 (by rw [pvS k0]; exact Nat.succ_ne_zero _)
      rw [this, pvS k0]
      rfl
    have ka : ∀ r, r < 18 → KX (S + 34 + 18 * i + r) = kAp r := fun r hr => by
      rw [show S + 34 + 18 * i + r = S + (34 + 18 * i + r) by omega, hk _ (by omega)]
      exact kSt_a i (by omega) r hr
    have kx : KX (S + 34 + 18 * i) = (1, 0, 11) := ka 0 (by decide)
    have kl : S < S + 34 + 18 * i := by omega
    simp only [R_X7_init_83, I_gq, I_new, I_ci, I_asz, i_lt, i_le, i_eq, tI_0, tI_1, tI_2, tI_3, tI_4, tI_5, tI_6, tI_7, tI_8, tI_9, tI_10, tI_11, tI_12, tI_14, tI_20, tI_31, tI_32, tI_48, tI_57, tI_59, tI_96, tI_97, tI_99, tI_100, tI_122, tI_127, tI_150, tI_199, tI_200, tI_255, tI_427, tI_1708, tI_2000, tI_9999, tI_m1, tI_m10, cN_0, cN_1, cN_2, cN_3, cN_4, cN_5, cN_6, cN_7, cN_8, cN_9, cN_10, cN_11, cN_12, cN_14, cN_20, cN_31, cN_32, cN_48, cN_57, cN_59, cN_96, cN_97, cN_99, cN_100, cN_122, cN_127, cN_150, cN_199, cN_200, cN_255, cN_427, cN_1708, cN_2000, cN_9999, n1, k0, k8, kx, I_ic, I_lc, I_nul, I_il, I_ll, I_al, I_is, I_ls, I_as, I_inc, I_iadd, I_isub, I_imul, I_iand, I_ladd, I_lsub, I_lmul, I_land, I_lor, I_idiv, I_irem, I_ishr, I_lshl, I_lshr, I_lushr, I_lcmp, I_i2l, I_l2i, I_dup, I_pop, I_dup2, I_ifeq, I_ifne, I_iflt, I_ifge, I_ifgt, I_ifle, I_iceq, I_icne, I_iclt, I_icge, I_icgt, I_icle, I_ifnull, I_ifnonnull, I_sw, swK, I_gi, I_gl, I_gp, I_pi, I_pl, I_ial, I_lal, I_ias, I_las, I_aal, I_len, I_ir, I_zr, I_lr, I_vr, I_ar, I_cv, I_cs, I_csN, I_max, I_min, I_cpi, I_cpl, I_kl, popA, gt0, gt1, gt2, gt3, gt4, gt5, gt6, gt7, gt8, gt9, gt10, gt11, gt12, s1_0, s1_1, s1_2, s1_3, s1_4, s1_5, s1_6, s1_7, s1_8, s1_9, s1_10, s1_11, s1_12, s2_0, s2_1, s2_2, s2_3, s2_4, s2_5, s2_6, s2_7, s2_8, s2_9, s2_10, s2_11, se_0, se_1, se_2, se_3, se_4, se_5, se_6, se_7, se_8, se_9, se_10, se_11, se_12, kil_i, kil_l, kil_r, kil_n, kil_x, ap_done, ap_pend, ap_dbt, ap_rel, ap_wrk, ap_trade, ap_mentor, ap_refused, ap_wdays, ap_today, ap_moves, st_day, st_needs, st_ments, st_aps, ap_eta, st_eta, Value.category, List.map_cons, List.map_nil, List.sum_cons, List.sum_nil, Option.toList_some, Option.toList_none, List.cons_append, List.nil_append, Nat.reduceAdd, Nat.reduceLeDiff, true_and, and_true, true_or, or_true, forall_const, not_true_eq_false, false_implies, not_false_eq_true, false_and, ↓reduceIte, ad_1, ad_2, ad_3, ad_4, ad_5, nq_2]
    rw [hj]
    refine ⟨fun g => by omega, fun _ => ⟨kl, _, f2, ?_⟩⟩
    refine sp_X1_init ka (by omega) (by rw [mN_aN, n1]) b.2.1.an fun M2 c2 => ?_
    have c2' : CB (S + 34 + 18 * i) 18 (aN M) M2 := c2
    obtain ⟨b2, p2⟩ := b.cb (by omega) c2'
    have n2 : mN M2 = S + 34 + 18 * (i + 1) := by rw [b2.1]; omega
    simp only [R_X7_init_83, I_gq, I_new, I_ci, I_asz, i_lt, i_le, i_eq, tI_0, tI_1, tI_2, tI_3, tI_4, tI_5, tI_6, tI_7, tI_8, tI_9, tI_10, tI_11, tI_12, tI_14, tI_20, tI_31, tI_32, tI_48, tI_57, tI_59, tI_96, tI_97, tI_99, tI_100, tI_122, tI_127, tI_150, tI_199, tI_200, tI_255, tI_427, tI_1708, tI_2000, tI_9999, tI_m1, tI_m10, cN_0, cN_1, cN_2, cN_3, cN_4, cN_5, cN_6, cN_7, cN_8, cN_9, cN_10, cN_11, cN_12, cN_14, cN_20, cN_31, cN_32, cN_48, cN_57, cN_59, cN_96, cN_97, cN_99, cN_100, cN_122, cN_127, cN_150, cN_199, cN_200, cN_255, cN_427, cN_1708, cN_2000, cN_9999, n1, n2, k0, k8, kx, hjn, I_ic, I_lc, I_nul, I_il, I_ll, I_al, I_is, I_ls, I_as, I_inc, I_iadd, I_isub, I_imul, I_iand, I_ladd, I_lsub, I_lmul, I_land, I_lor, I_idiv, I_irem, I_ishr, I_lshl, I_lshr, I_lushr, I_lcmp, I_i2l, I_l2i, I_dup, I_pop, I_dup2, I_ifeq, I_ifne, I_iflt, I_ifge, I_ifgt, I_ifle, I_iceq, I_icne, I_iclt, I_icge, I_icgt, I_icle, I_ifnull, I_ifnonnull, I_sw, swK, I_gi, I_gl, I_gp, I_pi, I_pl, I_ial, I_lal, I_ias, I_las, I_aal, I_len, I_ir, I_zr, I_lr, I_vr, I_ar, I_cv, I_cs, I_csN, I_max, I_min, I_cpi, I_cpl, I_kl, popA, gt0, gt1, gt2, gt3, gt4, gt5, gt6, gt7, gt8, gt9, gt10, gt11, gt12, s1_0, s1_1, s1_2, s1_3, s1_4, s1_5, s1_6, s1_7, s1_8, s1_9, s1_10, s1_11, s1_12, s2_0, s2_1, s2_2, s2_3, s2_4, s2_5, s2_6, s2_7, s2_8, s2_9, s2_10, s2_11, se_0, se_1, se_2, se_3, se_4, se_5, se_6, se_7, se_8, se_9, se_10, se_11, se_12, kil_i, kil_l, kil_r, kil_n, kil_x, ap_done, ap_pend, ap_dbt, ap_rel, ap_wrk, ap_trade, ap_mentor, ap_refused, ap_wdays, ap_today, ap_moves, st_day, st_needs, st_ments, st_aps, ap_eta, st_eta, Value.category, List.map_cons, List.map_nil, List.sum_cons, List.sum_nil, Option.toList_some, Option.toList_none, List.cons_append, List.nil_append, Nat.reduceAdd, Nat.reduceLeDiff, true_and, and_true, true_or, or_true, forall_const, not_true_eq_false, false_implies, not_false_eq_true, false_and, ↓reduceIte, ad_1, ad_2, ad_3, ad_4, ad_5, nq_2]
    have l8 : S + 8 < S + 34 + 18 * (i + 1) := by omega
    have l9 : S + 34 + 18 * i < S + 34 + 18 * (i + 1) := by omega
    refine ⟨l8, i_in (n := 10) (by omega) (by omega), l9, ?_⟩
    have b3 := (b2.hi (show _ = S + 34 + 18 * (i + 1) by omega)).sp (a := S + 8) (k := i) (v := S + 34 + 18 * i + 1) (by omega) (Or.inr (Or.inr rfl))
    have lp := lp_X7_init_83 (F := F) hk hS hQ n (i + 1) (j + 1) (sP M2 (S + 8) i (S + 34 + 18 * i + 1)) (by omega) hj1 ⟨b3, fun k hkk => by rw [mP_sP, if_neg (by omega), p2 S k (by omega)]; exact f k hkk, fun q hq => by rw [mP_sP, if_neg (by omega), p2 _ q (by omega)]; exact m q hq, fun q hq => by
      rw [mP_sP]
      by_cases e : q = i
      · rw [if_pos ⟨rfl, e⟩, e]; omega
      · rw [if_neg (fun c => e c.2), p2 _ q (by omega)]
        exact a q (by omega)⟩
    rw [show 33 + 18 * (i + 1) = 33 + 18 * i + 18 by omega, show 255 + 198 * (i + 1) = 255 + 198 * i + 198 by omega] at lp
    exact lp
theorem lp_X7_init_56 {F : FX} {M0 : Mm} (hk : ∀ r, r < 214 → KX (S + r) = kSt r) (hS : S + 214 ≤ 1098) (hQ : ∀ M', CB S 214 M0 M' → Q none M') : ∀ (n i : Nat) (j : Int32) (M : Mm), i + n = 6 → j.toInt = i → SI S (S + 28 + i) i 0 M0 M → Wj false l G F Y_X7_init Q QX (27 + i) (237 + 3 * i) 56 [.ref S, .int j] [] M
  | 0, i, j, M, hn, hj, hM => by
    refine g_X7_init_56 ⟨by omega, by omega⟩ _ _ _ ?_
    have i6 : i = 6 := by omega
    subst i6
    simp only [R_X7_init_56, i_lt, i_le, i_eq, tI_0, tI_1, tI_2, tI_3, tI_4, tI_5, tI_6, tI_7, tI_8, tI_9, tI_10, tI_11, tI_12, tI_14, tI_20, tI_31, tI_32, tI_48, tI_57, tI_59, tI_96, tI_97, tI_99, tI_100, tI_122, tI_127, tI_150, tI_199, tI_200, tI_255, tI_427, tI_1708, tI_2000, tI_9999, tI_m1, tI_m10, cN_0, cN_1, cN_2, cN_3, cN_4, cN_5, cN_6, cN_7, cN_8, cN_9, cN_10, cN_11, cN_12, cN_14, cN_20, cN_31, cN_32, cN_48, cN_57, cN_59, cN_96, cN_97, cN_99, cN_100, cN_122, cN_127, cN_150, cN_199, cN_200, cN_255, cN_427, cN_1708, cN_2000, cN_9999, I_ic, I_lc, I_nul, I_il, I_ll, I_al, I_is, I_ls, I_as, I_inc, I_iadd, I_isub, I_imul, I_iand, I_ladd, I_lsub, I_lmul, I_land, I_lor, I_idiv, I_irem, I_ishr, I_lshl, I_lshr, I_lushr, I_lcmp, I_i2l, I_l2i, I_dup, I_pop, I_dup2, I_ifeq, I_ifne, I_iflt, I_ifge, I_ifgt, I_ifle, I_iceq, I_icne, I_iclt, I_icge, I_icgt, I_icle, I_ifnull, I_ifnonnull, I_sw, swK, I_gi, I_gl, I_gp, I_pi, I_pl, I_ial, I_lal, I_ias, I_las, I_aal, I_len, I_ir, I_zr, I_lr, I_vr, I_ar, I_cv, I_cs, I_csN, I_max, I_min, I_cpi, I_cpl, I_kl, popA, gt0, gt1, gt2, gt3, gt4, gt5, gt6, gt7, gt8, gt9, gt10, gt11, gt12, s1_0, s1_1, s1_2, s1_3, s1_4, s1_5, s1_6, s1_7, s1_8, s1_9, s1_10, s1_11, s1_12, s2_0, s2_1, s2_2, s2_3, s2_4, s2_5, s2_6, s2_7, s2_8, s2_9, s2_10, s2_11, se_0, se_1, se_2, se_3, se_4, se_5, se_6, se_7, se_8, se_9, se_10, se_11, se_12, kil_i, kil_l, kil_r, kil_n, kil_x, ap_done, ap_pend, ap_dbt, ap_rel, ap_wrk, ap_trade, ap_mentor, ap_refused, ap_wdays, ap_today, ap_moves, st_day, st_needs, st_ments, st_aps, ap_eta, st_eta, Value.category, List.map_cons, List.map_nil, List.sum_cons, List.sum_nil, Option.toList_some, Option.toList_none, List.cons_append, List.nil_append, Nat.reduceAdd, Nat.reduceLeDiff, true_and, and_true, true_or, or_true, forall_const, not_true_eq_false, false_implies, not_false_eq_true, false_and, ↓reduceIte, ad_1, ad_2, ad_3, ad_4, ad_5, nq_2]
    rw [hj]
    refine ⟨fun _ => ?_, fun g => by omega⟩
    exact lp_X7_init_83 hk hS hQ 10 0 0 M rfl rfl hM
  | n + 1, i, j, M, hn, hj, hM => by
    refine g_X7_init_56 ⟨by omega, by omega⟩ _ _ _ ?_
    obtain ⟨b, f, m, a⟩ := hM
    have k0 : KX S = (1, 5, 9) := hk 0 (by decide)
    have k7 : KX (S + 7) = (4, 3, 6) := hk 7 (by decide)
    have n1 : mN M = S + 28 + i := b.1
    have hj1 : (j + 1).toInt = ((i + 1 : Nat) : Int) := by rw [i_add, hj]; rfl; all_goals rw [hj, tI_1]; omega
    have hjn : j.toNatClampNeg = i := by rw [i_cl, hj]; rfl
    have f1 : mP M S 1 = S + 7 + 1 := by
      have := f 1 (by rw [pvS k0]; exact Nat.succ_ne_zero _)
      rw [this, pvS k0]
      rfl
    have kx : KX (S + 28 + i) = (1, 4, 3) := by
      rw [show S + 28 + i = S + (28 + i) by omega, hk _ (by omega)]
      exact kSt_m i (by omega)
    have kl : S < S + 28 + i := by omega
    simp only [R_X7_init_56, I_gq, I_new, I_ci, I_asz, i_lt, i_le, i_eq, tI_0, tI_1, tI_2, tI_3, tI_4, tI_5, tI_6, tI_7, tI_8, tI_9, tI_10, tI_11, tI_12, tI_14, tI_20, tI_31, tI_32, tI_48, tI_57, tI_59, tI_96, tI_97, tI_99, tI_100, tI_122, tI_127, tI_150, tI_199, tI_200, tI_255, tI_427, tI_1708, tI_2000, tI_9999, tI_m1, tI_m10, cN_0, cN_1, cN_2, cN_3, cN_4, cN_5, cN_6, cN_7, cN_8, cN_9, cN_10, cN_11, cN_12, cN_14, cN_20, cN_31, cN_32, cN_48, cN_57, cN_59, cN_96, cN_97, cN_99, cN_100, cN_122, cN_127, cN_150, cN_199, cN_200, cN_255, cN_427, cN_1708, cN_2000, cN_9999, n1, k0, k7, kx, I_ic, I_lc, I_nul, I_il, I_ll, I_al, I_is, I_ls, I_as, I_inc, I_iadd, I_isub, I_imul, I_iand, I_ladd, I_lsub, I_lmul, I_land, I_lor, I_idiv, I_irem, I_ishr, I_lshl, I_lshr, I_lushr, I_lcmp, I_i2l, I_l2i, I_dup, I_pop, I_dup2, I_ifeq, I_ifne, I_iflt, I_ifge, I_ifgt, I_ifle, I_iceq, I_icne, I_iclt, I_icge, I_icgt, I_icle, I_ifnull, I_ifnonnull, I_sw, swK, I_gi, I_gl, I_gp, I_pi, I_pl, I_ial, I_lal, I_ias, I_las, I_aal, I_len, I_ir, I_zr, I_lr, I_vr, I_ar, I_cv, I_cs, I_csN, I_max, I_min, I_cpi, I_cpl, I_kl, popA, gt0, gt1, gt2, gt3, gt4, gt5, gt6, gt7, gt8, gt9, gt10, gt11, gt12, s1_0, s1_1, s1_2, s1_3, s1_4, s1_5, s1_6, s1_7, s1_8, s1_9, s1_10, s1_11, s1_12, s2_0, s2_1, s2_2, s2_3, s2_4, s2_5, s2_6, s2_7, s2_8, s2_9, s2_10, s2_11, se_0, se_1, se_2, se_3, se_4, se_5, se_6, se_7, se_8, se_9, se_10, se_11, se_12, kil_i, kil_l, kil_r, kil_n, kil_x, ap_done, ap_pend, ap_dbt, ap_rel, ap_wrk, ap_trade, ap_mentor, ap_refused, ap_wdays, ap_today, ap_moves, st_day, st_needs, st_ments, st_aps, ap_eta, st_eta, Value.category, List.map_cons, List.map_nil, List.sum_cons, List.sum_nil, Option.toList_some, Option.toList_none, List.cons_append, List.nil_append, Nat.reduceAdd, Nat.reduceLeDiff, true_and, and_true, true_or, or_true, forall_const, not_true_eq_false, false_implies, not_false_eq_true, false_and, ↓reduceIte, ad_1, ad_2, ad_3, ad_4, ad_5, nq_2]
    rw [hj]
    refine ⟨fun g => by omega, fun _ => ⟨kl, _, f1, ?_⟩⟩
    refine sp_X6_init kx (by rw [mN_aN, n1]) b.2.1.an fun M2 c2 => ?_
    have c2' : CB (S + 28 + i) 1 (aN M) M2 := c2
    obtain ⟨b2, p2⟩ := b.cb (by omega) c2'
    have n2 : mN M2 = S + 28 + (i + 1) := by rw [b2.1]; omega
    simp only [R_X7_init_56, I_gq, I_new, I_ci, I_asz, i_lt, i_le, i_eq, tI_0, tI_1, tI_2, tI_3, tI_4, tI_5, tI_6, tI_7, tI_8, tI_9, tI_10, tI_11, tI_12, tI_14, tI_20, tI_31, tI_32, tI_48, tI_57, tI_59, tI_96, tI_97, tI_99, tI_100, tI_122, tI_127, tI_150, tI_199, tI_200, tI_255, tI_427, tI_1708, tI_2000, tI_9999, tI_m1, tI_m10, cN_0, cN_1, cN_2, cN_3, cN_4, cN_5, cN_6, cN_7, cN_8, cN_9, cN_10, cN_11, cN_12, cN_14, cN_20, cN_31, cN_32, cN_48, cN_57, cN_59, cN_96, cN_97, cN_99, cN_100, cN_122, cN_127, cN_150, cN_199, cN_200, cN_255, cN_427, cN_1708, cN_2000, cN_9999, n1, n2, k0, k7, kx, hjn, I_ic, I_lc, I_nul, I_il, I_ll, I_al, I_is, I_ls, I_as, I_inc, I_iadd, I_isub, I_imul, I_iand, I_ladd, I_lsub, I_lmul, I_land, I_lor, I_idiv, I_irem, I_ishr, I_lshl, I_lshr, I_lushr, I_lcmp, I_i2l, I_l2i, I_dup, I_pop, I_dup2, I_ifeq, I_ifne, I_iflt, I_ifge, I_ifgt, I_ifle, I_iceq, I_icne, I_iclt, I_icge, I_icgt, I_icle, I_ifnull, I_ifnonnull, I_sw, swK, I_gi, I_gl, I_gp, I_pi, I_pl, I_ial, I_lal, I_ias, I_las, I_aal, I_len, I_ir, I_zr, I_lr, I_vr, I_ar, I_cv, I_cs, I_csN, I_max, I_min, I_cpi, I_cpl, I_kl, popA, gt0, gt1, gt2, gt3, gt4, gt5, gt6, gt7, gt8, gt9, gt10, gt11, gt12, s1_0, s1_1, s1_2, s1_3, s1_4, s1_5, s1_6, s1_7, s1_8, s1_9, s1_10, s1_11, s1_12, s2_0, s2_1, s2_2, s2_3, s2_4, s2_5, s2_6, s2_7, s2_8, s2_9, s2_10, s2_11, se_0, se_1, se_2, se_3, se_4, se_5, se_6, se_7, se_8, se_9, se_10, se_11, se_12, kil_i, kil_l, kil_r, kil_n, kil_x, ap_done, ap_pend, ap_dbt, ap_rel, ap_wrk, ap_trade, ap_mentor, ap_refused, ap_wdays, ap_today, ap_moves, st_day, st_needs, st_ments, st_aps, ap_eta, st_eta, Value.category, List.map_cons, List.map_nil, List.sum_cons, List.sum_nil, Option.toList_some, Option.toList_none, List.cons_append, List.nil_append, Nat.reduceAdd, Nat.reduceLeDiff, true_and, and_true, true_or, or_true, forall_const, not_true_eq_false, false_implies, not_false_eq_true, false_and, ↓reduceIte, ad_1, ad_2, ad_3, ad_4, ad_5, nq_2]
    have l8 : S + 7 < S + 28 + (i + 1) := by omega
    have l9 : S + 28 + i < S + 28 + (i + 1) := by omega
    refine ⟨l8, i_in (n := 6) (by omega) (by omega), l9, ?_⟩
    have b3 := (b2.hi (show _ = S + 28 + (i + 1) by omega)).sp (a := S + 7) (k := i) (v := S + 28 + i + 1) (by omega) (Or.inr (Or.inl rfl))
    have lp := lp_X7_init_56 (F := F) hk hS hQ n (i + 1) (j + 1) (sP M2 (S + 7) i (S + 28 + i + 1)) (by omega) hj1 ⟨b3, fun k hkk => by rw [mP_sP, if_neg (by omega), p2 S k (by omega)]; exact f k hkk, fun q hq => by
      rw [mP_sP]
      by_cases e : q = i
      · rw [if_pos ⟨rfl, e⟩, e]; omega
      · rw [if_neg (fun c => e c.2), p2 _ q (by omega)]
        exact m q (by omega), fun q hq => absurd hq (Nat.not_lt_zero _)⟩
    rw [show 27 + (i + 1) = 27 + i + 1 by omega, show 237 + 3 * (i + 1) = 237 + 3 * i + 3 by omega] at lp
    exact lp
theorem sp_X7_init (hk : ∀ r, r < 214 → KX (S + r) = kSt r) (hS : S + 214 ≤ 1098) (hn : mN M = S + 1) (hz : Zr M) (hQ : ∀ M', CB S 214 M M' → Q none M') : Tr false l G Y_X7_init [.ref S] M Q QX := by
  refine en_X7_init fun F => ?_
  have k0 : KX S = (1, 5, 9) := hk 0 (by decide)
  have k1 : KX (S + 1) = (4, 2, 5) := hk 1 (by decide)
  have kr : ∀ j, j < 5 → KX (S + 1 + 1 + j) = (2, 0, 3) := fun j hj => by
    rw [show S + 1 + 1 + j = S + (2 + j) by omega, hk _ (by omega)]
    exact kSt_n j hj
  have k7 : KX (S + 1 + 1 + 5) = (4, 3, 6) := hk 7 (by decide)
  have k8 : KX (S + 1 + 1 + 5 + 1) = (4, 4, 10) := hk 8 (by decide)
  have k9 : KX (S + 1 + 1 + 5 + 1 + 1) = (1, 4, 3) := hk 9 (by decide)
  have k10 : KX (S + 10) = (1, 0, 11) := hk 10 (by decide)
  have b0 : BI (ES S) S (S + 1) M M := (BI.start hn hz).mono fun b h => Or.inl h
  have b1 := (b0.mn (Nat.le_succ S) k1 kr).sp (a := S) (k := 0) (v := S + 1 + 1) (Nat.le_refl S) (Or.inl rfl)
  have b2 := (b1.an (by omega) fun k c => absurd (Or.inr (Or.inl rfl)) c).sp (a := S) (k := 1) (v := S + 1 + 1 + 5 + 1) (Nat.le_refl S) (Or.inl rfl)
  have b3 := (b2.an (by omega) fun k c => absurd (Or.inr (Or.inr rfl)) c).sp (a := S) (k := 2) (v := S + 1 + 1 + 5 + 1 + 1) (Nat.le_refl S) (Or.inl rfl)
  simp only [R_X7_init_0, I_oi, I_mnA, I_naA, I_pp, I_new, I_ci, mN_sP, mN_aN, mN_mn, hn, k0, k1, k7, k8, k9, I_ic, I_lc, I_nul, I_il, I_ll, I_al, I_is, I_ls, I_as, I_inc, I_iadd, I_isub, I_imul, I_iand, I_ladd, I_lsub, I_lmul, I_land, I_lor, I_idiv, I_irem, I_ishr, I_lshl, I_lshr, I_lushr, I_lcmp, I_i2l, I_l2i, I_dup, I_pop, I_dup2, I_ifeq, I_ifne, I_iflt, I_ifge, I_ifgt, I_ifle, I_iceq, I_icne, I_iclt, I_icge, I_icgt, I_icle, I_ifnull, I_ifnonnull, I_sw, swK, I_gi, I_gl, I_gp, I_pi, I_pl, I_ial, I_lal, I_ias, I_las, I_aal, I_len, I_ir, I_zr, I_lr, I_vr, I_ar, I_cv, I_cs, I_csN, I_max, I_min, I_cpi, I_cpl, I_kl, popA, gt0, gt1, gt2, gt3, gt4, gt5, gt6, gt7, gt8, gt9, gt10, gt11, gt12, s1_0, s1_1, s1_2, s1_3, s1_4, s1_5, s1_6, s1_7, s1_8, s1_9, s1_10, s1_11, s1_12, s2_0, s2_1, s2_2, s2_3, s2_4, s2_5, s2_6, s2_7, s2_8, s2_9, s2_10, s2_11, se_0, se_1, se_2, se_3, se_4, se_5, se_6, se_7, se_8, se_9, se_10, se_11, se_12, kil_i, kil_l, kil_r, kil_n, kil_x, ap_done, ap_pend, ap_dbt, ap_rel, ap_wrk, ap_trade, ap_mentor, ap_refused, ap_wdays, ap_today, ap_moves, st_day, st_needs, st_ments, st_aps, ap_eta, st_eta, Value.category, List.map_cons, List.map_nil, List.sum_cons, List.sum_nil, Option.toList_some, Option.toList_none, List.cons_append, List.nil_append, Nat.reduceAdd, Nat.reduceLeDiff, true_and, and_true, true_or, or_true, forall_const, not_true_eq_false, false_implies, not_false_eq_true, false_and, ↓reduceIte, ad_1, ad_2, ad_3, ad_4, ad_5, nq_2]
  have q1 : S < S + 1 + 1 + 5 := by omega
  have q2 : S < S + 1 + 1 + 5 + 1 := by omega
  have q3 : S < S + 1 + 1 + 5 + 1 + 1 := by omega
  refine ⟨kr, by omega, q1, q2, q3, sp_X6_init k9 (by rw [mN_aN, b3.1]) b3.2.1.an fun M3 c3 => ?_⟩
  obtain ⟨b4, p4⟩ := b3.cb (by omega) c3
  have n4 : mN M3 = S + 10 := by rw [b4.1]
  have b4' : BI (ES S) S (S + 10) M M3 := b4
  have b5 := b4'.sp (a := S) (k := 3) (v := S + 1 + 1 + 5 + 1 + 1 + 1) (Nat.le_refl S) (Or.inl rfl)
  simp only [R_X7_init_0, I_oi, I_mnA, I_naA, I_pp, I_new, I_ci, mN_sP, mN_aN, mN_mn, n4, k0, k10, I_ic, I_lc, I_nul, I_il, I_ll, I_al, I_is, I_ls, I_as, I_inc, I_iadd, I_isub, I_imul, I_iand, I_ladd, I_lsub, I_lmul, I_land, I_lor, I_idiv, I_irem, I_ishr, I_lshl, I_lshr, I_lushr, I_lcmp, I_i2l, I_l2i, I_dup, I_pop, I_dup2, I_ifeq, I_ifne, I_iflt, I_ifge, I_ifgt, I_ifle, I_iceq, I_icne, I_iclt, I_icge, I_icgt, I_icle, I_ifnull, I_ifnonnull, I_sw, swK, I_gi, I_gl, I_gp, I_pi, I_pl, I_ial, I_lal, I_ias, I_las, I_aal, I_len, I_ir, I_zr, I_lr, I_vr, I_ar, I_cv, I_cs, I_csN, I_max, I_min, I_cpi, I_cpl, I_kl, popA, gt0, gt1, gt2, gt3, gt4, gt5, gt6, gt7, gt8, gt9, gt10, gt11, gt12, s1_0, s1_1, s1_2, s1_3, s1_4, s1_5, s1_6, s1_7, s1_8, s1_9, s1_10, s1_11, s1_12, s2_0, s2_1, s2_2, s2_3, s2_4, s2_5, s2_6, s2_7, s2_8, s2_9, s2_10, s2_11, se_0, se_1, se_2, se_3, se_4, se_5, se_6, se_7, se_8, se_9, se_10, se_11, se_12, kil_i, kil_l, kil_r, kil_n, kil_x, ap_done, ap_pend, ap_dbt, ap_rel, ap_wrk, ap_trade, ap_mentor, ap_refused, ap_wdays, ap_today, ap_moves, st_day, st_needs, st_ments, st_aps, ap_eta, st_eta, Value.category, List.map_cons, List.map_nil, List.sum_cons, List.sum_nil, Option.toList_some, Option.toList_none, List.cons_append, List.nil_append, Nat.reduceAdd, Nat.reduceLeDiff, true_and, and_true, true_or, or_true, forall_const, not_true_eq_false, false_implies, not_false_eq_true, false_and, ↓reduceIte, ad_1, ad_2, ad_3, ad_4, ad_5, nq_2]
  refine ⟨lt_j S (by decide), sp_X1_init (o := S + 10) (fun r hr => by rw [Nat.add_assoc, hk _ (by omega)]; exact kSt_0 r hr) (by omega) (by rw [mN_aN, b5.1]) b5.2.1.an fun M5 c5 => ?_⟩
  obtain ⟨b6, p6⟩ := b5.cb (by omega) c5
  have n6 : mN M5 = S + 28 := by rw [b6.1]
  have b6' : BI (ES S) S (S + 28) M M5 := b6
  have b7 := b6'.sp (a := S) (k := 4) (v := S + 10 + 1) (Nat.le_refl S) (Or.inl rfl)
  simp only [R_X7_init_0, I_oi, I_mnA, I_naA, I_pp, I_new, I_ci, mN_sP, mN_aN, mN_mn, n6, k0, k10, I_ic, I_lc, I_nul, I_il, I_ll, I_al, I_is, I_ls, I_as, I_inc, I_iadd, I_isub, I_imul, I_iand, I_ladd, I_lsub, I_lmul, I_land, I_lor, I_idiv, I_irem, I_ishr, I_lshl, I_lshr, I_lushr, I_lcmp, I_i2l, I_l2i, I_dup, I_pop, I_dup2, I_ifeq, I_ifne, I_iflt, I_ifge, I_ifgt, I_ifle, I_iceq, I_icne, I_iclt, I_icge, I_icgt, I_icle, I_ifnull, I_ifnonnull, I_sw, swK, I_gi, I_gl, I_gp, I_pi, I_pl, I_ial, I_lal, I_ias, I_las, I_aal, I_len, I_ir, I_zr, I_lr, I_vr, I_ar, I_cv, I_cs, I_csN, I_max, I_min, I_cpi, I_cpl, I_kl, popA, gt0, gt1, gt2, gt3, gt4, gt5, gt6, gt7, gt8, gt9, gt10, gt11, gt12, s1_0, s1_1, s1_2, s1_3, s1_4, s1_5, s1_6, s1_7, s1_8, s1_9, s1_10, s1_11, s1_12, s2_0, s2_1, s2_2, s2_3, s2_4, s2_5, s2_6, s2_7, s2_8, s2_9, s2_10, s2_11, se_0, se_1, se_2, se_3, se_4, se_5, se_6, se_7, se_8, se_9, se_10, se_11, se_12, kil_i, kil_l, kil_r, kil_n, kil_x, ap_done, ap_pend, ap_dbt, ap_rel, ap_wrk, ap_trade, ap_mentor, ap_refused, ap_wdays, ap_today, ap_moves, st_day, st_needs, st_ments, st_aps, ap_eta, st_eta, Value.category, List.map_cons, List.map_nil, List.sum_cons, List.sum_nil, Option.toList_some, Option.toList_none, List.cons_append, List.nil_append, Nat.reduceAdd, Nat.reduceLeDiff, true_and, and_true, true_or, or_true, forall_const, not_true_eq_false, false_implies, not_false_eq_true, false_and, ↓reduceIte, ad_1, ad_2, ad_3, ad_4, ad_5, nq_2]
  refine ⟨lt_j S (by decide), ?_⟩
  refine lp_X7_init_56 hk hS hQ 6 0 0 _ rfl rfl ⟨b7, fun k hkk => ?_, fun q hq => absurd hq (Nat.not_lt_zero _), fun q hq => absurd hq (Nat.not_lt_zero _)⟩
  rw [pvS k0] at hkk ⊢
  have f : ∀ k, mP (sP M5 S 4 (S + 10 + 1)) S k = if k = 4 then S + 11 else if k = 3 then S + 10 else if k = 2 then S + 9 else if k = 1 then S + 8 else if k = 0 then S + 2 else mP (mnM M 5) S k := fun k => by
    rw [mP_sP]
    by_cases e4 : k = 4
    · rw [if_pos ⟨rfl, e4⟩, if_pos e4]
    rw [if_neg (fun c => e4 c.2), if_neg e4, p6 S k (by omega), mP_sP]
    by_cases e3 : k = 3
    · rw [if_pos ⟨rfl, e3⟩, if_pos e3]
    rw [if_neg (fun c => e3 c.2), if_neg e3, p4 S k (by omega), mP_sP]
    by_cases e2 : k = 2
    · rw [if_pos ⟨rfl, e2⟩, if_pos e2]
    rw [if_neg (fun c => e2 c.2), if_neg e2, an_p _ k (by rw [b2.1]; omega), mP_sP]
    by_cases e1 : k = 1
    · rw [if_pos ⟨rfl, e1⟩, if_pos e1]
    rw [if_neg (fun c => e1 c.2), if_neg e1, an_p _ k (by rw [b1.1]; omega), mP_sP]
    by_cases e0 : k = 0
    · rw [if_pos ⟨rfl, e0⟩, if_pos e0]
    rw [if_neg (fun c => e0 c.2), if_neg e0]
  rw [f]
  have hk5 : k = 0 ∨ k = 1 ∨ k = 2 ∨ k = 3 ∨ k = 4 := by
    by_cases e0 : k = 0
    · omega
    by_cases e1 : k = 1
    · omega
    by_cases e2 : k = 2
    · omega
    by_cases e3 : k = 3
    · omega
    by_cases e4 : k = 4
    · omega
    · rw [if_neg e0, if_neg e1, if_neg e2, if_neg e3, if_neg e4] at hkk
      exact absurd rfl hkk
  rcases hk5 with rfl | rfl | rfl | rfl | rfl <;> rfl
end SPcg
