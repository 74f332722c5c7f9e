/-! ===== the law's loop ===== -/
def AllK (L st : List Value) (M : Mm) : List KT → Prop
  | [] => True
  | K :: Ks => K L st M ∧ AllK L st M Ks
theorem swK_of {x : Int32} {L st : List Value} {M : Mm} {Kd : KT} : ∀ (Ks : List KT) (lo : Int), AllK L st M Ks → Kd L st M → swK x L st M Kd lo Ks
  | [], _, _, h => h
  | _ :: Ks, lo, a, h => ⟨fun _ => a.1, fun _ => swK_of Ks (lo + 1) a.2 h⟩
section LOP
variable {l : Launch} {G : GT} {F : FX} {Q : PQ} {QX : PX} {Ln : Nat} {xs : Nat → Int32}
theorem sc_in {i : Int32} {c Ln : Nat} {j : Int32} {m : Nat} (hi : i.toInt = 5 * (c : Int)) (hj : j.toInt = m) (hm : m ≤ 4) (h : 5 * c + 5 ≤ Ln) (h2 : Ln ≤ 2560) : vp_in (i + j) Ln := by
  have e : (i + j).toInt = 5 * (c : Int) + m := by
    rw [i_add, hi, hj]
    all_goals rw [hi, hj]; omega
  exact i_in (by rw [e]; omega) (by rw [e]; omega)
theorem iv_next {c : Nat} {M : Mm} (h : IV c M) : IV (c + 1) M := by
  obtain ⟨X, L, T, n, a, b, w, wl, h1, h2, h3⟩ := h
  exact ⟨X, L, T, n, a, b, w, wl, by omega, h2, by omega⟩
set_option maxRecDepth 100000 in
theorem lw_loop (hs : SCR G F Ln xs) (hst : l.stackTraces = false) (h2 : Ln ≤ 2560) (hQ : ∀ M, Q (some (.int 1)) M) : ∀ (d c k n : Nat) (i : Int32) (M : Mm) (s1 s2 : Value), Ln ≤ 5 * c + d → i.toInt = 5 * (c : Int) → 5 * c ≤ 2560 → k ≤ 1106 + 2 * c → n ≤ 14652 + 12 * c → IV c M → Wj true l G F Y_L_law Q QX k n 23 [.ref 1000100, .ref 0, .ref 1098, .ref 1105, .int i, s1, s2] [] M := by
  intro d
  induction d using Nat.strongRecOn with
  | ind d ih =>
    intro c k n i M s1 s2 hd hi h5 hk hn iv
    refine g_L_head hs ⟨by omega, by omega⟩ _ _ _ ?_
    have t5 : (5 : Int32).toInt = 5 := rfl
    have eL : (Int32.ofNat Ln).toInt = Ln := Int32.toInt_ofNat_of_lt (by omega)
    have e5 : (Int32.ofNat Ln - 5).toInt = (Ln : Int) - 5 := by
      rw [i_sub, eL, t5]
      all_goals rw [eL, t5]; omega
    simp only [ap_done, ap_pend, ap_dbt, ap_rel, ap_wrk, ap_trade, ap_mentor, ap_refused, ap_wdays, ap_today, ap_moves, st_day, st_needs, st_ments, st_aps, ap_eta, st_eta, R_L_head, I_scv, I_scl, i_lt, I_ic, I_lc, I_nul, I_il, I_ll, I_al, I_is, I_ls, I_as, I_inc, I_iadd, I_isub, I_imul, I_iand, I_ladd, I_lsub, I_lmul, I_land, I_lor, I_idiv, I_irem, I_ishr, I_lshl, I_lshr, I_lushr, I_lcmp, I_i2l, I_l2i, I_dup, I_pop, I_dup2, I_ifeq, I_ifne, I_iflt, I_ifge, I_ifgt, I_ifle, I_iceq, I_icne, I_iclt, I_icge, I_icgt, I_icle, I_ifnull, I_ifnonnull, I_sw, I_gi, I_gl, I_gp, I_pi, I_pl, I_ial, I_lal, I_ias, I_las, I_aal, I_len, I_ir, I_zr, I_lr, I_vr, I_ar, I_cv, I_cs, I_csN, I_max, I_min, I_cpi, I_cpl, I_kl, popA, gt0, gt1, gt2, gt3, gt4, gt5, gt6, gt7, gt8, gt9, gt10, gt11, gt12, s1_0, s1_1, s1_2, s1_3, s1_4, s1_5, s1_6, s1_7, s1_8, s1_9, s1_10, s1_11, s1_12, s2_0, s2_1, s2_2, s2_3, s2_4, s2_5, s2_6, s2_7, s2_8, s2_9, s2_10, s2_11, se_0, se_1, se_2, se_3, se_4, se_5, se_6, se_7, se_8, se_9, se_10, se_11, se_12, kil_i, kil_l, kil_r, kil_n, kil_x, ap_done, ap_pend, ap_dbt, ap_rel, ap_wrk, ap_trade, ap_mentor, ap_refused, ap_wdays, ap_today, ap_moves, st_day, st_needs, st_ments, st_aps, ap_eta, st_eta, Value.category, List.map_cons, List.map_nil, List.sum_cons, List.sum_nil, Option.toList_some, Option.toList_none, List.cons_append, List.nil_append, Nat.reduceAdd, Nat.reduceLeDiff, true_and, and_true, true_or, or_true, forall_const, not_true_eq_false, false_implies, not_false_eq_true, false_and, ↓reduceIte, ad_1, ad_2, ad_3, ad_4, ad_5, nq_2]
    rw [e5, hi]
    refine ⟨fun _ => hQ M, fun g => ?_⟩
    have hc : c < 512 := by omega
    have hf : 5 * c + 5 ≤ Ln := by omega
    have hk2 : k + 2 ≤ 601024 ∧ n + 12 ≤ 7293034 := ⟨by omega, by omega⟩
    have ei : (i + 5).toInt = 5 * ((c + 1 : Nat) : Int) := by
      rw [i_add, hi, t5]
      · omega
      all_goals rw [hi, t5]; omega
    have ri : RI Ln i := ⟨sc_in hi (show (1 : Int32).toInt = ((1 : Nat) : Int) from rfl) (by omega) hf h2, sc_in hi (show (2 : Int32).toInt = ((2 : Nat) : Int) from rfl) (by omega) hf h2, sc_in hi (show (3 : Int32).toInt = ((3 : Nat) : Int) from rfl) (by omega) hf h2, sc_in hi (show (4 : Int32).toInt = ((4 : Nat) : Int) from rfl) (by omega) hf h2⟩
    have hN : NX9 l G F Q QX k n c i := fun k' n' M' t1 t2 a b iv' => by
      refine g_L_1900 _ _ _ ?_
      simp only [I_ic, I_lc, I_nul, I_il, I_ll, I_al, I_is, I_ls, I_as, I_inc, I_iadd, I_isub, I_imul, I_iand, I_ladd, I_lsub, I_lmul, I_land, I_lor, I_idiv, I_irem, I_ishr, I_lshl, I_lshr, I_lushr, I_lcmp, I_i2l, I_l2i, I_dup, I_pop, I_dup2, I_ifeq, I_ifne, I_iflt, I_ifge, I_ifgt, I_ifle, I_iceq, I_icne, I_iclt, I_icge, I_icgt, I_icle, I_ifnull, I_ifnonnull, I_sw, swK, I_gi, I_gl, I_gp, I_pi, I_pl, I_ial, I_lal, I_ias, I_las, I_aal, I_len, I_ir, I_zr, I_lr, I_vr, I_ar, I_cv, I_cs, I_csN, I_max, I_min, I_cpi, I_cpl, I_kl, popA, gt0, gt1, gt2, gt3, gt4, gt5, gt6, gt7, gt8, gt9, gt10, gt11, gt12, s1_0, s1_1, s1_2, s1_3, s1_4, s1_5, s1_6, s1_7, s1_8, s1_9, s1_10, s1_11, s1_12, s2_0, s2_1, s2_2, s2_3, s2_4, s2_5, s2_6, s2_7, s2_8, s2_9, s2_10, s2_11, se_0, se_1, se_2, se_3, se_4, se_5, se_6, se_7, se_8, se_9, se_10, se_11, se_12, kil_i, kil_l, kil_r, kil_n, kil_x, ap_done, ap_pend, ap_dbt, ap_rel, ap_wrk, ap_trade, ap_mentor, ap_refused, ap_wdays, ap_today, ap_moves, st_day, st_needs, st_ments, st_aps, ap_eta, st_eta, Value.category, List.map_cons, List.map_nil, List.sum_cons, List.sum_nil, Option.toList_some, Option.toList_none, List.cons_append, List.nil_append, Nat.reduceAdd, Nat.reduceLeDiff, true_and, and_true, true_or, or_true, forall_const, not_true_eq_false, false_implies, not_false_eq_true, false_and, ↓reduceIte, ad_1, ad_2, ad_3, ad_4, ad_5, nq_2]
      exact ih (d - 5) (by omega) (c + 1) k' n' (i + 5) M' t1 t2 (by omega) ei (by omega) (by omega) (by omega) iv'
    have hD : Wj true l G F Y_L_law Q QX k n 1900 [.ref 1000100, .ref 0, .ref 1098, .ref 1105, .int i, s1, s2] [] M := hN k n M s1 s2 (by omega) (by omega) (iv_next iv)
    refine ⟨i_in (by rw [hi]; omega) (by rw [hi]; omega), swK_of _ _ ?_ hD⟩
    exact ⟨cs_0 hs hk2 hst hc ri iv hN, cs_1 hs hk2 hst hc ri iv hN, cs_2 hs hk2 hst hc ri iv hN, cs_3 hs hk2 hst hc ri iv hN, cs_4 hs hk2 hst hc ri iv hN, cs_5 hs hk2 hst hc ri iv hN, cs_6 hs hk2 hst hc ri iv hN, cs_7 hs hk2 hst hc ri iv hN, cs_8 hs hk2 hst hc ri iv hN, cs_9 hs hk2 hst hc ri iv hN, cs_10 hs hk2 hst hc ri iv hN, cs_11 hs hk2 hst hc ri iv hN, cs_12 hs hk2 hst hc ri iv hN, cs_13 hs hk2 hst hc ri iv hN, cs_14 hs hk2 hst hc ri iv hN, cs_15 hs hk2 hst hc ri iv hN, cs_16 hs hk2 hst hc ri iv hN, cs_17 hs hk2 hst hc ri iv hN, cs_18 hs hk2 hst hc ri iv hN, cs_19 hs hk2 hst hc ri iv hN, cs_20 hs hk2 hst hc ri iv hN, cs_21 hs hk2 hst hc ri iv hN, cs_22 hs hk2 hst hc ri iv hN, cs_23 hs hk2 hst hc ri iv hN, cs_24 hs hk2 hst hc ri iv hN, cs_25 hs hk2 hst hc ri iv hN, cs_26 hs hk2 hst hc ri iv hN, cs_27 hs hk2 hst hc ri iv hN, trivial⟩
end LOP
