/-! ===== the constructors: what they make ===== -/
def Zr (M : Mm) : Prop := (∀ b j, mI M b j = 0) ∧ ∀ b j, mL M b j = 0
theorem Zr.an {M : Mm} (h : Zr M) : Zr (aN M) := ⟨fun b j => by show (if b = mN M then (0 : Int32) else mI M b j) = 0; rw [h.1]; split <;> rfl, fun b j => by show (if b = mN M then (0 : Int64) else mL M b j) = 0; rw [h.2]; split <;> rfl⟩
theorem Zr.sp {M : Mm} {a k v : Nat} (h : Zr M) : Zr (sP M a k v) := h
theorem Zr.mn {M : Mm} {N : Nat} (h : Zr M) : Zr (mnM M N) := ⟨fun b j => by show (if mN M ≤ b then (0 : Int32) else mI M b j) = 0; rw [h.1]; split <;> rfl, fun b j => by show (if mN M ≤ b then (0 : Int64) else mL M b j) = 0; rw [h.2]; split <;> rfl⟩
/-- from lo to hi all is made but for E -/
def BI (E : Nat → Prop) (lo hi : Nat) (M0 M : Mm) : Prop := mN M = hi ∧ Zr M ∧ (∀ b k, b < lo → mP M b k = mP M0 b k) ∧ ∀ b k, lo ≤ b → b < hi → ¬ E b → PV b k ≠ 0 → mP M b k = PV b k
/-- an object and what is its own -/
def CB (o cnt : Nat) (M M' : Mm) : Prop := BI (fun _ => False) o (o + cnt) M M'
theorem an_p (M : Mm) {b : Nat} (k : Nat) (h : ¬ b = mN M) : mP (aN M) b k = mP M b k := if_neg h
theorem mn_p (M : Mm) (N : Nat) {b : Nat} (k : Nat) (h : b < mN M) : mP (mnM M N) b k = mP M b k := by
  show (if b = mN M then _ else if mN M ≤ b then 0 else mP M b k) = _
  rw [if_neg (by omega), if_neg (by omega)]
section BIs
variable {E : Nat → Prop} {lo hi o cnt N D : Nat} {M0 M M2 : Mm}
theorem BI.an (h : BI E lo hi M0 M) (hl : lo ≤ hi) (hp : ∀ k, ¬ E hi → PV hi k = 0) : BI E lo (hi + 1) M0 (aN M) := by
  obtain ⟨h1, h2, h3, h4⟩ := h
  refine ⟨by show mN M + 1 = _; rw [h1], h2.an, fun b k hb => by rw [an_p M k (by omega)]; exact h3 b k hb, fun b k g1 g2 g3 g4 => ?_⟩
  by_cases e : b = hi
  · subst e
    exact absurd (hp k g3) g4
  · rw [an_p M k (by omega)]
    exact h4 b k g1 (by omega) g3 g4
theorem BI.sp (h : BI E lo hi M0 M) {a k v : Nat} (ha : lo ≤ a) (hE : E a) : BI E lo hi M0 (sP M a k v) := by
  obtain ⟨h1, h2, h3, h4⟩ := h
  refine ⟨h1, h2, fun b j hb => by rw [mP_sP, if_neg (by omega)]; exact h3 b j hb, fun b j g1 g2 g3 g4 => ?_⟩
  rw [mP_sP, if_neg (fun c => g3 (by rw [c.1]; exact hE))]
  exact h4 b j g1 g2 g3 g4
theorem BI.cb (h : BI E lo hi M0 M) (hl : lo ≤ hi) (c : CB hi cnt (aN M) M2) : BI E lo (hi + cnt) M0 M2 ∧ ∀ b k, b < hi → mP M2 b k = mP M b k := by
  obtain ⟨h1, h2, h3, h4⟩ := h
  obtain ⟨c1, c2, c3, c4⟩ := c
  have old : ∀ b k, b < hi → mP M2 b k = mP M b k := fun b k hb => by rw [c3 b k hb, an_p M k (by omega)]
  refine ⟨⟨c1, c2, fun b k hb => by rw [old b k (by omega)]; exact h3 b k hb, fun b k g1 g2 g3 g4 => ?_⟩, old⟩
  by_cases e : b < hi
  · rw [old b k e]
    exact h4 b k g1 e g3 g4
  · exact c4 b k (by omega) g2 (fun c => c) g4
theorem BI.mn (h : BI E lo hi M0 M) (hl : lo ≤ hi) (hx : KX hi = (4, 2, N)) (hr : ∀ j, j < N → KX (hi + 1 + j) = (2, 0, D)) : BI E lo (hi + 1 + N) M0 (mnM M N) := by
  obtain ⟨h1, h2, h3, h4⟩ := h
  refine ⟨by show mN M + 1 + N = _; rw [h1], h2.mn, fun b k hb => by rw [mn_p M N k (by omega)]; exact h3 b k hb, fun b k g1 g2 g3 g4 => ?_⟩
  by_cases e : b < hi
  · rw [mn_p M N k (by omega)]
    exact h4 b k g1 e g3 g4
  · by_cases e2 : b = hi
    · subst e2
      have hp : PV b k = if k < N then b + 2 + k else 0 := by unfold PV; rw [hx]; rfl
      show (if b = mN M then (if k < N then mN M + 1 + k + 1 else 0) else _) = _
      rw [if_pos h1.symm, hp, h1]
      split
      · omega
      · rfl
    · obtain ⟨j, rfl⟩ : ∃ j, b = hi + 1 + j := ⟨b - (hi + 1), by omega⟩
      refine absurd ?_ g4
      unfold PV
      rw [hr j (by omega)]
      rfl
theorem BI.fin (h : BI E lo (lo + cnt) M0 M) (hE : ∀ b k, lo ≤ b → b < lo + cnt → E b → PV b k ≠ 0 → mP M b k = PV b k) : CB lo cnt M0 M := by
  obtain ⟨h1, h2, h3, h4⟩ := h
  refine ⟨h1, h2, h3, fun b k g1 g2 _ g4 => ?_⟩
  by_cases e : E b
  · exact hE b k g1 g2 e g4
  · exact h4 b k g1 g2 e g4
theorem BI.start (hn : mN M = o + 1) (hz : Zr M) : BI (fun b => b = o) o (o + 1) M M := ⟨hn, hz, fun _ _ _ => rfl, fun b k g1 g2 g3 g4 => absurd (by omega) g3⟩
end BIs
theorem pv_1 {a c n : Nat} (h : KX a = (1, c, n)) (hc : c = 4 ∨ c = 9) (k : Nat) : PV a k = 0 := by
  unfold PV
  rw [h]
  rcases hc with rfl | rfl <;> rfl
theorem pv_12 {a n : Nat} (h : KX a = (1, 2, n)) (k : Nat) : PV a k = if k = 0 then a + 2 else 0 := by unfold PV; rw [h]; rfl
theorem pv_13 {a n : Nat} (h : KX a = (1, 3, n)) (k : Nat) : PV a k = if k = 0 then a + 2 else 0 := by unfold PV; rw [h]; rfl
theorem pv_2 {a n : Nat} (h : KX a = (2, 0, n)) (k : Nat) : PV a k = 0 := by unfold PV; rw [h]; rfl
theorem pv_3 {a n : Nat} (h : KX a = (3, 1, n)) (k : Nat) : PV a k = 0 := by unfold PV; rw [h]; rfl
theorem mN_sP (M : Mm) (a k v : Nat) : mN (sP M a k v) = mN M := rfl
theorem mN_aN (M : Mm) : mN (aN M) = mN M + 1 := rfl
theorem mN_mn (M : Mm) (N : Nat) : mN (mnM M N) = mN M + 1 + N := rfl
theorem lt_2 (o : Nat) : o < o + 1 + 1 := by omega
theorem lt_j (o : Nat) {j : Nat} (h : 0 < j) : o < o + j := by omega
theorem lt_14 (o : Nat) : o < o + 1 + 1 + 4 := by omega
section SPce
variable {l : Launch} {G : GT} {M : Mm} {Q : PQ} {QX : PX} {o : Nat}
theorem sp_X6_init (hx : KX o = (1, 4, 3)) (hn : mN M = o + 1) (hz : Zr M) (hQ : ∀ M', CB o 1 M M' → Q none M') : Tr false l G Y_X6_init [.ref o] M Q QX := by
  refine en_X6_init fun F => ?_
  simp only [R_X6_init_0, I_oi, I_ic, I_lc, I_nul, I_il, I_ll, I_al, I_is, I_ls, I_as, I_inc, I_iadd, I_isub, I_imul, I_iand, I_ladd, I_lsub, I_lmul, I_land, I_lor, I_idiv, I_irem, I_ishr, I_lshl, I_lshr, I_lushr, I_lcmp, I_i2l, I_l2i, I_dup, I_pop, I_dup2, I_ifeq, I_ifne, I_iflt, I_ifge, I_ifgt, I_ifle, I_iceq, I_icne, I_iclt, I_icge, I_icgt, I_icle, I_ifnull, I_ifnonnull, I_sw, swK, I_gi, I_gl, I_gp, I_pi, I_pl, I_ial, I_lal, I_ias, I_las, I_aal, I_len, I_ir, I_zr, I_lr, I_vr, I_ar, I_cv, I_cs, I_csN, I_max, I_min, I_cpi, I_cpl, I_kl, popA, gt0, gt1, gt2, gt3, gt4, gt5, gt6, gt7, gt8, gt9, gt10, gt11, gt12, s1_0, s1_1, s1_2, s1_3, s1_4, s1_5, s1_6, s1_7, s1_8, s1_9, s1_10, s1_11, s1_12, s2_0, s2_1, s2_2, s2_3, s2_4, s2_5, s2_6, s2_7, s2_8, s2_9, s2_10, s2_11, se_0, se_1, se_2, se_3, se_4, se_5, se_6, se_7, se_8, se_9, se_10, se_11, se_12, kil_i, kil_l, kil_r, kil_n, kil_x, ap_done, ap_pend, ap_dbt, ap_rel, ap_wrk, ap_trade, ap_mentor, ap_refused, ap_wdays, ap_today, ap_moves, st_day, st_needs, st_ments, st_aps, ap_eta, st_eta, Value.category, List.map_cons, List.map_nil, List.sum_cons, List.sum_nil, Option.toList_some, Option.toList_none, List.cons_append, List.nil_append, Nat.reduceAdd, Nat.reduceLeDiff, true_and, and_true, true_or, or_true, forall_const, not_true_eq_false, false_implies, not_false_eq_true, false_and, ↓reduceIte, ad_1, ad_2, ad_3, ad_4, ad_5, nq_2]
  refine hQ M ((BI.start hn hz).fin fun b k g1 g2 g3 g4 => absurd ?_ g4)
  rw [g3]
  exact pv_1 hx (Or.inl rfl) k
theorem sp_X4_init (hx : KX o = (1, 2, 2)) (hx1 : KX (o + 1) = (3, 1, 4)) (hn : mN M = o + 1) (hz : Zr M) (hQ : ∀ M', CB o 2 M M' → Q none M') : Tr false l G Y_X4_init [.ref o] M Q QX := by
  refine en_X4_init fun F => ?_
  have b0 := BI.start hn hz
  have b1 := b0.an (Nat.le_succ o) fun k _ => pv_3 hx1 k
  simp only [R_X4_init_0, I_oi, I_naL, I_pp, mN_aN, hn, hx, hx1, I_ic, I_lc, I_nul, I_il, I_ll, I_al, I_is, I_ls, I_as, I_inc, I_iadd, I_isub, I_imul, I_iand, I_ladd, I_lsub, I_lmul, I_land, I_lor, I_idiv, I_irem, I_ishr, I_lshl, I_lshr, I_lushr, I_lcmp, I_i2l, I_l2i, I_dup, I_pop, I_dup2, I_ifeq, I_ifne, I_iflt, I_ifge, I_ifgt, I_ifle, I_iceq, I_icne, I_iclt, I_icge, I_icgt, I_icle, I_ifnull, I_ifnonnull, I_sw, swK, I_gi, I_gl, I_gp, I_pi, I_pl, I_ial, I_lal, I_ias, I_las, I_aal, I_len, I_ir, I_zr, I_lr, I_vr, I_ar, I_cv, I_cs, I_csN, I_max, I_min, I_cpi, I_cpl, I_kl, popA, gt0, gt1, gt2, gt3, gt4, gt5, gt6, gt7, gt8, gt9, gt10, gt11, gt12, s1_0, s1_1, s1_2, s1_3, s1_4, s1_5, s1_6, s1_7, s1_8, s1_9, s1_10, s1_11, s1_12, s2_0, s2_1, s2_2, s2_3, s2_4, s2_5, s2_6, s2_7, s2_8, s2_9, s2_10, s2_11, se_0, se_1, se_2, se_3, se_4, se_5, se_6, se_7, se_8, se_9, se_10, se_11, se_12, kil_i, kil_l, kil_r, kil_n, kil_x, ap_done, ap_pend, ap_dbt, ap_rel, ap_wrk, ap_trade, ap_mentor, ap_refused, ap_wdays, ap_today, ap_moves, st_day, st_needs, st_ments, st_aps, ap_eta, st_eta, Value.category, List.map_cons, List.map_nil, List.sum_cons, List.sum_nil, Option.toList_some, Option.toList_none, List.cons_append, List.nil_append, Nat.reduceAdd, Nat.reduceLeDiff, true_and, and_true, true_or, or_true, forall_const, not_true_eq_false, false_implies, not_false_eq_true, false_and, ↓reduceIte, ad_1, ad_2, ad_3, ad_4, ad_5, nq_2]
  refine ⟨lt_2 o, ?_⟩
  refine hQ _ ((b1.sp (Nat.le_refl o) rfl).fin fun b k g1 g2 g3 g4 => ?_)
  subst g3
  rw [pv_12 hx] at g4 ⊢
  rw [mP_sP]
  by_cases e : k = 0
  · rw [if_pos ⟨rfl, e⟩, if_pos e]
  · rw [if_neg e] at g4
    exact absurd rfl g4
theorem sp_X5_init (hx : KX o = (1, 3, 2)) (hx1 : KX (o + 1) = (4, 2, 4)) (hr : ∀ j, j < 4 → KX (o + 1 + 1 + j) = (2, 0, 20)) (ho : o + 6 ≤ 1098) (hn : mN M = o + 1) (hz : Zr M) (hQ : ∀ M', CB o 6 M M' → Q none M') : Tr false l G Y_X5_init [.ref o] M Q QX := by
  refine en_X5_init fun F => ?_
  have b0 := BI.start hn hz
  have b1 := b0.mn (Nat.le_succ o) hx1 hr
  simp only [R_X5_init_0, I_oi, I_mnA, I_pp, mN_mn, hn, hx, hx1, I_ic, I_lc, I_nul, I_il, I_ll, I_al, I_is, I_ls, I_as, I_inc, I_iadd, I_isub, I_imul, I_iand, I_ladd, I_lsub, I_lmul, I_land, I_lor, I_idiv, I_irem, I_ishr, I_lshl, I_lshr, I_lushr, I_lcmp, I_i2l, I_l2i, I_dup, I_pop, I_dup2, I_ifeq, I_ifne, I_iflt, I_ifge, I_ifgt, I_ifle, I_iceq, I_icne, I_iclt, I_icge, I_icgt, I_icle, I_ifnull, I_ifnonnull, I_sw, swK, I_gi, I_gl, I_gp, I_pi, I_pl, I_ial, I_lal, I_ias, I_las, I_aal, I_len, I_ir, I_zr, I_lr, I_vr, I_ar, I_cv, I_cs, I_csN, I_max, I_min, I_cpi, I_cpl, I_kl, popA, gt0, gt1, gt2, gt3, gt4, gt5, gt6, gt7, gt8, gt9, gt10, gt11, gt12, s1_0, s1_1, s1_2, s1_3, s1_4, s1_5, s1_6, s1_7, s1_8, s1_9, s1_10, s1_11, s1_12, s2_0, s2_1, s2_2, s2_3, s2_4, s2_5, s2_6, s2_7, s2_8, s2_9, s2_10, s2_11, se_0, se_1, se_2, se_3, se_4, se_5, se_6, se_7, se_8, se_9, se_10, se_11, se_12, kil_i, kil_l, kil_r, kil_n, kil_x, ap_done, ap_pend, ap_dbt, ap_rel, ap_wrk, ap_trade, ap_mentor, ap_refused, ap_wdays, ap_today, ap_moves, st_day, st_needs, st_ments, st_aps, ap_eta, st_eta, Value.category, List.map_cons, List.map_nil, List.sum_cons, List.sum_nil, Option.toList_some, Option.toList_none, List.cons_append, List.nil_append, Nat.reduceAdd, Nat.reduceLeDiff, true_and, and_true, true_or, or_true, forall_const, not_true_eq_false, false_implies, not_false_eq_true, false_and, ↓reduceIte, ad_1, ad_2, ad_3, ad_4, ad_5, nq_2]
  refine ⟨hr, by omega, lt_14 o, ?_⟩
  refine hQ _ ((b1.sp (Nat.le_refl o) rfl).fin fun b k g1 g2 g3 g4 => ?_)
  subst g3
  rw [pv_13 hx] at g4 ⊢
  rw [mP_sP]
  by_cases e : k = 0
  · rw [if_pos ⟨rfl, e⟩, if_pos e]
  · rw [if_neg e] at g4
    exact absurd rfl g4
end SPce
section SPcf
variable {l : Launch} {G : GT} {M : Mm} {Q : PQ} {QX : PX} {o : Nat}
theorem sp_X1_init (hk : ∀ r, r < 18 → KX (o + r) = kAp r) (ho : o + 18 ≤ 1098) (hn : mN M = o + 1) (hz : Zr M) (hQ : ∀ M', CB o 18 M M' → Q none M') : Tr false l G Y_X1_init [.ref o] M Q QX := by
  refine en_X1_init fun F => ?_
  have k0 : KX o = (1, 0, 11) := hk 0 (by decide)
  have k1 : KX (o + 1) = (2, 0, 3) := hk 1 (by decide)
  have k2 : KX (o + 1 + 1) = (1, 3, 2) := hk 2 (by decide)
  have k8 : KX (o + 8) = (1, 3, 2) := hk 8 (by decide)
  have k14 : KX (o + 14) = (1, 2, 2) := hk 14 (by decide)
  have k16 : KX (o + 16) = (1, 2, 2) := hk 16 (by decide)
  have b1 := (((BI.start hn hz).an (Nat.le_succ o) fun k _ => pv_2 k1 k).sp (a := o) (k := 0) (v := o + 1 + 1) (Nat.le_refl o) rfl)
  simp only [R_X1_init_0, I_oi, I_naI, I_pp, I_new, I_ci, mN_sP, mN_aN, hn, k0, k1, k2, I_ic, I_lc, I_nul, I_il, I_ll, I_al, I_is, I_ls, I_as, I_inc, I_iadd, I_isub, I_imul, I_iand, I_ladd, I_lsub, I_lmul, I_land, I_lor, I_idiv, I_irem, I_ishr, I_lshl, I_lshr, I_lushr, I_lcmp, I_i2l, I_l2i, I_dup, I_pop, I_dup2, I_ifeq, I_ifne, I_iflt, I_ifge, I_ifgt, I_ifle, I_iceq, I_icne, I_iclt, I_icge, I_icgt, I_icle, I_ifnull, I_ifnonnull, I_sw, swK, I_gi, I_gl, I_gp, I_pi, I_pl, I_ial, I_lal, I_ias, I_las, I_aal, I_len, I_ir, I_zr, I_lr, I_vr, I_ar, I_cv, I_cs, I_csN, I_max, I_min, I_cpi, I_cpl, I_kl, popA, gt0, gt1, gt2, gt3, gt4, gt5, gt6, gt7, gt8, gt9, gt10, gt11, gt12, s1_0, s1_1, s1_2, s1_3, s1_4, s1_5, s1_6, s1_7, s1_8, s1_9, s1_10, s1_11, s1_12, s2_0, s2_1, s2_2, s2_3, s2_4, s2_5, s2_6, s2_7, s2_8, s2_9, s2_10, s2_11, se_0, se_1, se_2, se_3, se_4, se_5, se_6, se_7, se_8, se_9, se_10, se_11, se_12, kil_i, kil_l, kil_r, kil_n, kil_x, ap_done, ap_pend, ap_dbt, ap_rel, ap_wrk, ap_trade, ap_mentor, ap_refused, ap_wdays, ap_today, ap_moves, st_day, st_needs, st_ments, st_aps, ap_eta, st_eta, Value.category, List.map_cons, List.map_nil, List.sum_cons, List.sum_nil, Option.toList_some, Option.toList_none, List.cons_append, List.nil_append, Nat.reduceAdd, Nat.reduceLeDiff, true_and, and_true, true_or, or_true, forall_const, not_true_eq_false, false_implies, not_false_eq_true, false_and, ↓reduceIte, ad_1, ad_2, ad_3, ad_4, ad_5, nq_2]
  refine ⟨lt_2 o, sp_X5_init k2 (hk 3 (by decide)) (fun j hj => ?_) (by omega) (by rw [mN_aN, b1.1]) b1.2.1.an fun M2 c2 => ?_⟩
  · have := hk (4 + j) (by omega)
    rw [show o + 1 + 1 + 1 + 1 + j = o + (4 + j) by omega, this]
    have hj4 : j = 0 ∨ j = 1 ∨ j = 2 ∨ j = 3 := by omega
    rcases hj4 with rfl | rfl | rfl | rfl <;> rfl
  obtain ⟨b2, p2⟩ := b1.cb (by omega) c2
  have n2 : mN M2 = o + 8 := by rw [b2.1]
  have b2' : BI (fun b => b = o) o (o + 8) M M2 := b2
  have b3 := b2'.sp (a := o) (k := 1) (v := o + 1 + 1 + 1) (Nat.le_refl o) rfl
  simp only [I_oi, I_naI, I_pp, I_new, I_ci, mN_sP, mN_aN, n2, k0, k8, I_ic, I_lc, I_nul, I_il, I_ll, I_al, I_is, I_ls, I_as, I_inc, I_iadd, I_isub, I_imul, I_iand, I_ladd, I_lsub, I_lmul, I_land, I_lor, I_idiv, I_irem, I_ishr, I_lshl, I_lshr, I_lushr, I_lcmp, I_i2l, I_l2i, I_dup, I_pop, I_dup2, I_ifeq, I_ifne, I_iflt, I_ifge, I_ifgt, I_ifle, I_iceq, I_icne, I_iclt, I_icge, I_icgt, I_icle, I_ifnull, I_ifnonnull, I_sw, swK, I_gi, I_gl, I_gp, I_pi, I_pl, I_ial, I_lal, I_ias, I_las, I_aal, I_len, I_ir, I_zr, I_lr, I_vr, I_ar, I_cv, I_cs, I_csN, I_max, I_min, I_cpi, I_cpl, I_kl, popA, gt0, gt1, gt2, gt3, gt4, gt5, gt6, gt7, gt8, gt9, gt10, gt11, gt12, s1_0, s1_1, s1_2, s1_3, s1_4, s1_5, s1_6, s1_7, s1_8, s1_9, s1_10, s1_11, s1_12, s2_0, s2_1, s2_2, s2_3, s2_4, s2_5, s2_6, s2_7, s2_8, s2_9, s2_10, s2_11, se_0, se_1, se_2, se_3, se_4, se_5, se_6, se_7, se_8, se_9, se_10, se_11, se_12, kil_i, kil_l, kil_r, kil_n, kil_x, ap_done, ap_pend, ap_dbt, ap_rel, ap_wrk, ap_trade, ap_mentor, ap_refused, ap_wdays, ap_today, ap_moves, st_day, st_needs, st_ments, st_aps, ap_eta, st_eta, Value.category, List.map_cons, List.map_nil, List.sum_cons, List.sum_nil, Option.toList_some, Option.toList_none, List.cons_append, List.nil_append, Nat.reduceAdd, Nat.reduceLeDiff, true_and, and_true, true_or, or_true, forall_const, not_true_eq_false, false_implies, not_false_eq_true, false_and, ↓reduceIte, ad_1, ad_2, ad_3, ad_4, ad_5, nq_2]
  refine ⟨lt_j o (by decide), sp_X5_init k8 (hk 9 (by decide)) (fun j hj => ?_) (by omega) (by rw [mN_aN, b3.1]) b3.2.1.an fun M4 c4 => ?_⟩
  · have := hk (10 + j) (by omega)
    rw [show o + 8 + 1 + 1 + j = o + (10 + j) by omega, this]
    have hj4 : j = 0 ∨ j = 1 ∨ j = 2 ∨ j = 3 := by omega
    rcases hj4 with rfl | rfl | rfl | rfl <;> rfl
  obtain ⟨b4, p4⟩ := b3.cb (by omega) c4
  have n4 : mN M4 = o + 14 := by rw [b4.1]
  have b4' : BI (fun b => b = o) o (o + 14) M M4 := b4
  have b5 := b4'.sp (a := o) (k := 2) (v := o + 8 + 1) (Nat.le_refl o) rfl
  simp only [I_oi, I_naI, I_pp, I_new, I_ci, mN_sP, mN_aN, n4, k0, k14, I_ic, I_lc, I_nul, I_il, I_ll, I_al, I_is, I_ls, I_as, I_inc, I_iadd, I_isub, I_imul, I_iand, I_ladd, I_lsub, I_lmul, I_land, I_lor, I_idiv, I_irem, I_ishr, I_lshl, I_lshr, I_lushr, I_lcmp, I_i2l, I_l2i, I_dup, I_pop, I_dup2, I_ifeq, I_ifne, I_iflt, I_ifge, I_ifgt, I_ifle, I_iceq, I_icne, I_iclt, I_icge, I_icgt, I_icle, I_ifnull, I_ifnonnull, I_sw, swK, I_gi, I_gl, I_gp, I_pi, I_pl, I_ial, I_lal, I_ias, I_las, I_aal, I_len, I_ir, I_zr, I_lr, I_vr, I_ar, I_cv, I_cs, I_csN, I_max, I_min, I_cpi, I_cpl, I_kl, popA, gt0, gt1, gt2, gt3, gt4, gt5, gt6, gt7, gt8, gt9, gt10, gt11, gt12, s1_0, s1_1, s1_2, s1_3, s1_4, s1_5, s1_6, s1_7, s1_8, s1_9, s1_10, s1_11, s1_12, s2_0, s2_1, s2_2, s2_3, s2_4, s2_5, s2_6, s2_7, s2_8, s2_9, s2_10, s2_11, se_0, se_1, se_2, se_3, se_4, se_5, se_6, se_7, se_8, se_9, se_10, se_11, se_12, kil_i, kil_l, kil_r, kil_n, kil_x, ap_done, ap_pend, ap_dbt, ap_rel, ap_wrk, ap_trade, ap_mentor, ap_refused, ap_wdays, ap_today, ap_moves, st_day, st_needs, st_ments, st_aps, ap_eta, st_eta, Value.category, List.map_cons, List.map_nil, List.sum_cons, List.sum_nil, Option.toList_some, Option.toList_none, List.cons_append, List.nil_append, Nat.reduceAdd, Nat.reduceLeDiff, true_and, and_true, true_or, or_true, forall_const, not_true_eq_false, false_implies, not_false_eq_true, false_and, ↓reduceIte, ad_1, ad_2, ad_3, ad_4, ad_5, nq_2]
  refine ⟨lt_j o (by decide), sp_X4_init k14 (hk 15 (by decide)) (by rw [mN_aN, b5.1]) b5.2.1.an fun M6 c6 => ?_⟩
  obtain ⟨b6, p6⟩ := b5.cb (by omega) c6
  have n6 : mN M6 = o + 16 := by rw [b6.1]
  have b6' : BI (fun b => b = o) o (o + 16) M M6 := b6
  have b7 := b6'.sp (a := o) (k := 3) (v := o + 14 + 1) (Nat.le_refl o) rfl
  simp only [I_oi, I_naI, I_pp, I_new, I_ci, mN_sP, mN_aN, n6, k0, k16, I_ic, I_lc, I_nul, I_il, I_ll, I_al, I_is, I_ls, I_as, I_inc, I_iadd, I_isub, I_imul, I_iand, I_ladd, I_lsub, I_lmul, I_land, I_lor, I_idiv, I_irem, I_ishr, I_lshl, I_lshr, I_lushr, I_lcmp, I_i2l, I_l2i, I_dup, I_pop, I_dup2, I_ifeq, I_ifne, I_iflt, I_ifge, I_ifgt, I_ifle, I_iceq, I_icne, I_iclt, I_icge, I_icgt, I_icle, I_ifnull, I_ifnonnull, I_sw, swK, I_gi, I_gl, I_gp, I_pi, I_pl, I_ial, I_lal, I_ias, I_las, I_aal, I_len, I_ir, I_zr, I_lr, I_vr, I_ar, I_cv, I_cs, I_csN, I_max, I_min, I_cpi, I_cpl, I_kl, popA, gt0, gt1, gt2, gt3, gt4, gt5, gt6, gt7, gt8, gt9, gt10, gt11, gt12, s1_0, s1_1, s1_2, s1_3, s1_4, s1_5, s1_6, s1_7, s1_8, s1_9, s1_10, s1_11, s1_12, s2_0, s2_1, s2_2, s2_3, s2_4, s2_5, s2_6, s2_7, s2_8, s2_9, s2_10, s2_11, se_0, se_1, se_2, se_3, se_4, se_5, se_6, se_7, se_8, se_9, se_10, se_11, se_12, kil_i, kil_l, kil_r, kil_n, kil_x, ap_done, ap_pend, ap_dbt, ap_rel, ap_wrk, ap_trade, ap_mentor, ap_refused, ap_wdays, ap_today, ap_moves, st_day, st_needs, st_ments, st_aps, ap_eta, st_eta, Value.category, List.map_cons, List.map_nil, List.sum_cons, List.sum_nil, Option.toList_some, Option.toList_none, List.cons_append, List.nil_append, Nat.reduceAdd, Nat.reduceLeDiff, true_and, and_true, true_or, or_true, forall_const, not_true_eq_false, false_implies, not_false_eq_true, false_and, ↓reduceIte, ad_1, ad_2, ad_3, ad_4, ad_5, nq_2]
  refine ⟨lt_j o (by decide), sp_X4_init k16 (hk 17 (by decide)) (by rw [mN_aN, b7.1]) b7.2.1.an fun M8 c8 => ?_⟩
  obtain ⟨b8, p8⟩ := b7.cb (by omega) c8
  have n8 : mN M8 = o + 18 := by rw [b8.1]
  have b8' : BI (fun b => b = o) o (o + 18) M M8 := b8
  have b9 := b8'.sp (a := o) (k := 4) (v := o + 16 + 1) (Nat.le_refl o) rfl
  simp only [I_oi, I_naI, I_pp, I_new, I_ci, mN_sP, mN_aN, n8, k0, I_ic, I_lc, I_nul, I_il, I_ll, I_al, I_is, I_ls, I_as, I_inc, I_iadd, I_isub, I_imul, I_iand, I_ladd, I_lsub, I_lmul, I_land, I_lor, I_idiv, I_irem, I_ishr, I_lshl, I_lshr, I_lushr, I_lcmp, I_i2l, I_l2i, I_dup, I_pop, I_dup2, I_ifeq, I_ifne, I_iflt, I_ifge, I_ifgt, I_ifle, I_iceq, I_icne, I_iclt, I_icge, I_icgt, I_icle, I_ifnull, I_ifnonnull, I_sw, swK, I_gi, I_gl, I_gp, I_pi, I_pl, I_ial, I_lal, I_ias, I_las, I_aal, I_len, I_ir, I_zr, I_lr, I_vr, I_ar, I_cv, I_cs, I_csN, I_max, I_min, I_cpi, I_cpl, I_kl, popA, gt0, gt1, gt2, gt3, gt4, gt5, gt6, gt7, gt8, gt9, gt10, gt11, gt12, s1_0, s1_1, s1_2, s1_3, s1_4, s1_5, s1_6, s1_7, s1_8, s1_9, s1_10, s1_11, s1_12, s2_0, s2_1, s2_2, s2_3, s2_4, s2_5, s2_6, s2_7, s2_8, s2_9, s2_10, s2_11, se_0, se_1, se_2, se_3, se_4, se_5, se_6, se_7, se_8, se_9, se_10, se_11, se_12, kil_i, kil_l, kil_r, kil_n, kil_x, ap_done, ap_pend, ap_dbt, ap_rel, ap_wrk, ap_trade, ap_mentor, ap_refused, ap_wdays, ap_today, ap_moves, st_day, st_needs, st_ments, st_aps, ap_eta, st_eta, Value.category, List.map_cons, List.map_nil, List.sum_cons, List.sum_nil, Option.toList_some, Option.toList_none, List.cons_append, List.nil_append, Nat.reduceAdd, Nat.reduceLeDiff, true_and, and_true, true_or, or_true, forall_const, not_true_eq_false, false_implies, not_false_eq_true, false_and, ↓reduceIte, ad_1, ad_2, ad_3, ad_4, ad_5, nq_2]
  refine ⟨lt_j o (by decide), hQ _ (b9.fin fun b k g1 g2 g3 g4 => ?_)⟩
  subst g3
  have pv : PV b k = if k = 0 then b + 2 else if k = 1 then b + 3 else if k = 2 then b + 9 else if k = 3 then b + 15 else if k = 4 then b + 17 else 0 := by unfold PV; rw [k0]; rfl
  rw [pv] at g4 ⊢
  have f : ∀ k, mP (sP M8 b 4 (b + 16 + 1)) b k = if k = 4 then b + 17 else if k = 3 then b + 15 else if k = 2 then b + 9 else if k = 1 then b + 3 else if k = 0 then b + 2 else mP (aN M) b k := fun k => by
    rw [mP_sP]
    by_cases e4 : k = 4
    · rw [if_pos ⟨rfl, e4⟩, if_pos e4]
    rw [if_neg (fun c => e4 c.2), if_neg e4, p8 b k (by omega), mP_sP]
    by_cases e3 : k = 3
    · rw [if_pos ⟨rfl, e3⟩, if_pos e3]
    rw [if_neg (fun c => e3 c.2), if_neg e3, p6 b k (by omega), mP_sP]
    by_cases e2 : k = 2
    · rw [if_pos ⟨rfl, e2⟩, if_pos e2]
    rw [if_neg (fun c => e2 c.2), if_neg e2, p4 b k (by omega), mP_sP]
    by_cases e1 : k = 1
    · rw [if_pos ⟨rfl, e1⟩, if_pos e1]
    rw [if_neg (fun c => e1 c.2), if_neg e1, p2 b k (by omega), mP_sP]
    by_cases e0 : k = 0
    · rw [if_pos ⟨rfl, e0⟩, if_pos e0]
    rw [if_neg (fun c => e0 c.2), if_neg e0]
  rw [f]
  have hk5 : k = 0 ∨ k = 1 ∨ k = 2 ∨ k = 3 ∨ k = 4 := by
    by_cases e0 : k = 0
    · omega
    by_cases e1 : k = 1
    · omega
    by_cases e2 : k = 2
    · omega
    by_cases e3 : k = 3
    · omega
    by_cases e4 : k = 4
    · omega
    · rw [if_neg e0, if_neg e1, if_neg e2, if_neg e3, if_neg e4] at g4
      exact absurd rfl g4
  rcases hk5 with rfl | rfl | rfl | rfl | rfl <;> rfl
end SPcf
