/-! ===== State: what is done, lists ===== -/
def tr3 (a b c : Int) : Nat → Int := fun p => if p = 0 then a else if p = 1 then b else c
def St.addT (X : St) (a b c : Int) : St := (mkSt (St.day (X)) (X.needs ++ [tr3 a b c]) (St.ments (X)) (St.aps (X)))
def St.addM (X : St) (r t : Int) : St := (mkSt (St.day (X)) (St.needs (X)) (X.ments ++ [(r, t, 0)]) (St.aps (X)))
def St.addA (X : St) (t m : Int) : St := (mkSt (St.day (X)) (St.needs (X)) (St.ments (X)) (X.aps ++ [ApN t m]))
def cfL (m : Int) : Int → List Ap → List Ap
  | _, [] => []
  | k, x :: L => if x.mentor = m then aTake x k :: cfL m (k - (tkT m k x.pend).length) L else x :: cfL m k L
def cfN (m : Int) : Int → List Ap → Int
  | _, [] => 0
  | k, x :: L => if x.mentor = m then (tkT m k x.pend).length + cfN m (k - (tkT m k x.pend).length) L else cfN m k L
def addC (y : Mt) (c : Int) : Mt := (y.1, y.2.1, y.2.2 + c)
def St.conf (X : St) (m : Nat) (y : Mt) (k : Int) : St := (mkSt (St.day (X)) (St.needs (X)) (X.ments.set m (addC y (cfN m k X.aps))) (cfL m k X.aps))
def pdA (d : Int) (x : Ap) : Ap := (mkAp (Ap.done (aDbt x (fun e => decide (e.2.2.1 ≤ d - 14)))) (Ap.pend (aDbt x (fun e => decide (e.2.2.1 ≤ d - 14)))) (Ap.dbt (aDbt x (fun e => decide (e.2.2.1 ≤ d - 14)))) (Ap.rel (aDbt x (fun e => decide (e.2.2.1 ≤ d - 14)))) (Ap.wrk (aDbt x (fun e => decide (e.2.2.1 ≤ d - 14)))) (Ap.trade (aDbt x (fun e => decide (e.2.2.1 ≤ d - 14)))) (Ap.mentor (aDbt x (fun e => decide (e.2.2.1 ≤ d - 14)))) (Ap.refused (aDbt x (fun e => decide (e.2.2.1 ≤ d - 14)))) (Ap.wdays (aDbt x (fun e => decide (e.2.2.1 ≤ d - 14)))) (0) (Ap.moves (aDbt x (fun e => decide (e.2.2.1 ≤ d - 14)))))
def pdN (d : Int) : List Ap → Int
  | [] => 0
  | x :: L => (x.pend.filter (fun e => decide (e.2.2.1 ≤ d - 14))).length + pdN d L
def St.pass (X : St) : St := (mkSt (X.day + 1) (St.needs (X)) (St.ments (X)) (X.aps.map (pdA X.day)))
def St.passN (X : St) : Nat → St
  | 0 => X
  | n + 1 => (X.pass).passN n
def pdNN (X : St) : Nat → Int
  | 0 => 0
  | n + 1 => pdN X.day X.aps + pdNN X.pass n
theorem hF_tk (m p : Int) : ∀ (L : List En) (k : Int), hFirst m p k L = hPart p (tkT m k L)
  | [], k => by simp [ap_done, ap_pend, ap_dbt, ap_rel, ap_wrk, ap_trade, ap_mentor, ap_refused, ap_wdays, ap_today, ap_moves, st_day, st_needs, st_ments, st_aps, ap_eta, st_eta, hFirst, tkT, hPart]
  | e :: L, k => by
    rw [hFirst, tkT]
    by_cases h : k ≤ 0
    · simp [ap_done, ap_pend, ap_dbt, ap_rel, ap_wrk, ap_trade, ap_mentor, ap_refused, ap_wdays, ap_today, ap_moves, st_day, st_needs, st_ments, st_aps, ap_eta, st_eta, h, hPart]
    · by_cases h2 : e.2.2.2 = m
      · simp only [ap_done, ap_pend, ap_dbt, ap_rel, ap_wrk, ap_trade, ap_mentor, ap_refused, ap_wdays, ap_today, ap_moves, st_day, st_needs, st_ments, st_aps, ap_eta, st_eta, h, h2, if_false, if_true, hPart, hF_tk m p L]
      · simp only [ap_done, ap_pend, ap_dbt, ap_rel, ap_wrk, ap_trade, ap_mentor, ap_refused, ap_wdays, ap_today, ap_moves, st_day, st_needs, st_ments, st_aps, ap_eta, st_eta, h, h2, if_false, hF_tk m p L]
theorem tk_len (m : Int) : ∀ (L : List En) (k : Int), 0 ≤ k → ((tkT m k L).length : Int) = min k (cWith m L)
  | [], k, h => by simp [ap_done, ap_pend, ap_dbt, ap_rel, ap_wrk, ap_trade, ap_mentor, ap_refused, ap_wdays, ap_today, ap_moves, st_day, st_needs, st_ments, st_aps, ap_eta, st_eta, tkT, cWith]; omega
  | e :: L, k, h => by
    have hc := cWith_b m L
    rw [tkT, cWith]
    by_cases h1 : k ≤ 0
    · simp only [ap_done, ap_pend, ap_dbt, ap_rel, ap_wrk, ap_trade, ap_mentor, ap_refused, ap_wdays, ap_today, ap_moves, st_day, st_needs, st_ments, st_aps, ap_eta, st_eta, h1, if_true, List.length_nil]
      split <;> omega
    · by_cases h2 : e.2.2.2 = m
      · simp only [ap_done, ap_pend, ap_dbt, ap_rel, ap_wrk, ap_trade, ap_mentor, ap_refused, ap_wdays, ap_today, ap_moves, st_day, st_needs, st_ments, st_aps, ap_eta, st_eta, h1, h2, if_false, if_true, List.length_cons]
        have := tk_len m L (k - 1) (by omega)
        omega
      · simp only [ap_done, ap_pend, ap_dbt, ap_rel, ap_wrk, ap_trade, ap_mentor, ap_refused, ap_wdays, ap_today, ap_moves, st_day, st_needs, st_ments, st_aps, ap_eta, st_eta, h1, h2, if_false]
        have := tk_len m L k h
        omega
theorem tkT_mem (m : Int) : ∀ (L : List En) (k : Int) (e : En), e ∈ tkT m k L → e ∈ L
  | [], k, e, h => by simp [ap_done, ap_pend, ap_dbt, ap_rel, ap_wrk, ap_trade, ap_mentor, ap_refused, ap_wdays, ap_today, ap_moves, st_day, st_needs, st_ments, st_aps, ap_eta, st_eta, tkT] at h
  | f :: L, k, e, h => by
    rw [tkT] at h
    by_cases h1 : k ≤ 0
    · simp [ap_done, ap_pend, ap_dbt, ap_rel, ap_wrk, ap_trade, ap_mentor, ap_refused, ap_wdays, ap_today, ap_moves, st_day, st_needs, st_ments, st_aps, ap_eta, st_eta, h1] at h
    · by_cases h2 : f.2.2.2 = m
      · simp only [ap_done, ap_pend, ap_dbt, ap_rel, ap_wrk, ap_trade, ap_mentor, ap_refused, ap_wdays, ap_today, ap_moves, st_day, st_needs, st_ments, st_aps, ap_eta, st_eta, h1, h2, if_false, if_true, List.mem_cons] at h
        rcases h with h | h
        · simp [ap_done, ap_pend, ap_dbt, ap_rel, ap_wrk, ap_trade, ap_mentor, ap_refused, ap_wdays, ap_today, ap_moves, st_day, st_needs, st_ments, st_aps, ap_eta, st_eta, h]
        · exact List.mem_cons_of_mem _ (tkT_mem m L _ e h)
      · simp only [ap_done, ap_pend, ap_dbt, ap_rel, ap_wrk, ap_trade, ap_mentor, ap_refused, ap_wdays, ap_today, ap_moves, st_day, st_needs, st_ments, st_aps, ap_eta, st_eta, h1, h2, if_false] at h
        exact List.mem_cons_of_mem _ (tkT_mem m L _ e h)
theorem hPart_0 (p : Int) : ∀ T : List En, (∀ e ∈ T, EW e) → 0 ≤ hPart p T
  | [], _ => by simp [ap_done, ap_pend, ap_dbt, ap_rel, ap_wrk, ap_trade, ap_mentor, ap_refused, ap_wdays, ap_today, ap_moves, st_day, st_needs, st_ments, st_aps, ap_eta, st_eta, hPart]
  | e :: T, h => by
    have h1 := hPart_0 p T fun x hx => h x (List.mem_cons_of_mem _ hx)
    have h2 := (h e (List.mem_cons_self ..)).2.1
    rw [hPart]
    split <;> omega
theorem okT_of : ∀ (T : List En) (f : Nat → Int), (∀ e ∈ T, EW e) → (∀ p, p < 3 → 0 ≤ f p ∧ f p + hPart ((p : Nat) : Int) T ≤ 2147483647) → okT f T
  | [], _, _, _ => trivial
  | e :: T, f, hw, hf => by
    have he := hw e (List.mem_cons_self ..)
    have e0 := he.1
    have e1 := he.2.1
    have hT : ∀ x ∈ T, EW x := fun x hx => hw x (List.mem_cons_of_mem _ hx)
    obtain ⟨q, hq⟩ : ∃ q : Nat, e.1 = q := ⟨e.1.toNat, by omega⟩
    have h1 := hf q (by omega)
    rw [hPart, if_pos hq] at h1
    have h0 := hPart_0 q T hT
    refine ⟨by rw [hq, Int.toNat_natCast]; omega, okT_of T _ hT fun p hp => ?_⟩
    have h2 := hf p hp
    rw [hPart] at h2
    unfold dAdd
    by_cases h3 : e.1 = p
    · rw [if_pos h3] at h2 ⊢
      omega
    · rw [if_neg h3] at h2 ⊢
      omega
theorem ok_take {X : St} {x : Ap} {k : Int} (w : WfA X x) (h : cTake x k) : okT x.done (tkT x.mentor k x.pend) := by
  refine okT_of _ _ (fun e he => w.ep e (tkT_mem _ _ _ _ he)) fun p hp => ⟨(w.dn p hp).1, ?_⟩
  have h1 := (h p hp).2
  unfold dIn at h1
  rw [if_pos (by omega), Int.toNat_natCast, hF_tk] at h1
  exact h1
theorem app_set {α : Type} {K R : List α} {e f : α} : (K ++ e :: R).set K.length f = K ++ f :: R := by simp [ap_done, ap_pend, ap_dbt, ap_rel, ap_wrk, ap_trade, ap_mentor, ap_refused, ap_wdays, ap_today, ap_moves, st_day, st_needs, st_ments, st_aps, ap_eta, st_eta, List.set_append]
theorem app_at' {α : Type} {K R : List α} {e : α} : (K ++ e :: R)[K.length]? = some e := by rw [List.getElem?_append_right (Nat.le_refl _), Nat.sub_self]; rfl
section SPS5
variable {l : Launch} {G : GT} {M : Mm} {Q : PQ} {QX : PX} {S : Nat} {X : St}
theorem StAt.sc {M' : Mm} (h : StAt M S X) (s : Sm M M' S (S + 1)) {d : Int} (e5 : mI M' S 5 = mI M S 5) (e6 : mI M' S 6 = mI M S 6) (e7 : mI M' S 7 = mI M S 7) (e8 : (mI M' S 8).toInt = d) : StAt M' S (mkSt (d) (St.needs (X)) (St.ments (X)) (St.aps (X))) := ⟨h.k, by rw [e5]; exact h.nt, by rw [e6]; exact h.nm, by rw [e7]; exact h.na, e8, h.l5, h.l6, h.l10, fun t n ht p hp => by rw [(s.1 (S + 2 + t) (by omega)).1]; exact h.needs t n ht p hp, fun m y hm => (h.ments m y hm).fr (s.fr (by omega)), fun i x hi => (h.aps i x hi).fr (s.fr (by omega))⟩
theorem StAt.setM {M' : Mm} {m : Nat} {y : Mt} (h : StAt M S X) (ha : MtAt M' (S + 28 + m) y) (hl : m < X.ments.length) (s : Sm M M' (S + 28 + m) (S + 28 + m + 1)) : StAt M' S (mkSt (St.day (X)) (St.needs (X)) (X.ments.set m y) (St.aps (X))) := by
  have l5 := h.l5
  have l6 := h.l6
  have l10 := h.l10
  have e := (s.1 S (by omega)).1
  refine ⟨h.k, by rw [e]; exact h.nt, by rw [e]; simp only [ap_done, ap_pend, ap_dbt, ap_rel, ap_wrk, ap_trade, ap_mentor, ap_refused, ap_wdays, ap_today, ap_moves, st_day, st_needs, st_ments, st_aps, ap_eta, st_eta, List.length_set]; exact h.nm, by rw [e]; exact h.na, by rw [e]; exact h.day, l5, by simp only [ap_done, ap_pend, ap_dbt, ap_rel, ap_wrk, ap_trade, ap_mentor, ap_refused, ap_wdays, ap_today, ap_moves, st_day, st_needs, st_ments, st_aps, ap_eta, st_eta, List.length_set]; exact l6, l10, fun t n ht p hp => ?_, fun i z hi => ?_, fun i x hi => ?_⟩
  · have := lt_of ht
    rw [(s.1 (S + 2 + t) (by simp only [ap_done, ap_pend, ap_dbt, ap_rel, ap_wrk, ap_trade, ap_mentor, ap_refused, ap_wdays, ap_today, ap_moves, st_day, st_needs, st_ments, st_aps, ap_eta, st_eta] at this; omega)).1]
    exact h.needs t n ht p hp
  · simp only [ap_done, ap_pend, ap_dbt, ap_rel, ap_wrk, ap_trade, ap_mentor, ap_refused, ap_wdays, ap_today, ap_moves, st_day, st_needs, st_ments, st_aps, ap_eta, st_eta] at hi
    rw [List.getElem?_set] at hi
    by_cases q : m = i
    · subst q
      rw [if_pos rfl, if_pos hl] at hi
      cases hi
      exact ha
    · rw [if_neg q] at hi
      exact (h.ments i z hi).fr (s.fr (by omega))
  · exact (h.aps i x hi).fr (s.fr (by omega))
theorem app_get {α : Type} {L : List α} {i : Nat} {x z : α} (h : (L ++ [x])[i]? = some z) : (i < L.length ∧ L[i]? = some z) ∨ (i = L.length ∧ z = x) := by
  by_cases hl : i < L.length
  · rw [List.getElem?_append_left hl] at h
    exact Or.inl ⟨hl, h⟩
  · rw [List.getElem?_append_right (by omega)] at h
    have h1 := lt_of h
    simp only [ap_done, ap_pend, ap_dbt, ap_rel, ap_wrk, ap_trade, ap_mentor, ap_refused, ap_wdays, ap_today, ap_moves, st_day, st_needs, st_ments, st_aps, ap_eta, st_eta, List.length_cons, List.length_nil] at h1
    have h0 : i - L.length = 0 := by omega
    rw [h0] at h
    cases h
    exact Or.inr ⟨by omega, rfl⟩
theorem sp_X7_putTrade {a b c : Int32} (h : StAt M S X) (hl : X.needs.length < 5) (hQ : ∀ M', StAt M' S (X.addT a.toInt b.toInt c.toInt) → Sm M M' S (S + 214) → qi Q M' X.needs.length) : Tr true l G Y_X7_putTrade [.ref S, .int a, .int b, .int c] M Q QX := by
  refine en_X7_putTrade fun F => ?_
  have hk := h.k
  have hn : (mI M S 5).toNatClampNeg = X.needs.length := by rw [i_cl, h.nt]; rfl
  have hkn := k_sn hk X.needs.length hl
  have ne : ∀ t, (S = S + 2 + t) = False := fun t => nq_2 S t
  simp only [R_X7_putTrade_0, hk, k_s1, hn, hkn, i_lt, i_le, i_eq, tI_0, tI_1, tI_2, tI_3, tI_4, tI_5, tI_6, tI_7, tI_8, tI_9, tI_10, tI_11, tI_12, tI_14, tI_20, tI_31, tI_32, tI_48, tI_57, tI_59, tI_96, tI_97, tI_99, tI_100, tI_122, tI_127, tI_150, tI_199, tI_200, tI_255, tI_427, tI_1708, tI_2000, tI_9999, tI_m1, tI_m10, cN_0, cN_1, cN_2, cN_3, cN_4, cN_5, cN_6, cN_7, cN_8, cN_9, cN_10, cN_11, cN_12, cN_14, cN_20, cN_31, cN_32, cN_48, cN_57, cN_59, cN_96, cN_97, cN_99, cN_100, cN_122, cN_127, cN_150, cN_199, cN_200, cN_255, cN_427, cN_1708, cN_2000, cN_9999, mI_sI, I_ic, I_lc, I_nul, I_il, I_ll, I_al, I_is, I_ls, I_as, I_inc, I_iadd, I_isub, I_imul, I_iand, I_ladd, I_lsub, I_lmul, I_land, I_lor, I_idiv, I_irem, I_ishr, I_lshl, I_lshr, I_lushr, I_lcmp, I_i2l, I_l2i, I_dup, I_pop, I_dup2, I_ifeq, I_ifne, I_iflt, I_ifge, I_ifgt, I_ifle, I_iceq, I_icne, I_iclt, I_icge, I_icgt, I_icle, I_ifnull, I_ifnonnull, I_sw, swK, I_gi, I_gl, I_gp, I_pi, I_pl, I_ial, I_lal, I_ias, I_las, I_aal, I_len, I_ir, I_zr, I_lr, I_vr, I_ar, I_cv, I_cs, I_csN, I_max, I_min, I_cpi, I_cpl, I_kl, popA, gt0, gt1, gt2, gt3, gt4, gt5, gt6, gt7, gt8, gt9, gt10, gt11, gt12, s1_0, s1_1, s1_2, s1_3, s1_4, s1_5, s1_6, s1_7, s1_8, s1_9, s1_10, s1_11, s1_12, s2_0, s2_1, s2_2, s2_3, s2_4, s2_5, s2_6, s2_7, s2_8, s2_9, s2_10, s2_11, se_0, se_1, se_2, se_3, se_4, se_5, se_6, se_7, se_8, se_9, se_10, se_11, se_12, kil_i, kil_l, kil_r, kil_n, kil_x, ap_done, ap_pend, ap_dbt, ap_rel, ap_wrk, ap_trade, ap_mentor, ap_refused, ap_wdays, ap_today, ap_moves, st_day, st_needs, st_ments, st_aps, ap_eta, st_eta, Value.category, List.map_cons, List.map_nil, List.sum_cons, List.sum_nil, Option.toList_some, Option.toList_none, List.cons_append, List.nil_append, Nat.reduceAdd, Nat.reduceLeDiff, true_and, and_true, true_or, or_true, forall_const, not_true_eq_false, false_implies, not_false_eq_true, false_and, ↓reduceIte, ad_1, ad_2, ad_3, ad_4, ad_5, nq_2]
  rw [h.nt]
  refine ⟨fun g => ⟨i_in (n := 5) (by rw [h.nt]; omega) (by rw [h.nt]; omega), i_in (n := 3) (by decide) (by decide), i_in (n := 5) (by rw [h.nt]; omega) (by rw [h.nt]; omega), i_in (n := 3) (by decide) (by decide), i_in (n := 5) (by rw [h.nt]; omega) (by rw [h.nt]; omega), i_in (n := 3) (by decide) (by decide), ?_⟩, fun g => by omega⟩
  have b5 := i_b (mI M S 5)
  have e5 : (mI M S 5 + 1).toInt = X.needs.length + 1 := by rw [i_add, h.nt, tI_1]; all_goals rw [h.nt, tI_1]; omega
  have em : ∀ x, ¬ x = S → ¬ x = S + 2 + X.needs.length → mI (sI (sI (sI (sI M (S + 2 + X.needs.length) 0 a) (S + 2 + X.needs.length) 1 b) (S + 2 + X.needs.length) 2 c) S 5 (mI M S 5 + 1)) x = mI M x := fun x h1 h2 => by
    funext j
    simp only [ap_done, ap_pend, ap_dbt, ap_rel, ap_wrk, ap_trade, ap_mentor, ap_refused, ap_wdays, ap_today, ap_moves, st_day, st_needs, st_ments, st_aps, ap_eta, st_eta, mI_sI, h1, h2, false_and, if_false]
  refine hQ _ ⟨hk, ?_, ?_, ?_, ?_, ?_, h.l6, h.l10, ?_, ?_, ?_⟩ ⟨fun x hx => ⟨em x (by omega) (by omega), rfl⟩, rfl, rfl⟩ _ ?_
  · rw [mI_sI, if_pos ⟨rfl, rfl⟩, e5]; simp [ap_done, ap_pend, ap_dbt, ap_rel, ap_wrk, ap_trade, ap_mentor, ap_refused, ap_wdays, ap_today, ap_moves, st_day, st_needs, st_ments, st_aps, ap_eta, st_eta, St.addT]
  · simp only [ap_done, ap_pend, ap_dbt, ap_rel, ap_wrk, ap_trade, ap_mentor, ap_refused, ap_wdays, ap_today, ap_moves, st_day, st_needs, st_ments, st_aps, ap_eta, st_eta, mI_sI, ne, false_and, if_false]; simp [ap_done, ap_pend, ap_dbt, ap_rel, ap_wrk, ap_trade, ap_mentor, ap_refused, ap_wdays, ap_today, ap_moves, st_day, st_needs, st_ments, st_aps, ap_eta, st_eta, mI_sI, St.addT]; exact h.nm
  · simp only [ap_done, ap_pend, ap_dbt, ap_rel, ap_wrk, ap_trade, ap_mentor, ap_refused, ap_wdays, ap_today, ap_moves, st_day, st_needs, st_ments, st_aps, ap_eta, st_eta, mI_sI, ne, false_and, if_false]; simp [ap_done, ap_pend, ap_dbt, ap_rel, ap_wrk, ap_trade, ap_mentor, ap_refused, ap_wdays, ap_today, ap_moves, st_day, st_needs, st_ments, st_aps, ap_eta, st_eta, mI_sI, St.addT]; exact h.na
  · simp only [ap_done, ap_pend, ap_dbt, ap_rel, ap_wrk, ap_trade, ap_mentor, ap_refused, ap_wdays, ap_today, ap_moves, st_day, st_needs, st_ments, st_aps, ap_eta, st_eta, mI_sI, ne, false_and, if_false]; simp [ap_done, ap_pend, ap_dbt, ap_rel, ap_wrk, ap_trade, ap_mentor, ap_refused, ap_wdays, ap_today, ap_moves, st_day, st_needs, st_ments, st_aps, ap_eta, st_eta, mI_sI, St.addT]; exact h.day
  · simp only [ap_done, ap_pend, ap_dbt, ap_rel, ap_wrk, ap_trade, ap_mentor, ap_refused, ap_wdays, ap_today, ap_moves, st_day, st_needs, st_ments, st_aps, ap_eta, st_eta, St.addT, List.length_append, List.length_cons, List.length_nil]; omega
  · intro t n ht p hp
    have ht2 : ¬ S + 2 + t = S := by omega
    rcases app_get ht with ⟨h1, h2⟩ | ⟨h1, h2⟩
    · rw [em _ (by omega) (by omega)]
      exact h.needs t n h2 p hp
    · subst h1 h2
      simp only [ap_done, ap_pend, ap_dbt, ap_rel, ap_wrk, ap_trade, ap_mentor, ap_refused, ap_wdays, ap_today, ap_moves, st_day, st_needs, st_ments, st_aps, ap_eta, st_eta, mI_sI, ht2, false_and, if_false, true_and]
      have : p = 0 ∨ p = 1 ∨ p = 2 := by omega
      rcases this with e | e | e <;> subst e <;> rfl
  · intro m y hm
    have h6 := h.l6
    exact (h.ments m y hm).fr fun x h1 h2 => ⟨em x (by omega) (by omega), rfl⟩
  · intro i x hi
    exact (h.aps i x hi).fr fun x h1 h2 => ⟨em x (by omega) (by omega), rfl⟩
  · rw [i_sub, e5, tI_1]
    omega
    all_goals rw [e5, tI_1]; omega
theorem sp_X7_putMentor {r t : Int32} (h : StAt M S X) (hl : X.ments.length < 6) (hQ : ∀ M', StAt M' S (X.addM r.toInt t.toInt) → Sm M M' S (S + 214) → qi Q M' X.ments.length) : Tr true l G Y_X7_putMentor [.ref S, .int r, .int t] M Q QX := by
  refine en_X7_putMentor fun F => ?_
  have hk := h.k
  have l5 := h.l5
  have hn : (mI M S 6).toNatClampNeg = X.ments.length := by rw [i_cl, h.nm]; rfl
  have hkm := k_sm hk X.ments.length hl
  simp only [R_X7_putMentor_0, hk, k_s7, hn, hkm, i_lt, i_le, i_eq, tI_0, tI_1, tI_2, tI_3, tI_4, tI_5, tI_6, tI_7, tI_8, tI_9, tI_10, tI_11, tI_12, tI_14, tI_20, tI_31, tI_32, tI_48, tI_57, tI_59, tI_96, tI_97, tI_99, tI_100, tI_122, tI_127, tI_150, tI_199, tI_200, tI_255, tI_427, tI_1708, tI_2000, tI_9999, tI_m1, tI_m10, cN_0, cN_1, cN_2, cN_3, cN_4, cN_5, cN_6, cN_7, cN_8, cN_9, cN_10, cN_11, cN_12, cN_14, cN_20, cN_31, cN_32, cN_48, cN_57, cN_59, cN_96, cN_97, cN_99, cN_100, cN_122, cN_127, cN_150, cN_199, cN_200, cN_255, cN_427, cN_1708, cN_2000, cN_9999, mI_sI, I_ic, I_lc, I_nul, I_il, I_ll, I_al, I_is, I_ls, I_as, I_inc, I_iadd, I_isub, I_imul, I_iand, I_ladd, I_lsub, I_lmul, I_land, I_lor, I_idiv, I_irem, I_ishr, I_lshl, I_lshr, I_lushr, I_lcmp, I_i2l, I_l2i, I_dup, I_pop, I_dup2, I_ifeq, I_ifne, I_iflt, I_ifge, I_ifgt, I_ifle, I_iceq, I_icne, I_iclt, I_icge, I_icgt, I_icle, I_ifnull, I_ifnonnull, I_sw, swK, I_gi, I_gl, I_gp, I_pi, I_pl, I_ial, I_lal, I_ias, I_las, I_aal, I_len, I_ir, I_zr, I_lr, I_vr, I_ar, I_cv, I_cs, I_csN, I_max, I_min, I_cpi, I_cpl, I_kl, popA, gt0, gt1, gt2, gt3, gt4, gt5, gt6, gt7, gt8, gt9, gt10, gt11, gt12, s1_0, s1_1, s1_2, s1_3, s1_4, s1_5, s1_6, s1_7, s1_8, s1_9, s1_10, s1_11, s1_12, s2_0, s2_1, s2_2, s2_3, s2_4, s2_5, s2_6, s2_7, s2_8, s2_9, s2_10, s2_11, se_0, se_1, se_2, se_3, se_4, se_5, se_6, se_7, se_8, se_9, se_10, se_11, se_12, kil_i, kil_l, kil_r, kil_n, kil_x, ap_done, ap_pend, ap_dbt, ap_rel, ap_wrk, ap_trade, ap_mentor, ap_refused, ap_wdays, ap_today, ap_moves, st_day, st_needs, st_ments, st_aps, ap_eta, st_eta, Value.category, List.map_cons, List.map_nil, List.sum_cons, List.sum_nil, Option.toList_some, Option.toList_none, List.cons_append, List.nil_append, Nat.reduceAdd, Nat.reduceLeDiff, true_and, and_true, true_or, or_true, forall_const, not_true_eq_false, false_implies, not_false_eq_true, false_and, ↓reduceIte, ad_1, ad_2, ad_3, ad_4, ad_5, nq_2]
  rw [h.nm]
  refine ⟨fun g => ⟨i_in (n := 6) (by rw [h.nm]; omega) (by rw [h.nm]; omega), ?_⟩, fun g => by omega⟩
  refine sp_X6_begin hkm fun M1 y1 m1 => ?_
  simp only [hk, mI_sI, i_lt, i_le, i_eq, tI_0, tI_1, tI_2, tI_3, tI_4, tI_5, tI_6, tI_7, tI_8, tI_9, tI_10, tI_11, tI_12, tI_14, tI_20, tI_31, tI_32, tI_48, tI_57, tI_59, tI_96, tI_97, tI_99, tI_100, tI_122, tI_127, tI_150, tI_199, tI_200, tI_255, tI_427, tI_1708, tI_2000, tI_9999, tI_m1, tI_m10, cN_0, cN_1, cN_2, cN_3, cN_4, cN_5, cN_6, cN_7, cN_8, cN_9, cN_10, cN_11, cN_12, cN_14, cN_20, cN_31, cN_32, cN_48, cN_57, cN_59, cN_96, cN_97, cN_99, cN_100, cN_122, cN_127, cN_150, cN_199, cN_200, cN_255, cN_427, cN_1708, cN_2000, cN_9999, I_ic, I_lc, I_nul, I_il, I_ll, I_al, I_is, I_ls, I_as, I_inc, I_iadd, I_isub, I_imul, I_iand, I_ladd, I_lsub, I_lmul, I_land, I_lor, I_idiv, I_irem, I_ishr, I_lshl, I_lshr, I_lushr, I_lcmp, I_i2l, I_l2i, I_dup, I_pop, I_dup2, I_ifeq, I_ifne, I_iflt, I_ifge, I_ifgt, I_ifle, I_iceq, I_icne, I_iclt, I_icge, I_icgt, I_icle, I_ifnull, I_ifnonnull, I_sw, swK, I_gi, I_gl, I_gp, I_pi, I_pl, I_ial, I_lal, I_ias, I_las, I_aal, I_len, I_ir, I_zr, I_lr, I_vr, I_ar, I_cv, I_cs, I_csN, I_max, I_min, I_cpi, I_cpl, I_kl, popA, gt0, gt1, gt2, gt3, gt4, gt5, gt6, gt7, gt8, gt9, gt10, gt11, gt12, s1_0, s1_1, s1_2, s1_3, s1_4, s1_5, s1_6, s1_7, s1_8, s1_9, s1_10, s1_11, s1_12, s2_0, s2_1, s2_2, s2_3, s2_4, s2_5, s2_6, s2_7, s2_8, s2_9, s2_10, s2_11, se_0, se_1, se_2, se_3, se_4, se_5, se_6, se_7, se_8, se_9, se_10, se_11, se_12, kil_i, kil_l, kil_r, kil_n, kil_x, ap_done, ap_pend, ap_dbt, ap_rel, ap_wrk, ap_trade, ap_mentor, ap_refused, ap_wdays, ap_today, ap_moves, st_day, st_needs, st_ments, st_aps, ap_eta, st_eta, Value.category, List.map_cons, List.map_nil, List.sum_cons, List.sum_nil, Option.toList_some, Option.toList_none, List.cons_append, List.nil_append, Nat.reduceAdd, Nat.reduceLeDiff, true_and, and_true, true_or, or_true, forall_const, not_true_eq_false, false_implies, not_false_eq_true, false_and, ↓reduceIte, ad_1, ad_2, ad_3, ad_4, ad_5, nq_2]
  have e0 := (m1.1 S (by omega)).1
  have e6 : (mI M1 S 6 + 1).toInt = X.ments.length + 1 := by rw [e0, i_add, h.nm, tI_1]; all_goals rw [h.nm, tI_1]; omega
  have s2 := Sm_sI M1 S 6 (mI M1 S 6 + 1) (lo := S) (hi := S + 1) (by omega) (by omega)
  refine hQ _ ⟨hk, ?_, ?_, ?_, ?_, l5, ?_, h.l10, ?_, ?_, ?_⟩ (m1.trans s2 (by omega) (by omega) (by omega) (by omega)) _ ?_
  · rw [mI_sI, if_neg (by omega), e0]; exact h.nt
  · rw [mI_sI, if_pos ⟨rfl, rfl⟩, e6]; simp [ap_done, ap_pend, ap_dbt, ap_rel, ap_wrk, ap_trade, ap_mentor, ap_refused, ap_wdays, ap_today, ap_moves, st_day, st_needs, st_ments, st_aps, ap_eta, st_eta, St.addM]
  · rw [mI_sI, if_neg (by omega), e0]; exact h.na
  · rw [mI_sI, if_neg (by omega), e0]; exact h.day
  · simp only [ap_done, ap_pend, ap_dbt, ap_rel, ap_wrk, ap_trade, ap_mentor, ap_refused, ap_wdays, ap_today, ap_moves, st_day, st_needs, st_ments, st_aps, ap_eta, st_eta, St.addM, List.length_append, List.length_cons, List.length_nil]; omega
  · intro t n ht p hp
    have := lt_of ht
    rw [(s2.1 _ (by omega)).1, (m1.1 _ (by simp only [ap_done, ap_pend, ap_dbt, ap_rel, ap_wrk, ap_trade, ap_mentor, ap_refused, ap_wdays, ap_today, ap_moves, st_day, st_needs, st_ments, st_aps, ap_eta, st_eta, St.addM] at this; omega)).1]
    exact h.needs t n ht p hp
  · intro m y hm
    rcases app_get hm with ⟨h1, h2⟩ | ⟨h1, h2⟩
    · exact ((h.ments m y h2).fr (m1.fr (by omega))).fr (s2.fr (by omega))
    · subst h1 h2
      exact y1.fr (s2.fr (by omega))
  · intro i x hi
    exact ((h.aps i x hi).fr (m1.fr (by omega))).fr (s2.fr (by omega))
  · rw [i_sub, e6, tI_1]
    omega
    all_goals rw [e6, tI_1]; omega
theorem sp_X7_putApprentice {t m : Int32} (h : StAt M S X) (hl : X.aps.length < 10) (hQ : ∀ M', StAt M' S (X.addA t.toInt m.toInt) → Sm M M' S (S + 214) → qi Q M' X.aps.length) : Tr true l G Y_X7_putApprentice [.ref S, .int t, .int m] M Q QX := by
  refine en_X7_putApprentice fun F => ?_
  have hk := h.k
  have l5 := h.l5
  have l6 := h.l6
  have hn : (mI M S 7).toNatClampNeg = X.aps.length := by rw [i_cl, h.na]; rfl
  have hka := k_sa hk X.aps.length hl
  simp only [R_X7_putApprentice_0, hk, k_s8, hn, hka, i_lt, i_le, i_eq, tI_0, tI_1, tI_2, tI_3, tI_4, tI_5, tI_6, tI_7, tI_8, tI_9, tI_10, tI_11, tI_12, tI_14, tI_20, tI_31, tI_32, tI_48, tI_57, tI_59, tI_96, tI_97, tI_99, tI_100, tI_122, tI_127, tI_150, tI_199, tI_200, tI_255, tI_427, tI_1708, tI_2000, tI_9999, tI_m1, tI_m10, cN_0, cN_1, cN_2, cN_3, cN_4, cN_5, cN_6, cN_7, cN_8, cN_9, cN_10, cN_11, cN_12, cN_14, cN_20, cN_31, cN_32, cN_48, cN_57, cN_59, cN_96, cN_97, cN_99, cN_100, cN_122, cN_127, cN_150, cN_199, cN_200, cN_255, cN_427, cN_1708, cN_2000, cN_9999, mI_sI, I_ic, I_lc, I_nul, I_il, I_ll, I_al, I_is, I_ls, I_as, I_inc, I_iadd, I_isub, I_imul, I_iand, I_ladd, I_lsub, I_lmul, I_land, I_lor, I_idiv, I_irem, I_ishr, I_lshl, I_lshr, I_lushr, I_lcmp, I_i2l, I_l2i, I_dup, I_pop, I_dup2, I_ifeq, I_ifne, I_iflt, I_ifge, I_ifgt, I_ifle, I_iceq, I_icne, I_iclt, I_icge, I_icgt, I_icle, I_ifnull, I_ifnonnull, I_sw, swK, I_gi, I_gl, I_gp, I_pi, I_pl, I_ial, I_lal, I_ias, I_las, I_aal, I_len, I_ir, I_zr, I_lr, I_vr, I_ar, I_cv, I_cs, I_csN, I_max, I_min, I_cpi, I_cpl, I_kl, popA, gt0, gt1, gt2, gt3, gt4, gt5, gt6, gt7, gt8, gt9, gt10, gt11, gt12, s1_0, s1_1, s1_2, s1_3, s1_4, s1_5, s1_6, s1_7, s1_8, s1_9, s1_10, s1_11, s1_12, s2_0, s2_1, s2_2, s2_3, s2_4, s2_5, s2_6, s2_7, s2_8, s2_9, s2_10, s2_11, se_0, se_1, se_2, se_3, se_4, se_5, se_6, se_7, se_8, se_9, se_10, se_11, se_12, kil_i, kil_l, kil_r, kil_n, kil_x, ap_done, ap_pend, ap_dbt, ap_rel, ap_wrk, ap_trade, ap_mentor, ap_refused, ap_wdays, ap_today, ap_moves, st_day, st_needs, st_ments, st_aps, ap_eta, st_eta, Value.category, List.map_cons, List.map_nil, List.sum_cons, List.sum_nil, Option.toList_some, Option.toList_none, List.cons_append, List.nil_append, Nat.reduceAdd, Nat.reduceLeDiff, true_and, and_true, true_or, or_true, forall_const, not_true_eq_false, false_implies, not_false_eq_true, false_and, ↓reduceIte, ad_1, ad_2, ad_3, ad_4, ad_5, nq_2]
  rw [h.na]
  refine ⟨fun g => ⟨i_in (n := 10) (by rw [h.na]; omega) (by rw [h.na]; omega), ?_⟩, fun g => by omega⟩
  refine sp_X1_begin hka fun M1 y1 m1 => ?_
  simp only [hk, mI_sI, i_lt, i_le, i_eq, tI_0, tI_1, tI_2, tI_3, tI_4, tI_5, tI_6, tI_7, tI_8, tI_9, tI_10, tI_11, tI_12, tI_14, tI_20, tI_31, tI_32, tI_48, tI_57, tI_59, tI_96, tI_97, tI_99, tI_100, tI_122, tI_127, tI_150, tI_199, tI_200, tI_255, tI_427, tI_1708, tI_2000, tI_9999, tI_m1, tI_m10, cN_0, cN_1, cN_2, cN_3, cN_4, cN_5, cN_6, cN_7, cN_8, cN_9, cN_10, cN_11, cN_12, cN_14, cN_20, cN_31, cN_32, cN_48, cN_57, cN_59, cN_96, cN_97, cN_99, cN_100, cN_122, cN_127, cN_150, cN_199, cN_200, cN_255, cN_427, cN_1708, cN_2000, cN_9999, I_ic, I_lc, I_nul, I_il, I_ll, I_al, I_is, I_ls, I_as, I_inc, I_iadd, I_isub, I_imul, I_iand, I_ladd, I_lsub, I_lmul, I_land, I_lor, I_idiv, I_irem, I_ishr, I_lshl, I_lshr, I_lushr, I_lcmp, I_i2l, I_l2i, I_dup, I_pop, I_dup2, I_ifeq, I_ifne, I_iflt, I_ifge, I_ifgt, I_ifle, I_iceq, I_icne, I_iclt, I_icge, I_icgt, I_icle, I_ifnull, I_ifnonnull, I_sw, swK, I_gi, I_gl, I_gp, I_pi, I_pl, I_ial, I_lal, I_ias, I_las, I_aal, I_len, I_ir, I_zr, I_lr, I_vr, I_ar, I_cv, I_cs, I_csN, I_max, I_min, I_cpi, I_cpl, I_kl, popA, gt0, gt1, gt2, gt3, gt4, gt5, gt6, gt7, gt8, gt9, gt10, gt11, gt12, s1_0, s1_1, s1_2, s1_3, s1_4, s1_5, s1_6, s1_7, s1_8, s1_9, s1_10, s1_11, s1_12, s2_0, s2_1, s2_2, s2_3, s2_4, s2_5, s2_6, s2_7, s2_8, s2_9, s2_10, s2_11, se_0, se_1, se_2, se_3, se_4, se_5, se_6, se_7, se_8, se_9, se_10, se_11, se_12, kil_i, kil_l, kil_r, kil_n, kil_x, ap_done, ap_pend, ap_dbt, ap_rel, ap_wrk, ap_trade, ap_mentor, ap_refused, ap_wdays, ap_today, ap_moves, st_day, st_needs, st_ments, st_aps, ap_eta, st_eta, Value.category, List.map_cons, List.map_nil, List.sum_cons, List.sum_nil, Option.toList_some, Option.toList_none, List.cons_append, List.nil_append, Nat.reduceAdd, Nat.reduceLeDiff, true_and, and_true, true_or, or_true, forall_const, not_true_eq_false, false_implies, not_false_eq_true, false_and, ↓reduceIte, ad_1, ad_2, ad_3, ad_4, ad_5, nq_2]
  have e0 := (m1.1 S (by omega)).1
  have e7 : (mI M1 S 7 + 1).toInt = X.aps.length + 1 := by rw [e0, i_add, h.na, tI_1]; all_goals rw [h.na, tI_1]; omega
  have s2 := Sm_sI M1 S 7 (mI M1 S 7 + 1) (lo := S) (hi := S + 1) (by omega) (by omega)
  refine hQ _ ⟨hk, ?_, ?_, ?_, ?_, l5, l6, ?_, ?_, ?_, ?_⟩ (m1.trans s2 (by omega) (by omega) (by omega) (by omega)) _ ?_
  · rw [mI_sI, if_neg (by omega), e0]; exact h.nt
  · rw [mI_sI, if_neg (by omega), e0]; exact h.nm
  · rw [mI_sI, if_pos ⟨rfl, rfl⟩, e7]; simp [ap_done, ap_pend, ap_dbt, ap_rel, ap_wrk, ap_trade, ap_mentor, ap_refused, ap_wdays, ap_today, ap_moves, st_day, st_needs, st_ments, st_aps, ap_eta, st_eta, St.addA]
  · rw [mI_sI, if_neg (by omega), e0]; exact h.day
  · simp only [ap_done, ap_pend, ap_dbt, ap_rel, ap_wrk, ap_trade, ap_mentor, ap_refused, ap_wdays, ap_today, ap_moves, st_day, st_needs, st_ments, st_aps, ap_eta, st_eta, St.addA, List.length_append, List.length_cons, List.length_nil]; omega
  · intro t n ht p hp
    have := lt_of ht
    rw [(s2.1 _ (by omega)).1, (m1.1 _ (by simp only [ap_done, ap_pend, ap_dbt, ap_rel, ap_wrk, ap_trade, ap_mentor, ap_refused, ap_wdays, ap_today, ap_moves, st_day, st_needs, st_ments, st_aps, ap_eta, st_eta, St.addA] at this; omega)).1]
    exact h.needs t n ht p hp
  · intro m y hm
    have := lt_of hm
    exact ((h.ments m y hm).fr (m1.fr (by simp only [ap_done, ap_pend, ap_dbt, ap_rel, ap_wrk, ap_trade, ap_mentor, ap_refused, ap_wdays, ap_today, ap_moves, st_day, st_needs, st_ments, st_aps, ap_eta, st_eta, St.addA] at this; omega))).fr (s2.fr (by omega))
  · intro i x hi
    rcases app_get hi with ⟨h1, h2⟩ | ⟨h1, h2⟩
    · exact ((h.aps i x h2).fr (m1.fr (by omega))).fr (s2.fr (by omega))
    · subst h1 h2
      exact y1.fr (s2.fr (by omega))
  · rw [i_sub, e7, tI_1]
    omega
    all_goals rw [e7, tI_1]; omega
end SPS5
