/-! ===== confirming: what both sides say ===== -/
theorem okT_iff : ∀ (T : List En) (f : Nat → Int), (∀ e ∈ T, EW e) → (∀ p, p < 3 → 0 ≤ f p) → (okT f T → ∀ p, p < 3 → f p ≤ 2147483647 → f p + hPart ((p : Nat) : Int) T ≤ 2147483647)
  | [], _, _, _, _, p, _, h => by rw [hPart]; omega
  | e :: T, f, hw, hf, ho, p, hp, h => by
    have he := hw e (List.mem_cons_self ..)
    have e0 := he.1
    have e1 := he.2.1
    have hT : ∀ x ∈ T, EW x := fun x hx => hw x (List.mem_cons_of_mem _ hx)
    obtain ⟨q, hq⟩ : ∃ q : Nat, e.1 = q := ⟨e.1.toNat, by omega⟩
    obtain ⟨⟨o1, o2⟩, o3⟩ := ho
    rw [hq, Int.toNat_natCast] at o1 o2
    have ih := okT_iff T _ hT (fun p hp => by
      have := hf p hp
      unfold dAdd
      split <;> omega) o3 p hp (by
      unfold dAdd
      split
      · have : q = p := by omega
        subst this
        omega
      · exact h)
    rw [hPart]
    unfold dAdd at ih
    by_cases h3 : e.1 = p
    · rw [if_pos h3] at ih ⊢; omega
    · rw [if_neg h3] at ih ⊢; omega
theorem take_ok {X : St} {x : Ap} {k : Int} (w : WfA X x) (h : okT x.done (tkT x.mentor k x.pend)) : cTake x k := fun p hp => by
  have hT : ∀ e ∈ tkT x.mentor k x.pend, EW e := fun e he => w.ep e (tkT_mem _ _ _ _ he)
  have dn := w.dn p hp
  have h1 := okT_iff _ _ hT (fun p hp => (w.dn p hp).1) h p hp dn.2
  have h2 := hPart_0 p _ hT
  unfold cAdd dIn
  rw [if_pos (by omega), Int.toNat_natCast, hF_tk]
  omega
def okCf (m : Int) : Int → List Ap → Prop
  | _, [] => True
  | k, x :: L => if x.mentor = m then okT x.done (tkT m k x.pend) ∧ okCf m (k - (tkT m k x.pend).length) L else okCf m k L
theorem okCf_iff {X : St} (m : Int) : ∀ (L : List Ap) (k : Int), 0 ≤ k → (∀ x ∈ L, WfA X x) → (okCf m k L ↔ cCf m k L)
  | [], _, _, _ => Iff.rfl
  | x :: L, k, h0, hw => by
    have wx := hw x (List.mem_cons_self ..)
    have hL : ∀ z ∈ L, WfA X z := fun z hz => hw z (List.mem_cons_of_mem _ hz)
    rw [okCf, cCf]
    by_cases g : x.mentor = m
    · rw [if_pos g, if_pos g, tk_len m x.pend k h0]
      have hc := cWith_b m x.pend
      have ih := okCf_iff m L (k - min k (cWith m x.pend)) (by omega) hL
      rw [ih, ← g]
      exact ⟨fun c => ⟨take_ok wx c.1, c.2⟩, fun c => ⟨ok_take wx c.1, c.2⟩⟩
    · rw [if_neg g, if_neg g]
      exact okCf_iff m L k h0 hL
theorem dAdds_b : ∀ (T : List En) (f : Nat → Int), (∀ e ∈ T, EW e) → okT f T → (∀ p, p < 3 → 0 ≤ f p ∧ f p ≤ 2147483647) → ∀ p, p < 3 → 0 ≤ dAdds f T p ∧ dAdds f T p ≤ 2147483647
  | [], f, _, _, hf, p, hp => hf p hp
  | e :: T, f, hw, ho, hf, p, hp => by
    rw [dAdds]
    refine dAdds_b T _ (fun x hx => hw x (List.mem_cons_of_mem _ hx)) ho.2 (fun q hq => ?_) p hp
    have he := hw e (List.mem_cons_self ..)
    have e0 := he.1
    have e1 := he.2.1
    have o := ho.1
    have := hf q hq
    unfold dAdd
    by_cases h3 : e.1 = q
    · rw [if_pos h3]
      have : e.1.toNat = q := by omega
      rw [this] at o
      exact o
    · rw [if_neg h3]; exact this
theorem tkR_mem (m : Int) : ∀ (L : List En) (k : Int) (e : En), e ∈ tkR m k L → e ∈ L
  | [], k, e, h => by simp [ap_done, ap_pend, ap_dbt, ap_rel, ap_wrk, ap_trade, ap_mentor, ap_refused, ap_wdays, ap_today, ap_moves, st_day, st_needs, st_ments, st_aps, ap_eta, st_eta, tkR] at h
  | f :: L, k, e, h => by
    rw [tkR] at h
    by_cases h1 : k ≤ 0
    · simpa [ap_done, ap_pend, ap_dbt, ap_rel, ap_wrk, ap_trade, ap_mentor, ap_refused, ap_wdays, ap_today, ap_moves, st_day, st_needs, st_ments, st_aps, ap_eta, st_eta, h1] using h
    · by_cases h2 : f.2.2.2 = m
      · simp only [ap_done, ap_pend, ap_dbt, ap_rel, ap_wrk, ap_trade, ap_mentor, ap_refused, ap_wdays, ap_today, ap_moves, st_day, st_needs, st_ments, st_aps, ap_eta, st_eta, h1, h2, if_false, if_true] at h
        exact List.mem_cons_of_mem _ (tkR_mem m L _ e h)
      · simp only [ap_done, ap_pend, ap_dbt, ap_rel, ap_wrk, ap_trade, ap_mentor, ap_refused, ap_wdays, ap_today, ap_moves, st_day, st_needs, st_ments, st_aps, ap_eta, st_eta, h1, h2, if_false, List.mem_cons] at h
        rcases h with h | h
        · simp [ap_done, ap_pend, ap_dbt, ap_rel, ap_wrk, ap_trade, ap_mentor, ap_refused, ap_wdays, ap_today, ap_moves, st_day, st_needs, st_ments, st_aps, ap_eta, st_eta, h]
        · exact List.mem_cons_of_mem _ (tkR_mem m L _ e h)
theorem tkR_len (m : Int) : ∀ (L : List En) (k : Int), (tkR m k L).length + (tkT m k L).length = L.length
  | [], k => by simp [ap_done, ap_pend, ap_dbt, ap_rel, ap_wrk, ap_trade, ap_mentor, ap_refused, ap_wdays, ap_today, ap_moves, st_day, st_needs, st_ments, st_aps, ap_eta, st_eta, tkR, tkT]
  | f :: L, k => by
    rw [tkR, tkT]
    by_cases h1 : k ≤ 0
    · simp [ap_done, ap_pend, ap_dbt, ap_rel, ap_wrk, ap_trade, ap_mentor, ap_refused, ap_wdays, ap_today, ap_moves, st_day, st_needs, st_ments, st_aps, ap_eta, st_eta, h1]
    · by_cases h2 : f.2.2.2 = m
      · simp only [ap_done, ap_pend, ap_dbt, ap_rel, ap_wrk, ap_trade, ap_mentor, ap_refused, ap_wdays, ap_today, ap_moves, st_day, st_needs, st_ments, st_aps, ap_eta, st_eta, h1, h2, if_false, if_true, List.length_cons]
        have := tkR_len m L (k - 1)
        omega
      · simp only [ap_done, ap_pend, ap_dbt, ap_rel, ap_wrk, ap_trade, ap_mentor, ap_refused, ap_wdays, ap_today, ap_moves, st_day, st_needs, st_ments, st_aps, ap_eta, st_eta, h1, h2, if_false, List.length_cons]
        have := tkR_len m L k
        omega
theorem WfA.take {X : St} {x : Ap} {k : Int} (w : WfA X x) (h : okT x.done (tkT x.mentor k x.pend)) : WfA X (aTake x k) :=
  ⟨w.t0, w.t1, w.m0, w.m1, dAdds_b _ _ (fun e he => w.ep e (tkT_mem _ _ _ _ he)) h w.dn, by
    have h1 := w.ln
    have h2 := tkR_len x.mentor x.pend k
    show (tkR x.mentor k x.pend).length + x.dbt.length ≤ 20
    omega, w.td, w.rf, w.wd, w.mv, fun e he => w.ep e (tkR_mem _ _ _ _ he), w.ed⟩
theorem cfN_b (m : Int) : ∀ (L : List Ap) (k : Int), 0 ≤ k → 0 ≤ cfN m k L ∧ cfN m k L ≤ k
  | [], k, h => by simp [ap_done, ap_pend, ap_dbt, ap_rel, ap_wrk, ap_trade, ap_mentor, ap_refused, ap_wdays, ap_today, ap_moves, st_day, st_needs, st_ments, st_aps, ap_eta, st_eta, cfN]; exact h
  | x :: L, k, h => by
    rw [cfN]
    have h1 := tk_len m x.pend k h
    have hc := cWith_b m x.pend
    by_cases g : x.mentor = m
    · rw [if_pos g]
      have := cfN_b m L (k - (tkT m k x.pend).length) (by omega)
      omega
    · rw [if_neg g]; exact cfN_b m L k h
theorem cfL_len (m : Int) : ∀ (L : List Ap) (k : Int), (cfL m k L).length = L.length
  | [], k => rfl
  | x :: L, k => by
    rw [cfL]
    split <;> simp only [ap_done, ap_pend, ap_dbt, ap_rel, ap_wrk, ap_trade, ap_mentor, ap_refused, ap_wdays, ap_today, ap_moves, st_day, st_needs, st_ments, st_aps, ap_eta, st_eta, List.length_cons, cfL_len m L]
theorem cfL_wf {X : St} (m : Int) : ∀ (L : List Ap) (k : Int), okCf m k L → (∀ x ∈ L, WfA X x) → ∀ x ∈ cfL m k L, WfA X x
  | [], k, _, _, x, hx => by simp [ap_done, ap_pend, ap_dbt, ap_rel, ap_wrk, ap_trade, ap_mentor, ap_refused, ap_wdays, ap_today, ap_moves, st_day, st_needs, st_ments, st_aps, ap_eta, st_eta, cfL] at hx
  | y :: L, k, ho, hw, x, hx => by
    have wy := hw y (List.mem_cons_self ..)
    have hL : ∀ z ∈ L, WfA X z := fun z hz => hw z (List.mem_cons_of_mem _ hz)
    rw [cfL] at hx
    rw [okCf] at ho
    by_cases g : y.mentor = m
    · rw [if_pos g] at hx ho
      rcases List.mem_cons.mp hx with h | h
      · subst h
        refine wy.take ?_
        rw [g]
        exact ho.1
      · exact cfL_wf m L _ ho.2 hL x h
    · rw [if_neg g] at hx ho
      rcases List.mem_cons.mp hx with h | h
      · subst h; exact wy
      · exact cfL_wf m L _ ho hL x h
theorem WfS.conf {X : St} {m : Nat} {y : Mt} {k : Int} (ws : WfS X) (hy : X.ments[m]? = some y) (h0 : 0 ≤ k) (ho : okCf m k X.aps) (hc : y.2.2 + cfN m k X.aps ≤ 100000000) : WfS (X.conf m y k) := by
  have hb := cfN_b m X.aps k h0
  have wy := ws.mb y (List.mem_of_getElem? hy)
  have y0 := wy.2.2.1
  unfold St.conf
  refine ⟨ws.day, ws.l5, by rw [st_ments, List.length_set]; exact ws.l6, by rw [st_aps, cfL_len]; exact ws.l10, ws.nb, fun z hz => ?_, fun x hx => ?_⟩
  · rw [st_ments] at hz
    rcases List.mem_or_eq_of_mem_set hz with h | h
    · exact ws.mb z h
    · subst h
      refine ⟨wy.1, wy.2.1, ?_, ?_⟩
      · show 0 ≤ y.2.2 + cfN m k X.aps; omega
      · exact hc
  · rw [st_aps] at hx
    exact (cfL_wf m X.aps k ho ws.ab x hx).of (Nat.le_refl _) (by rw [st_ments, List.length_set]; exact Nat.le_refl _)

