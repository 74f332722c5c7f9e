/-! ===== what holds of the property's states: days, mentors of entries, hours ===== -/
def Dle (e f : En) : Prop := e.2.2.1 ≤ f.2.2.1
/-- of an apprentice on the day d -/
def PA (d : Int) (x : Ap) : Prop := x.pend.Pairwise Dle ∧ (∀ e ∈ x.pend, e.2.2.1 ≤ d ∧ d - e.2.2.1 ≤ 14 ∧ (0 ≤ x.mentor → e.2.2.2 = x.mentor)) ∧ (∀ e ∈ x.dbt, e.2.2.1 ≤ d) ∧ x.wdays ≤ d + (if x.today = 0 then 0 else 1)
def PI (X : St) : Prop := ∀ x ∈ X.aps, PA X.day x
theorem PI.setA {X : St} {a : Nat} {x : Ap} (h : PI X) (hx : PA X.day x) : PI (X.setA a x) := fun z hz => by
  have hz : z ∈ X.aps.set a x := hz
  rcases List.mem_or_eq_of_mem_set hz with h1 | rfl
  · exact h z h1
  · exact hx
theorem PA.work {d : Int} {x : Ap} (h : PA d x) {p k : Int} (hk : 1 ≤ k) (ht : 0 ≤ x.today) : PA d (aWork x p k d) := by
  obtain ⟨h1, h2, h3, h4⟩ := h
  refine ⟨?_, fun e he => ?_, h3, ?_⟩
  · show (x.pend ++ [(p, k, d, x.mentor)]).Pairwise Dle
    refine List.pairwise_append.mpr ⟨h1, List.pairwise_singleton _ _, fun e he f hf => ?_⟩
    rw [List.mem_singleton] at hf
    subst hf
    exact (h2 e he).1
  · have he : e ∈ x.pend ++ [(p, k, d, x.mentor)] := he
    show e.2.2.1 ≤ d ∧ d - e.2.2.1 ≤ 14 ∧ (0 ≤ x.mentor → e.2.2.2 = x.mentor)
    rcases List.mem_append.mp he with h | h
    · exact h2 e h
    · rw [List.mem_singleton] at h
      subst h
      exact ⟨Int.le_refl _, by show d - d ≤ 14; omega, fun _ => rfl⟩
  · show (if x.today = 0 then x.wdays + 1 else x.wdays) ≤ d + (if x.today + k = 0 then 0 else 1)
    rw [if_neg (show ¬ x.today + k = 0 by omega)]
    split at h4
    next g => rw [if_pos g]; omega
    next g => rw [if_neg g]; omega
theorem PA.flt {d : Int} {x : Ap} (h : PA d x) (f : En → Bool) : PA d (aDbt x f) := by
  obtain ⟨h1, h2, h3, h4⟩ := h
  refine ⟨h1.filter _, fun e he => h2 e (List.mem_filter.mp he).1, fun e he => ?_, h4⟩
  have he : e ∈ x.dbt ++ x.pend.filter f := he
  rcases List.mem_append.mp he with h | h
  · exact h3 e h
  · exact (h2 e (List.mem_filter.mp h).1).1
theorem PA.lead {d : Int} {x : Ap} (h : PA d x) (m : Int) : PA d (aLead x m) := by
  obtain ⟨h1, h2, h3, h4⟩ := h.flt (fun e => decide (¬ e.2.2.2 = m))
  refine ⟨h1, fun e he => ⟨(h2 e he).1, (h2 e he).2.1, fun _ => ?_⟩, h3, h4⟩
  have he : e ∈ x.pend.filter (fun e => !decide (¬ e.2.2.2 = m)) := he
  have := (List.mem_filter.mp he).2
  show e.2.2.2 = m
  simpa [ap_done, ap_pend, ap_dbt, ap_rel, ap_wrk, ap_trade, ap_mentor, ap_refused, ap_wdays, ap_today, ap_moves, st_day, st_needs, st_ments, st_aps, ap_eta, st_eta] using this
theorem PA.pd {d : Int} {x : Ap} (h : PA d x) : PA (d + 1) (pdA d x) := by
  obtain ⟨h1, h2, h3, h4⟩ := h.flt (fun e => decide (e.2.2.1 ≤ d - 14))
  refine ⟨h1, fun e he => ⟨by have := (h2 e he).1; omega, ?_, (h2 e he).2.2⟩, fun e he => by have := h3 e he; omega, ?_⟩
  · have he : e ∈ x.pend.filter (fun e => !decide (e.2.2.1 ≤ d - 14)) := he
    have := (List.mem_filter.mp he).2
    have g : ¬ e.2.2.1 ≤ d - 14 := by simpa [ap_done, ap_pend, ap_dbt, ap_rel, ap_wrk, ap_trade, ap_mentor, ap_refused, ap_wdays, ap_today, ap_moves, st_day, st_needs, st_ments, st_aps, ap_eta, st_eta] using this
    omega
  · show x.wdays ≤ d + 1 + (if (0 : Int) = 0 then 0 else 1)
    have h4 : x.wdays ≤ d + (if x.today = 0 then 0 else 1) := h4
    rw [if_pos rfl]
    split at h4 <;> omega
theorem PI.pass {X : St} (h : PI X) : PI X.pass := fun x hx => by
  have hx : x ∈ X.aps.map (pdA X.day) := hx
  obtain ⟨z, hz, rfl⟩ := List.mem_map.mp hx
  exact (h z hz).pd
theorem tkR_sub (m : Int) : ∀ (L : List En) (k : Int), List.Sublist (tkR m k L) L
  | [], k => by simp [ap_done, ap_pend, ap_dbt, ap_rel, ap_wrk, ap_trade, ap_mentor, ap_refused, ap_wdays, ap_today, ap_moves, st_day, st_needs, st_ments, st_aps, ap_eta, st_eta, tkR]
  | e :: L, k => by
    rw [tkR]
    split
    · exact List.Sublist.refl _
    · split
      · exact (tkR_sub m L (k - 1)).cons _
      · exact (tkR_sub m L k).cons₂ _
theorem PA.take {d : Int} {x : Ap} (h : PA d x) (k : Int) : PA d (aTake x k) := by
  obtain ⟨h1, h2, h3, h4⟩ := h
  exact ⟨h1.sublist (tkR_sub _ _ _), fun e he => h2 e ((tkR_sub _ _ _).subset he), h3, h4⟩
theorem cfL_pa {d m : Int} : ∀ (L : List Ap) (k : Int), (∀ x ∈ L, PA d x) → ∀ x ∈ cfL m k L, PA d x
  | [], _, _, x, hx => by cases hx
  | y :: L, k, h, x, hx => by
    have hL : ∀ x ∈ L, PA d x := fun z hz => h z (List.mem_cons_of_mem _ hz)
    rw [cfL] at hx
    split at hx
    · rcases List.mem_cons.mp hx with rfl | hx
      · exact (h y (List.mem_cons_self ..)).take k
      · exact cfL_pa L _ hL x hx
    · rcases List.mem_cons.mp hx with rfl | hx
      · exact h x (List.mem_cons_self ..)
      · exact cfL_pa L _ hL x hx
theorem PI.conf {X : St} (h : PI X) {m : Nat} {y : Mt} {k : Int} : PI (X.conf m y k) := fun x hx => cfL_pa (d := X.day) (m := m) X.aps k h x hx
/-! hours -/
def hrs (x : Ap) : Int := hAll x.pend + hAll x.dbt + x.refused + (x.done 0 + x.done 1 + x.done 2)
noncomputable def HX (X : St) : Int := sumA hrs X.aps
theorem hAll_app : ∀ K L : List En, hAll (K ++ L) = hAll K + hAll L
  | [], L => by simp [ap_done, ap_pend, ap_dbt, ap_rel, ap_wrk, ap_trade, ap_mentor, ap_refused, ap_wdays, ap_today, ap_moves, st_day, st_needs, st_ments, st_aps, ap_eta, st_eta, hAll]
  | e :: K, L => by
    rw [List.cons_append, hAll, hAll, hAll_app K L]
    omega
theorem hAll_flt (f : En → Bool) : ∀ L : List En, hAll (L.filter (fun e => !f e)) + hAll (L.filter f) = hAll L
  | [] => by simp [ap_done, ap_pend, ap_dbt, ap_rel, ap_wrk, ap_trade, ap_mentor, ap_refused, ap_wdays, ap_today, ap_moves, st_day, st_needs, st_ments, st_aps, ap_eta, st_eta, hAll]
  | e :: L => by
    have ih := hAll_flt f L
    cases h : f e
    · rw [List.filter_cons_of_pos (by simp [ap_done, ap_pend, ap_dbt, ap_rel, ap_wrk, ap_trade, ap_mentor, ap_refused, ap_wdays, ap_today, ap_moves, st_day, st_needs, st_ments, st_aps, ap_eta, st_eta, h]), List.filter_cons_of_neg (by simp [ap_done, ap_pend, ap_dbt, ap_rel, ap_wrk, ap_trade, ap_mentor, ap_refused, ap_wdays, ap_today, ap_moves, st_day, st_needs, st_ments, st_aps, ap_eta, st_eta, h]), hAll, hAll]
      omega
    · rw [List.filter_cons_of_neg (by simp [ap_done, ap_pend, ap_dbt, ap_rel, ap_wrk, ap_trade, ap_mentor, ap_refused, ap_wdays, ap_today, ap_moves, st_day, st_needs, st_ments, st_aps, ap_eta, st_eta, h]), List.filter_cons_of_pos (by simp [ap_done, ap_pend, ap_dbt, ap_rel, ap_wrk, ap_trade, ap_mentor, ap_refused, ap_wdays, ap_today, ap_moves, st_day, st_needs, st_ments, st_aps, ap_eta, st_eta, h]), hAll, hAll]
      omega
theorem hAll_0 : ∀ L : List En, (∀ e ∈ L, EW e) → 0 ≤ hAll L ∧ hAll L ≤ 12 * L.length
  | [], _ => by simp [ap_done, ap_pend, ap_dbt, ap_rel, ap_wrk, ap_trade, ap_mentor, ap_refused, ap_wdays, ap_today, ap_moves, st_day, st_needs, st_ments, st_aps, ap_eta, st_eta, hAll]
  | e :: L, h => by
    have ih := hAll_0 L fun z hz => h z (List.mem_cons_of_mem _ hz)
    have he := (h e (List.mem_cons_self ..)).2.1
    rw [hAll, List.length_cons]
    omega
theorem hAll_part : ∀ L : List En, (∀ e ∈ L, EW e) → hPart 0 L + hPart 1 L + hPart 2 L = hAll L
  | [], _ => by simp [ap_done, ap_pend, ap_dbt, ap_rel, ap_wrk, ap_trade, ap_mentor, ap_refused, ap_wdays, ap_today, ap_moves, st_day, st_needs, st_ments, st_aps, ap_eta, st_eta, hAll, hPart]
  | e :: L, h => by
    have ih := hAll_part L fun z hz => h z (List.mem_cons_of_mem _ hz)
    have he := (h e (List.mem_cons_self ..)).1
    rw [hAll, hPart, hPart, hPart]
    have : e.1 = 0 ∨ e.1 = 1 ∨ e.1 = 2 := by omega
    rcases this with g | g | g <;> rw [g] <;> simp <;> omega
theorem hAll_take (m : Int) : ∀ (L : List En) (k : Int), hAll (tkT m k L) + hAll (tkR m k L) = hAll L
  | [], k => by simp [ap_done, ap_pend, ap_dbt, ap_rel, ap_wrk, ap_trade, ap_mentor, ap_refused, ap_wdays, ap_today, ap_moves, st_day, st_needs, st_ments, st_aps, ap_eta, st_eta, tkT, tkR, hAll]
  | e :: L, k => by
    rw [tkT, tkR]
    split
    · simp [ap_done, ap_pend, ap_dbt, ap_rel, ap_wrk, ap_trade, ap_mentor, ap_refused, ap_wdays, ap_today, ap_moves, st_day, st_needs, st_ments, st_aps, ap_eta, st_eta, hAll]
    · split
      · have := hAll_take m L (k - 1)
        rw [hAll, hAll]
        omega
      · have := hAll_take m L k
        rw [hAll, hAll]
        omega
theorem dAdds_p : ∀ (T : List En) (f : Nat → Int) (p : Nat), dAdds f T p = f p + hPart ((p : Nat) : Int) T
  | [], f, p => by simp [ap_done, ap_pend, ap_dbt, ap_rel, ap_wrk, ap_trade, ap_mentor, ap_refused, ap_wdays, ap_today, ap_moves, st_day, st_needs, st_ments, st_aps, ap_eta, st_eta, dAdds, hPart]
  | e :: T, f, p => by
    rw [dAdds, dAdds_p T, hPart]
    unfold dAdd
    by_cases h : e.1 = ((p : Nat) : Int)
    · rw [if_pos h, if_pos h]; omega
    · rw [if_neg h, if_neg h]; omega
theorem sumA_set {f : Ap → Int} {x y : Ap} : ∀ {L : List Ap} {a : Nat}, L[a]? = some x → sumA f (L.set a y) = sumA f L - f x + f y
  | [], a, h => by simp [ap_done, ap_pend, ap_dbt, ap_rel, ap_wrk, ap_trade, ap_mentor, ap_refused, ap_wdays, ap_today, ap_moves, st_day, st_needs, st_ments, st_aps, ap_eta, st_eta] at h
  | z :: L, 0, h => by
    simp [ap_done, ap_pend, ap_dbt, ap_rel, ap_wrk, ap_trade, ap_mentor, ap_refused, ap_wdays, ap_today, ap_moves, st_day, st_needs, st_ments, st_aps, ap_eta, st_eta] at h
    subst h
    rw [List.set_cons_zero, sumA, sumA]
    omega
  | z :: L, a + 1, h => by
    rw [List.getElem?_cons_succ] at h
    rw [List.set_cons_succ, sumA, sumA, sumA_set h]
    omega
theorem sumA_map {f : Ap → Int} {g : Ap → Ap} (h : ∀ x, f (g x) = f x) : ∀ L : List Ap, sumA f (L.map g) = sumA f L
  | [] => rfl
  | x :: L => by rw [List.map_cons, sumA, sumA, h, sumA_map h L]
theorem sumA_app {f : Ap → Int} : ∀ K L : List Ap, sumA f (K ++ L) = sumA f K + sumA f L
  | [], L => by simp [ap_done, ap_pend, ap_dbt, ap_rel, ap_wrk, ap_trade, ap_mentor, ap_refused, ap_wdays, ap_today, ap_moves, st_day, st_needs, st_ments, st_aps, ap_eta, st_eta, sumA]
  | x :: K, L => by
    rw [List.cons_append, sumA, sumA, sumA_app K L]
    omega
theorem sumA_le {f g : Ap → Int} : ∀ L : List Ap, (∀ x ∈ L, f x ≤ g x) → sumA f L ≤ sumA g L
  | [], _ => Int.le_refl _
  | x :: L, h => by
    have := sumA_le L fun z hz => h z (List.mem_cons_of_mem _ hz)
    have := h x (List.mem_cons_self ..)
    rw [sumA, sumA]
    omega
theorem sumA_0 {f : Ap → Int} (L : List Ap) (h : ∀ x ∈ L, 0 ≤ f x) : 0 ≤ sumA f L := by
  induction L with
  | nil => exact Int.le_refl _
  | cons x L ih =>
    have h1 := ih fun z hz => h z (List.mem_cons_of_mem _ hz)
    have h2 := h x (List.mem_cons_self ..)
    rw [sumA]
    omega
theorem sumA_mem {f : Ap → Int} {x : Ap} : ∀ L : List Ap, (∀ x ∈ L, 0 ≤ f x) → x ∈ L → f x ≤ sumA f L
  | [], _, h => by cases h
  | z :: L, h0, h => by
    have h1 : ∀ x ∈ L, 0 ≤ f x := fun z hz => h0 z (List.mem_cons_of_mem _ hz)
    have h2 := sumA_0 L h1
    have h3 := h0 z (List.mem_cons_self ..)
    rw [sumA]
    rcases List.mem_cons.mp h with rfl | h
    · omega
    · have := sumA_mem L h1 h
      omega
theorem hrs_b {X : St} {x : Ap} (w : WfA X x) : 0 ≤ hrs x ∧ (∀ p, p < 3 → x.done p ≤ hrs x) := by
  have h1 := (hAll_0 _ w.ep).1
  have h2 := (hAll_0 _ w.ed).1
  have h3 := w.rf.1
  have d0 := (w.dn 0 (by omega)).1
  have d1 := (w.dn 1 (by omega)).1
  have d2 := (w.dn 2 (by omega)).1
  unfold hrs
  refine ⟨by omega, fun p hp => ?_⟩
  have : p = 0 ∨ p = 1 ∨ p = 2 := by omega
  rcases this with rfl | rfl | rfl <;> omega
theorem hx_done {X : St} {a : Nat} {x : Ap} (w : WfS X) (hx : X.aps[a]? = some x) {p : Nat} (hp : p < 3) : 0 ≤ x.done p ∧ x.done p ≤ HX X :=
  ⟨((w.at hx).dn p hp).1, Int.le_trans ((hrs_b (w.at hx)).2 p hp) (sumA_mem _ (fun z hz => (hrs_b (w.ab z hz)).1) (List.mem_of_getElem? hx))⟩
theorem hx_0 {X : St} (w : WfS X) : 0 ≤ HX X := sumA_0 _ fun z hz => (hrs_b (w.ab z hz)).1
theorem HX_set {X : St} {a : Nat} {x y : Ap} (h : X.aps[a]? = some x) : HX (X.setA a y) = HX X - hrs x + hrs y := sumA_set h
theorem hrs_dbt (x : Ap) (f : En → Bool) : hrs (aDbt x f) = hrs x := by
  have h1 := hAll_flt f x.pend
  have h2 := hAll_app x.dbt (x.pend.filter f)
  show hAll (x.pend.filter (fun e => !f e)) + hAll (x.dbt ++ x.pend.filter f) + x.refused + (x.done 0 + x.done 1 + x.done 2) = hAll x.pend + hAll x.dbt + x.refused + (x.done 0 + x.done 1 + x.done 2)
  omega
theorem hrs_lead (x : Ap) (m : Int) : hrs (aLead x m) = hrs x := hrs_dbt x _
theorem hrs_pd (d : Int) (x : Ap) : hrs (pdA d x) = hrs x := hrs_dbt x _
theorem hrs_work (x : Ap) (p h d : Int) : hrs (aWork x p h d) = hrs x + h := by
  have h2 := hAll_app x.pend [(p, h, d, x.mentor)]
  have h3 : hAll [(p, h, d, x.mentor)] = h := by simp [ap_done, ap_pend, ap_dbt, ap_rel, ap_wrk, ap_trade, ap_mentor, ap_refused, ap_wdays, ap_today, ap_moves, st_day, st_needs, st_ments, st_aps, ap_eta, st_eta, hAll]
  show hAll (x.pend ++ [(p, h, d, x.mentor)]) + hAll x.dbt + x.refused + (x.done 0 + x.done 1 + x.done 2) = hAll x.pend + hAll x.dbt + x.refused + (x.done 0 + x.done 1 + x.done 2) + h
  omega
theorem hrs_take {X : St} {x : Ap} (w : WfA X x) (k : Int) : hrs (aTake x k) = hrs x := by
  have h1 := hAll_take x.mentor x.pend k
  have h2 := hAll_part (tkT x.mentor k x.pend) fun e he => w.ep e (tkT_mem _ _ _ _ he)
  have e0 := dAdds_p (tkT x.mentor k x.pend) x.done 0
  have e1 := dAdds_p (tkT x.mentor k x.pend) x.done 1
  have e2 := dAdds_p (tkT x.mentor k x.pend) x.done 2
  show hAll (tkR x.mentor k x.pend) + hAll x.dbt + x.refused + (dAdds x.done (tkT x.mentor k x.pend) 0 + dAdds x.done (tkT x.mentor k x.pend) 1 + dAdds x.done (tkT x.mentor k x.pend) 2) = hAll x.pend + hAll x.dbt + x.refused + (x.done 0 + x.done 1 + x.done 2)
  have c0 : ((0 : Nat) : Int) = 0 := rfl
  have c1 : ((1 : Nat) : Int) = 1 := rfl
  have c2 : ((2 : Nat) : Int) = 2 := rfl
  rw [e0, e1, e2, c0, c1, c2]
  omega
theorem hrs_done (x : Ap) {p : Int} (h : Int) (hp : 0 ≤ p ∧ p < 3) : hrs (aDone x p h) = hrs x + h := by
  show hAll x.pend + hAll x.dbt + x.refused + ((if p = ((0 : Nat) : Int) then x.done 0 + h else x.done 0) + (if p = ((1 : Nat) : Int) then x.done 1 + h else x.done 1) + (if p = ((2 : Nat) : Int) then x.done 2 + h else x.done 2)) = hAll x.pend + hAll x.dbt + x.refused + (x.done 0 + x.done 1 + x.done 2) + h
  have : p = 0 ∨ p = 1 ∨ p = 2 := by omega
  rcases this with rfl | rfl | rfl <;> simp <;> omega
theorem cfL_h {X : St} {m : Int} : ∀ (L : List Ap) (k : Int), (∀ x ∈ L, WfA X x) → sumA hrs (cfL m k L) = sumA hrs L
  | [], _, _ => by simp [ap_done, ap_pend, ap_dbt, ap_rel, ap_wrk, ap_trade, ap_mentor, ap_refused, ap_wdays, ap_today, ap_moves, st_day, st_needs, st_ments, st_aps, ap_eta, st_eta, cfL]
  | y :: L, k, h => by
    have hL : ∀ x ∈ L, WfA X x := fun z hz => h z (List.mem_cons_of_mem _ hz)
    rw [cfL]
    split
    · rw [sumA, sumA, cfL_h L _ hL, hrs_take (h y (List.mem_cons_self ..))]
    · rw [sumA, sumA, cfL_h L _ hL]
