/-! ===== states stay well formed: the rest ===== -/
section WNM
variable {X : St} {n : Nat}
theorem wn_swap {a b : Int} (hn : n < 1000000) (h : Wn X n) : Wn (rSwap X a b).2.1 (n + 1) := by
  unfold rSwap
  by_cases g : isA X a ∧ isA X b
  · rw [pIf_n (fun c => c g)]
    by_cases g2 : a = b
    · rw [pIf_p g2]; exact h.mono (by omega)
    · rw [pIf_n g2]
      by_cases g3 : cExc X (apA X a) (apA X b)
      · rw [pIf_n (fun c => c g3)]
        obtain ⟨wa, c1, c2, c3⟩ := wn_at h g.1
        obtain ⟨wb, d1, d2, d3⟩ := wn_at h g.2
        have h1 : WfS (X.setA a.toNat (aLead (apA X a) (apA X b).mentor)) := h.1.setA (wa.lead wb.m0 wb.m1 (by omega))
        have k1 : Cb (X.setA a.toNat (aLead (apA X a) (apA X b).mentor)) (n + 1) := (h.2.mono (by omega)).setA (by
          unfold aLead
          rw [ap_refused, ap_wdays, ap_moves]
          unfold aDbt
          rw [ap_refused, ap_wdays]
          omega)
        refine ⟨h1.setA (wb.lead wa.m0 wa.m1 (by omega)), k1.setA ?_⟩
        unfold aLead
        rw [ap_refused, ap_wdays, ap_moves]
        unfold aDbt
        rw [ap_refused, ap_wdays]
        omega
      · rw [pIf_p g3]; exact h.mono (by omega)
  · rw [pIf_p g]; exact h.mono (by omega)
theorem wn_free {a d : Int} (h : Wn X n) : Wn (rFree X a d).2.1 (n + 1) := by
  unfold rFree
  by_cases g : isA X a
  · rw [pIf_n (fun c => c g)]
    by_cases g2 : 0 ≤ d ∧ d ≤ 199
    · rw [pIf_n (fun c => c g2)]
      by_cases g3 : hasD (apA X a).wrk d
      · rw [pIf_p g3]; exact h.mono (by omega)
      · rw [pIf_n g3]
        obtain ⟨wa, c1, c2, c3⟩ := wn_at h g
        refine h.setA ⟨wa.t0, wa.t1, wa.m0, wa.m1, wa.dn, wa.ln, wa.td, wa.rf, wa.wd, wa.mv, wa.ep, wa.ed⟩ ?_
        rw [ap_refused, ap_wdays, ap_moves]
        omega
    · rw [pIf_p g2]; exact h.mono (by omega)
  · rw [pIf_p g]; exact h.mono (by omega)
theorem cfL_cb (m : Int) {P : Ap → Prop} (hP : ∀ x k, P x → P (aTake x k)) : ∀ (L : List Ap) (k : Int), (∀ x ∈ L, P x) → ∀ x ∈ cfL m k L, P x
  | [], k, _, x, hx => by simp [ap_done, ap_pend, ap_dbt, ap_rel, ap_wrk, ap_trade, ap_mentor, ap_refused, ap_wdays, ap_today, ap_moves, st_day, st_needs, st_ments, st_aps, ap_eta, st_eta, cfL] at hx
  | y :: L, k, hw, x, hx => by
    have hL : ∀ z ∈ L, P z := fun z hz => hw z (List.mem_cons_of_mem _ hz)
    rw [cfL] at hx
    by_cases g : y.mentor = m
    · rw [if_pos g] at hx
      rcases List.mem_cons.mp hx with h | h
      · subst h
        exact hP y k (hw y (List.mem_cons_self ..))
      · exact cfL_cb m hP L _ hL x h
    · rw [if_neg g] at hx
      rcases List.mem_cons.mp hx with h | h
      · subst h; exact hw _ (List.mem_cons_self ..)
      · exact cfL_cb m hP L _ hL x h
theorem wn_conf {m k : Int} (hn : n < 1000000) (h : Wn X n) : Wn (rConf X m k).2.1 (n + 1) := by
  unfold rConf
  by_cases g : isM X m
  · rw [pIf_n (fun c => c g)]
    by_cases g2 : 1 ≤ k ∧ k ≤ 99
    · rw [pIf_n (fun c => c g2)]
      by_cases g3 : cCf m k X.aps
      · rw [pIf_n (fun c => c g3)]
        have hy := mt_at g.1 g.2
        have em : ((m.toNat : Nat) : Int) = m := by have := g.1; omega
        have hc := (okCf_iff (X := X) m X.aps k (by omega) h.1.ab).mpr g3
        have hb := cfN_b m X.aps k (by omega)
        have hm := h.2.1 _ (List.mem_of_getElem? hy)
        refine ⟨h.1.conf hy (by omega) (by rw [em]; exact hc) (by rw [em]; omega), fun y hy2 => ?_, ?_⟩
        · unfold St.conf at hy2
          rw [st_ments] at hy2
          rcases List.mem_or_eq_of_mem_set hy2 with c | c
          · exact (h.2.mono (by omega)).1 y c
          · subst c
            show (mt X m).2.2 + cfN _ k X.aps ≤ _
            rw [em]
            omega
        · unfold St.conf
          rw [st_aps]
          exact cfL_cb _ (P := fun x => x.refused ≤ 12 * ((n + 1 : Nat) : Int) ∧ x.wdays ≤ ((n + 1 : Nat) : Int) ∧ x.moves ≤ ((n + 1 : Nat) : Int)) (fun x k hx => hx) _ _ (h.2.mono (by omega)).2
      · rw [pIf_p g3]; exact h.mono (by omega)
    · rw [pIf_p g2]; exact h.mono (by omega)
  · rw [pIf_p g]; exact h.mono (by omega)
theorem wn_doubt {a : Int} (h : Wn X n) : Wn (rDoubt X a).2.1 (n + 1) := by
  unfold rDoubt
  by_cases g : isA X a
  · rw [pIf_n (fun c => c g)]
    by_cases g2 : (apA X a).mentor = -1 ∨ (apA X a).pend = []
    · rw [pIf_p g2]; exact h.mono (by omega)
    · rw [pIf_n g2]
      obtain ⟨wa, c1, c2, c3⟩ := wn_at h g
      cases hp : (apA X a).pend with
      | nil => exact absurd (Or.inr hp) g2
      | cons e L =>
        have hln := wa.ln
        have hep := wa.ep
        rw [hp] at hln hep
        simp only [ap_done, ap_pend, ap_dbt, ap_rel, ap_wrk, ap_trade, ap_mentor, ap_refused, ap_wdays, ap_today, ap_moves, st_day, st_needs, st_ments, st_aps, ap_eta, st_eta, List.length_cons] at hln
        refine h.setA ⟨wa.t0, wa.t1, wa.m0, wa.m1, wa.dn, ?_, wa.td, wa.rf, wa.wd, wa.mv, fun f hf => ?_, fun f hf => ?_⟩ ?_
        · rw [ap_pend, ap_dbt, List.length_append]
          simp only [ap_done, ap_pend, ap_dbt, ap_rel, ap_wrk, ap_trade, ap_mentor, ap_refused, ap_wdays, ap_today, ap_moves, st_day, st_needs, st_ments, st_aps, ap_eta, st_eta, List.tail_cons, List.length_cons, List.length_nil]
          omega
        · rw [ap_pend] at hf
          exact hep f (List.mem_cons_of_mem _ hf)
        · rw [ap_dbt, List.mem_append] at hf
          rcases hf with c | c
          · exact wa.ed f c
          · rw [List.mem_singleton] at c
            subst c
            exact hep _ (List.mem_cons_self ..)
        · rw [ap_refused, ap_wdays, ap_moves]
          omega
  · rw [pIf_p g]; exact h.mono (by omega)
theorem wn_settle {a b : Int} (hn : n < 1000000) (h : Wn X n) : Wn (rSettle X a b).2.1 (n + 1) := by
  unfold rSettle
  by_cases g : isA X a
  · rw [pIf_n (fun c => c g)]
    by_cases g2 : cSet (apA X a) (¬ b = 0)
    · rw [pIf_n (fun c => c g2)]
      obtain ⟨wa, c1, c2, c3⟩ := wn_at h g
      unfold cSet at g2
      cases hp : (apA X a).dbt with
      | nil => rw [hp] at g2; exact absurd g2 (fun c => c)
      | cons e L =>
        rw [hp] at g2
        have hln := wa.ln
        have hed := wa.ed
        rw [hp] at hln hed
        simp only [ap_done, ap_pend, ap_dbt, ap_rel, ap_wrk, ap_trade, ap_mentor, ap_refused, ap_wdays, ap_today, ap_moves, st_day, st_needs, st_ments, st_aps, ap_eta, st_eta, List.length_cons] at hln
        have he := hed e (List.mem_cons_self ..)
        have e1 := he.1
        have e2 := he.2.1
        have rf := wa.rf
        unfold C9 at rf
        show Wn (X.setA a.toNat (aSet (apA X a) b e L)) (n + 1)
        unfold aSet
        by_cases hb : b = 0
        · rw [if_pos hb]
          refine h.setA ⟨wa.t0, wa.t1, wa.m0, wa.m1, wa.dn, ?_, wa.td, ?_, wa.wd, wa.mv, wa.ep, fun f hf => ?_⟩ ?_
          · rw [ap_pend, ap_dbt]; omega
          · rw [ap_refused]; unfold C9; omega
          · rw [ap_dbt] at hf
            exact hed f (List.mem_cons_of_mem _ hf)
          · rw [ap_refused, ap_wdays, ap_moves]
            omega
        · rw [if_neg hb]
          have c0 := g2 hb
          unfold cAdd dIn at c0
          rw [if_pos (by omega)] at c0
          refine h.setA ⟨wa.t0, wa.t1, wa.m0, wa.m1, fun q hq => ?_, ?_, wa.td, wa.rf, wa.wd, wa.mv, wa.ep, fun f hf => ?_⟩ ?_
          · have := wa.dn q hq
            simp only [ap_done, ap_pend, ap_dbt, ap_rel, ap_wrk, ap_trade, ap_mentor, ap_refused, ap_wdays, ap_today, ap_moves, st_day, st_needs, st_ments, st_aps, ap_eta, st_eta, ap_done]
            unfold dAdd
            by_cases h3 : e.1 = q
            · have hqq : e.1.toNat = q := by omega
              rw [hqq] at c0
              rw [if_pos h3]; exact c0
            · rw [if_neg h3]; exact this
          · rw [ap_pend, ap_dbt]; omega
          · rw [ap_dbt] at hf
            exact hed f (List.mem_cons_of_mem _ hf)
          · rw [ap_refused, ap_wdays, ap_moves]
            omega
    · rw [pIf_p g2]; exact h.mono (by omega)
  · rw [pIf_p g]; exact h.mono (by omega)
theorem wn_pd (h : Wn X n) (hd : X.day < 9999) : Wn X.pass n := ⟨h.1.pass hd, h.2.1, fun x hx => by
  unfold St.pass at hx
  rw [st_aps, List.mem_map] at hx
  obtain ⟨z, hz, rfl⟩ := hx
  exact h.2.2 z hz⟩
theorem wn_end (h : Wn X n) : Wn (rEnd X).2.1 (n + 1) := by
  unfold rEnd
  by_cases g : X.day = 9999
  · rw [pIf_p g]; exact h.mono (by omega)
  · rw [pIf_n g]
    have := h.1.day
    exact (wn_pd h (by omega)).mono (by omega)
theorem wn_credit {a p d : Int} (h : Wn X n) : Wn (rCredit X a p d).2.1 (n + 1) := by
  unfold rCredit
  by_cases g : isA X a
  · rw [pIf_n (fun c => c g)]
    by_cases g2 : 0 ≤ p ∧ p ≤ 2
    · rw [pIf_n (fun c => c g2)]
      by_cases g3 : cAdd (apA X a) p d
      · rw [pIf_n (fun c => c g3)]
        obtain ⟨wa, c1, c2, c3⟩ := wn_at h g
        unfold cAdd dIn at g3
        rw [if_pos (by omega)] at g3
        refine h.setA ⟨wa.t0, wa.t1, wa.m0, wa.m1, fun q hq => ?_, wa.ln, wa.td, wa.rf, wa.wd, wa.mv, wa.ep, wa.ed⟩ ?_
        · have := wa.dn q hq
          unfold aDone
          simp only [ap_done, ap_pend, ap_dbt, ap_rel, ap_wrk, ap_trade, ap_mentor, ap_refused, ap_wdays, ap_today, ap_moves, st_day, st_needs, st_ments, st_aps, ap_eta, st_eta, ap_done]
          by_cases h3 : p = q
          · have hqq : p.toNat = q := by omega
            rw [hqq] at g3
            rw [if_pos h3]; exact g3
          · rw [if_neg h3]; exact this
        · unfold aDone
          rw [ap_refused, ap_wdays, ap_moves]
          omega
      · rw [pIf_p g3]; exact h.mono (by omega)
    · rw [pIf_p g2]; exact h.mono (by omega)
  · rw [pIf_p g]; exact h.mono (by omega)
theorem wn_leave {a : Int} (h : Wn X n) : Wn (rLeave X a).2.1 (n + 1) := by
  unfold rLeave
  by_cases g : isA X a
  · rw [pIf_n (fun c => c g)]
    by_cases g2 : (apA X a).mentor = -1
    · rw [pIf_p g2]; exact h.mono (by omega)
    · rw [pIf_n g2]
      obtain ⟨wa, c1, c2, c3⟩ := wn_at h g
      have m1 := wa.m1
      refine h.setA ⟨wa.t0, wa.t1, ?_, ?_, wa.dn, wa.ln, wa.td, wa.rf, wa.wd, wa.mv, wa.ep, wa.ed⟩ ?_
      · rw [ap_mentor]; omega
      · rw [ap_mentor]; omega
      · rw [ap_refused, ap_wdays, ap_moves]
        omega
  · rw [pIf_p g]; exact h.mono (by omega)
end WNM
