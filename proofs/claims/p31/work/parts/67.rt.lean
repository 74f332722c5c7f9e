/-! ===== states stay well formed; counters grow by what a command can add ===== -/
def Cb (X : St) (n : Nat) : Prop := (∀ y ∈ X.ments, y.2.2 ≤ 99 * n) ∧ ∀ x ∈ X.aps, x.refused ≤ 12 * n ∧ x.wdays ≤ n ∧ x.moves ≤ n
def Wn (X : St) (n : Nat) : Prop := WfS X ∧ Cb X n
theorem Cb.mono {X : St} {n k : Nat} (h : Cb X n) (hk : n ≤ k) : Cb X k := ⟨fun y hy => by have := h.1 y hy; omega, fun x hx => by have := h.2 x hx; omega⟩
theorem Wn.mono {X : St} {n k : Nat} (h : Wn X n) (hk : n ≤ k) : Wn X k := ⟨h.1, h.2.mono hk⟩
theorem Cb.setA {X : St} {n a : Nat} {x : Ap} (h : Cb X n) (hx : x.refused ≤ 12 * n ∧ x.wdays ≤ n ∧ x.moves ≤ n) : Cb (X.setA a x) n := ⟨h.1, fun z hz => by
  unfold St.setA at hz
  rw [st_aps] at hz
  rcases List.mem_or_eq_of_mem_set hz with c | c
  · exact h.2 z c
  · subst c; exact hx⟩
theorem Wn.setA {X : St} {n a : Nat} {x : Ap} (h : Wn X n) (wa : WfA X x) (hx : x.refused ≤ 12 * ((n + 1 : Nat) : Int) ∧ x.wdays ≤ ((n + 1 : Nat) : Int) ∧ x.moves ≤ ((n + 1 : Nat) : Int)) : Wn (X.setA a x) (n + 1) := ⟨h.1.setA wa, (h.2.mono (by omega)).setA hx⟩
theorem wn_at {X : St} {n : Nat} {a : Int} (h : Wn X n) (ha : isA X a) : WfA X (apA X a) ∧ (apA X a).refused ≤ 12 * n ∧ (apA X a).wdays ≤ n ∧ (apA X a).moves ≤ n := ⟨h.1.at (apA_at ha), h.2.2 _ (List.mem_of_getElem? (apA_at ha))⟩
section WNN
variable {X : St} {n : Nat}
theorem wn_trade {p q s : Int} (h : Wn X n) : Wn (rTrade X p q s).2.1 (n + 1) := by
  unfold rTrade
  by_cases g : (0 ≤ p ∧ p ≤ 2000) ∧ (0 ≤ q ∧ q ≤ 2000) ∧ (0 ≤ s ∧ s ≤ 2000)
  · rw [pIf_n (fun c => c g)]
    by_cases g2 : X.needs.length = 5
    · rw [pIf_p g2]; exact h.mono (by omega)
    · rw [pIf_n g2]
      have l5 := h.1.l5
      refine ⟨⟨h.1.day, ?_, h.1.l6, h.1.l10, fun m hm => ?_, h.1.mb, fun x hx => ?_⟩, (h.2.mono (by omega)).1, (h.2.mono (by omega)).2⟩
      · unfold St.addT
        rw [st_needs, List.length_append]
        simp only [ap_done, ap_pend, ap_dbt, ap_rel, ap_wrk, ap_trade, ap_mentor, ap_refused, ap_wdays, ap_today, ap_moves, st_day, st_needs, st_ments, st_aps, ap_eta, st_eta, List.length_cons, List.length_nil]
        omega
      · unfold St.addT at hm
        rw [st_needs, List.mem_append] at hm
        rcases hm with c | c
        · exact h.1.nb m c
        · rw [List.mem_singleton] at c
          subst c
          intro p hp
          have : p = 0 ∨ p = 1 ∨ p = 2 := by omega
          rcases this with e | e | e <;> subst e
          · exact g.1
          · exact g.2.1
          · exact g.2.2
      · exact (h.1.ab x hx).of (by unfold St.addT; rw [st_needs, List.length_append]; omega) (Nat.le_refl _)
  · rw [pIf_p g]; exact h.mono (by omega)
theorem wn_mentor {p q : Int} (h : Wn X n) : Wn (rMentor X p q).2.1 (n + 1) := by
  unfold rMentor
  by_cases g : (1 ≤ p ∧ p ≤ 6) ∧ (0 ≤ q ∧ q ≤ 31)
  · rw [pIf_n (fun c => c g)]
    by_cases g2 : X.ments.length = 6
    · rw [pIf_p g2]; exact h.mono (by omega)
    · rw [pIf_n g2]
      have l6 := h.1.l6
      refine ⟨⟨h.1.day, h.1.l5, ?_, h.1.l10, h.1.nb, fun m hm => ?_, fun x hx => ?_⟩, fun m hm => ?_, (h.2.mono (by omega)).2⟩
      · unfold St.addM
        rw [st_ments, List.length_append]
        simp only [ap_done, ap_pend, ap_dbt, ap_rel, ap_wrk, ap_trade, ap_mentor, ap_refused, ap_wdays, ap_today, ap_moves, st_day, st_needs, st_ments, st_aps, ap_eta, st_eta, List.length_cons, List.length_nil]
        omega
      · unfold St.addM at hm
        rw [st_ments, List.mem_append] at hm
        rcases hm with c | c
        · exact h.1.mb m c
        · rw [List.mem_singleton] at c
          subst c
          exact ⟨g.1, g.2, (show (0 : Int) ≤ 0 ∧ (0 : Int) ≤ 100000000 from by decide)⟩
      · exact (h.1.ab x hx).of (Nat.le_refl _) (by unfold St.addM; rw [st_ments, List.length_append]; omega)
      · unfold St.addM at hm
        rw [st_ments, List.mem_append] at hm
        rcases hm with c | c
        · exact (h.2.mono (by omega)).1 m c
        · rw [List.mem_singleton] at c
          subst c
          show (0 : Int) ≤ _
          omega
  · rw [pIf_p g]; exact h.mono (by omega)
theorem wn_pupil {t m : Int} (h : Wn X n) : Wn (rPupil X t m).2.1 (n + 1) := by
  unfold rPupil
  by_cases g : okA X t m
  · rw [pIf_n (fun c => c g)]
    by_cases g2 : noA X t m
    · rw [pIf_p g2]; exact h.mono (by omega)
    · rw [pIf_n g2]
      have l10 := h.1.l10
      unfold noA at g2
      have hl : ¬ X.aps.length = 10 := fun c => g2 (Or.inl c)
      obtain ⟨g1, g3⟩ := g
      have wa : WfA X (ApN t m) := by
        unfold ApN
        refine ⟨g1.1, g1.2, ?_, ?_, fun p _ => (show (0 : Int) ≤ 0 ∧ (0 : Int) ≤ 2147483647 from by decide), (show 0 + 0 ≤ 20 from by decide), (show (0 : Int) ≤ 0 ∧ (0 : Int) ≤ 12 from by decide), (show (0 : Int) ≤ 0 ∧ (0 : Int) ≤ 100000000 from by decide), (show (0 : Int) ≤ 0 ∧ (0 : Int) ≤ 100000000 from by decide), (show (0 : Int) ≤ 0 ∧ (0 : Int) ≤ 100000000 from by decide), fun e he => absurd he List.not_mem_nil, fun e he => absurd he List.not_mem_nil⟩
        · rw [ap_mentor]; omega
        · rw [ap_mentor]; omega
      refine ⟨⟨h.1.day, h.1.l5, h.1.l6, ?_, h.1.nb, h.1.mb, fun x hx => ?_⟩, (h.2.mono (by omega)).1, fun x hx => ?_⟩
      · unfold St.addA
        rw [st_aps, List.length_append]
        simp only [ap_done, ap_pend, ap_dbt, ap_rel, ap_wrk, ap_trade, ap_mentor, ap_refused, ap_wdays, ap_today, ap_moves, st_day, st_needs, st_ments, st_aps, ap_eta, st_eta, List.length_cons, List.length_nil]
        omega
      · unfold St.addA at hx
        rw [st_aps, List.mem_append] at hx
        rcases hx with c | c
        · exact h.1.ab x c
        · rw [List.mem_singleton] at c
          subst c
          exact wa
      · unfold St.addA at hx
        rw [st_aps, List.mem_append] at hx
        rcases hx with c | c
        · exact (h.2.mono (by omega)).2 x c
        · rw [List.mem_singleton] at c
          subst c
          unfold ApN
          rw [ap_refused, ap_wdays, ap_moves]
          omega
  · rw [pIf_p g]; exact h.mono (by omega)
theorem wn_log {a p d : Int} (hn : n < 1000000) (h : Wn X n) : Wn (rLog X a p d).2.1 (n + 1) := by
  unfold rLog
  by_cases g : isA X a
  · rw [pIf_n (fun c => c g)]
    by_cases g2 : (0 ≤ p ∧ p ≤ 2) ∧ (1 ≤ d ∧ d ≤ 12)
    · rw [pIf_n (fun c => c g2)]
      by_cases g3 : canW X (apA X a) d
      · rw [pIf_n (fun c => c g3)]
        obtain ⟨wa, c1, c2, c3⟩ := wn_at h g
        generalize hx : apA X a = x at *
        obtain ⟨k1, k2, k3, k4⟩ := g3
        have wd := wa.wd
        have m0 := wa.m0
        have m1 := wa.m1
        have l6 := h.1.l6
        have td := wa.td
        unfold C9 at wd
        refine h.setA ⟨wa.t0, wa.t1, wa.m0, wa.m1, wa.dn, ?_, ?_, wa.rf, ?_, wa.mv, fun e he => ?_, wa.ed⟩ ?_
        · unfold aWork
          rw [ap_pend, ap_dbt, List.length_append]
          simp only [ap_done, ap_pend, ap_dbt, ap_rel, ap_wrk, ap_trade, ap_mentor, ap_refused, ap_wdays, ap_today, ap_moves, st_day, st_needs, st_ments, st_aps, ap_eta, st_eta, List.length_cons, List.length_nil]
          omega
        · unfold aWork
          rw [ap_today]
          omega
        · unfold aWork C9
          rw [ap_wdays]
          split <;> omega
        · unfold aWork at he
          rw [ap_pend, List.mem_append] at he
          rcases he with c | c
          · exact wa.ep e c
          · rw [List.mem_singleton] at c
            subst c
            exact ⟨g2.1, g2.2, h.1.day, by show 0 ≤ x.mentor; omega, by show x.mentor ≤ 5; omega⟩
        · unfold aWork
          rw [ap_refused, ap_wdays, ap_moves]
          refine ⟨by omega, ?_, by omega⟩
          split <;> omega
      · rw [pIf_p g3]; exact h.mono (by omega)
    · rw [pIf_p g2]; exact h.mono (by omega)
  · rw [pIf_p g]; exact h.mono (by omega)
theorem wn_move {a m : Int} (hn : n < 1000000) (h : Wn X n) : Wn (rMove X a m).2.1 (n + 1) := by
  unfold rMove
  by_cases g : isA X a ∧ isM X m
  · rw [pIf_n (fun c => c g)]
    by_cases g2 : obs X (apA X a) m = 0
    · rw [pIf_n (fun c => c g2)]
      obtain ⟨wa, c1, c2, c3⟩ := wn_at h g.1
      refine h.setA (wa.lead (by omega) g.2.2 (by omega)) ?_
      unfold aLead
      rw [ap_refused, ap_wdays, ap_moves]
      unfold aDbt
      rw [ap_refused, ap_wdays]
      omega
    · rw [pIf_p g2]; exact h.mono (by omega)
  · rw [pIf_p g]; exact h.mono (by omega)
end WNN
