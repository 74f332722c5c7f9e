/-! ===== the class: what is done, where nothing is refused ===== -/
theorem pIf0 {P : Prop} {p : Int} {X : St} {v : Int} {B : Rs} (hp : ¬ p = 0) (h : (pIf P (p, X, v) B).1 = 0) : ¬ P ∧ pIf P (p, X, v) B = B := by
  by_cases g : P
  · rw [pIf_p g] at h; exact absurd h hp
  · exact ⟨g, pIf_n g⟩
section SPSt
variable {l : Launch} {G : GT} {M : Mm} {Q : PQ} {QX : PX} {X : St} {S : Nat} {v w u : Int32}
theorem s7_trade (h : StAt M S X) (h0 : (rTrade X v.toInt w.toInt u.toInt).1 = 0) (hQ : ∀ M', StAt M' S (rTrade X v.toInt w.toInt u.toInt).2.1 → Sm M M' S (S + 214) → qi Q M' (rTrade X v.toInt w.toInt u.toInt).2.2) : Tr true l G Y_X7_putTrade [.ref S, .int v, .int w, .int u] M Q QX := by
  unfold rTrade at h0 hQ
  obtain ⟨g1, e1⟩ := pIf0 (by decide) h0
  rw [e1] at h0 hQ
  obtain ⟨g2, e2⟩ := pIf0 (by decide) h0
  rw [e2] at hQ
  have l5 := h.l5
  exact sp_X7_putTrade h (by omega) hQ
theorem s7_mentor (h : StAt M S X) (h0 : (rMentor X v.toInt w.toInt).1 = 0) (hQ : ∀ M', StAt M' S (rMentor X v.toInt w.toInt).2.1 → Sm M M' S (S + 214) → qi Q M' (rMentor X v.toInt w.toInt).2.2) : Tr true l G Y_X7_putMentor [.ref S, .int v, .int w] M Q QX := by
  unfold rMentor at h0 hQ
  obtain ⟨g1, e1⟩ := pIf0 (by decide) h0
  rw [e1] at h0 hQ
  obtain ⟨g2, e2⟩ := pIf0 (by decide) h0
  rw [e2] at hQ
  have l6 := h.l6
  exact sp_X7_putMentor h (by omega) hQ
theorem s7_pupil (h : StAt M S X) (h0 : (rPupil X v.toInt w.toInt).1 = 0) (hQ : ∀ M', StAt M' S (rPupil X v.toInt w.toInt).2.1 → Sm M M' S (S + 214) → qi Q M' (rPupil X v.toInt w.toInt).2.2) : Tr true l G Y_X7_putApprentice [.ref S, .int v, .int w] M Q QX := by
  unfold rPupil at h0 hQ
  obtain ⟨g1, e1⟩ := pIf0 (by decide) h0
  rw [e1] at h0 hQ
  obtain ⟨g2, e2⟩ := pIf0 (by decide) h0
  rw [e2] at hQ
  have l10 := h.l10
  have g3 : ¬ X.aps.length = 10 := fun c => g2 (Or.inl c)
  exact sp_X7_putApprentice h (by omega) hQ
theorem s7_log (h : StAt M S X) (ws : WfS X) (h0 : (rLog X v.toInt w.toInt u.toInt).1 = 0) (hQ : ∀ M', StAt M' S (rLog X v.toInt w.toInt u.toInt).2.1 → Sm M M' S (S + 214) → qi Q M' (rLog X v.toInt w.toInt u.toInt).2.2) : Tr true l G Y_X7_putWork [.ref S, .int v, .int w, .int u] M Q QX := by
  unfold rLog at h0 hQ
  obtain ⟨g1, e1⟩ := pIf0 (by decide) h0
  rw [e1] at h0 hQ
  obtain ⟨g2, e2⟩ := pIf0 (by decide) h0
  rw [e2] at h0 hQ
  obtain ⟨g3, e3⟩ := pIf0 (by decide) h0
  rw [e3] at hQ
  have a1 := Decidable.not_not.mp g1
  have a2 := Decidable.not_not.mp g2
  have a3 := Classical.not_not.mp g3
  have wa := ws.at (apA_at a1)
  have m0 := wa.m0
  have m1 := wa.m1
  have l6 := ws.l6
  obtain ⟨k1, k2, k3, k4⟩ := a3
  exact sp_X7_putWork (a := v.toInt.toNat) h (by omega) (apA_at a1) wa ⟨a2.1, a2.2, ws.day, by show 0 ≤ (apA X v.toInt).mentor; omega, by show (apA X v.toInt).mentor ≤ 5; omega⟩ (by omega) hQ
theorem s7_move (h : StAt M S X) (ws : WfS X) (h0 : (rMove X v.toInt w.toInt).1 = 0) (hQ : ∀ M', StAt M' S (rMove X v.toInt w.toInt).2.1 → Sm M M' S (S + 214) → qi Q M' (rMove X v.toInt w.toInt).2.2) : Tr true l G Y_X7_moveTo [.ref S, .int v, .int w] M Q QX := by
  unfold rMove at h0 hQ
  obtain ⟨g1, e1⟩ := pIf0 (by decide) h0
  rw [e1] at h0 hQ
  obtain ⟨g2, e2⟩ := pIf0 (by decide) h0
  rw [e2] at hQ
  have a1 := (Decidable.not_not.mp g1).1
  exact sp_X7_moveTo (a := v.toInt.toNat) h (by omega) (apA_at a1) (ws.at (apA_at a1)) hQ
theorem s7_swap (h : StAt M S X) (ws : WfS X) (h0 : (rSwap X v.toInt w.toInt).1 = 0) (hQ : ∀ M', StAt M' S (rSwap X v.toInt w.toInt).2.1 → Sm M M' S (S + 214) → qi Q M' (rSwap X v.toInt w.toInt).2.2) : Tr true l G Y_X7_exchangeBoth [.ref S, .int v, .int w] M Q QX := by
  unfold rSwap at h0 hQ
  obtain ⟨g1, e1⟩ := pIf0 (by decide) h0
  rw [e1] at h0 hQ
  obtain ⟨g2, e2⟩ := pIf0 (by decide) h0
  rw [e2] at h0 hQ
  obtain ⟨g3, e3⟩ := pIf0 (by decide) h0
  rw [e3] at hQ
  have a1 := Decidable.not_not.mp g1
  have b1 := a1.1
  have b2 := a1.2
  exact sp_X7_exchangeBoth (a := v.toInt.toNat) (b := w.toInt.toNat) h (by omega) (apA_at a1.1) (by omega) (apA_at a1.2) (by omega) (ws.at (apA_at a1.1)) (ws.at (apA_at a1.2)) hQ
theorem s7_free (h : StAt M S X) (h0 : (rFree X v.toInt w.toInt).1 = 0) (hQ : ∀ M', StAt M' S (rFree X v.toInt w.toInt).2.1 → Sm M M' S (S + 214) → qi Q M' (rFree X v.toInt w.toInt).2.2) : Tr true l G Y_X7_putRelease [.ref S, .int v, .int w] M Q QX := by
  unfold rFree at h0 hQ
  obtain ⟨g1, e1⟩ := pIf0 (by decide) h0
  rw [e1] at h0 hQ
  obtain ⟨g2, e2⟩ := pIf0 (by decide) h0
  rw [e2] at h0 hQ
  obtain ⟨g3, e3⟩ := pIf0 (by decide) h0
  rw [e3] at hQ
  have a1 := Decidable.not_not.mp g1
  exact sp_X7_putRelease (a := v.toInt.toNat) h (by omega) (apA_at a1) hQ
theorem s7_conf (h : StAt M S X) (ws : WfS X) (h0 : (rConf X v.toInt w.toInt).1 = 0) (hQ : ∀ M', StAt M' S (rConf X v.toInt w.toInt).2.1 → Sm M M' S (S + 214) → qi Q M' (rConf X v.toInt w.toInt).2.2) : Tr true l G Y_X7_confirmPending [.ref S, .int v, .int w] M Q QX := by
  unfold rConf at h0 hQ
  obtain ⟨g1, e1⟩ := pIf0 (by decide) h0
  rw [e1] at h0 hQ
  obtain ⟨g2, e2⟩ := pIf0 (by decide) h0
  rw [e2] at h0 hQ
  obtain ⟨g3, e3⟩ := pIf0 (by decide) h0
  rw [e3] at hQ
  have a1 := Decidable.not_not.mp g1
  have a2 := Decidable.not_not.mp g2
  have a3 := Classical.not_not.mp g3
  have ev : ((v.toInt.toNat : Nat) : Int) = v.toInt := by have := a1.1; omega
  refine sp_X7_confirmPending h ws a1.1 (mt_at a1.1 a1.2) (by omega) a3 fun M2 s2 m2 => hQ M2 ?_ m2
  unfold St.conf
  rw [ev]
  exact s2
theorem s7_doubt (h : StAt M S X) (ws : WfS X) (h0 : (rDoubt X v.toInt).1 = 0) (hQ : ∀ M', StAt M' S (rDoubt X v.toInt).2.1 → Sm M M' S (S + 214) → qi Q M' (rDoubt X v.toInt).2.2) : Tr true l G Y_X7_doubtOldest [.ref S, .int v] M Q QX := by
  unfold rDoubt at h0 hQ
  obtain ⟨g1, e1⟩ := pIf0 (by decide) h0
  rw [e1] at h0 hQ
  obtain ⟨g2, e2⟩ := pIf0 (by decide) h0
  rw [e2] at hQ
  have a1 := Decidable.not_not.mp g1
  have wa := ws.at (apA_at a1)
  have ln := wa.ln
  cases hp : (apA X v.toInt).pend with
  | nil => exact absurd (Or.inr hp) g2
  | cons e L =>
    rw [hp] at hQ ln
    simp only [ap_done, ap_pend, ap_dbt, ap_rel, ap_wrk, ap_trade, ap_mentor, ap_refused, ap_wdays, ap_today, ap_moves, st_day, st_needs, st_ments, st_aps, ap_eta, st_eta, List.length_cons] at ln
    exact sp_X7_doubtOldest (a := v.toInt.toNat) h (by omega) (apA_at a1) hp (by omega) hQ
theorem s7_settle (h : StAt M S X) (ws : WfS X) (h0 : (rSettle X v.toInt w.toInt).1 = 0) (hQ : ∀ M', StAt M' S (rSettle X v.toInt w.toInt).2.1 → Sm M M' S (S + 214) → qi Q M' (rSettle X v.toInt w.toInt).2.2) : Tr true l G Y_X7_settleOldest [.ref S, .int v, .int w] M Q QX := by
  unfold rSettle at h0 hQ
  obtain ⟨g1, e1⟩ := pIf0 (by decide) h0
  rw [e1] at h0 hQ
  obtain ⟨g2, e2⟩ := pIf0 (by decide) h0
  rw [e2] at hQ
  have a1 := Decidable.not_not.mp g1
  have a2 := Classical.not_not.mp g2
  have wa := ws.at (apA_at a1)
  unfold cSet at a2
  cases hp : (apA X v.toInt).dbt with
  | nil => rw [hp] at a2; exact absurd a2 fun c => c
  | cons e L =>
    rw [hp] at a2 hQ
    exact sp_X7_settleOldest (a := v.toInt.toNat) h (by omega) (apA_at a1) wa hp a2 hQ
theorem s7_credit (h : StAt M S X) (h0 : (rCredit X v.toInt w.toInt u.toInt).1 = 0) (hQ : ∀ M', StAt M' S (rCredit X v.toInt w.toInt u.toInt).2.1 → Sm M M' S (S + 214) → qi Q M' (rCredit X v.toInt w.toInt u.toInt).2.2) : Tr true l G Y_X7_putCredit [.ref S, .int v, .int w, .int u] M Q QX := by
  unfold rCredit at h0 hQ
  obtain ⟨g1, e1⟩ := pIf0 (by decide) h0
  rw [e1] at h0 hQ
  obtain ⟨g2, e2⟩ := pIf0 (by decide) h0
  rw [e2] at h0 hQ
  obtain ⟨g3, e3⟩ := pIf0 (by decide) h0
  rw [e3] at hQ
  have a1 := Decidable.not_not.mp g1
  have a2 := Decidable.not_not.mp g2
  have ew : w.toInt = ((w.toInt.toNat : Nat) : Int) := by omega
  refine sp_X7_putCredit (a := v.toInt.toNat) (k := w.toInt.toNat) h (by omega) (apA_at a1) ew (by omega) (Classical.not_not.mp g3) fun M' s' m' => hQ M' ?_ m'
  rw [ew]
  exact s'
theorem s7_leave (h : StAt M S X) (h0 : (rLeave X v.toInt).1 = 0) (hQ : ∀ M', StAt M' S (rLeave X v.toInt).2.1 → Sm M M' S (S + 214) → qi Q M' (rLeave X v.toInt).2.2) : Tr true l G Y_X7_takeFromMentor [.ref S, .int v] M Q QX := by
  unfold rLeave at h0 hQ
  obtain ⟨g1, e1⟩ := pIf0 (by decide) h0
  rw [e1] at h0 hQ
  obtain ⟨g2, e2⟩ := pIf0 (by decide) h0
  rw [e2] at hQ
  have a1 := Decidable.not_not.mp g1
  exact sp_X7_takeFromMentor (a := v.toInt.toNat) h (by omega) (apA_at a1) hQ
theorem s7_end (h : StAt M S X) (ws : WfS X) (h0 : (rEnd X).1 = 0) (hQ : ∀ M', StAt M' S (rEnd X).2.1 → Sm M M' S (S + 214) → qi Q M' (rEnd X).2.2) : Tr true l G Y_X7_passDays [.ref S, .int 1] M Q QX := by
  unfold rEnd at h0 hQ
  obtain ⟨g1, e1⟩ := pIf0 (by decide) h0
  rw [e1] at hQ
  have dy := ws.day
  refine sp_X7_passDays (n := 1) h ws rfl (by omega) fun M2 h2 m2 => ?_
  have e : pdNN X 1 = pdN X.day X.aps := by simp [ap_done, ap_pend, ap_dbt, ap_rel, ap_wrk, ap_trade, ap_mentor, ap_refused, ap_wdays, ap_today, ap_moves, st_day, st_needs, st_ments, st_aps, ap_eta, st_eta, pdNN]
  rw [e]
  exact hQ M2 h2 m2
theorem s7_pass (h : StAt M S X) (ws : WfS X) (h0 : (rPass X v.toInt).1 = 0) (hQ : ∀ M', StAt M' S (rPass X v.toInt).2.1 → Sm M M' S (S + 214) → ∀ r : Int32, Q (some (.int r)) M') : Tr true l G Y_X7_passDays [.ref S, .int v] M Q QX := by
  unfold rPass at h0 hQ
  obtain ⟨g1, e1⟩ := pIf0 (by decide) h0
  rw [e1] at h0 hQ
  obtain ⟨g2, e2⟩ := pIf0 (by decide) h0
  rw [e2] at hQ
  have a1 := Decidable.not_not.mp g1
  have a2 := Decidable.not_not.mp g2
  exact sp_X7_passDays (n := v.toInt.toNat) h ws (by omega) (by omega) fun M2 h2 m2 r _ => hQ M2 h2 m2 r
end SPSt
