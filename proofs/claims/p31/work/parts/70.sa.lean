/-! ===== bounds of what operations come to ===== -/
abbrev rOk (R : Rs) : Prop := (0 ≤ R.1 ∧ R.1 ≤ 3) ∧ (-2147483648 ≤ R.2.2 ∧ R.2.2 ≤ 2147483647)
theorem rOk_p {P : Prop} {A B : Rs} (ha : P → rOk A) (hb : ¬ P → rOk B) : rOk (pIf P A B) := by
  by_cases h : P
  · rw [pIf_p h]; exact ha h
  · rw [pIf_n h]; exact hb h
theorem rOk_e {p : Int} {X : St} (h : 0 ≤ p ∧ p ≤ 3) : rOk (p, X, 0) := ⟨h, by show (-2147483648 : Int) ≤ 0; decide, by show (0 : Int) ≤ 2147483647; decide⟩
theorem rOk_0 {X : St} {v : Int} (h : -2147483648 ≤ v ∧ v ≤ 2147483647) : rOk (0, X, v) := ⟨⟨by show (0 : Int) ≤ 0; decide, by show (0 : Int) ≤ 3; decide⟩, h⟩
section RBB
variable {X : St}
theorem rb_trade (ws : WfS X) {p q s : Int} : rOk (rTrade X p q s) := by
  have := ws.l5
  exact rOk_p (fun _ => rOk_e (by decide)) fun _ => rOk_p (fun _ => rOk_e (by decide)) fun _ => rOk_0 (by omega)
theorem rb_mentor (ws : WfS X) {p q : Int} : rOk (rMentor X p q) := by
  have := ws.l6
  exact rOk_p (fun _ => rOk_e (by decide)) fun _ => rOk_p (fun _ => rOk_e (by decide)) fun _ => rOk_0 (by omega)
theorem rb_pupil (ws : WfS X) {p q : Int} : rOk (rPupil X p q) := by
  have := ws.l10
  exact rOk_p (fun _ => rOk_e (by decide)) fun _ => rOk_p (fun _ => rOk_e (by decide)) fun _ => rOk_0 (by omega)
theorem rb_log (ws : WfS X) {a p q : Int} : rOk (rLog X a p q) := by
  refine rOk_p (fun _ => rOk_e (by decide)) fun g => rOk_p (fun _ => rOk_e (by decide)) fun _ => rOk_p (fun _ => rOk_e (by decide)) fun _ => rOk_0 ?_
  have := (ws.at (apA_at (Decidable.not_not.mp g))).ln
  omega
theorem rb_move (ws : WfS X) {a m : Int} : rOk (rMove X a m) := by
  refine rOk_p (fun _ => rOk_e (by decide)) fun g => rOk_p (fun _ => rOk_e (by decide)) fun _ => rOk_0 ?_
  have := (ws.at (apA_at (Decidable.not_not.mp g).1)).ln
  have h3 : ((apA X a).pend.filter (fun e => decide (¬ e.2.2.2 = m))).length ≤ (apA X a).pend.length := List.length_filter_le _ _
  omega
theorem rb_swap (ws : WfS X) {a b : Int} : rOk (rSwap X a b) := by
  refine rOk_p (fun _ => rOk_e (by decide)) fun g => rOk_p (fun _ => rOk_e (by decide)) fun _ => rOk_p (fun _ => rOk_e (by decide)) fun _ => rOk_0 ?_
  have h1 := (ws.at (apA_at (Decidable.not_not.mp g).1)).ln
  have h2 := (ws.at (apA_at (Decidable.not_not.mp g).2)).ln
  have h3 : ((apA X a).pend.filter (fun e => decide (¬ e.2.2.2 = (apA X b).mentor))).length ≤ (apA X a).pend.length := List.length_filter_le _ _
  have h4 : ((apA X b).pend.filter (fun e => decide (¬ e.2.2.2 = (apA X a).mentor))).length ≤ (apA X b).pend.length := List.length_filter_le _ _
  omega
theorem rb_free (ws : WfS X) {a d : Int} : rOk (rFree X a d) := by
  refine rOk_p (fun _ => rOk_e (by decide)) fun g => rOk_p (fun _ => rOk_e (by decide)) fun _ => rOk_p (fun _ => rOk_e (by decide)) fun _ => rOk_0 ?_
  have := cnt_b (sPutI (apA X a).rel d) 200
  omega
theorem rb_conf (ws : WfS X) {m k : Int} : rOk (rConf X m k) := by
  refine rOk_p (fun _ => rOk_e (by decide)) fun g => rOk_p (fun _ => rOk_e (by decide)) fun g2 => rOk_p (fun _ => rOk_e (by decide)) fun _ => rOk_0 ?_
  have g3 := Decidable.not_not.mp g2
  have := cfN_b m X.aps k (by omega)
  omega
theorem hdE_b {L : List En} (h : ∀ e ∈ L, EW e) : 0 ≤ (hdE L).2.1 ∧ (hdE L).2.1 ≤ 12 := by
  cases L with
  | nil => exact ⟨by show (0 : Int) ≤ 0; decide, by show (0 : Int) ≤ 12; decide⟩
  | cons e L =>
    have := (h e (List.mem_cons_self ..)).2.1
    exact ⟨by show 0 ≤ e.2.1; omega, by show e.2.1 ≤ 12; omega⟩
theorem rb_doubt (ws : WfS X) {a : Int} : rOk (rDoubt X a) := by
  refine rOk_p (fun _ => rOk_e (by decide)) fun g => rOk_p (fun _ => rOk_e (by decide)) fun _ => rOk_0 ?_
  have := hdE_b (ws.at (apA_at (Decidable.not_not.mp g))).ep
  omega
theorem rb_settle (ws : WfS X) {a b : Int} : rOk (rSettle X a b) := by
  refine rOk_p (fun _ => rOk_e (by decide)) fun g => rOk_p (fun _ => rOk_e (by decide)) fun _ => rOk_0 ?_
  have := hdE_b (ws.at (apA_at (Decidable.not_not.mp g))).ed
  omega
theorem rb_credit (ws : WfS X) {a p h : Int} : rOk (rCredit X a p h) := by
  refine rOk_p (fun _ => rOk_e (by decide)) fun g => rOk_p (fun _ => rOk_e (by decide)) fun g2 => rOk_p (fun _ => rOk_e (by decide)) fun g3 => rOk_0 ?_
  have c := Classical.not_not.mp g3
  unfold cAdd dIn at c
  rw [if_pos (by omega)] at c
  omega
theorem rb_leave (ws : WfS X) {a : Int} : rOk (rLeave X a) := by
  refine rOk_p (fun _ => rOk_e (by decide)) fun g => rOk_p (fun _ => rOk_e (by decide)) fun g2 => rOk_0 ?_
  have wa := ws.at (apA_at (Decidable.not_not.mp g))
  have h0 := wa.m0
  have h1 := wa.m1
  have h2 := ws.l6
  omega
end RBB
/-! ===== the reference: its public operations ===== -/
section SPSa
variable {l : Launch} {G : GT} {M : Mm} {Q : PQ} {QX : PX} {X : St} {L : List St} {T : List Int}
end SPSa
