/-! ===== bounds of what operations come to ===== -/
abbrev rOk (R : Rs) : Prop := (0 ≤ R.1 ∧ R.1 ≤ 3) ∧ (-2147483648 ≤ R.2.2 ∧ R.2.2 ≤ 2147483647)
theorem rOk_p {P : Prop} {A B : Rs} (ha : P → rOk A) (hb : ¬ P → rOk B) : rOk (pIf P A B) := by
  by_cases h : P
  · rw [pIf_p h]; exact ha h
  · rw [pIf_n h]; exact hb h
theorem rOk_e {p : Int} {X : St} (h : 0 ≤ p ∧ p ≤ 3) : rOk (p, X, 0) := ⟨h, by show (-2147483648 : Int) ≤ 0; decide, by show (0 : Int) ≤ 2147483647; decide⟩
theorem rOk_0 {X : St} {v : Int} (h : -2147483648 ≤ v ∧ v ≤ 2147483647) : rOk (0, X, v) := ⟨⟨by show (0 : Int) ≤ 0; decide, by show (0 : Int) ≤ 3; decide⟩, h⟩
theorem pdN_b {X : St} (d : Int) : ∀ L : List Ap, (∀ x ∈ L, WfA X x) → 0 ≤ pdN d L ∧ pdN d L ≤ 20 * L.length
  | [], _ => by simp [ap_done, ap_pend, ap_dbt, ap_rel, ap_wrk, ap_trade, ap_mentor, ap_refused, ap_wdays, ap_today, ap_moves, st_day, st_needs, st_ments, st_aps, ap_eta, st_eta, pdN]
  | x :: L, h => by
    have h1 := pdN_b d L fun z hz => h z (List.mem_cons_of_mem _ hz)
    have h2 := (h x (List.mem_cons_self ..)).ln
    have h3 : (x.pend.filter (fun e => decide (e.2.2.1 ≤ d - 14))).length ≤ x.pend.length := List.length_filter_le _ _
    rw [pdN, List.length_cons]
    omega
section RBB
variable {X : St}
theorem rb_trade (ws : WfS X) {p q s : Int} : rOk (rTrade X p q s) := by
  have := ws.l5
  exact rOk_p (fun _ => rOk_e (by decide)) fun _ => rOk_p (fun _ => rOk_e (by decide)) fun _ => rOk_0 (by omega)
theorem rb_mentor (ws : WfS X) {p q : Int} : rOk (rMentor X p q) := by
  have := ws.l6
  exact rOk_p (fun _ => rOk_e (by decide)) fun _ => rOk_p (fun _ => rOk_e (by decide)) fun _ => rOk_0 (by omega)
theorem rb_pupil (ws : WfS X) {p q : Int} : rOk (rPupil X p q) := by
  have := ws.l10
  exact rOk_p (fun _ => rOk_e (by decide)) fun _ => rOk_p (fun _ => rOk_e (by decide)) fun _ => rOk_0 (by omega)
theorem rb_log (ws : WfS X) {a p q : Int} : rOk (rLog X a p q) := by
  refine rOk_p (fun _ => rOk_e (by decide)) fun g => rOk_p (fun _ => rOk_e (by decide)) fun _ => rOk_p (fun _ => rOk_e (by decide)) fun _ => rOk_0 ?_
  have := (ws.at (apA_at (Decidable.not_not.mp g))).ln
  omega
theorem rb_move (ws : WfS X) {a m : Int} : rOk (rMove X a m) := by
  refine rOk_p (fun _ => rOk_e (by decide)) fun g => rOk_p (fun _ => rOk_e (by decide)) fun _ => rOk_0 ?_
  have := (ws.at (apA_at (Decidable.not_not.mp g).1)).ln
  have h3 : ((apA X a).pend.filter (fun e => decide (¬ e.2.2.2 = m))).length ≤ (apA X a).pend.length := List.length_filter_le _ _
  omega
theorem rb_swap (ws : WfS X) {a b : Int} : rOk (rSwap X a b) := by
  refine rOk_p (fun _ => rOk_e (by decide)) fun g => rOk_p (fun _ => rOk_e (by decide)) fun _ => rOk_p (fun _ => rOk_e (by decide)) fun _ => rOk_0 ?_
  have h1 := (ws.at (apA_at (Decidable.not_not.mp g).1)).ln
  have h2 := (ws.at (apA_at (Decidable.not_not.mp g).2)).ln
  have h3 : ((apA X a).pend.filter (fun e => decide (¬ e.2.2.2 = (apA X b).mentor))).length ≤ (apA X a).pend.length := List.length_filter_le _ _
  have h4 : ((apA X b).pend.filter (fun e => decide (¬ e.2.2.2 = (apA X a).mentor))).length ≤ (apA X b).pend.length := List.length_filter_le _ _
  omega
theorem rb_free (ws : WfS X) {a d : Int} : rOk (rFree X a d) := by
  refine rOk_p (fun _ => rOk_e (by decide)) fun g => rOk_p (fun _ => rOk_e (by decide)) fun _ => rOk_p (fun _ => rOk_e (by decide)) fun _ => rOk_0 ?_
  have := cnt_b (sPutI (apA X a).rel d) 200
  omega
theorem rb_conf (ws : WfS X) {m k : Int} : rOk (rConf X m k) := by
  refine rOk_p (fun _ => rOk_e (by decide)) fun g => rOk_p (fun _ => rOk_e (by decide)) fun g2 => rOk_p (fun _ => rOk_e (by decide)) fun _ => rOk_0 ?_
  have g3 := Decidable.not_not.mp g2
  have := cfN_b m X.aps k (by omega)
  omega
theorem hdE_b {L : List En} (h : ∀ e ∈ L, EW e) : 0 ≤ (hdE L).2.1 ∧ (hdE L).2.1 ≤ 12 := by
  cases L with
  | nil => exact ⟨by show (0 : Int) ≤ 0; decide, by show (0 : Int) ≤ 12; decide⟩
  | cons e L =>
    have := (h e (List.mem_cons_self ..)).2.1
    exact ⟨by show 0 ≤ e.2.1; omega, by show e.2.1 ≤ 12; omega⟩
theorem rb_doubt (ws : WfS X) {a : Int} : rOk (rDoubt X a) := by
  refine rOk_p (fun _ => rOk_e (by decide)) fun g => rOk_p (fun _ => rOk_e (by decide)) fun _ => rOk_0 ?_
  have := hdE_b (ws.at (apA_at (Decidable.not_not.mp g))).ep
  omega
theorem rb_settle (ws : WfS X) {a b : Int} : rOk (rSettle X a b) := by
  refine rOk_p (fun _ => rOk_e (by decide)) fun g => rOk_p (fun _ => rOk_e (by decide)) fun _ => rOk_0 ?_
  have := hdE_b (ws.at (apA_at (Decidable.not_not.mp g))).ed
  omega
theorem rb_pass {d : Int} : rOk (rPass X d) := rOk_p (fun _ => rOk_e (by decide)) fun _ => rOk_p (fun _ => rOk_e (by decide)) fun _ => rOk_0 (by decide)
theorem rb_end (ws : WfS X) : rOk (rEnd X) := by
  refine rOk_p (fun _ => rOk_e (by decide)) fun _ => rOk_0 ?_
  have h1 := pdN_b X.day X.aps ws.ab
  have h2 := ws.l10
  omega
theorem rb_credit (ws : WfS X) {a p h : Int} : rOk (rCredit X a p h) := by
  refine rOk_p (fun _ => rOk_e (by decide)) fun g => rOk_p (fun _ => rOk_e (by decide)) fun g2 => rOk_p (fun _ => rOk_e (by decide)) fun g3 => rOk_0 ?_
  have c := Classical.not_not.mp g3
  unfold cAdd dIn at c
  rw [if_pos (by omega)] at c
  omega
theorem rb_leave (ws : WfS X) {a : Int} : rOk (rLeave X a) := by
  refine rOk_p (fun _ => rOk_e (by decide)) fun g => rOk_p (fun _ => rOk_e (by decide)) fun g2 => rOk_0 ?_
  have wa := ws.at (apA_at (Decidable.not_not.mp g))
  have h0 := wa.m0
  have h1 := wa.m1
  have h2 := ws.l6
  omega
end RBB
/-! ===== the reference: its public operations ===== -/
/-- the typed text T -/
def TX (M : Mm) (T : List Int) : Prop := (mI M 1098 7).toInt = T.length ∧ T.length ≤ 150 ∧ (∀ v ∈ T, 0 ≤ v ∧ v ≤ 127) ∧ ∀ (i : Nat) v, T[i]? = some v → (mI M 1102 i).toInt = v
theorem TX.of {M M' : Mm} {T : List Int} (h : TX M T) (h7 : mI M' 1098 7 = mI M 1098 7) (hb : mI M' 1102 = mI M 1102) : TX M' T := ⟨by rw [h7]; exact h.1, h.2.1, h.2.2.1, fun i v hv => by rw [hb]; exact h.2.2.2 i v hv⟩
def MD (M : Mm) (X : St) (L : List St) (T : List Int) : Prop := RS (mL M 1099) X ∧ RK M L ∧ TX M T
def afS (X : St) (R : Rs) : St := if R.1 = 0 then R.2.1 else X
def afL (X : St) (L : List St) (R : Rs) : List St := if R.1 = 0 then uPush L X else L
/-- the end of a public operation of the reference -/
def PO (Q : PQ) (M : Mm) (X : St) (L : List St) (T : List Int) (R : Rs) : Prop := ∀ (M' : Mm) (r : Int32), Sm M M' 1098 1105 → MD M' (afS X R) (afL X L R) T → (mI M' 1098 4).toInt = R.1 → (R.1 = 0 → r.toInt = R.2.2) → Q (some (.int r)) M'
theorem RK.of {M M' : Mm} {L : List St} (h : RK M L) (h3 : mI M' 1098 3 = mI M 1098 3) (hr : mL M' 1100 = mL M 1100) : RK M' L := ⟨by rw [h3]; exact h.1, h.2.1, fun i Y hi => ⟨(h.2.2 i Y hi).1, by rw [hr]; exact (h.2.2 i Y hi).2⟩⟩
section SPSa
variable {l : Launch} {G : GT} {M : Mm} {Q : PQ} {QX : PX} {X : St} {L : List St} {T : List Int}
theorem po_ends {M1 M2 : Mm} {R : Rs} {z : Int64} {r : Int32} (h : MD M X L T) (ws : WfS X) (h1 : LR M M1 1101 1099 427) (rv : RV M1 M2) (hp : 0 ≤ R.1) (hr : r.toInt = R.1) (hc : R.1 = 0 → RS (mL M2 1099) R.2.1) (hz : R.1 = 0 → z.toInt32.toInt = R.2.2) (hQ : PO Q M X L T R) : Tr true l G Y_X10_ends [.ref 1098, .long z, .int r] M2 Q QX := by
  obtain ⟨rs, rk, tx⟩ := h
  have a1 : Sm M M1 1101 1102 := h1.2.1
  have a2 : Sm M1 M2 1098 1100 := rv.1
  have iM : mI M2 = mI M := rv.2.1.trans h1.2.2
  have rk2 : RK M2 L := rk.of (by rw [iM]) (by rw [(a2.1 1100 (by omega)).2, (a1.1 1100 (by omega)).2])
  have rs2 : RS (mL M2 1101) X := rs.of ws fun k hk => by rw [(a2.1 1101 (by omega)).2, h1.1, if_pos hk]
  by_cases g : R.1 = 0
  · refine sp_X10_ends_ok (by omega) rk2 rs2 ws fun M3 rk3 kp => ?_
    refine hQ _ _ ?_ ⟨?_, ?_, ?_⟩ ?_ hz
    · refine ⟨fun b hb => ⟨?_, ?_⟩, ?_, ?_⟩
      · funext j
        rw [mI_sI, if_neg (by omega), kp.2.1 b j (by omega), iM]
      · show mL M3 b = mL M b
        rw [kp.1 b (by omega), (a2.1 b (by omega)).2, (a1.1 b (by omega)).2]
      · show mP M3 = mP M
        rw [kp.2.2.1, a2.2.1, a1.2.1]
      · show mN M3 = mN M
        rw [kp.2.2.2, a2.2.2, a1.2.2]
    · show RS (mL M3 1099) _
      unfold afS
      rw [if_pos g, kp.1 1099 (by omega)]
      exact hc g
    · unfold afL
      rw [if_pos g]
      exact rk3.of (by rw [mI_sI, if_neg (by omega)]) rfl
    · refine tx.of (by rw [mI_sI, if_neg (by omega), kp.2.1 1098 7 (by omega), iM]) ?_
      funext j
      rw [mI_sI, if_neg (by omega), kp.2.1 1102 j (by omega), iM]
    · rw [mI_sI, if_pos ⟨rfl, rfl⟩, g]
      rfl
  · refine sp_X10_ends_no (by omega) fun M3 h3 => ?_
    have iM3 : mI M3 = mI M := h3.2.2.trans iM
    refine hQ _ _ ?_ ⟨?_, ?_, ?_⟩ ?_ fun c => absurd c g
    · refine ⟨fun b hb => ⟨?_, ?_⟩, ?_, ?_⟩
      · funext j
        rw [mI_sI, if_neg (by omega), iM3]
      · show mL M3 b = mL M b
        rw [(h3.2.1.1 b (by omega)).2, (a2.1 b (by omega)).2, (a1.1 b (by omega)).2]
      · show mP M3 = mP M
        rw [h3.2.1.2.1, a2.2.1, a1.2.1]
      · show mN M3 = mN M
        rw [h3.2.1.2.2, a2.2.2, a1.2.2]
    · show RS (mL M3 1099) _
      unfold afS
      rw [if_neg g]
      exact rs2.of ws fun k hk => by rw [h3.1, if_pos hk]
    · unfold afL
      rw [if_neg g]
      exact rk2.of (by rw [mI_sI, if_neg (by omega), h3.2.2]) (h3.2.1.1 1100 (by omega)).2
    · refine tx.of (by rw [mI_sI, if_neg (by omega), iM3]) ?_
      funext j
      rw [mI_sI, if_neg (by omega), iM3]
    · rw [mI_sI, if_pos ⟨rfl, rfl⟩, hr]
end SPSa
