/-! ===== what each operation comes to: the place of the exception (0: none), the state, the answer ===== -/
abbrev Rs : Type := Int × St × Int
noncomputable def pIf {α : Type} (P : Prop) (a b : α) : α := @ite α P (Classical.propDecidable P) a b
theorem pIf_p {α : Type} {P : Prop} {a b : α} (h : P) : pIf P a b = a := if_pos h
theorem pIf_n {α : Type} {P : Prop} {a b : α} (h : ¬ P) : pIf P a b = b := if_neg h
abbrev isA (X : St) (a : Int) : Prop := 0 ≤ a ∧ a < X.aps.length
abbrev isM (X : St) (m : Int) : Prop := 0 ≤ m ∧ m < X.ments.length
def apA (X : St) (a : Int) : Ap := X.aps.getD a.toNat (ApN 0 0)
def hdE (L : List En) : En := L.headD (0, 0, 0, 0)
theorem apA_at {X : St} {a : Int} (h : isA X a) : X.aps[a.toNat]? = some (apA X a) := by
  unfold apA
  have h1 := h.1
  have h2 := h.2
  rw [List.getD_eq_getElem?_getD, List.getElem?_eq_getElem (by omega)]
  rfl
theorem apA_eq {X : St} {a : Nat} {x : Ap} (h : X.aps[a]? = some x) : apA X a = x := by
  unfold apA
  rw [Int.toNat_natCast, List.getD_eq_getElem?_getD, h]
  rfl
theorem mt_eq {X : St} {a : Nat} {x : Mt} (h : X.ments[a]? = some x) : mt X a = x := by
  unfold mt
  rw [Int.toNat_natCast, List.getD_eq_getElem?_getD, h]
  rfl
noncomputable def rTrade (X : St) (p q s : Int) : Rs := pIf (¬ ((0 ≤ p ∧ p ≤ 2000) ∧ (0 ≤ q ∧ q ≤ 2000) ∧ (0 ≤ s ∧ s ≤ 2000))) (1, X, 0) (pIf (X.needs.length = 5) (2, X, 0) (0, X.addT p q s, X.needs.length))
noncomputable def rMentor (X : St) (p q : Int) : Rs := pIf (¬ ((1 ≤ p ∧ p ≤ 6) ∧ (0 ≤ q ∧ q ≤ 31))) (1, X, 0) (pIf (X.ments.length = 6) (2, X, 0) (0, X.addM p q, X.ments.length))
noncomputable def rPupil (X : St) (t m : Int) : Rs := pIf (¬ okA X t m) (1, X, 0) (pIf (noA X t m) (2, X, 0) (0, X.addA t m, X.aps.length))
noncomputable def rLog (X : St) (a p h : Int) : Rs := pIf (¬ isA X a) (1, X, 0) (pIf (¬ ((0 ≤ p ∧ p ≤ 2) ∧ (1 ≤ h ∧ h ≤ 12))) (2, X, 0) (pIf (¬ canW X (apA X a) h) (3, X, 0) (0, X.setA a.toNat (aWork (apA X a) p h X.day), (apA X a).pend.length + 1)))
noncomputable def rMove (X : St) (a m : Int) : Rs := pIf (¬ (isA X a ∧ isM X m)) (1, X, 0) (pIf (¬ obs X (apA X a) m = 0) (2, X, 0) (0, X.setA a.toNat (aLead (apA X a) m), ((apA X a).pend.filter (fun e => decide (¬ e.2.2.2 = m))).length))
noncomputable def rSwap (X : St) (a b : Int) : Rs := pIf (¬ (isA X a ∧ isA X b)) (1, X, 0) (pIf (a = b) (2, X, 0) (pIf (¬ cExc X (apA X a) (apA X b)) (3, X, 0) (0, (X.setA a.toNat (aLead (apA X a) (apA X b).mentor)).setA b.toNat (aLead (apA X b) (apA X a).mentor), ((apA X a).pend.filter (fun e => decide (¬ e.2.2.2 = (apA X b).mentor))).length + ((apA X b).pend.filter (fun e => decide (¬ e.2.2.2 = (apA X a).mentor))).length)))
noncomputable def rFree (X : St) (a d : Int) : Rs := pIf (¬ isA X a) (1, X, 0) (pIf (¬ (0 ≤ d ∧ d ≤ 199)) (2, X, 0) (pIf (hasD (apA X a).wrk d) (3, X, 0) (0, X.setA a.toNat (mkAp (Ap.done ((apA X a))) (Ap.pend ((apA X a))) (Ap.dbt ((apA X a))) (sPutI (apA X a).rel d) (Ap.wrk ((apA X a))) (Ap.trade ((apA X a))) (Ap.mentor ((apA X a))) (Ap.refused ((apA X a))) (Ap.wdays ((apA X a))) (Ap.today ((apA X a))) (Ap.moves ((apA X a)))), cnt (sPutI (apA X a).rel d) 200)))
noncomputable def rConf (X : St) (m k : Int) : Rs := pIf (¬ isM X m) (1, X, 0) (pIf (¬ (1 ≤ k ∧ k ≤ 99)) (2, X, 0) (pIf (¬ cCf m k X.aps) (3, X, 0) (0, X.conf m.toNat (mt X m) k, cfN m k X.aps)))
noncomputable def rDoubt (X : St) (a : Int) : Rs := pIf (¬ isA X a) (1, X, 0) (pIf ((apA X a).mentor = -1 ∨ (apA X a).pend = []) (2, X, 0) (0, X.setA a.toNat (mkAp (Ap.done ((apA X a))) ((apA X a).pend.tail) ((apA X a).dbt ++ [hdE (apA X a).pend]) (Ap.rel ((apA X a))) (Ap.wrk ((apA X a))) (Ap.trade ((apA X a))) (Ap.mentor ((apA X a))) (Ap.refused ((apA X a))) (Ap.wdays ((apA X a))) (Ap.today ((apA X a))) (Ap.moves ((apA X a)))), (hdE (apA X a).pend).2.1))
noncomputable def rSettle (X : St) (a b : Int) : Rs := pIf (¬ isA X a) (1, X, 0) (pIf (¬ cSet (apA X a) (¬ b = 0)) (2, X, 0) (0, X.setA a.toNat (aSet (apA X a) b (hdE (apA X a).dbt) (apA X a).dbt.tail), (hdE (apA X a).dbt).2.1))
noncomputable def rPass (X : St) (d : Int) : Rs := pIf (¬ (1 ≤ d ∧ d ≤ 30)) (1, X, 0) (pIf (¬ X.day + d ≤ 9999) (2, X, 0) (0, X.passN d.toNat, 0))
noncomputable def rEnd (X : St) : Rs := pIf (X.day = 9999) (1, X, 0) (0, X.pass, pdN X.day X.aps)
noncomputable def rCredit (X : St) (a p h : Int) : Rs := pIf (¬ isA X a) (1, X, 0) (pIf (¬ (0 ≤ p ∧ p ≤ 2)) (2, X, 0) (pIf (¬ cAdd (apA X a) p h) (3, X, 0) (0, X.setA a.toNat (aDone (apA X a) p h), (apA X a).done p.toNat + h)))
noncomputable def rLeave (X : St) (a : Int) : Rs := pIf (¬ isA X a) (1, X, 0) (pIf ((apA X a).mentor = -1) (2, X, 0) (0, X.setA a.toNat (mkAp (Ap.done ((apA X a))) (Ap.pend ((apA X a))) (Ap.dbt ((apA X a))) (Ap.rel ((apA X a))) (Ap.wrk ((apA X a))) (Ap.trade ((apA X a))) (-1) (Ap.refused ((apA X a))) (Ap.wdays ((apA X a))) (Ap.today ((apA X a))) (Ap.moves ((apA X a)))), (apA X a).mentor))
/-- a command's number is the reference's -/
noncomputable def rOp (X : St) (w a b c : Int) : Rs := if w = 0 then rTrade X a b c else if w = 1 then rLog X a b c else if w = 2 then rMentor X a b else if w = 3 then rPupil X a b else if w = 4 then rMove X a b else if w = 5 then rSwap X a b else if w = 6 then rFree X a b else if w = 7 then rConf X a 99 else if w = 8 then rDoubt X a else if w = 9 then rSettle X a 1 else if w = 10 then rSettle X a 0 else rPass X a
/-- an operation of the reference: its place, and, where it is 0, the state and the answer -/
def RO (M : Mm) (Q : PQ) (R : Rs) : Prop := ∀ (M' : Mm) (r : Int32), RV M M' → r.toInt = R.1 → (R.1 = 0 → RS (mL M' 1099) R.2.1 ∧ (mL M' 1098 5).toInt = R.2.2) → Q (some (.int r)) M'
theorem RO.no {M M' : Mm} {Q : PQ} {p : Int} {X : St} {v : Int} {r : Int32} (h : RO M Q (p, X, v)) (hr : r.toInt = p) (hp : ¬ p = 0) (rv : RV M M') : Q (some (.int r)) M' := h M' r rv hr fun c => absurd c hp
theorem RO.ok {M M' : Mm} {Q : PQ} {X : St} {v : Int} (h : RO M Q (0, X, v)) (rv : RV M M') (rs : RS (mL M' 1099) X) (ha : (mL M' 1098 5).toInt = v) : Q (some (.int 0)) M' := h M' 0 rv rfl fun _ => ⟨rs, ha⟩
section SPRs
variable {l : Launch} {G : GT} {M : Mm} {Q : PQ} {QX : PX} {X : St} {v w u : Int32}
theorem so_trades (r : RS (mL M 1099) X) (ws : WfS X) (h : RO M Q (rTrade X v.toInt w.toInt u.toInt)) : Tr true l G Y_X10_trades [.ref 1098, .int v, .int w, .int u] M Q QX := by
  unfold rTrade at h
  refine sp_X10_trades r ws (fun g => ?_) (fun g g2 => ?_) (fun g g2 M' r' rv ha => ?_)
  · rw [pIf_p g] at h; exact h.no rfl (by decide) (RV_refl _)
  · rw [pIf_n (fun c => c g), pIf_p g2] at h; exact h.no rfl (by decide) (RV_refl _)
  · rw [pIf_n (fun c => c g), pIf_n (by omega)] at h; exact h.ok rv r' ha
theorem so_mentors (r : RS (mL M 1099) X) (ws : WfS X) (h : RO M Q (rMentor X v.toInt w.toInt)) : Tr true l G Y_X10_mentors [.ref 1098, .int v, .int w] M Q QX := by
  unfold rMentor at h
  refine sp_X10_mentors r ws (fun g => ?_) (fun g g2 => ?_) (fun g g2 M' r' rv ha => ?_)
  · rw [pIf_p g] at h; exact h.no rfl (by decide) (RV_refl _)
  · rw [pIf_n (fun c => c g), pIf_p g2] at h; exact h.no rfl (by decide) (RV_refl _)
  · rw [pIf_n (fun c => c g), pIf_n (by omega)] at h; exact h.ok rv r' ha
theorem so_apprentices (r : RS (mL M 1099) X) (ws : WfS X) (h : RO M Q (rPupil X v.toInt w.toInt)) : Tr true l G Y_X10_apprentices [.ref 1098, .int v, .int w] M Q QX := by
  unfold rPupil at h
  refine sp_X10_apprentices r ws (fun g => ?_) (fun g g2 => ?_) (fun g g2 M' r' rv ha => ?_)
  · rw [pIf_p g] at h; exact h.no rfl (by decide) (RV_refl _)
  · rw [pIf_n (fun c => c g), pIf_p g2] at h; exact h.no rfl (by decide) (RV_refl _)
  · rw [pIf_n (fun c => c g), pIf_n g2] at h; exact h.ok rv r' ha
theorem isA_of {a : Nat} {x : Ap} (hv : v.toInt = a) (hx : X.aps[a]? = some x) : isA X v.toInt ∧ apA X v.toInt = x ∧ v.toInt.toNat = a := by
  have := lt_of hx
  refine ⟨⟨by omega, by omega⟩, ?_, by omega⟩
  rw [hv]
  exact apA_eq hx
theorem so_logs (r : RS (mL M 1099) X) (ws : WfS X) (h : RO M Q (rLog X v.toInt w.toInt u.toInt)) : Tr true l G Y_X10_logs [.ref 1098, .int v, .int w, .int u] M Q QX := by
  unfold rLog at h
  refine sp_X10_logs r ws (fun g => ?_) (fun g g2 => ?_) (fun a x hv hx g g2 => ?_) (fun a x hv hx g g2 M' r' rv ha => ?_)
  · rw [pIf_p g] at h; exact h.no rfl (by decide) (RV_refl _)
  · rw [pIf_n (fun c => c g), pIf_p g2] at h; exact h.no rfl (by decide) (RV_refl _)
  · obtain ⟨i1, i2, i3⟩ := isA_of hv hx
    rw [i2, i3, pIf_n (fun c => c i1), pIf_n (fun c => c g), pIf_p g2] at h
    exact h.no rfl (by decide) (RV_refl _)
  · obtain ⟨i1, i2, i3⟩ := isA_of hv hx
    rw [i2, i3, pIf_n (fun c => c i1), pIf_n (fun c => c g), pIf_n (fun c => c g2)] at h
    exact h.ok rv r' ha
theorem so_moves (r : RS (mL M 1099) X) (ws : WfS X) (h : RO M Q (rMove X v.toInt w.toInt)) : Tr true l G Y_X10_moves [.ref 1098, .int v, .int w] M Q QX := by
  unfold rMove at h
  refine sp_X10_moves r ws (fun g => ?_) (fun a x hv hx g g2 => ?_) (fun a x hv hx g g2 M' r' rv ha => ?_)
  · rw [pIf_p g] at h; exact h.no rfl (by decide) (RV_refl _)
  · obtain ⟨i1, i2, i3⟩ := isA_of hv hx
    rw [i2, i3, pIf_n (fun c => c ⟨i1, g⟩), pIf_p g2] at h
    exact h.no rfl (by decide) (RV_refl _)
  · obtain ⟨i1, i2, i3⟩ := isA_of hv hx
    rw [i2, i3, pIf_n (fun c => c ⟨i1, g⟩), pIf_n (fun c => c g2)] at h
    exact h.ok rv r' ha
theorem so_swaps (r : RS (mL M 1099) X) (ws : WfS X) (hmv : ∀ x ∈ X.aps, x.moves < 100000000) (h : RO M Q (rSwap X v.toInt w.toInt)) : Tr true l G Y_X10_swaps [.ref 1098, .int v, .int w] M Q QX := by
  unfold rSwap at h
  refine sp_X10_swaps r ws hmv (fun g => ?_) (fun g g2 => ?_) (fun a b x z hv hw hx hz g g2 => ?_) (fun a b x z hv hw hx hz g g2 M' r' rv ha => ?_)
  · rw [pIf_p g] at h; exact h.no rfl (by decide) (RV_refl _)
  · rw [pIf_n (fun c => c g), pIf_p g2] at h; exact h.no rfl (by decide) (RV_refl _)
  · obtain ⟨i1, i2, i3⟩ := isA_of hv hx
    obtain ⟨j1, j2, j3⟩ := isA_of hw hz
    rw [i2, i3, j2, j3, pIf_n (fun c => c ⟨i1, j1⟩), pIf_n (by omega), pIf_p g2] at h
    exact h.no rfl (by decide) (RV_refl _)
  · obtain ⟨i1, i2, i3⟩ := isA_of hv hx
    obtain ⟨j1, j2, j3⟩ := isA_of hw hz
    rw [i2, i3, j2, j3, pIf_n (fun c => c ⟨i1, j1⟩), pIf_n (by omega), pIf_n (fun c => c g2)] at h
    exact h.ok rv r' ha
theorem so_frees (r : RS (mL M 1099) X) (ws : WfS X) (h : RO M Q (rFree X v.toInt w.toInt)) : Tr true l G Y_X10_frees [.ref 1098, .int v, .int w] M Q QX := by
  unfold rFree at h
  refine sp_X10_frees r ws (fun g => ?_) (fun g g2 => ?_) (fun a x hv hx g g2 => ?_) (fun a x hv hx g g2 M' r' rv ha => ?_)
  · rw [pIf_p g] at h; exact h.no rfl (by decide) (RV_refl _)
  · rw [pIf_n (fun c => c g), pIf_p g2] at h; exact h.no rfl (by decide) (RV_refl _)
  · obtain ⟨i1, i2, i3⟩ := isA_of hv hx
    rw [i2, i3, pIf_n (fun c => c i1), pIf_n (fun c => c g), pIf_p g2] at h
    exact h.no rfl (by decide) (RV_refl _)
  · obtain ⟨i1, i2, i3⟩ := isA_of hv hx
    rw [i2, i3, pIf_n (fun c => c i1), pIf_n (fun c => c g), pIf_n g2] at h
    exact h.ok rv r' ha
theorem so_confirms (r : RS (mL M 1099) X) (ws : WfS X) (h : RO M Q (rConf X v.toInt w.toInt)) : Tr true l G Y_X10_confirms [.ref 1098, .int v, .int w] M Q QX := by
  unfold rConf at h
  refine sp_X10_confirms r ws (fun g => ?_) (fun g g2 => ?_) (fun g g2 g3 M2 rv2 => ?_) (fun m0 y hm hy g g2 M' r' rv ha => ?_)
  · rw [pIf_p g] at h; exact h.no rfl (by decide) (RV_refl _)
  · rw [pIf_n (fun c => c g), pIf_p g2] at h; exact h.no rfl (by decide) (RV_refl _)
  · rw [pIf_n (fun c => c g), pIf_n (fun c => c g2), pIf_p g3] at h; exact h.no rfl (by decide) rv2
  · have := lt_of hy
    have e1 : v.toInt.toNat = m0 := by omega
    have e2 : mt X v.toInt = y := by rw [hm]; exact mt_eq hy
    rw [e1, e2, pIf_n (fun c => c ⟨by omega, by omega⟩), pIf_n (fun c => c g), pIf_n (fun c => c g2)] at h
    exact h.ok rv r' ha
theorem so_doubtsOldest (r : RS (mL M 1099) X) (ws : WfS X) (h : RO M Q (rDoubt X v.toInt)) : Tr true l G Y_X10_doubtsOldest [.ref 1098, .int v] M Q QX := by
  unfold rDoubt at h
  refine sp_X10_doubtsOldest r ws (fun g => ?_) (fun a x hv hx g => ?_) (fun a x e L hv hx g g2 M' r' rv ha => ?_)
  · rw [pIf_p g] at h; exact h.no rfl (by decide) (RV_refl _)
  · obtain ⟨i1, i2, i3⟩ := isA_of hv hx
    rw [i2, i3, pIf_n (fun c => c i1), pIf_p g] at h
    exact h.no rfl (by decide) (RV_refl _)
  · obtain ⟨i1, i2, i3⟩ := isA_of hv hx
    rw [i2, i3, pIf_n (fun c => c i1), pIf_n (fun c => by
      rcases c with c | c
      · exact g c
      · rw [g2] at c; cases c), g2] at h
    exact h.ok rv r' ha
theorem so_settles (r : RS (mL M 1099) X) (ws : WfS X) (h : RO M Q (rSettle X v.toInt w.toInt)) : Tr true l G Y_X10_settles [.ref 1098, .int v, .int w] M Q QX := by
  unfold rSettle at h
  refine sp_X10_settles r ws (fun g => ?_) (fun a x hv hx g => ?_) (fun a x e L hv hx g g2 M' r' rv ha => ?_)
  · rw [pIf_p g] at h; exact h.no rfl (by decide) (RV_refl _)
  · obtain ⟨i1, i2, i3⟩ := isA_of hv hx
    rw [i2, i3, pIf_n (fun c => c i1), pIf_p g] at h
    exact h.no rfl (by decide) (RV_refl _)
  · obtain ⟨i1, i2, i3⟩ := isA_of hv hx
    rw [i2, i3, pIf_n (fun c => c i1), pIf_n (fun c => c (by unfold cSet; rw [g]; exact g2)), g] at h
    exact h.ok rv r' ha
theorem so_endsDay (r : RS (mL M 1099) X) (ws : WfS X) (h : RO M Q (rEnd X)) : Tr true l G Y_X10_endsDay [.ref 1098] M Q QX := by
  unfold rEnd at h
  refine sp_X10_endsDay r ws (fun g => ?_) (fun g M' r' rv ha => ?_)
  · rw [pIf_p g] at h; exact h.no rfl (by decide) (RV_refl _)
  · rw [pIf_n (by omega)] at h
    exact h.ok rv r' ha
/-- as RO, without the answer -/
def RO' (M : Mm) (Q : PQ) (R : Rs) : Prop := ∀ (M' : Mm) (r : Int32), RV M M' → r.toInt = R.1 → (R.1 = 0 → RS (mL M' 1099) R.2.1) → Q (some (.int r)) M'
theorem RO'.to {R : Rs} (h : RO' M Q R) : RO M Q R := fun M' r rv hr hc => h M' r rv hr fun c => (hc c).1
theorem so_passes (r : RS (mL M 1099) X) (ws : WfS X) (h : RO' M Q (rPass X v.toInt)) : Tr true l G Y_X10_passes [.ref 1098, .int v] M Q QX := by
  unfold rPass at h
  refine sp_X10_passes r ws (fun g => ?_) (fun g g2 => ?_) (fun n hn g g2 M' r' rv => ?_)
  · rw [pIf_p g] at h; exact h M 1 (RV_refl _) rfl fun c => absurd (show (1 : Int) = 0 from c) (by decide)
  · rw [pIf_n (fun c => c g), pIf_p g2] at h; exact h M 2 (RV_refl _) rfl fun c => absurd (show (2 : Int) = 0 from c) (by decide)
  · have e : v.toInt.toNat = n := by omega
    rw [e, pIf_n (fun c => c g), pIf_n (by omega)] at h
    exact h M' 0 rv rfl fun _ => r'
end SPRs
