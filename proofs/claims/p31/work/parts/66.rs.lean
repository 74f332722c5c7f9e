/-! ===== what each operation comes to: the place of the exception (0: none), the state, the answer ===== -/
abbrev Rs : Type := Int × St × Int
noncomputable def pIf {α : Type} (P : Prop) (a b : α) : α := @ite α P (Classical.propDecidable P) a b
theorem pIf_p {α : Type} {P : Prop} {a b : α} (h : P) : pIf P a b = a := if_pos h
theorem pIf_n {α : Type} {P : Prop} {a b : α} (h : ¬ P) : pIf P a b = b := if_neg h
abbrev isA (X : St) (a : Int) : Prop := 0 ≤ a ∧ a < X.aps.length
abbrev isM (X : St) (m : Int) : Prop := 0 ≤ m ∧ m < X.ments.length
def apA (X : St) (a : Int) : Ap := X.aps.getD a.toNat (ApN 0 0)
def hdE (L : List En) : En := L.headD (0, 0, 0, 0)
theorem apA_at {X : St} {a : Int} (h : isA X a) : X.aps[a.toNat]? = some (apA X a) := by
  unfold apA
  have h1 := h.1
  have h2 := h.2
  rw [List.getD_eq_getElem?_getD, List.getElem?_eq_getElem (by omega)]
  rfl
noncomputable def rTrade (X : St) (p q s : Int) : Rs := pIf (¬ ((0 ≤ p ∧ p ≤ 2000) ∧ (0 ≤ q ∧ q ≤ 2000) ∧ (0 ≤ s ∧ s ≤ 2000))) (1, X, 0) (pIf (X.needs.length = 5) (2, X, 0) (0, X.addT p q s, X.needs.length))
noncomputable def rMentor (X : St) (p q : Int) : Rs := pIf (¬ ((1 ≤ p ∧ p ≤ 6) ∧ (0 ≤ q ∧ q ≤ 31))) (1, X, 0) (pIf (X.ments.length = 6) (2, X, 0) (0, X.addM p q, X.ments.length))
noncomputable def rPupil (X : St) (t m : Int) : Rs := pIf (¬ okA X t m) (1, X, 0) (pIf (noA X t m) (2, X, 0) (0, X.addA t m, X.aps.length))
noncomputable def rLog (X : St) (a p h : Int) : Rs := pIf (¬ isA X a) (1, X, 0) (pIf (¬ ((0 ≤ p ∧ p ≤ 2) ∧ (1 ≤ h ∧ h ≤ 12))) (2, X, 0) (pIf (¬ canW X (apA X a) h) (3, X, 0) (0, X.setA a.toNat (aWork (apA X a) p h X.day), (apA X a).pend.length + 1)))
noncomputable def rMove (X : St) (a m : Int) : Rs := pIf (¬ (isA X a ∧ isM X m)) (1, X, 0) (pIf (¬ obs X (apA X a) m = 0) (2, X, 0) (0, X.setA a.toNat (aLead (apA X a) m), ((apA X a).pend.filter (fun e => decide (¬ e.2.2.2 = m))).length))
noncomputable def rSwap (X : St) (a b : Int) : Rs := pIf (¬ (isA X a ∧ isA X b)) (1, X, 0) (pIf (a = b) (2, X, 0) (pIf (¬ cExc X (apA X a) (apA X b)) (3, X, 0) (0, (X.setA a.toNat (aLead (apA X a) (apA X b).mentor)).setA b.toNat (aLead (apA X b) (apA X a).mentor), ((apA X a).pend.filter (fun e => decide (¬ e.2.2.2 = (apA X b).mentor))).length + ((apA X b).pend.filter (fun e => decide (¬ e.2.2.2 = (apA X a).mentor))).length)))
noncomputable def rFree (X : St) (a d : Int) : Rs := pIf (¬ isA X a) (1, X, 0) (pIf (¬ (0 ≤ d ∧ d ≤ 199)) (2, X, 0) (pIf (hasD (apA X a).wrk d) (3, X, 0) (0, X.setA a.toNat (mkAp (Ap.done ((apA X a))) (Ap.pend ((apA X a))) (Ap.dbt ((apA X a))) (sPutI (apA X a).rel d) (Ap.wrk ((apA X a))) (Ap.trade ((apA X a))) (Ap.mentor ((apA X a))) (Ap.refused ((apA X a))) (Ap.wdays ((apA X a))) (Ap.today ((apA X a))) (Ap.moves ((apA X a)))), cnt (sPutI (apA X a).rel d) 200)))
noncomputable def rConf (X : St) (m k : Int) : Rs := pIf (¬ isM X m) (1, X, 0) (pIf (¬ (1 ≤ k ∧ k ≤ 99)) (2, X, 0) (pIf (¬ cCf m k X.aps) (3, X, 0) (0, X.conf m.toNat (mt X m) k, cfN m k X.aps)))
noncomputable def rDoubt (X : St) (a : Int) : Rs := pIf (¬ isA X a) (1, X, 0) (pIf ((apA X a).mentor = -1 ∨ (apA X a).pend = []) (2, X, 0) (0, X.setA a.toNat (mkAp (Ap.done ((apA X a))) ((apA X a).pend.tail) ((apA X a).dbt ++ [hdE (apA X a).pend]) (Ap.rel ((apA X a))) (Ap.wrk ((apA X a))) (Ap.trade ((apA X a))) (Ap.mentor ((apA X a))) (Ap.refused ((apA X a))) (Ap.wdays ((apA X a))) (Ap.today ((apA X a))) (Ap.moves ((apA X a)))), (hdE (apA X a).pend).2.1))
noncomputable def rSettle (X : St) (a b : Int) : Rs := pIf (¬ isA X a) (1, X, 0) (pIf (¬ cSet (apA X a) (¬ b = 0)) (2, X, 0) (0, X.setA a.toNat (aSet (apA X a) b (hdE (apA X a).dbt) (apA X a).dbt.tail), (hdE (apA X a).dbt).2.1))
noncomputable def rPass (X : St) (d : Int) : Rs := pIf (¬ (1 ≤ d ∧ d ≤ 30)) (1, X, 0) (pIf (¬ X.day + d ≤ 9999) (2, X, 0) (0, X.passN d.toNat, 0))
noncomputable def rEnd (X : St) : Rs := pIf (X.day = 9999) (1, X, 0) (0, X.pass, pdN X.day X.aps)
noncomputable def rCredit (X : St) (a p h : Int) : Rs := pIf (¬ isA X a) (1, X, 0) (pIf (¬ (0 ≤ p ∧ p ≤ 2)) (2, X, 0) (pIf (¬ cAdd (apA X a) p h) (3, X, 0) (0, X.setA a.toNat (aDone (apA X a) p h), (apA X a).done p.toNat + h)))
noncomputable def rLeave (X : St) (a : Int) : Rs := pIf (¬ isA X a) (1, X, 0) (pIf ((apA X a).mentor = -1) (2, X, 0) (0, X.setA a.toNat (mkAp (Ap.done ((apA X a))) (Ap.pend ((apA X a))) (Ap.dbt ((apA X a))) (Ap.rel ((apA X a))) (Ap.wrk ((apA X a))) (Ap.trade ((apA X a))) (-1) (Ap.refused ((apA X a))) (Ap.wdays ((apA X a))) (Ap.today ((apA X a))) (Ap.moves ((apA X a)))), (apA X a).mentor))
section SPRs
variable {l : Launch} {G : GT} {M : Mm} {Q : PQ} {QX : PX} {X : St} {v w u : Int32}
end SPRs
