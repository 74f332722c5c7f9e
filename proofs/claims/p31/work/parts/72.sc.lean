/-! ===== the reference: its values ===== -/
/-- a place and a value -/
abbrev Vs : Type := Int × Int
noncomputable def vReason (X : St) (a m : Int) : Vs := pIf (¬ (isA X a ∧ isM X m)) (1, 0) (0, obs X (apA X a) m)
noncomputable def vMentor (X : St) (m w : Int) : Vs := pIf (¬ isM X m) (1, 0) (pIf (¬ (0 ≤ w ∧ w ≤ 4)) (2, 0) (0, mVal X m w))
noncomputable def vApp (X : St) (a w : Int) : Vs := pIf (¬ isA X a) (1, 0) (pIf (¬ (0 ≤ w ∧ w ≤ 11)) (2, 0) (0, aVal X (apA X a) w))
noncomputable def vPart (X : St) (a p w : Int) : Vs := pIf (¬ isA X a) (1, 0) (pIf (¬ ((0 ≤ p ∧ p ≤ 2) ∧ (0 ≤ w ∧ w ≤ 4))) (2, 0) (0, pVal X (apA X a) p.toNat w))
noncomputable def vEntry (X : St) (a d i w : Int) : Vs := pIf (¬ isA X a) (1, 0) (pIf (¬ (0 ≤ i ∧ (0 ≤ w ∧ w ≤ 3))) (2, 0) (0, eVal (apA X a) (¬ d = 0) i w.toNat))
noncomputable def vWhole (X : St) (t w : Int) : Vs := pIf (¬ (0 ≤ w ∧ w ≤ 9)) (1, 0) (0, wTold X t w)
noncomputable def vComp (X : St) (a h : Int) : Vs := pIf (¬ isA X a) (1, 0) (pIf (¬ (1 ≤ h ∧ h ≤ 12)) (2, 0) (0, cdV X (apA X a) h))
noncomputable def vBest (X : St) (a : Int) : Vs := pIf (¬ isA X a) (1, 0) (0, lbL X (apA X a) X.ments.length 0 (-1))
noncomputable def vDby (X : St) (a b : Int) : Vs := pIf (¬ (isA X a ∧ isA X b)) (1, 0) (0, pIf (cExc X (apA X a) (apA X b)) (((apA X a).pend.length - cWith (apA X b).mentor (apA X a).pend) + ((apA X b).pend.length - cWith (apA X a).mentor (apA X b).pend)) (-1))
noncomputable def vNext (X : St) (a d : Int) : Vs := pIf (¬ isA X a) (1, 0) (pIf (¬ (0 ≤ d ∧ d ≤ 9999)) (2, 0) (0, ffrom (apA X a).rel (200 - d.toNat) d.toNat))
section SPSc
variable {l : Launch} {G : GT} {M : Mm} {Q : PQ} {QX : PX} {X : St} {L : List St} {T : List Int} {v w u : Int32}
end SPSc
