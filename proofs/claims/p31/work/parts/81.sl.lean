/-! ===== the reference: runCommands and the rest ===== -/
section SPSl
variable {l : Launch} {G : GT} {M : Mm} {Q : PQ} {QX : PX} {X : St} {L : List St} {T : List Int} {v : Int32}
/-- what type does -/
noncomputable def vType (T : List Int) (v : Int) : Int × List Int := pIf (¬ (0 ≤ v ∧ v ≤ 127)) (1, T) (pIf (T.length = 150) (2, T) (0, T ++ [v]))
end SPSl
