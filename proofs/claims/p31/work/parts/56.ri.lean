/-! ===== the reference: logs ===== -/
abbrev canW (X : St) (x : Ap) (h : Int) : Prop := x.mentor ≠ -1 ∧ ¬ hasD x.rel X.day ∧ x.today + h ≤ 12 ∧ x.pend.length + x.dbt.length < 20
section SPRi
variable {l : Launch} {G : GT} {M : Mm} {Q : PQ} {QX : PX} {X : St} {v : Int32}
end SPRi
