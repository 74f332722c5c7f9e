/-! ===== the reference: a new apprentice ===== -/
section SPRb
variable {l : Launch} {G : GT} {M : Mm} {Q : PQ} {QX : PX} {X : St}
def okA (X : St) (t m : Int) : Prop := (0 ≤ t ∧ t < X.needs.length) ∧ (m = -1 ∨ (0 ≤ m ∧ m < X.ments.length))
def noA (X : St) (t m : Int) : Prop := X.aps.length = 10 ∨ (¬ m = -1 ∧ (¬ tea (mt X m) t ∨ (mt X m).1 ≤ apc m X.aps))
end SPRb
