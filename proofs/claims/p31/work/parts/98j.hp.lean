/-! ===== what the law's small methods do ===== -/
theorem MF.sm {M M' : Mm} {X : St} {L : List St} {T : List Int} {hi : Nat} (h : MF M X L T) (s : Sm M M' 1098 hi) : MF M' X L T := ⟨h.1.sm s (Or.inl (by decide)), h.2.1.sm s (Or.inr (by decide)), h.2.2.sm s (Or.inr (by decide))⟩
section HPJ
variable {l : Launch} {G : GT} {M : Mm} {Q : PQ} {X : St} {L : List St} {T : List Int} {v w u b : Int32} {R : Rs} {V : Vs}
end HPJ
