/-! ===== CommandText: words ===== -/
theorem k_C : KX 1073 = (1, 1, 11) := by decide +kernel
theorem k_C1 : KX 1074 = (2, 0, 150) := by decide +kernel
theorem k_C2 : KX 1075 = (4, 6, 21) := by decide +kernel
theorem k_C3 : KX 1076 = (4, 2, 21) := by decide +kernel
theorem k_Cn : ∀ j, j < 21 → KX (1077 + j) = (2, 0, 3) := by decide +kernel
/-- the class's typed text -/
def TC (M : Mm) (T : List Int) : Prop := (mI M 1073 3).toInt = T.length ∧ T.length ≤ 150 ∧ (∀ v ∈ T, 0 ≤ v ∧ v ≤ 127) ∧ ∀ (i : Nat) v, T[i]? = some v → (mI M 1074 i).toInt = v
theorem TC.of {M M' : Mm} {T : List Int} (h : TC M T) (h3 : mI M' 1073 3 = mI M 1073 3) (hb : mI M' 1074 = mI M 1074) : TC M' T := ⟨by rw [h3]; exact h.1, h.2.1, h.2.2.1, fun i v hv => by rw [hb]; exact h.2.2.2 i v hv⟩
section SPSn
variable {l : Launch} {G : GT} {M : Mm} {Q : PQ} {QX : PX} {T : List Int}
end SPSn
