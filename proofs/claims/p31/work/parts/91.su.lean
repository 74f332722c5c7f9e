/-! ===== the commands that were read: which exception is due, what is done ===== -/
theorem kA_0 {p : Int} (h : 0 ≤ p) : kA p = 0 ↔ p = 0 := by
  unfold kA
  split <;> omega
theorem kB_0 (p : Int) : kB p = 0 ↔ p = 0 := by
  unfold kB
  split <;> omega
section SPSu
variable {l : Launch} {G : GT} {M : Mm} {Q : PQ} {QX : PX} {X : St} {i : Nat} {v w : Int32}
end SPSu
