/-! ===== CommandText: what the reader does to the memory ===== -/
theorem mP_sP (M : Mm) (a k v b j : Nat) : mP (sP M a k v) b j = if b = a ∧ j = k then v else mP M b j := rfl
section SPSp
variable {l : Launch} {G : GT} {M : Mm} {Q : PQ} {QX : PX} {T : List Int} {w : Int} {k : Nat} {g : Nat → Int} {a v : Int32}
end SPSp
