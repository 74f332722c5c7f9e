/-! ===== static cells: fields, rows, objects that nobody writes ===== -/
section STAT
variable {z : Bool} {l : Launch} {G : GT} {F : FX} {Y : YT} {Q : PQ} {QX : PX} {k n pc : Nat} {K Kt : KT}
theorem zz_S {s : State} {H : Heap} {locs : List Loc} (hB : ∀ q, q < gB G → H[q]? = s.heap[q]?) (hz : s.heap.size ≤ H.size) (hlo : ∀ x ∈ locs, gB G ≤ x.base) : va_S (fun q => gB G ≤ q) s.heap H locs := ⟨hz, fun q _ h => hB q (Nat.not_le.mp h), hlo⟩
theorem rh_s (G : GT) (j : Nat) : rh G (1000000 + j) = gS G j := by
  unfold rh
  rw [if_neg (by omega), Nat.add_sub_cancel_left]
theorem rh_s' {G : GT} {a : Nat} (h : 1000000 ≤ a) : rh G a = gS G (a - 1000000) := by
  unfold rh
  rw [if_neg (by omega)]
theorem st_T {s : State} {H : Heap} {a i : Nat} {ty : FieldType} {f : Nat → Value} (hz : ZF G s H) (ha : 1000000 ≤ a) (h : inST G (a - 1000000) ty i f) : va_T ty (rh G a) i (fun j => tv G (f j)) (fun q => gB G ≤ q) s H := by
  rw [rh_s' ha]
  exact hz.2.2.2.2.2.2 _ _ _ _ h
/-- the length of a static row -/
def I_sln (G : GT) (K : KT) : KT := fun L st M => match st with
  | .ref a :: r => 1000000 ≤ a ∧ ∃ ty i f, inST G (a - 1000000) ty i f ∧ K L (.int (Int32.ofNat i) :: r) M
  | _ => False
theorem r_sln (hK : Le K (Wj z l G F Y Q QX k n (pc + 1))) (d : decode (yB Y) pc = .ok (.arraylength, 1)) : Le (I_sln G K) (Wj z l G F Y Q QX k n pc) := by
  intro L st M h
  unfold I_sln at h
  split at h
  next a r =>
    intro C
    obtain ⟨p, e, s, m, args, below, meth, c⟩ := F
    intro H locs ls hR hB hz hlo hv
    obtain ⟨ha, ty, i, f, hT, h⟩ := h
    exact va_tlen C.ex C.by (st_T C.zz ha hT) (zz_S hB hz hlo) rfl d (hK _ _ _ h C H locs ls hR hB hz hlo hv)
  next => exact h.elim
/-- a static row of ints -/
def I_sil (G : GT) (K : KT) : KT := fun L st M => match st with
  | .int i :: .ref a :: r => 1000000 ≤ a ∧ ∃ j f, inST G (a - 1000000) .int j f ∧ vp_in i j ∧ K L (f i.toNatClampNeg :: r) M
  | _ => False
theorem r_sil (hK : Le K (Wj z l G F Y Q QX k n (pc + 1))) (d : decode (yB Y) pc = .ok (.iaload, 1)) : Le (I_sil G K) (Wj z l G F Y Q QX k n pc) := by
  intro L st M h
  unfold I_sil at h
  split at h
  next i a r =>
    intro C
    obtain ⟨p, e, s, m, args, below, meth, c⟩ := F
    intro H locs ls hR hB hz hlo hv
    obtain ⟨ha, j, f, hT, hi, h⟩ := h
    exact va_ti C.ex C.by (st_T C.zz ha hT) (zz_S hB hz hlo) hi rfl d (hK _ _ _ h C H locs ls hR hB hz hlo hv)
  next => exact h.elim
end STAT
