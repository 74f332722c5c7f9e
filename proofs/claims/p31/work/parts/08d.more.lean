/-! ===== more rules: constants of ints, xor, shifts without sign; fewer cells than said ===== -/
section MORE
variable {z : Bool} {l : Launch} {G : GT} {F : FX} {Y : YT} {Q : PQ} {QX : PX} {k n pc : Nat} {K Kt : KT}
theorem r_ldc {i : Nat} {v : Int32} (hK : Le K (Wj z l G F Y Q QX k n (pc + 2))) (d : decode (yB Y) pc = .ok (.ldc i, 2)) (hw : Cond.constant (yN Y).cls i v ∈ WS) : Le (I_ic v K) (Wj z l G F Y Q QX k n pc) := by
  intro L st M h
  intro C
  obtain ⟨p, e, s, m, args, below, meth, c⟩ := F
  intro H locs ls hR hB hz hl hv
  exact lv_ldc C.ex C.by C.ow (C.ws _ hw) d (hK _ _ _ h C H locs ls hR hB hz hl hv)
def I_ixor (K : KT) : KT := fun L st M => match st with
  | .int y :: .int x :: r => K L (.int (x ^^^ y) :: r) M
  | _ => False
theorem r_ixor (hK : Le K (Wj z l G F Y Q QX k n (pc + 1))) (d : decode (yB Y) pc = .ok (.ixor, 1)) : Le (I_ixor K) (Wj z l G F Y Q QX k n pc) := by
  intro L st M h
  unfold I_ixor at h
  split at h
  next y x r =>
    intro C
    obtain ⟨p, e, s, m, args, below, meth, c⟩ := F
    intro H locs ls hR hB hz hl hv
    exact lv_ixor C.ex C.by d (hK _ _ _ h C H locs ls hR hB hz hl hv)
  next => exact h.elim
def ushr (x y : Int32) : Int32 := (x.toUInt32 >>> (y.toUInt32 &&& Int32.toUInt32 31)).toInt32
def I_iushr (K : KT) : KT := fun L st M => match st with
  | .int y :: .int x :: r => K L (.int (ushr x y) :: r) M
  | _ => False
theorem r_iushr (hK : Le K (Wj z l G F Y Q QX k n (pc + 1))) (d : decode (yB Y) pc = .ok (.iushr, 1)) : Le (I_iushr K) (Wj z l G F Y Q QX k n pc) := by
  intro L st M h
  unfold I_iushr at h
  split at h
  next y x r =>
    intro C
    obtain ⟨p, e, s, m, args, below, meth, c⟩ := F
    intro H locs ls hR hB hz hl hv
    exact lv_iushr C.ex C.by d rfl (hK _ _ _ h C H locs ls hR hB hz hl hv)
  next => exact h.elim
/-- a place that is never come to -/
def I_no : KT := fun _ _ _ => False
theorem r_no : Le I_no Kt := fun _ _ _ h => h.elim
end MORE
