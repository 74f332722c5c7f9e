/-! ===== more rules: inherited methods, narrow returns, roads that are never gone ===== -/
section RU2
variable {z : Bool} {l : Launch} {G : GT} {F : FX} {Y : YT} {Q : PQ} {QX : PX} {k n pc : Nat} {K Kt : KT}
def I_no : KT := fun _ _ _ => False
theorem r_no : Le I_no (Wj z l G F Y Q QX k n pc) := fun _ _ _ h => h.elim
def I_nr (ty : FieldType) (Q : PQ) : KT := fun _ st M => match st with
  | [.int x] => narrow ty (.int x) = .int x ∧ Q (some (.int x)) M
  | _ => False
theorem r_nr {ty : FieldType} (d : decode (yB Y) pc = .ok (.ireturn, 1)) (hr : yR Y = some ty) (hk : k ≤ yC Y) (hn : n ≤ yS Y) : Le (I_nr ty Q) (Wj z l G F Y Q QX k n pc) := by
  intro L st M h
  unfold I_nr at h
  split at h
  next x =>
    intro C
    obtain ⟨p, e, s, m, args, below, meth, c⟩ := F
    intro H locs ls hR hB hz hlo hv
    exact W.widen hk hn (vx_ret (W.zret C.ex C.by (C.rt.trans hr) h.1 (fun t ht _ => qr_of C h.2 hR hB hz t ht) hlo d C.lk))
  next => exact h.elim
/-- the call of ordinal on a constant -/
def I_ord (K : KT) : KT := fun L st M => match st with
  | .ref o :: r => (1000001 ≤ o ∧ o ≤ 1000012) ∧ (r.map Value.category).sum ≤ 7 ∧ K L (.int (Int32.ofNat (o - 1000001)) :: r) M
  | _ => False
theorem r_ord {ix : Nat} (hK : Le K (Wj z l G F Y Q QX k n (pc + 3))) (d : decode (yB Y) pc = .ok (.invokevirtual ix, 3)) (hl : Cond.methodLink (yN Y).cls ix ({ cls := "TradeLogs$Command", name := "ordinal", desc := "()I" } : MethodName) ∈ WS) (hf : 1 ≤ yF Y ∧ 20 ≤ yW Y) : Le (I_ord K) (Wj z l G F Y Q QX k n pc) := by
  sorry
end RU2
theorem wd_2_170 : Jvm.Cond.sameMethod "TradeLogs$Command" "java/lang/Enum" "ordinal" "()I" ∈ WS := ws_2 170 rfl rfl
