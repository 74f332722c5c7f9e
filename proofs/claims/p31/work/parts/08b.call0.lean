/-! ===== calls of methods that make nothing; of a nest mate's private method ===== -/
section CALL0
variable {z : Bool} {l : Launch} {G : GT} {F : FX} {Y : YT} {Q : PQ} {QX : PX} {k n pc : Nat} {K Kt : KT}
theorem r_cv0 {Yc : YT} {ci nf nc ix : Nat} {C0 : String} {T0 : u_T} {ty : Nat → FieldType} (hK : Le K (Wj true l G F Y Q QX k n (pc + 3))) (d : decode (yB Y) pc = .ok (.invokevirtual ix, 3)) (hc : CLO ci nf C0 T0 ty) (ok : okV Yc nc) (hcls : (yN Yc).cls = C0) (hl : Cond.methodLink (yN Y).cls ix (yN Yc) ∈ WS) (hf : fit Yc Y) (hk : k ≤ yC Y ∧ n ≤ yS Y) (h0 : yC Yc = 0) (h1 : yS Yc = 0) :
    Le (I_cv (Tr true l G Yc) ci nf nc QX K) (Wj true l G F Y Q QX k n pc) := by
  refine r_cv (Yc := Yc) ?_ d hc ok hcls hl hf (by rw [h0, h1]; exact hk)
  rw [h0, h1]
  exact hK
theorem r_cs0 {Yc : YT} {nc ix : Nat} (hK : Le K (Wj z l G F Y Q QX k n (pc + 3))) (d : decode (yB Y) pc = .ok (.invokestatic ix, 3)) (ok : okS Yc nc) (hl : Cond.methodLink (yN Y).cls ix (yN Yc) ∈ WS) (hf : fit Yc Y) (hk : k ≤ yC Y ∧ n ≤ yS Y) (h0 : yC Yc = 0) (h1 : yS Yc = 0) :
    Le (I_cs (Tr z l G Yc) nc QX K) (Wj z l G F Y Q QX k n pc) := by
  refine r_cs (Yc := Yc) ?_ d ok hl hf (by rw [h0, h1]; exact hk)
  rw [h0, h1]
  exact hK
/-- no throw -/
def NX : PX := fun _ _ => False
theorem tr_met {Yc : YT} {As : List Value} {M : Mm} {Q1 : PQ} (h : Tr z l G Yc As M Q1 NX) : Met l (yN Yc) (yC1 Yc :: WS) (yRoom Yc) (fun v U => v = (As.map (tv G)).toArray ∧ SOK z G M U) (Qr z G Q1) (yC Yc) (yS Yc) (fun q => gB G ≤ q) := by
  intro p e ha hc hk s m args below hf happ hP hT
  obtain ⟨t, o, h1, h2, h3, h4⟩ := h p e ha hc hk s m args below hf happ hP hT
  refine ⟨t, o, h1, h2, h3, ?_⟩
  rcases h4 with h4 | ⟨q, g1, E, ce, L, ⟨M', g2, g3⟩, g4⟩
  · exact h4
  · exact g2.elim
theorem run_x {p : Program} {e : Env} {R : Room} {s : State} {m : MethodId} {args : Array Value} {below : List Frame} {meth : Method} {c : Code} {H : Heap} {locs : List Loc} {cells slots mc ms : Nat} {g : JFrame} {rest : List Value} {Qa : State → Outcome → State → Prop} {XC : String → State → State → Prop} {free : Addr → Prop}
    (h : va_Run p l e R s m args below meth c H locs cells slots mc ms g rest Qa free) : vx_Run p l e R s m args below meth c H locs cells slots mc ms g rest Qa XC free := fun T hT X => Or.inl (h T hT X)
def I_csN (T : List Value → Mm → PQ → PX → Prop) (nc : Nat) (K : KT) : KT := fun L st M => match popA nc st [] with
  | some (as, r) => (r.map Value.category).sum ≤ 8 ∧ T as M (fun v M' => K L (v.toList ++ r) M') NX
  | _ => False
theorem r_csN {Yc : YT} {nc ix : Nat} (hK : Le K (Wj z l G F Y Q QX k n (pc + 3))) (d : decode (yB Y) pc = .ok (.invokestatic ix, 3)) (ok : okS Yc nc) (hl : ((yN Y).cls, ix, yN Yc) ∈ nestW) (hf : fit Yc Y) (hk : k ≤ yC Y ∧ n ≤ yS Y) (h0 : yC Yc = 0) (h1 : yS Yc = 0) :
    Le (I_csN (Tr z l G Yc) nc K) (Wj z l G F Y Q QX k n pc) := by
  intro L st M h
  unfold I_csN at h
  split at h
  next as r hpop =>
    intro C
    obtain ⟨p, e, s, m, args, below, meth, c⟩ := F
    intro H locs ls hR hB hz hlo hv
    obtain ⟨hcat, h⟩ := h
    obtain ⟨hst, hlen⟩ := popA_0 hpop
    have hnw := (show ZF G s s.heap from C.zz).1 _ hl
    refine vj_call (Yc := Yc) (rest := r) (K := K) (by rw [h0, h1]; exact hK) C hB hz hlo hv (run_x (va_runSN (As := as.map (tv G)) ⟨C.ex, C.by, C.ml, C.ow, C.ws⟩ (tr_met h) ⟨va_cnB nc C.ws (ws_gi ok.1.1) rfl rfl rfl hnw (C.ws _ ok.1.2.1) ok.1.2.2 hf, C.ws _ ok.2, trivial⟩ ⟨sok_blind, fun U hU hW => ⟨rfl, sok_moved C.go C.ka C.zz hR hB hU hW⟩⟩ rfl (by rw [List.length_map]; exact hlen) hv.1 ?_ ?_ d (by rw [h0, h1]; exact hk))) (by rw [h0]; exact hk.1) (by rw [h1]; exact hk.2)
    · show st.map (tv G) = _
      rw [hst]
      simp
    · show 2 * 0 + _ ≤ 8
      rw [cat_sum]
      omega
  next => exact h.elim
end CALL0
