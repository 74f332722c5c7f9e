/-! ===== the law's own body: rules for its script, for its small methods ===== -/
section LAR
variable {l : Launch} {G : GT} {F : FX} {Y : YT} {Q : PQ} {QX : PX} {k n pc : Nat} {K Kt : KT} {z : Bool} {Ln : Nat} {xs : Nat → Int32}
/-- from here on all is made -/
theorem wj_tf {L st : List Value} {M : Mm} (hP : PInv M ∧ 1098 ≤ mN M) (h : Wj true l G F Y Q QX k n pc L st M) : Wj false l G F Y Q QX k n pc L st M := by
  intro C
  obtain ⟨p, e, s, m, args, below, meth, c⟩ := F
  intro H locs ls hR hB hz hlo hv T hT X
  obtain ⟨t, a1, o, b1, b2, b3⟩ := h C H locs ls ⟨hR.1, hR.2.1, fun _ => hP, hR.2.2.2⟩ hB hz hlo hv T hT X
  refine ⟨t, a1, o, b1, b2, ?_⟩
  rcases b3 with ⟨⟨r, M', g1, g2, g3, g4⟩, g5⟩ | ⟨q, g1, E, ce, L9, ⟨M', g2, g3, g4⟩, g5⟩
  · exact Or.inl ⟨⟨r, M', g1, g2, ⟨g3.1, g3.2.1, fun h => (by cases h), g3.2.2.2⟩, g4⟩, g5⟩
  · exact Or.inr ⟨q, g1, E, ce, L9, ⟨M', g2, ⟨g3.1, g3.2.1, fun h => (by cases h), g3.2.2.2⟩, g4⟩, g5⟩
theorem trh_met {Yc : YT} {hh : List (Nat × Nat × Nat × Nat)} {As : List Value} {M : Mm} {Q1 : PQ} (h : TrH l G Yc hh As M Q1) : Met l (yN Yc) (hC1 Yc hh :: WS) (yRoom Yc) (fun v U => v = (As.map (tv G)).toArray ∧ SOK true G M U) (Qr true G Q1) (yC Yc) (yS Yc) (fun q => gB G ≤ q) := by
  intro p e ha hc hk s m args below hf happ hP hT
  obtain ⟨t, o, h1, h2, h3, h4⟩ := h p e ha hc hk s m args below hf happ hP hT
  refine ⟨t, o, h1, h2, h3, ?_⟩
  rcases h4 with h4 | ⟨q, g1, E, ce, L, ⟨M', g2, g3⟩, g4⟩
  · exact h4
  · exact g2.elim
/-- a call of one of the law's small methods -/
def I_csH (T : List Value → Mm → PQ → Prop) (nc : Nat) (K : KT) : KT := fun L st M => match popA nc st [] with
  | some (as, r) => (r.map Value.category).sum ≤ 8 ∧ T as M (fun v M' => K L (v.toList ++ r) M')
  | _ => False
theorem r_csH {Yc : YT} {hh : List (Nat × Nat × Nat × Nat)} {nc ix : Nat} (hK : Le K (Wj true l G F Y Q QX (k + yC Yc) (n + yS Yc) (pc + 3))) (d : decode (yB Y) pc = .ok (.invokestatic ix, 3)) (hcw : hC1 Yc hh ∈ WS) (hi : Cond.initialized (yN Yc).cls ∈ WS) (hst : Cond.static (yN Yc) ∈ WS) (hl : Cond.methodLink (yN Y).cls ix (yN Yc) ∈ WS)
    (hd : (yN Yc).cls ≠ "java/lang/invoke/MethodHandle" ∧ (yN Yc).cls ≠ "java/lang/invoke/VarHandle") (hn : (parseMethodDescriptor (yN Yc).desc).map (fun d => d.parameters.length) = some nc) (hf : fit Yc Y) (hk : k + yC Yc ≤ yC Y ∧ n + yS Yc ≤ yS Y) :
    Le (I_csH (fun As M Q => TrH l G Yc hh As M Q) nc K) (Wj true l G F Y Q QX k n pc) := by
  intro L st M h
  unfold I_csH at h
  split at h
  next as r hpop =>
    intro C
    obtain ⟨p, e, s, m, args, below, meth, c⟩ := F
    intro H locs ls hR hB hz hlo hv
    obtain ⟨hcat, h⟩ := h
    obtain ⟨hst0, hlen⟩ := popA_0 hpop
    have hmem : ∀ w ∈ hC1 Yc hh :: WS, w ∈ WS := fun w hw => by
      rcases List.mem_cons.mp hw with rfl | hw
      · exact hcw
      · exact hw
    have hcb : vx_CSW (yRoom Y) s args (yN Y).cls ix (yN Yc) (yB Yc) (yL Yc) (yR Yc) hh (hC1 Yc hh :: WS) (yRoom Yc) (yC Yc) (yS Yc) nc :=
      ⟨⟨rfl, rfl, hf.1, hf.2, fun w hw a' U hW => word_at hW (ws_good w (hmem w hw)) (C.ws w (hmem w hw)), List.mem_cons_self ..⟩, C.ws _ hcw, C.ws _ hi, hd, fun sig hs => by
        rw [hs] at hn
        exact (Option.some.inj hn).symm, C.ws _ hl, C.ws _ hst⟩
    refine vj_call (Yc := Yc) (rest := r) hK C hB hz hlo hv (run_x (vx_runSW (As := as.map (tv G)) ⟨C.ex, C.by, C.ml, C.ow, C.ws⟩ (trh_met h) hcb ⟨sok_blind, fun U hU hW => ⟨rfl, sok_moved C.go C.ka C.zz hR hB hU hW⟩⟩ rfl (by rw [List.length_map]; exact hlen) hv.1 ?_ ?_ d hk)) hk.1 hk.2
    · show st.map (tv G) = _
      rw [hst0]
      simp
    · show 2 * 0 + _ ≤ 8
      rw [cat_sum]
      omega
  next => exact h.elim
end LAR
