/-! ===== a callee whose class nobody says to be initialised: walked, not taken by a contract ===== -/
section ORD
variable {p : Program} {l : Launch} {e : Env} {R : Room} {s : State} {sargs : Array Value} {below : List Frame}
theorem in_stand {m : MethodId} {meth : Method} {c : Code} {U : State} {locs : List Loc} {cells slots : Nat} {g : JFrame} {ig : Instr} {len : Nat} {mk : MethodId} {a : Array Value} {methY : Method} {cY : Code} {R2 : Room} {y : MethodName}
    (X : Stand p l e R s m sargs below meth c U locs cells slots) (hg : g.method = m) (hsize : g.locals.size = c.maxLocals) (hdg : decode c.code g.pc = .ok (ig, len)) (hn : U.methodNamed? y = some mk) (hy : plainName y.cls = true)
    (hmY : U.vm.method? mk = some methY) (hcY : methY.code = some cY) (hlY : methY.locks = false) (hframes : R2.frames + 1 ≤ R.frames)
    (hlocals : 2 * g.monitorRoom + (g.stack.map fun v => v.category).sum + (cY.maxLocals + 11) + R2.locals ≤ R.locals) (hcells : cells + R2.cells ≤ R.cells) (hslots : slots + R2.slots ≤ R.slots) :
    ∃ U1 : State, (doInvoke e (U.setTop g) [] mk a).1 = U1.setTop (entryFrame mk a cY.maxLocals) ∧ U1.heap = U.heap ∧ Stand p l e R2 (U.calling g mk a) mk a (.java g :: U.frames.tail) methY cY U1 [] 0 0 := by
  subst hg
  have h := X.here
  have hfr := State.frames_calling h.top g mk a
  have hroom := X.room_calling (g := g) (R' := R2) (args' := a) hsize hmY hcY hframes hlocals hcells hslots
  have hcur := State.cur_lt_of_frames hfr
  obtain ⟨t, ht, -⟩ := State.frames_cons hfr
  refine ⟨(U.setTop g).pushFrame (.java (entryFrame mk a cY.maxLocals)), doInvoke_enter h.top [] hmY hcY hlY (X.notFull hsize (by omega) (by omega)), rfl, ?_⟩
  have e1 : (U.setTop g).pushFrame (.java (entryFrame mk a cY.maxLocals)) = (U.calling g mk a).setFrames (.java (entryFrame mk a cY.maxLocals) :: .java g :: U.frames.tail) := by
    rw [State.calling, State.pushFrame, State.pushFrame, State.setFrames_setFrames, State.frames_setTop' g h.top]
  have hplain : U.plainMethod mk := State.plainMethod.of_named (s := U) (plainFor_of_name hy) hn hmY
  have hAt0 := At.enter (g := g) h (m := mk) (meth := methY) (code := cY) a hmY hcY hplain
  have hf1 := frames_entered (g := g) h.top (.java (entryFrame mk a cY.maxLocals))
  have hcode : (U.calling g mk a).code? g.method = some c := by
    have := h.code
    rw [State.code?_eq] at this ⊢
    simpa [State.calling, State.pushFrame, State.setFrames] using this
  refine ⟨X.admits, X.cas, X.clock, hfr, hroom, ?_, hmY, hcY, ⟨hAt0.top, ⟨[], by rw [hf1]; rfl⟩, hAt0.running, hAt0.runnable, hAt0.alone, hAt0.code, hplain⟩, by rw [hf1]; rfl, State.WarmedH.refl _, by rw [e1, State.stackLimits_setFrames], by rw [e1, State.stackBytes_setFrames], ?_⟩
  · simp [State.hears, hcode, hdg, Except.toOption]
  · have h9 := (State.sameButNew.refl (U.calling g mk a) ht).setFrames (.java (entryFrame mk a cY.maxLocals) :: .java g :: U.frames.tail) hcur
    rw [e1]
    exact h9
theorem in_call {m : MethodId} {meth : Method} {c : Code} {U : State} {Ls : List Loc} {c0 s0 : Nat} {g : JFrame} {ig : Instr} {len : Nat} {mk : MethodId} {a : Array Value} {methY : Method} {cY : Code} {y : MethodName} {Qc : Array Value → State → Outcome → State → Prop} {free : Addr → Prop}
    (X : Stand p l e R s m sargs below meth c U Ls c0 s0) (hg : g.method = m) (hsize : g.locals.size = c.maxLocals) (hdg : decode c.code g.pc = .ok (ig, len)) (hn : U.methodNamed? y = some mk) (hy : plainName y.cls = true)
    (hmY : U.vm.method? mk = some methY) (hcY : methY.code = some cY) (hlY : methY.locks = false) (hframes : 1 ≤ R.frames)
    (hlocals : 2 * g.monitorRoom + (g.stack.map fun v => v.category).sum + (cY.maxLocals + 11) ≤ R.locals) (hcells : c0 ≤ R.cells) (hslots : s0 ≤ R.slots)
    (body : W p l e { frames := 0, cells := 0, slots := 0, locals := 0 } (U.calling g mk a) mk a (.java g :: U.frames.tail) methY cY U.heap [] 0 0 (MQ (.java g :: U.frames.tail) Qc a (U.calling g mk a) 0 0 free) (entryFrame mk a cY.maxLocals)) :
    ∃ (v : Option Value) (B t : State) (L : List Loc), Stand p l e R s m sargs below meth c B (Ls ++ L) c0 s0 ∧ Qc a (U.calling g mk a) (.returned v) t ∧ B.heap = t.heap ∧ (∀ q ∈ L, free q.base) ∧
      Steps p.tables e below (doInvoke e (U.setTop g) [] mk a).1 (B.setTop { g with pc := g.pc + len, stack := v.toList ++ g.stack }) := by
  obtain ⟨U1, e1, hh, X1⟩ := in_stand (R2 := { frames := 0, cells := 0, slots := 0, locals := 0 }) (a := a) X hg hsize hdg hn hy hmY hcY hlY hframes (by simpa using hlocals) hcells hslots
  obtain ⟨s₂, hst, o, hrun, hend, hqc, L, hfe, hL⟩ := body U1 hh X1
  obtain ⟨⟨v, rfl⟩, hW₂, e2, q2, q3, q4, q5, q6⟩ := id hfe
  subst hg
  have h : At U g.method c below := X.here
  have e3 : s₂ = ({ (U.calling g mk a).setFrames s₂.frames with heap := s₂.heap, slotsUsed := s₂.slotsUsed } : State).setVm s₂.vm := by
    have : s₂ = ({ s₂ with vm := (U.calling g mk a).vm } : State).setVm s₂.vm := rfl
    rw [e2] at this
    exact this
  obtain ⟨g₀, hg0⟩ := Option.isSome_iff_exists.mp h.top
  obtain ⟨r, hr⟩ := State.topJava?_eq_some.mp hg0
  have hr' : (({ U with heap := s₂.heap, slotsUsed := s₂.slotsUsed } : State).setVm s₂.vm).frames = .java g₀ :: r := hr
  obtain ⟨c₂, i₂, len₂, hc₂, hd₂, hf₂⟩ := hend
  have hW' : U.WarmedH s₂.vm := hW₂
  have hcc : c₂ = c := by
    have h1 : s₂.code? g.method = U.code? g.method := by
      rw [State.code?_eq, State.code?_eq, hW'.alike.method?]
    exact Option.some.inj (hc₂.symm.trans (h1.trans h.code))
  subst hcc
  have hlen : len₂ = len := by rw [hdg] at hd₂; cases hd₂; rfl
  subst hlen
  have hs₂ : s₂ = (({ U with heap := s₂.heap, slotsUsed := s₂.slotsUsed } : State).setVm s₂.vm).setTop { g with pc := g.pc + len₂, stack := v.toList ++ g.stack } := by
    refine e3.trans ?_
    rw [hf₂, State.calling_eq h.top, State.setFrames_setFrames, State.setTop_of_frames _ hr', hr]
    rfl
  have hsame : U.sameButNew ({ U with heap := s₂.heap, slotsUsed := s₂.slotsUsed } : State) L 0 0 := by
    refine ⟨?_, q2, q3, q4, q5, q6⟩
    obtain ⟨t, ht, -⟩ := State.frames_cons hr
    show ({ U with heap := s₂.heap, slotsUsed := s₂.slotsUsed } : State) = { U.setFrames U.frames with heap := s₂.heap, slotsUsed := s₂.slotsUsed }
    rw [State.setFrames_self ht]
  obtain ⟨mid, hmid⟩ := h.above
  refine ⟨v, (({ U with heap := s₂.heap, slotsUsed := s₂.slotsUsed } : State).setVm s₂.vm), s₂, L,
      ⟨X.admits, X.cas, X.clock, X.frames, X.room, X.hears, X.method, X.code, (X.here.setHeapUsed s₂.heap s₂.slotsUsed).setVm hW'.alike, X.tail, State.WarmedH.trans X.warmed hW', X.limits, X.bytes, X.same.trans (hsame.setVm s.vm)⟩, hqc, rfl, hL, ?_⟩
  rw [← hs₂, e1]
  rw [hmid] at hst
  exact Steps.weaken (mid := .java g :: mid) hst
end ORD
