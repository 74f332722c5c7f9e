/-! ===== the law's own small methods: a call in a try ===== -/
def hC1 (Y : YT) (hh : List (Nat × Nat × Nat × Nat)) : Cond := .codeWith (yN Y) (yB Y) (yL Y) (yR Y) hh
def TrH (l : Launch) (G : GT) (Y : YT) (hh : List (Nat × Nat × Nat × Nat)) (As : List Value) (M : Mm) (Q : PQ) : Prop :=
  vx_Met l (yN Y) (hC1 Y hh :: WS) (yRoom Y) (fun v U => v = (As.map (tv G)).toArray ∧ SOK true G M U) (Qr true G Q) (Qx true G NX) (yC Y) (yS Y) (fun q => gB G ≤ q)
def CH (G : GT) (F : FX) (Y : YT) (hh : List (Nat × Nat × Nat × Nat)) : Prop := match F with
  | (p, _, s, m, args, _, meth, c) => p.tables.exec = Jvm.exec ∧ c.code = yB Y ∧ c.maxLocals = yL Y ∧ meth.sig.returnType = yR Y ∧ meth.locks = false ∧ c.exceptionTable.toList = tableOf hh ∧ s.vm.findClass (yN Y).cls = some m.cls ∧
    (∀ w ∈ WS, w.before args s = true) ∧ GOK G ∧ va_K (gD G) vwCl (tysG G) s ∧ gZ G s s.heap ∧ gB G ≤ s.heap.size
def Wh (l : Launch) (G : GT) (F : FX) (Y : YT) (hh : List (Nat × Nat × Nat × Nat)) (Q : PQ) (k n : Nat) (pc : Nat) (L : List Value) (st : List Value) (M : Mm) : Prop :=
  CH G F Y hh → match F with
  | (p, e, s, m, args, below, meth, c) => ∀ (H : Heap) (locs : List Loc) (ls : Array Slot), RepH true G M H → (∀ q, q < gB G → H[q]? = s.heap[q]?) → s.heap.size ≤ H.size → (∀ x ∈ locs, gB G ≤ x.base) → lv_has ls (yL Y) (lvOf G 0 L) →
    W p l e (yRoom Y) s m args below meth c H locs k n (vx_MQ below (Qr true G Q) (Qx true G NX) args s (yC Y) (yS Y) (fun q => gB G ≤ q)) (F0 m pc ls (st.map (tv G)))
section LAH
variable {l : Launch} {G : GT} {F : FX} {Y : YT} {hh : List (Nat × Nat × Nat × Nat)} {Q : PQ} {k n pc : Nat} {K Kt : KT}
theorem CH.ex {p e s m args below meth c} (C : CH G (p, e, s, m, args, below, meth, c) Y hh) : p.tables.exec = Jvm.exec := C.1
theorem CH.by {p e s m args below meth c} (C : CH G (p, e, s, m, args, below, meth, c) Y hh) : c.code = yB Y := C.2.1
theorem CH.ml {p e s m args below meth c} (C : CH G (p, e, s, m, args, below, meth, c) Y hh) : c.maxLocals = yL Y := C.2.2.1
theorem CH.rt {p e s m args below meth c} (C : CH G (p, e, s, m, args, below, meth, c) Y hh) : meth.sig.returnType = yR Y := C.2.2.2.1
theorem CH.lk {p e s m args below meth c} (C : CH G (p, e, s, m, args, below, meth, c) Y hh) : meth.locks = false := C.2.2.2.2.1
theorem CH.tb {p e s m args below meth c} (C : CH G (p, e, s, m, args, below, meth, c) Y hh) : c.exceptionTable.toList = tableOf hh := C.2.2.2.2.2.1
theorem CH.ow {p e s m args below meth c} (C : CH G (p, e, s, m, args, below, meth, c) Y hh) : s.vm.findClass (yN Y).cls = some m.cls := C.2.2.2.2.2.2.1
theorem CH.ws {p e s m args below meth c} (C : CH G (p, e, s, m, args, below, meth, c) Y hh) : ∀ w ∈ WS, w.before args s = true := C.2.2.2.2.2.2.2.1
theorem CH.go {p e s m args below meth c} (C : CH G (p, e, s, m, args, below, meth, c) Y hh) : GOK G := C.2.2.2.2.2.2.2.2.1
theorem CH.ka {p e s m args below meth c} (C : CH G (p, e, s, m, args, below, meth, c) Y hh) : va_K (gD G) vwCl (tysG G) s := C.2.2.2.2.2.2.2.2.2.1
theorem CH.zz {p e s m args below meth c} (C : CH G (p, e, s, m, args, below, meth, c) Y hh) : gZ G s s.heap := C.2.2.2.2.2.2.2.2.2.2.1
theorem CH.ba {p e s m args below meth c} (C : CH G (p, e, s, m, args, below, meth, c) Y hh) : gB G ≤ s.heap.size := C.2.2.2.2.2.2.2.2.2.2.2
theorem qh_of {M : Mm} {s : State} {H : Heap} {x : Int32} {a : Array Value} (h : Q (some (.int x)) M) (hR : RepH true G M H) (hB : ∀ q, q < gB G → H[q]? = s.heap[q]?) (hz : s.heap.size ≤ H.size) (t : State) (ht : t.heap = H) : Qr true G Q a s (.returned (some (.int x))) t :=
  ⟨some (.int x), M, h, rfl, by rw [ht]; exact hR, fun q hq => by rw [ht]; exact hB q hq, by rw [ht]; exact hz⟩
theorem h_iconst {i : Int} {v : Int32} (hK : Le K (Wh l G F Y hh Q k n (pc + 1))) (d : decode (yB Y) pc = .ok (.iconst i, 1)) (hw : Int32.ofInt i = v) : Le (I_ic v K) (Wh l G F Y hh Q k n pc) := by
  intro L st M h
  intro C
  obtain ⟨p, e, s, m, args, below, meth, c⟩ := F
  intro H locs ls hR hB hz hl hv
  exact lv_iconst C.ex C.by d hw (hK _ _ _ h C H locs ls hR hB hz hl hv)
theorem h_iload {i : Nat} (hK : Le K (Wh l G F Y hh Q k n (pc + 2))) (d : decode (yB Y) pc = .ok (.iload i, 2)) : Le (I_il i K) (Wh l G F Y hh Q k n pc) := by
  intro L st M h
  unfold I_il at h
  split at h
  next x hx =>
    intro C
    obtain ⟨p, e, s, m, args, below, meth, c⟩ := F
    intro H locs ls hR hB hz hl hv
    exact lv_iload C.ex C.by d (lv_rd hv hx rfl) (hK _ _ _ h C H locs ls hR hB hz hl hv)
  next => exact h.elim
theorem h_iload_n {j : Fin 4} {i : Nat} (hK : Le K (Wh l G F Y hh Q k n (pc + 1))) (d : decode (yB Y) pc = .ok (.iload_n j, 1)) (hi : (j : Nat) = i) : Le (I_il i K) (Wh l G F Y hh Q k n pc) := by
  intro L st M h
  unfold I_il at h
  split at h
  next x hx =>
    intro C
    obtain ⟨p, e, s, m, args, below, meth, c⟩ := F
    intro H locs ls hR hB hz hl hv
    exact lv_iload_n C.ex C.by d hi (lv_rd hv hx rfl) (hK _ _ _ h C H locs ls hR hB hz hl hv)
  next => exact h.elim
theorem h_aload {i : Nat} (hK : Le K (Wh l G F Y hh Q k n (pc + 2))) (d : decode (yB Y) pc = .ok (.aload i, 2)) : Le (I_al i K) (Wh l G F Y hh Q k n pc) := by
  intro L st M h
  unfold I_al at h
  split at h
  next x hx =>
    intro C
    obtain ⟨p, e, s, m, args, below, meth, c⟩ := F
    intro H locs ls hR hB hz hl hv
    exact lv_aload C.ex C.by d (lv_rd hv hx rfl) (hK _ _ _ h C H locs ls hR hB hz hl hv)
  next hx =>
    intro C
    obtain ⟨p, e, s, m, args, below, meth, c⟩ := F
    intro H locs ls hR hB hz hl hv
    exact lv_aloadN C.ex C.by d (lv_rd hv hx rfl) (hK _ _ _ h C H locs ls hR hB hz hl hv)
  next => exact h.elim
theorem h_aload_n {j : Fin 4} {i : Nat} (hK : Le K (Wh l G F Y hh Q k n (pc + 1))) (d : decode (yB Y) pc = .ok (.aload_n j, 1)) (hi : (j : Nat) = i) : Le (I_al i K) (Wh l G F Y hh Q k n pc) := by
  intro L st M h
  unfold I_al at h
  split at h
  next x hx =>
    intro C
    obtain ⟨p, e, s, m, args, below, meth, c⟩ := F
    intro H locs ls hR hB hz hl hv
    exact lv_aload_n C.ex C.by d hi (lv_rd hv hx rfl) (hK _ _ _ h C H locs ls hR hB hz hl hv)
  next hx =>
    intro C
    obtain ⟨p, e, s, m, args, below, meth, c⟩ := F
    intro H locs ls hR hB hz hl hv
    exact lv_aload_nN C.ex C.by d hi (lv_rd hv hx rfl) (hK _ _ _ h C H locs ls hR hB hz hl hv)
  next => exact h.elim
theorem h_i2l (hK : Le K (Wh l G F Y hh Q k n (pc + 1))) (d : decode (yB Y) pc = .ok (.i2l, 1)) : Le (I_i2l K) (Wh l G F Y hh Q k n pc) := by
  intro L st M h
  unfold I_i2l at h
  split at h
  next x r =>
    intro C
    obtain ⟨p, e, s, m, args, below, meth, c⟩ := F
    intro H locs ls hR hB hz hl hv
    exact lv_i2l C.ex C.by d rfl (hK _ _ _ h C H locs ls hR hB hz hl hv)
  next => exact h.elim
theorem h_goto {o : Int} {t : Nat} (hK : Le K (Wh l G F Y hh Q k n t)) (d : decode (yB Y) pc = .ok (.goto o, 3)) (ht : (pc : Int) + o = (t : Int)) : Le K (Wh l G F Y hh Q k n pc) := by
  intro L st M h
  intro C
  obtain ⟨p, e, s, m, args, below, meth, c⟩ := F
  intro H locs ls hR hB hz hl hv
  exact lv_goto C.ex C.by d ht (hK _ _ _ h C H locs ls hR hB hz hl hv)
theorem h_las (hK : Le K (Wh l G F Y hh Q k n (pc + 1))) (d : decode (yB Y) pc = .ok (.lastore, 1)) : Le (I_las K) (Wh l G F Y hh Q k n pc) := by
  intro L st M h
  unfold I_las at h
  split at h
  next x i a r =>
    intro C
    obtain ⟨p, e, s, m, args, below, meth, c⟩ := F
    intro H locs ls hR hB hz hlo hv
    obtain ⟨hx, hi, h⟩ := h
    have hkx : (KX a).1 ≠ 0 := by rw [hx]; exact Nat.succ_ne_zero _
    have hP := rep_at hR (rep_lt hR hkx) hkx 0 _ rfl
    have hx2 : KX a = (3, (KX a).2.1, (KX a).2.2) := by rw [← hx]
    rw [cellE_3 hx2] at hP
    refine W.last C.ex C.by hP ((C.ka.2 1 _ rfl).1 _ (fun j => .long (mL M a j))) (fun q => by cases q) (by show ¬ (i < 0 ∨ (arrV _ _ _).slots.size ≤ _); rw [arrV_size]; exact hi) rfl rfl d fun H1 e1 z1 o1 => ?_
    refine hK _ _ _ h C H1 _ ls (rep_put hR hkx ?_ z1 o1 rfl cellE_sLn (fun _ q => q)) (frame_put hkx o1 hB) (by rw [z1]; exact hz) (locs_put hkx hlo) hv
    rw [cellE_3 hx2]
    show H1[rh G a]? = some (vp_cell _ _)
    rw [e1]
    rw [vp_cell_l, vp_cell_l, arrV_store]
    congr 2
    funext q
    show updV _ _ _ q = Value.long (u2 (mL M) a i.toNatClampNeg x a q)
    rw [u2_self]
    by_cases hq : q = i.toNatClampNeg
    · simp [updV, hq]
    · simp [updV, hq]
  next => exact h.elim
theorem h_ir (d : decode (yB Y) pc = .ok (.ireturn, 1)) (hr : yR Y = some .int) (hk : k ≤ yC Y) (hn : n ≤ yS Y) : Le (I_ir Q) (Wh l G F Y hh Q k n pc) := by
  intro L st M h
  unfold I_ir at h
  split at h
  next x =>
    intro C
    obtain ⟨p, e, s, m, args, below, meth, c⟩ := F
    intro H locs ls hR hB hz hlo hv
    exact W.widen hk hn (vx_ret (W.iret C.ex C.by (C.rt.trans hr) (fun t ht _ => qh_of h hR hB hz t ht) hlo d C.lk))
  next => exact h.elim
/-- behind a call that may throw -/
theorem h_call {p : Program} {e : Env} {s : State} {m : MethodId} {args : Array Value} {below : List Frame} {meth : Method} {c : Code} {Yc : YT} {H : Heap} {locs : List Loc} {ls : Array Slot} {L st0 rest : List Value} {a : Array Value} {KH : String → Mm → Prop}
    (hK : Le K (Wh l G (p, e, s, m, args, below, meth, c) Y hh Q (k + yC Yc) (n + yS Yc) (pc + 3))) (C : CH G (p, e, s, m, args, below, meth, c) Y hh) (hB : ∀ q, q < gB G → H[q]? = s.heap[q]?) (hz : s.heap.size ≤ H.size) (hlo : ∀ x ∈ locs, gB G ≤ x.base) (hv : lv_has ls (yL Y) (lvOf G 0 L))
    (hH : ∀ (E : String) (M' : Mm), KH E M' → ∀ (H : Heap) (locs : List Loc) (q : Addr) (ce : Cell), RepH true G M' H → (∀ q, q < gB G → H[q]? = s.heap[q]?) → s.heap.size ≤ H.size → (∀ x ∈ locs, gB G ≤ x.base) → H[q]? = some ce → ce.vm = .none → s.vm.findClass E = some ce.cls →
      vx_W p l e (yRoom Y) s m args below meth c H locs (k + yC Yc) (n + yS Yc) (vx_MQ below (Qr true G Q) (Qx true G NX) args s (yC Y) (yS Y) (fun q => gB G ≤ q)) (F0 m pc ls (rest.map (tv G))) q)
    (hr : vx_Run p l e (yRoom Y) s m args below meth c H locs k n (yC Yc) (yS Yc) (F0 m pc ls (st0.map (tv G))) (rest.map (tv G)) (Qr true G (fun r M' => K L (r.toList ++ rest) M') a) (Qx true G KH) (fun q => gB G ≤ q)) :
    W p l e (yRoom Y) s m args below meth c H locs k n (vx_MQ below (Qr true G Q) (Qx true G NX) args s (yC Y) (yS Y) (fun q => gB G ≤ q)) (F0 m pc ls (st0.map (tv G))) := by
  intro T hT X
  rcases hr T hT X with ⟨v, st₀, t, T', L1, h0, X', hL, e1, e2, ⟨r, M', hq, hv', hR', hB', hz'⟩, st⟩ | ⟨q, st₀, t, T', L1, E, ce, h0, X', hL, e1, e2, ⟨M', hq, hR', hB', hz'⟩, hce, hcv, hcl, st⟩
  · cases hv'
    rw [h0] at hB' hz'
    have hl2 : ∀ x ∈ locs ++ L1, gB G ≤ x.base := fun x hx => by
      rcases List.mem_append.mp hx with h | h
      · exact hlo x h
      · exact hL x h
    have hw := hK _ _ _ hq C T'.heap (locs ++ L1) ls (by rw [e1]; exact hR') (fun q hq => by rw [e1, hB' q hq]; exact hB q hq) (Nat.le_trans hz (by rw [e1]; exact hz')) hl2 hv
    obtain ⟨t2, a1, b1⟩ := hw T' rfl X'
    refine ⟨t2, st t2 ?_, b1⟩
    have : (Option.map (tv G) r).toList ++ rest.map (tv G) = (r.toList ++ rest).map (tv G) := by cases r <;> simp
    rw [this]
    exact a1
  · rw [h0] at hB' hz'
    have hl2 : ∀ x ∈ locs ++ L1, gB G ≤ x.base := fun x hx => by
      rcases List.mem_append.mp hx with h | h
      · exact hlo x h
      · exact hL x h
    have hw := hH E M' hq T'.heap (locs ++ L1) q ce (by rw [e1]; exact hR') (fun q hq => by rw [e1, hB' q hq]; exact hB q hq) (Nat.le_trans hz (by rw [e1]; exact hz')) hl2 (by rw [e1]; exact hce) hcv hcl
    obtain ⟨t2, a1, b1⟩ := hw T' rfl X'
    exact ⟨t2, st.trans a1, b1⟩
/-- a call of the class's face -/
def I_cvX (T : List Value → Mm → PQ → PX → Prop) (ci nf nc : Nat) (KH : String → Mm → Prop) (K : KT) : KT := fun L st M => match popA nc st [] with
  | some (as, .ref o :: r) => KX o = (1, ci, nf) ∧ (r.map Value.category).sum ≤ 8 ∧ T (.ref o :: as) M (fun v M' => K L (v.toList ++ r) M') KH
  | _ => False
/-- what is caught, and what is answered then -/
def Hand (Y : YT) (hh : List (Nat × Nat × Nat × Nat)) (pc : Nat) (E : String) (r : Int32) : Prop :=
  ∃ (pre : List ExceptionTableEntry) (x : ExceptionTableEntry) (suf : List ExceptionTableEntry) (i len : Nat) (d : Nat), tableOf hh = pre ++ x :: suf ∧ (∀ z ∈ pre, z.catchType ≠ 0 ∧ ∃ nm, Cond.classLink (yN Y).cls z.catchType nm ∈ WS ∧ (E, nm) ∈ ncsW) ∧ covers x pc = true ∧ x.catchType ≠ 0 ∧
    Cond.classLink (yN Y).cls x.catchType E ∈ WS ∧ E ∈ cstW ∧ ((len = 2 ∧ decode (yB Y) x.handlerPc = .ok (.astore i, 2)) ∨ (len = 1 ∧ ∃ j : Fin 4, (j : Nat) = i ∧ decode (yB Y) x.handlerPc = .ok (.astore_n j, 1))) ∧ i < yL Y ∧
    decode (yB Y) (x.handlerPc + len) = .ok (.ldc d, 2) ∧ Cond.constant (yN Y).cls d r ∈ WS ∧ decode (yB Y) (x.handlerPc + len + 2) = .ok (.ireturn, 1)
theorem hand_w {p : Program} {e : Env} {s : State} {m : MethodId} {args : Array Value} {below : List Frame} {meth : Method} {c : Code} {H : Heap} {locs : List Loc} {ls : Array Slot} {L : List Value} {rest : List Value} {E : String} {r : Int32} {M : Mm} {q : Addr} {ce : Cell}
    (hh2 : Hand Y hh pc E r) (C : CH G (p, e, s, m, args, below, meth, c) Y hh) (hrt : yR Y = some .int) (hk : k ≤ yC Y) (hn : n ≤ yS Y) (hQ : Q (some (.int r)) M) (hv : lv_has ls (yL Y) (lvOf G 0 L)) (hR : RepH true G M H) (hB : ∀ q, q < gB G → H[q]? = s.heap[q]?) (hz : s.heap.size ≤ H.size) (hlo : ∀ x ∈ locs, gB G ≤ x.base) (hce : H[q]? = some ce) (hcv : ce.vm = .none) (hcl : s.vm.findClass E = some ce.cls) :
    vx_W p l e (yRoom Y) s m args below meth c H locs k n (vx_MQ below (Qr true G Q) (Qx true G NX) args s (yC Y) (yS Y) (fun q => gB G ≤ q)) (F0 m pc ls rest) q := by
  obtain ⟨pre, x, suf, i, len, d, h1, h2, h3, h4, h5, h6, h7, h8, h9, h10, h11⟩ := hh2
  have hzf : ZF G s s.heap := C.zz
  have hnw : nwZ s := hzf.2.1.2.2.2
  refine vx_catch (name := E) C.ow pre x suf (C.tb.trans h1) (fun z hz => ?_) h3 h4 (C.ws _ h5) (va_Nw.use rfl (hnw.1 E h6)) hce hcv hcl ?_
  · obtain ⟨g1, nm, g2, g3⟩ := h2 z hz
    exact Or.inr ⟨g1, nm, C.ws _ g2, hnw.2.2.1 _ g3⟩
  · have fin : ∀ ls' : Array Slot, W p l e (yRoom Y) s m args below meth c H locs k n (vx_MQ below (Qr true G Q) (Qx true G NX) args s (yC Y) (yS Y) (fun q => gB G ≤ q)) (F0 m (x.handlerPc + len) ls' []) := fun ls' =>
      lv_ldc C.ex C.by C.ow (C.ws _ h10) h9 (W.widen hk hn (vx_ret (W.iret C.ex C.by (C.rt.trans hrt) (fun t ht _ => qh_of hQ hR hB hz t ht) hlo h11 C.lk)))
    rcases h7 with ⟨rfl, h7⟩ | ⟨rfl, j, hj, h7⟩
    · exact lv_astore C.ex C.by h7 hv h8 rfl fun ls' _ => fin ls'
    · exact lv_astore_n C.ex C.by h7 hj hv h8 rfl fun ls' _ => fin ls'
theorem h_cvX {Yc : YT} {nc ix : Nat} {KH : String → Mm → Prop} (hK : Le K (Wh l G F Y hh Q (k + yC Yc) (n + yS Yc) (pc + 3))) (hH : ∀ (E : String) (M' : Mm), KH E M' → ∃ r, Hand Y hh pc E r ∧ Q (some (.int r)) M') (hrt : yR Y = some .int) (d : decode (yB Y) pc = .ok (.invokevirtual ix, 3)) (ok : okV Yc nc) (hcls : (yN Yc).cls = RX9) (hl : Cond.methodLink (yN Y).cls ix (yN Yc) ∈ WS) (hf : fit Yc Y) (hk : k + yC Yc ≤ yC Y ∧ n + yS Yc ≤ yS Y) :
    Le (I_cvX (Tr true l G Yc) 7 3 nc KH K) (Wh l G F Y hh Q k n pc) := by
  intro L st M h
  unfold I_cvX at h
  split at h
  next as o r hpop =>
    intro C
    obtain ⟨p, e, s, m, args, below, meth, c⟩ := F
    intro H locs ls hR hB hz hlo hv
    obtain ⟨hx, hcat, h⟩ := h
    obtain ⟨hst, hlen⟩ := popA_0 hpop
    have hkx : (KX o).1 ≠ 0 := by rw [hx]; exact Nat.succ_ne_zero _
    have hP := rep_at hR (rep_lt hR hkx) hkx
    rw [cellE_1 hx] at hP
    have hrec := va_recv C.ka hP cl_X9.1 (q0 := 0) rfl
    have hcb : CallB (yRoom Y) s args (yN Y).cls ix (yN Yc) (yB Yc) (yL Yc) (yR Yc) (yC1 Yc :: WS) (yRoom Yc) (yC Yc) (yS Yc) nc := callB_of nc C.ws (ws_gi ok.1.1) rfl rfl rfl (C.ws _ ok.1.2.1) (C.ws _ hl) ok.1.2.2 hf
    refine h_call (Yc := Yc) (rest := r) hK C hB hz hlo hv (fun E M' hKH H' locs' q ce g1 g2 g3 g4 g5 g6 g7 => ?_) (vx_runV (C := RX9) (As := as.map (tv G)) ⟨C.ex, C.by, C.ml, C.ow, C.ws⟩ h ⟨hcb, C.ws _ ok.2.1, by rw [← hcls]; exact C.ws _ ok.2.2⟩ ⟨sok_blind, hrec, fun U hU hW => ⟨rfl, sok_moved C.go C.ka C.zz hR hB hU hW⟩⟩ rfl (by rw [List.length_map]; exact hlen) hv.1 ?_ ?_ d hk)
    · obtain ⟨r', e1, e2⟩ := hH E M' hKH
      exact hand_w e1 C hrt hk.1 hk.2 e2 hv g1 g2 g3 g4 g5 g6 g7
    · show st.map (tv G) = _
      rw [hst]
      simp [tv]
    · show 2 * 0 + _ ≤ 8
      rw [cat_sum]
      omega
  next => exact h.elim
theorem trh_of {As L0 : List Value} {M : Mm} (hpl : plainName (yN Y).cls = true) (hn : (arL As).length ≤ yL Y) (hL : ar0 (yL Y) As = L0) (body : ∀ F : FX, Wh l G F Y hh Q 0 0 0 L0 [] M) : TrH l G Y hh As M Q := by
  unfold TrH
  refine vx_ofWH (cc := yB Y) (maxL := yL Y) (ret := yR Y) (hh := hh) hpl rfl ?_
  intro p e s m args below meth c s₁ B hml hv
  obtain ⟨rfl, hgo, hka, hzz, hR⟩ := hv
  have hts : ∀ w ∈ hC1 Y hh :: WS, w.before _ s = true := atoms_spec (ws := hC1 Y hh :: WS) B.pre
  have htb := vx_table (x := yN Y) B (hts _ (List.mem_cons_self ..))
  have C : CH G (p, e, s, m, (As.map (tv G)).toArray, below, meth, c) Y hh := ⟨B.exec, B.bytes, hml, B.returns, B.notSynchronized, htb, findClass_of_methodNamed B.named, fun w hw => hts w (List.mem_cons_of_mem _ hw), hgo, hka, hzz, by have := hR.1; omega⟩
  have hl := lv_entry (As.map (tv G)) (n := yL Y) (by rw [lg_len]; exact hn)
  rw [lg_entry_eq]
  refine body (p, e, s, m, (As.map (tv G)).toArray, below, meth, c) C s.heap [] _ hR (fun _ _ => rfl) (Nat.le_refl _) (fun _ h => by cases h) ⟨hl.1, hl.2.1, fun q hq => hl.2.2 q ?_⟩
  rw [← hL] at hq
  exact arL_in As 0 _ q hq
end LAH
