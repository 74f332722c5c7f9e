/-! ===== refusing: a throw, after the law of the kit that leaves open how much the heap has grown ===== -/
section THR
variable {p : Program} {l : Launch} {e : Env} {R : Room} {s : State} {m : MethodId} {args : Array Value} {below : List Frame} {meth : Method} {c : Code} {H : Heap} {locs : List Loc} {cells slots : Nat} {Q : State → Prop}
variable {mc ms : Nat} {free : Addr → Prop} {A0 A1 : Nat → Prop} {H0 : Heap} {a : Array Value} {ls : Array Slot} {st0 rest : List Value}
variable {Qc : Array Value → State → Outcome → State → Prop} {XC : String → State → State → Prop}
theorem my_throwS {cc : ByteArray} {pc : Nat} (hexec : p.tables.exec = Jvm.exec) (hb : c.code = cc) (hl : l.stackTraces = false) {own cls text : String} {names : List String} {ik is ic mc ms sa : Nat} {A : Nat → Prop}
    (hown : s.vm.findClass own = some m.cls) (hcls : Bundle.fit cls = true) (hnames : ∀ n ∈ names, Bundle.fit n = true)
    (hk : (Cond.classLink own ik cls).before args s = true) (hini : (Cond.initialized cls).before args s = true) (hstr : vk_R own is text sa s) (hat : ∀ w ∈ vx_atS own ic cls names, w.before args s = true)
    (hgood : ∀ w ∈ Cond.classLink own ik cls :: Cond.initialized cls :: vx_atS own ic cls names, vx_ot w = true)
    (hU : vx_Zq Bundle.tN "UNASSIGNED_STACK" Bundle.steD A s s.heap) (hN : vx_Zq Bundle.tN "SUPPRESSED_SENTINEL" Bundle.listD A s s.heap) (hS : va_S A s.heap H locs) (hsize : ls.size = c.maxLocals)
    (d0 : decode cc pc = .ok (.new ik, 3)) (d3 : decode cc (pc + 3) = .ok (.dup, 1)) (d4 : decode cc (pc + 4) = .ok (.ldc is, 2)) (d6 : decode cc (pc + 6) = .ok (.invokespecial ic, 3)) (d9 : decode cc (pc + 9) = .ok (.athrow, 1))
    (hout : ∀ x ∈ c.exceptionTable.toList, covers x (pc + 9) = false)
    (hRframes : names.length + 3 < R.frames) (hRlocals : (rest.map fun v => v.category).sum + (13 * (names.length + 1) + 43) ≤ R.locals) (hRcells : cells + 1 ≤ R.cells) (hRslots : slots + 6 ≤ R.slots) (hlocks : meth.locks = false)
    (hx : ∀ t : State, s.vm.Alike t.vm → t.heap.size = H.size + 1 → (∀ q : Nat, q < H.size → t.heap[q]? = H[q]?) → XC cls s t)
    (hf : ∀ z ∈ locs, free z.base) (hc : cells + 1 ≤ mc) (hs : slots + 6 ≤ ms) :
    W p l e R s m args below meth c H locs cells slots (vx_MQ below Qc XC args s mc ms free) (F0 m pc ls rest) := by
  intro T hT X
  have htr : e.platform.stackTraces = false := (show e.platform.stackTraces = l.stackTraces by rw [X.admits.platform]).trans hl
  have Y := vx_rebase X (R' := { frames := R.frames, locals := R.locals, cells := 1, slots := 6 }) (Nat.le_refl _) (Nat.le_refl _) hRcells hRslots
  obtain ⟨s', hA⟩ : ∃ z, z = (T.setVm s.vm).setFrames (.invoking m args :: below) := ⟨_, rfl⟩
  rw [← hA] at Y
  have hvm : s'.vm = s.vm := by rw [hA]; rfl
  have hhp : s'.heap = H := by rw [hA]; exact hT
  have hW0 : s.WarmedH s'.vm := by rw [hvm]; exact State.WarmedH.refl s
  have hat' : ∀ w ∈ vx_atS own ic cls names, w.before args s' = true := fun w hw => vx_ot_at hW0 hvm.symm (hgood w (List.mem_cons_of_mem _ (List.mem_cons_of_mem _ hw))) (hat w hw)
  have hk' : (Cond.classLink own ik cls).before args s' = true := vx_ot_at hW0 hvm.symm (hgood _ List.mem_cons_self) hk
  have hini' : (Cond.initialized cls).before args s' = true := vx_ot_at hW0 hvm.symm (hgood _ (List.mem_cons_of_mem _ List.mem_cons_self)) hini
  have hU' : vx_Zq Bundle.tN "UNASSIGNED_STACK" Bundle.steD A s' s'.heap := by rw [hhp]; exact vx_Zq.moved hW0.alike (hU.kept hS.2.1)
  have hN' : vx_Zq Bundle.tN "SUPPRESSED_SENTINEL" Bundle.listD A s' s'.heap := by rw [hhp]; exact vx_Zq.moved hW0.alike (hN.kept hS.2.1)
  have h : ∀ w ∈ Bundle.ownAtoms own ic cls names, w.before args s' = true := vx_own hat' (vx_isRefq hU'.1) (vx_isRefq hN'.1) hU'.2.word hN'.2.word
  have hown' : s'.vm.findClass own = some m.cls := by rw [hvm]; exact hown
  have hins : (Cond.instantiable cls 6).before args s' = true := h _ (by simp [Bundle.ownAtoms])
  obtain ⟨vm₁, cX, kX, hfX, hkX, -, -, X₁, st1⟩ := Y.newCold hexec (own := own) (C := cls) (index := ik) (n := 6) hown' hk' hins hini'
    (g := F0 m pc ls rest) rfl (by rw [hb]; exact d0) (Nat.le_refl _) (Nat.le_refl _)
  generalize hT1 : (T.setVm vm₁).pushCell { cls := cX, slots := kX.instanceTypes.map defaultValue, vm := .none } = T1 at X₁ st1
  have hcat : (Value.ref T.heap.size).category = 1 := rfl
  have hcellA : T1.heap[T.heap.size]? = some (freshCell cX kX) := by rw [← hT1]; exact State.heap_pushCell_size _ _
  have d3' : decode c.code (pc + 3) = .ok (.dup, 1) := by rw [hb]; exact d3
  have d4' : decode c.code (pc + 4) = .ok (.ldc is, 2) := by rw [hb]; exact d4
  have hstr' : vk_R own is text sa s' := vk_R.warm hW0 hstr
  obtain ⟨U, hsteps, hrun, hend, hW, hsame, ce, hce, hO⟩ := X₁.ctorThrowS hexec htr (own := own) (cls := cls) (names := names) (ic := ic) hown' hcls hnames h (fun x hx => nomatch hx) hfX hkX hcellA (by rw [hhp, hT]; exact Nat.le_refl _) (msg := .ref sa) rfl
    (g := { method := m, pc := pc + 6, locals := ls, stack := .ref sa :: .ref T.heap.size :: .ref T.heap.size :: rest, locked := none }) rfl hsize rfl rfl (rest := rest) rfl
    (by rw [hb]; exact d6) (by rw [hb]; exact d9) hout hRframes (by simp only [List.map_cons, List.sum_cons, hcat]; omega) hlocks
  obtain ⟨f1, f2⟩ := vx_frame hsame
  rw [hhp] at f1 f2
  have hWs : s.WarmedH U.vm := State.WarmedH.trans hW0 hW
  have hcl : s.vm.findClass cls = some ce.cls := by
    have h9 := hO.cls
    rw [hvm] at h9
    exact h9
  have hall : s.sameButNew ({ U with vm := s.vm } : State) locs mc ms := by
    subst hA
    obtain ⟨e1, e2⟩ := hsame
    rw [State.setFrames_setFrames] at e1
    have h2 : (T.setVm s.vm).sameButNew ({ U with vm := s.vm } : State) [] (0 + 1) (0 + 6) := ⟨e1, e2⟩
    have h3 := X.same.trans h2
    rw [List.append_nil] at h3
    exact h3.mono hc hs
  have f3 : U.heap.size = H.size + 1 := by
    have a1 : U.heap.size ≤ s'.heap.size + 1 := hsame.2.2.1
    have a2 : T.heap.size < U.heap.size := (Array.getElem?_eq_some_iff.mp hce).1
    rw [hhp] at a1
    rw [hT] at a2
    omega
  refine ⟨U, ?_, .threw T.heap.size, hrun, hend, Or.inr ⟨T.heap.size, rfl, cls, ce, locs, hx U hWs.alike f3 (fun q hq => f2 q hq (fun z hz => nomatch hz)), hce, hO.vm, hcl, hWs, hall, hf⟩⟩
  refine st1 _ ?_
  show Steps p.tables e below (T1.setTop { method := m, pc := pc + 3, locals := ls, stack := .ref T.heap.size :: rest, locked := none }) _
  jvm_step X₁.here [X₁.here.top, hexec, d3', Value.category]
  exact X₁.ldcString hexec (own := own) (text := text) (index := is) (a := sa) hown' hstr'.1 hstr'.2
    (g := { method := m, pc := pc + 4, locals := ls, stack := .ref T.heap.size :: .ref T.heap.size :: rest, locked := none }) rfl d4' _ hsteps
end THR
def exn (k : Int) : String := if k = 1 then "java/lang/IndexOutOfBoundsException" else if k = 2 then "java/lang/IllegalArgumentException" else "java/lang/IllegalStateException"
/-- an object more, which nobody knows -/
def bN (M : Mm) : Mm := (mN M + 1, mI M, mL M, mP M)
theorem rep_bump {z : Bool} {G : GT} {M : Mm} {H H1 : Heap} (hR : RepH z G M H) (h6 : 1098 ≤ mN M) (hs : H1.size = H.size + 1) (hq : ∀ q, q < H.size → H1[q]? = H[q]?) (hm : mN M < 900000) : RepH z G (bN M) H1 := by
  have h1 := hR.1
  refine ⟨by rw [hs, h1]; exact Nat.add_assoc .., fun a ha hk => ?_, fun hz => ⟨(hR.2.2.1 hz).1, Nat.le_succ_of_le h6⟩, Nat.lt_of_lt_of_le (Nat.succ_lt_succ hm) (Nat.le_of_ble_eq_true rfl)⟩
  have hlt := kx_lt hk
  exact (hR.2.1 a (Nat.lt_of_lt_of_le hlt h6) hk).kept (hq _ (by rw [h1]; omega))
abbrev nmsW : List String := ["java/lang/RuntimeException", "java/lang/Exception"]
theorem at_bad {ic : Nat} {E : String} (hg : (vx_atS "TradeLogs" ic E nmsW).filter (fun w => !goodWord w) = [.declares (Bundle.initS "java/lang/RuntimeException"), .declares (Bundle.initS "java/lang/Exception"), .declares (Bundle.initS "java/lang/Throwable"), .castable E E]) (hE : E ∈ cstW) {ps : List Nat} (hp : (vx_atS "TradeLogs" ic E nmsW).filter goodWord = ps.filterMap (fun i => lw_tbl[i]?)) {args : Array Value} {s : State} (hw : ∀ w ∈ WS, w.before args s = true) (hn : nwZ s) : ∀ w ∈ vx_atS "TradeLogs" ic E nmsW, w.before args s = true := by
  intro w h
  by_cases g : goodWord w = true
  · refine hw w (ws_in ?_ g)
    have h1 : w ∈ (vx_atS "TradeLogs" ic E nmsW).filter goodWord := List.mem_filter.mpr ⟨h, g⟩
    rw [hp] at h1
    obtain ⟨i, -, hi⟩ := List.mem_filterMap.mp h1
    first | exact List.mem_of_getElem? hi | exact List.getElem?_mem hi
  · have h1 : w ∈ (vx_atS "TradeLogs" ic E nmsW).filter (fun w => !goodWord w) := List.mem_filter.mpr ⟨h, by simpa using g⟩
    rw [hg] at h1
    rcases List.mem_cons.mp h1 with rfl | h1
    · exact va_Nw.use rfl (hn.2.1 _ (List.mem_cons_self ..))
    rcases List.mem_cons.mp h1 with rfl | h1
    · exact va_Nw.use rfl (hn.2.1 _ (List.mem_cons_of_mem _ (List.mem_cons_self ..)))
    rcases List.mem_cons.mp h1 with rfl | h1
    · exact va_Nw.use rfl (hn.2.1 _ (List.mem_cons_of_mem _ (List.mem_cons_of_mem _ (List.mem_cons_self ..))))
    rcases List.mem_cons.mp h1 with rfl | h1
    · exact va_Nw.use rfl (hn.1 _ hE)
    · cases h1
section RTH
variable {l : Launch} {G : GT} {F : FX} {Q : PQ} {QX : PX}
def I_thr (E : String) (QX : PX) : KT := fun _ st M => st = [] ∧ mN M < 900000 ∧ QX E (bN M)
theorem r_thr {E text : String} {ik is ic pc : Nat} {ps : List Nat} (hl : l.stackTraces = false) (hE : E ∈ cstW) (hfit : Bundle.fit E = true) (hk : Cond.classLink "TradeLogs" ik E ∈ WS) (hi : Cond.initialized E ∈ WS) (hst : ("TradeLogs", is, text) ∈ strW)
    (hg : (vx_atS "TradeLogs" ic E nmsW).filter (fun w => !goodWord w) = [.declares (Bundle.initS "java/lang/RuntimeException"), .declares (Bundle.initS "java/lang/Exception"), .declares (Bundle.initS "java/lang/Throwable"), .castable E E]) (hp : (vx_atS "TradeLogs" ic E nmsW).filter goodWord = ps.filterMap (fun i => lw_tbl[i]?))
    (hgd : (Cond.classLink "TradeLogs" ik E :: Cond.initialized E :: vx_atS "TradeLogs" ic E nmsW).all vx_ot = true)
    (d0 : decode cX9_refuse pc = .ok (.new ik, 3)) (d3 : decode cX9_refuse (pc + 3) = .ok (.dup, 1)) (d4 : decode cX9_refuse (pc + 4) = .ok (.ldc is, 2)) (d6 : decode cX9_refuse (pc + 6) = .ok (.invokespecial ic, 3)) (d9 : decode cX9_refuse (pc + 9) = .ok (.athrow, 1)) :
    Le (I_thr E QX) (Wj true l G F Y_X9_refuse Q QX 0 0 pc) := by
  intro L st M h C
  obtain ⟨rfl, hm, hQ⟩ := h
  obtain ⟨p, e, s, m, args, below, meth, c⟩ := F
  intro H locs ls hR hB hz hlo hv
  have hzf : ZF G s s.heap := C.zz
  obtain ⟨sa, hstr⟩ := hzf.2.2.1 _ hst
  refine my_throwS (A := fun q => gB G ≤ q) (names := nmsW) (rest := []) C.ex C.by hl C.ow hfit (by decide) (C.ws _ hk) (C.ws _ hi) hstr (at_bad hg hE hp C.ws hzf.2.1.2.2.2) (fun w hw => List.all_eq_true.mp hgd w hw) hzf.2.1.1 hzf.2.1.2.1 (zz_S hB hz hlo) (hv.1.trans C.ml.symm) d0 d3 d4 d6 d9 (fun x hx => (C.tb x hx).elim) (Nat.le_of_ble_eq_true rfl) (Nat.le_of_ble_eq_true rfl) (Nat.le_of_ble_eq_true rfl) (Nat.le_of_ble_eq_true rfl) C.lk (fun t _ hsz hsm => ?_) hlo (Nat.le_of_ble_eq_true rfl) (Nat.le_of_ble_eq_true rfl)
  have hba := C.ba
  exact ⟨bN M, hQ, rep_bump hR (hR.2.2.1 rfl).2 hsz hsm hm, fun q hq => (hsm q (by omega)).trans (hB q hq), by rw [hsz]; omega⟩
def PS1 : List Nat := [33, 308, 317, 321, 324, 326, 309, 310, 47, 48, 311, 316, 322, 342, 298, 343, 300, 344, 302, 312, 314, 304, 338, 339, 341, 304, 329, 330, 331, 332, 332, 333, 334, 335, 335, 336, 337, 338, 328, 287, 295, 296, 297, 299, 301, 303, 307, 306, 305]
theorem GP1 : (vx_atS "TradeLogs" 233 "java/lang/IndexOutOfBoundsException" nmsW).filter goodWord = PS1.filterMap (fun i => lw_tbl[i]?) := by decide +kernel
theorem BD1 : (vx_atS "TradeLogs" 233 "java/lang/IndexOutOfBoundsException" nmsW).filter (fun w => !goodWord w) = [.declares (Bundle.initS "java/lang/RuntimeException"), .declares (Bundle.initS "java/lang/Exception"), .declares (Bundle.initS "java/lang/Throwable"), .castable "java/lang/IndexOutOfBoundsException" "java/lang/IndexOutOfBoundsException"] := by decide +kernel
theorem CS1 : "java/lang/IndexOutOfBoundsException" ∈ cstW := List.mem_cons_self ..
theorem CL1 : Cond.classLink "TradeLogs" 229 "java/lang/IndexOutOfBoundsException" ∈ WS := ws_in (List.mem_of_getElem? (i := 286) (by decide +kernel)) rfl
theorem CI1 : Cond.initialized "java/lang/IndexOutOfBoundsException" ∈ WS := ws_in (List.mem_of_getElem? (i := 36) (by decide +kernel)) rfl
theorem ST1 : ("TradeLogs", 231, "there is none of this number") ∈ strW := List.mem_cons_self ..
def PS2 : List Nat := [33, 308, 317, 321, 324, 326, 309, 310, 47, 48, 311, 316, 322, 342, 298, 343, 300, 344, 302, 312, 314, 304, 338, 339, 341, 304, 365, 366, 367, 332, 332, 333, 334, 335, 335, 336, 337, 338, 364, 355, 357, 319, 358, 359, 360, 361, 307, 306, 362]
theorem GP2 : (vx_atS "TradeLogs" 240 "java/lang/IllegalArgumentException" nmsW).filter goodWord = PS2.filterMap (fun i => lw_tbl[i]?) := by decide +kernel
theorem BD2 : (vx_atS "TradeLogs" 240 "java/lang/IllegalArgumentException" nmsW).filter (fun w => !goodWord w) = [.declares (Bundle.initS "java/lang/RuntimeException"), .declares (Bundle.initS "java/lang/Exception"), .declares (Bundle.initS "java/lang/Throwable"), .castable "java/lang/IllegalArgumentException" "java/lang/IllegalArgumentException"] := by decide +kernel
theorem CS2 : "java/lang/IllegalArgumentException" ∈ cstW := List.mem_cons_of_mem _ (List.mem_cons_self ..)
theorem CL2 : Cond.classLink "TradeLogs" 236 "java/lang/IllegalArgumentException" ∈ WS := ws_in (List.mem_of_getElem? (i := 354) (by decide +kernel)) rfl
theorem CI2 : Cond.initialized "java/lang/IllegalArgumentException" ∈ WS := ws_in (List.mem_of_getElem? (i := 37) (by decide +kernel)) rfl
theorem ST2 : ("TradeLogs", 238, "an argument is out of range") ∈ strW := List.mem_cons_of_mem _ (List.mem_cons_self ..)
def PS3 : List Nat := [33, 308, 317, 321, 324, 326, 309, 310, 47, 48, 311, 316, 322, 342, 298, 343, 300, 344, 302, 312, 314, 304, 338, 339, 341, 304, 381, 382, 383, 332, 332, 333, 334, 335, 335, 336, 337, 338, 380, 371, 373, 320, 374, 375, 376, 377, 307, 306, 378]
theorem GP3 : (vx_atS "TradeLogs" 245 "java/lang/IllegalStateException" nmsW).filter goodWord = PS3.filterMap (fun i => lw_tbl[i]?) := by decide +kernel
theorem BD3 : (vx_atS "TradeLogs" 245 "java/lang/IllegalStateException" nmsW).filter (fun w => !goodWord w) = [.declares (Bundle.initS "java/lang/RuntimeException"), .declares (Bundle.initS "java/lang/Exception"), .declares (Bundle.initS "java/lang/Throwable"), .castable "java/lang/IllegalStateException" "java/lang/IllegalStateException"] := by decide +kernel
theorem CS3 : "java/lang/IllegalStateException" ∈ cstW := List.mem_cons_of_mem _ (List.mem_cons_of_mem _ (List.mem_cons_self ..))
theorem CL3 : Cond.classLink "TradeLogs" 241 "java/lang/IllegalStateException" ∈ WS := ws_in (List.mem_of_getElem? (i := 370) (by decide +kernel)) rfl
theorem CI3 : Cond.initialized "java/lang/IllegalStateException" ∈ WS := ws_in (List.mem_of_getElem? (i := 38) (by decide +kernel)) rfl
theorem ST3 : ("TradeLogs", 243, "this cannot be done now") ∈ strW := List.mem_cons_of_mem _ (List.mem_cons_of_mem _ (List.mem_cons_self ..))
theorem g_X9_refuse (hl : l.stackTraces = false) : Le (I_il 0 (I_ic 1 (I_icne (I_il 0 (I_ic 2 (I_icne (I_il 0 (I_ic 3 (I_icne (I_vr Q) (I_thr "java/lang/IllegalStateException" QX)))) (I_thr "java/lang/IllegalArgumentException" QX)))) (I_thr "java/lang/IndexOutOfBoundsException" QX)))) (Wj true l G F Y_X9_refuse Q QX 0 0 0) := by
  refine r_iload_n (pc := 0) ?_ dX9_refuse_0 rfl
  refine r_iconst (pc := 1) ?_ dX9_refuse_1 (by decide)
  refine r_icne (pc := 2) (t := 15) ?_ ?_ dX9_refuse_2 (by decide)
  · refine r_iload_n (pc := 15) ?_ dX9_refuse_15 rfl
    refine r_iconst (pc := 16) ?_ dX9_refuse_16 (by decide)
    refine r_icne (pc := 17) (t := 30) ?_ ?_ dX9_refuse_17 (by decide)
    · refine r_iload_n (pc := 30) ?_ dX9_refuse_30 rfl
      refine r_iconst (pc := 31) ?_ dX9_refuse_31 (by decide)
      refine r_icne (pc := 32) (t := 45) ?_ ?_ dX9_refuse_32 (by decide)
      · exact r_vr dX9_refuse_45 rfl (Nat.le_of_ble_eq_true rfl) (Nat.le_of_ble_eq_true rfl)
      · exact r_thr (ps := PS3) hl CS3 (by decide) CL3 CI3 ST3 BD3 GP3 (by decide +kernel) dX9_refuse_35 dX9_refuse_38 dX9_refuse_39 dX9_refuse_41 dX9_refuse_44
    · exact r_thr (ps := PS2) hl CS2 (by decide) CL2 CI2 ST2 BD2 GP2 (by decide +kernel) dX9_refuse_20 dX9_refuse_23 dX9_refuse_24 dX9_refuse_26 dX9_refuse_29
  · exact r_thr (ps := PS1) hl CS1 (by decide) CL1 CI1 ST1 BD1 GP1 (by decide +kernel) dX9_refuse_5 dX9_refuse_8 dX9_refuse_9 dX9_refuse_11 dX9_refuse_14
end RTH
