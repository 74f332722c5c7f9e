/-! ===== a row of rows of ints: no rule that may be used here serves multianewarray ===== -/
/-- the outer row, when i of its rows are made; an inner row -/
def rwO (cA : ClassId) (N h i : Nat) : Cell := arrV cA N (fun j => if j < i then .ref (h + 1 + j) else .null)
def rwC (cy : ClassId) (K : Nat) : Cell := arrV cy K (fun _ => .int 0)
/-- the state with the outer row and i of the inner ones behind all else -/
def rwS (s : State) (cA cy : ClassId) (N K i : Nat) : State := { s with heap := s.heap ++ (#[rwO cA N s.heap.size i] ++ Array.replicate i (rwC cy K)), slotsUsed := s.slotsUsed + N + i * K }
section RWH
variable {s : State} {cA cy : ClassId} {N K i : Nat}
theorem rwO_sz (cA : ClassId) (N h i : Nat) : (rwO cA N h i).slots.size = N := by simp [rwO, arrV]
theorem rwC_sz (cy : ClassId) (K : Nat) : (rwC cy K).slots.size = K := by simp [rwC, arrV]
theorem rw_sz : (rwS s cA cy N K i).heap.size = s.heap.size + 1 + i := by
  show (s.heap ++ (#[rwO cA N s.heap.size i] ++ Array.replicate i (rwC cy K))).size = _
  rw [Array.size_append, Array.size_append, Array.size_replicate]
  exact (Nat.add_assoc ..).symm
theorem rw_old {a : Nat} (ha : a < s.heap.size) : (rwS s cA cy N K i).heap[a]? = s.heap[a]? := Array.getElem?_append_left ha
theorem rw_out : (rwS s cA cy N K i).heap[s.heap.size]? = some (rwO cA N s.heap.size i) := by
  show (s.heap ++ (#[rwO cA N s.heap.size i] ++ Array.replicate i (rwC cy K)))[s.heap.size]? = _
  rw [Array.getElem?_append_right (Nat.le_refl _), Nat.sub_self, Array.getElem?_append_left (show 0 < 1 by decide)]
  rfl
theorem rw_out1 {x : Cell} : ((rwS s cA cy N K i).pushCell x).heap[s.heap.size]? = some (rwO cA N s.heap.size i) := (State.heap_pushCell_of_lt _ _ (show s.heap.size < (rwS s cA cy N K i).heap.size by rw [rw_sz]; omega)).trans rw_out
theorem rw_in {j : Nat} (hj : j < i) : (rwS s cA cy N K i).heap[s.heap.size + 1 + j]? = some (rwC cy K) := by
  show (s.heap ++ (#[rwO cA N s.heap.size i] ++ Array.replicate i (rwC cy K)))[s.heap.size + 1 + j]? = _
  rw [Array.getElem?_append_right (by omega), show s.heap.size + 1 + j - s.heap.size = 1 + j by omega, Array.getElem?_append_right (by show 1 ≤ 1 + j; omega), show 1 + j - (#[rwO cA N s.heap.size i] : Array Cell).size = j by show 1 + j - 1 = j; omega, Array.getElem?_replicate, if_pos hj]
theorem rw_st {h h' : Heap} {u u' : Nat} (e1 : h = h') (e2 : u = u') : ({ s with heap := h, slotsUsed := u } : State) = { s with heap := h', slotsUsed := u' } := by rw [e1, e2]
theorem rw_0 : s.pushCell (rwO cA N s.heap.size 0) = rwS s cA cy N K 0 := by
  refine rw_st ?_ ?_
  · rw [Array.replicate_zero, Array.append_empty]
    exact Array.push_eq_append
  · rw [rwO_sz]
    omega
theorem rw_up : (rwO cA N s.heap.size i).setSlot i (.ref (s.heap.size + 1 + i)) = rwO cA N s.heap.size (i + 1) := by
  unfold rwO
  rw [arrV_store]
  congr 1
  funext j
  unfold updV
  split
  next e => rw [if_pos (by omega), e]
  next e =>
    show (if j < i then Value.ref (s.heap.size + 1 + j) else Value.null) = _
    by_cases h : j < i
    · rw [if_pos h, if_pos (by omega)]
    · rw [if_neg h, if_neg (by omega)]
/-- one inner row more -/
theorem rw_s : ((rwS s cA cy N K i).pushCell (rwC cy K)).setCell s.heap.size (rwO cA N s.heap.size (i + 1)) = rwS s cA cy N K (i + 1) := by
  refine rw_st ?_ ?_
  · apply Array.toList_inj.mp
    show (((s.heap ++ (#[rwO cA N s.heap.size i] ++ Array.replicate i (rwC cy K))).push (rwC cy K)).setIfInBounds s.heap.size _).toList = _
    rw [Array.toList_setIfInBounds, Array.toList_push, Array.toList_append, Array.toList_append, Array.toList_append, Array.toList_append, Array.toList_replicate, Array.toList_replicate, List.append_assoc, ← Array.length_toList, List.set_append_right _ _ (Nat.le_refl _), Nat.sub_self, List.replicate_succ']
    rfl
  · show s.slotsUsed + N + i * K + (rwC cy K).slots.size = _
    rw [rwC_sz, Nat.succ_mul]
    omega
theorem rw_top (f : JFrame) : rwS (s.setTop f) cA cy N K i = (rwS s cA cy N K i).setTop f := by
  induction i with
  | zero =>
    rw [← rw_0, ← rw_0, State.heap_setTop, State.pushCell_setTop]
  | succ i ih =>
    rw [← rw_s, ← rw_s, ih, State.heap_setTop, State.pushCell_setTop, State.setCell_setTop]
end RWH
section RWL
variable {E : CtlPost} {e : Env}
/-- a loop that counts up: J i holds ahead of round i -/
theorem loop_up {f : Nat → PUnit → Sem (ForInStep PUnit)} {J : Nat → State → Prop} {N : Nat} {Q : PUnit → Pre}
    (hf : ∀ (i : Nat) (U : State) (d : Bool) (acts : List Action) (R : ForInStep PUnit → Pre), i < N → J i U → (∀ d' acts' U', J (i + 1) U' → R (.yield ⟨⟩) d' acts' U') → wp (f i ⟨⟩) R E e d acts U)
    (hQ : ∀ d acts U, J N U → Q ⟨⟩ d acts U) : ∀ (r i : Nat) (U : State) (d : Bool) (acts : List Action), i + r = N → J i U → wp (forIn (List.range' i r) PUnit.unit f) Q E e d acts U
  | 0, i, U, d, acts, hr, hJ => by
    rw [show List.range' i 0 = [] from rfl, List.forIn_nil, wp_pure']
    exact hQ _ _ _ (by rw [← hr]; exact hJ)
  | r + 1, i, U, d, acts, hr, hJ => by
    rw [List.range'_succ, List.forIn_cons, wp_bind']
    exact hf i U d acts _ (by omega) hJ fun d' acts' U' h => loop_up hf hQ r (i + 1) U' d' acts' (by omega) h
variable {s : State} {d : Bool} {acts : List Action} {cA cy cc : ClassId} {kA kC : Class} {n k : Int32}
theorem rw_mk1 (hC : s.vm.classes[cy]? = some kC) (hkC : kC.kind = .array cc .int) (hk : ¬ k < 0) (hl : ¬ k.toNatClampNeg > e.platform.arrayLengthLimit) (hh : ¬ k.toNatClampNeg * componentBytes .int > e.platform.maxHeapBytes)
    (h1 : s.heap.size < e.platform.maxCells) (h2 : s.slotsUsed + k.toNatClampNeg ≤ e.platform.maxSlots) {Q : Addr → Pre} (hq : ∀ acts', Q s.heap.size d acts' (s.pushCell (rwC cy k.toNatClampNeg))) : wp (multianewarray.make cy [k]) Q E e d acts s := by
  rw [multianewarray.make, if_neg hk]
  dsimp only
  rw [wp_bind', W.theClass]
  refine ⟨kC, hC, ?_⟩
  rw [hkC]
  refine W.newArray_of hC hkC hl hh h1 h2 rfl fun acts' => ?_
  have h := hq acts'
  unfold rwC at h
  rw [← arrV_new] at h
  exact h
theorem rw_mk2 (hA : s.vm.classes[cA]? = some kA) (hkA : kA.kind = .array cy (.array .int)) (hC : s.vm.classes[cy]? = some kC) (hkC : kC.kind = .array cc .int) (hn : ¬ n < 0) (hk : ¬ k < 0)
    (hl1 : ¬ n.toNatClampNeg > e.platform.arrayLengthLimit) (hh1 : ¬ n.toNatClampNeg * componentBytes (.array .int) > e.platform.maxHeapBytes) (hl2 : ¬ k.toNatClampNeg > e.platform.arrayLengthLimit) (hh2 : ¬ k.toNatClampNeg * componentBytes .int > e.platform.maxHeapBytes)
    (h1 : s.heap.size + (1 + n.toNatClampNeg) ≤ e.platform.maxCells) (h2 : s.slotsUsed + (n.toNatClampNeg + n.toNatClampNeg * k.toNatClampNeg) ≤ e.platform.maxSlots) {Q : Addr → Pre}
    (hq : ∀ d' acts', Q s.heap.size d' acts' (rwS s cA cy n.toNatClampNeg k.toNatClampNeg n.toNatClampNeg)) : wp (multianewarray.make cA [n, k]) Q E e d acts s := by
  rw [multianewarray.make, if_neg hn]
  dsimp only
  rw [wp_bind', W.theClass]
  refine ⟨kA, hA, ?_⟩
  rw [hkA]
  show wp (Jvm.newArray cA n.toNatClampNeg .null >>= _) Q E e d acts s
  rw [wp_bind']
  refine W.newArray_of hA hkA hl1 hh1 (by omega) (by omega) rfl fun acts1 => ?_
  have hf0 : [k].find? (· < 0) = none := by
    rw [List.find?_cons_of_neg (by simpa using hk)]
    rfl
  generalize hN : n.toNatClampNeg = N at *
  generalize hK : k.toNatClampNeg = K at *
  rw [hf0]
  dsimp only
  rw [ite_self, wp_bind', Std.Legacy.Range.forIn_eq_forIn_range', show ([:N] : Std.Legacy.Range).size = N by simp [Std.Legacy.Range.size]]
  have e0 : s.pushCell { cls := cA, slots := Array.replicate N .null } = rwS s cA cy N K 0 := by
    rw [← rw_0, arrV_new]
    rfl
  rw [e0]
  refine loop_up (J := fun i U => U = rwS s cA cy N K i) (N := N) ?_ ?_ N 0 _ d acts1 (Nat.zero_add N) rfl
  · intro i U d2 acts2 R hi hU hR
    subst hU
    have hm : i * K + K ≤ N * K := by
      rw [← Nat.succ_mul]
      exact Nat.mul_le_mul_right K hi
    rw [wp_bind']
    refine rw_mk1 (s := rwS s cA cy N K i) (k := k) hC hkC hk (by rw [hK]; exact hl2) (by rw [hK]; exact hh2) (by rw [rw_sz]; omega) ?_ fun acts3 => ?_
    · show s.slotsUsed + N + i * K + k.toNatClampNeg ≤ _
      rw [hK]
      omega
    · rw [hK, wp_bind', W.writeLoc]
      refine ⟨rwO cA N s.heap.size i, ?_, ?_, by rw [rwO_sz]; exact hi, ?_, ?_⟩
      · exact rw_out1
      · unfold rwO arrV
        simp
      · show State.fitsSlot _ cA .none i _ = true
        have e9 : (rwS s cA cy N K i).vm = s.vm := rfl
        simp [State.fitsSlot, State.slotType?, e9, hA, hkA, fits]
      · rw [wp_pure']
        refine hR _ _ _ ?_
        rw [rw_sz, rw_up]
        exact rw_s
  · intro d2 acts2 U hU
    subst hU
    rw [wp_pure']
    exact hq _ _
end RWL
section RWR
variable {p : Program} {l : Launch} {e : Env} {R : Room} {s : State} {m : MethodId} {args : Array Value} {below : List Frame} {meth : Method} {c : Code} {H : Heap} {locs : List Loc} {cells slots : Nat} {Q : State → Prop} {T : State}
theorem rw_stand (X : Stand p l e R s m args below meth c T locs cells slots) (cA cy : ClassId) (N K : Nat) : ∀ i, Stand p l e R s m args below meth c (rwS T cA cy N K i) locs (cells + 1 + i) (slots + N + i * K)
  | 0 => by
    have h := X.pushed (rwO cA N T.heap.size 0)
    rw [rwO_sz, rw_0] at h
    rw [Nat.zero_mul]
    exact h
  | i + 1 => by
    have h := ((rw_stand X cA cy N K i).pushed (rwC cy K)).stored (a := T.heap.size) (cell := rwO cA N T.heap.size i) rw_out1 i (.ref (T.heap.size + 1 + i))
    rw [rwC_sz, rw_up, rw_s] at h
    have h := Stand.forget h fun y hy => by
      rw [List.mem_singleton.mp hy]
      exact X.same.2.1
    rw [Nat.succ_mul, ← Nat.add_assoc (slots + N)]
    exact h
theorem rw_rule {cc : ByteArray} (hexec : p.tables.exec = Jvm.exec) (hb : c.code = cc) {own : String} {ix pc N K : Nat} {cA cy c2 : ClassId} {kA kC : Class} {ls : Array Slot} {rest : List Value} {n k : Int32} (hown : s.vm.findClass own = some m.cls) (hlink : (Cond.classLink own ix "[[I").before args s = true)
    (hf : s.vm.findClass "[[I" = some cA) (hA : s.vm.classes[cA]? = some kA) (hkA : kA.kind = .array cy (.array .int)) (hC : s.vm.classes[cy]? = some kC) (hkC : kC.kind = .array c2 .int) (hdg : decode cc pc = .ok (.multianewarray ix 2, 4)) (hn : ¬ n < 0) (hk : ¬ k < 0) (hN : n.toNatClampNeg = N) (hK : k.toNatClampNeg = K)
    (hbN : N * 4 ≤ 536870912) (hbK : K * 4 ≤ 536870912) (hcells : cells + (1 + N) ≤ R.cells) (hslots : slots + (N + N * K) ≤ R.slots)
    (kk : ∀ H1 : Heap, H1.size = H.size + 1 + N → H1[H.size]? = some (rwO cA N H.size N) → (∀ a, a < H.size → H1[a]? = H[a]?) → (∀ j, j < N → H1[H.size + 1 + j]? = some (rwC cy K)) → W p l e R s m args below meth c H1 locs (cells + 1 + N) (slots + N + N * K) Q (F0 m (pc + 4) ls (.ref H.size :: rest))) :
    W p l e R s m args below meth c H locs cells slots Q (F0 m pc ls (.int k :: .int n :: rest)) := by
  intro T hT X
  subst hT
  obtain ⟨c0, hf0, hl0⟩ := Cond.classLink_spec hown hlink e.platform (by rw [X.admits.platform])
  cases hf.symm.trans hf0
  obtain ⟨hg, hwarm, -⟩ := State.classEntry (e := e) X.warmed hl0
  generalize hv : T.vm.noted m.cls ix (.cls cA) = v1 at hg hwarm
  obtain ⟨kA1, hA1, eA⟩ := hwarm.alike.2.2 _ _ hA
  obtain ⟨kC1, hC1, eC⟩ := hwarm.alike.2.2 _ _ hC
  have XF := rw_stand (X.noted hwarm) cA cy N K N
  obtain ⟨r1, r2⟩ := X.roomAbove hcells hslots
  obtain ⟨t, a1, b1⟩ := kk (rwS (T.setVm v1) cA cy N K N).heap rw_sz rw_out (fun a ha => rw_old ha) (fun j hj => rw_in hj) (rwS (T.setVm v1) cA cy N K N) rfl XF
  refine ⟨t, ?_, b1⟩
  have lim := Launch.admits_arrayLengthLimit X.admits
  have mem := Launch.admits_maxHeapBytes X.admits
  jvm_step X.here [hexec, hb, hdg]
  simp only [multianewarray.sem, wp_bind', W.resolveClassAt_links (State.method?_setTop (F0 m pc ls (.int k :: .int n :: rest)) X.here.top) hg]
  rw [W.popN, if_neg (by decide)]
  refine ⟨F0 m pc ls (.int k :: .int n :: rest), State.topJava?_setTop' (s := T.setVm v1) _ X.here.top, [.int n, .int k], rest, rfl, rfl, ?_⟩
  simp only [List.mapM_cons, List.mapM_nil, wp_bind', wp_pure']
  subst hN hK
  refine rw_mk2 (kA := kA1) (kC := kC1) (cy := cy) (cc := c2) hA1 (by rw [eA]; exact hkA) hC1 (by rw [eC]; exact hkC) hn hk (by rw [lim]; omega) (by rw [mem]; show ¬ _ * 4 > _; omega) (by rw [lim]; omega) (by rw [mem]; show ¬ _ * 4 > _; omega) (by exact r1) (by exact r2) fun d' acts' => ?_
  rw [show ((T.setTop (F0 m pc ls (.int k :: .int n :: rest))).setVm v1).setTop { F0 m pc ls (.int k :: .int n :: rest) with stack := rest } = (T.setVm v1).setTop (F0 m pc ls rest) from State.setTop_setTop (s := T.setVm v1) .., rw_top]
  simp only [wp_bind', W.mark, W.pushRef, State.topJava?_setTop' _ XF.here.top, Option.some.injEq, exists_eq_left', State.setTop_setTop, State.heap_setTop]
  intro acts
  simp [jvm, XF.here.top]
  exact a1
end RWR
