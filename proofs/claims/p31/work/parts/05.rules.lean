/-! ===== the abstract instructions and their rules ===== -/
abbrev KT : Type := List Value → List Value → Mm → Prop
def Le (A B : KT) : Prop := ∀ (L st : List Value) (M : Mm), A L st M → B L st M
theorem Le.rf {A : KT} : Le A A := fun _ _ _ h => h
section RULES
variable {z : Bool} {l : Launch} {G : GT} {F : FX} {Y : YT} {Q : PQ} {QX : PX} {k n pc : Nat} {K Kt : KT}
theorem CX.ex {p e s m args below meth c} (C : CX l G (p, e, s, m, args, below, meth, c) Y) : p.tables.exec = Jvm.exec := C.1
theorem CX.by {p e s m args below meth c} (C : CX l G (p, e, s, m, args, below, meth, c) Y) : c.code = yB Y := C.2.1
theorem CX.ml {p e s m args below meth c} (C : CX l G (p, e, s, m, args, below, meth, c) Y) : c.maxLocals = yL Y := C.2.2.1
theorem CX.rt {p e s m args below meth c} (C : CX l G (p, e, s, m, args, below, meth, c) Y) : meth.sig.returnType = yR Y := C.2.2.2.1
theorem CX.lk {p e s m args below meth c} (C : CX l G (p, e, s, m, args, below, meth, c) Y) : meth.locks = false := C.2.2.2.2.1
theorem CX.tb {p e s m args below meth c} (C : CX l G (p, e, s, m, args, below, meth, c) Y) : ∀ x ∈ c.exceptionTable.toList, False := C.2.2.2.2.2.1
theorem CX.ow {p e s m args below meth c} (C : CX l G (p, e, s, m, args, below, meth, c) Y) : s.vm.findClass (yN Y).cls = some m.cls := C.2.2.2.2.2.2.1
theorem CX.nm {p e s m args below meth c} (C : CX l G (p, e, s, m, args, below, meth, c) Y) : meth.name = (yN Y).name := C.2.2.2.2.2.2.2.1
theorem CX.ws {p e s m args below meth c} (C : CX l G (p, e, s, m, args, below, meth, c) Y) : ∀ w ∈ WS, w.before args s = true := C.2.2.2.2.2.2.2.2.1
theorem CX.go {p e s m args below meth c} (C : CX l G (p, e, s, m, args, below, meth, c) Y) : GOK G := C.2.2.2.2.2.2.2.2.2.1
theorem CX.ka {p e s m args below meth c} (C : CX l G (p, e, s, m, args, below, meth, c) Y) : va_K (gD G) vwCl (tysG G) s := C.2.2.2.2.2.2.2.2.2.2.1
theorem CX.zz {p e s m args below meth c} (C : CX l G (p, e, s, m, args, below, meth, c) Y) : gZ G s s.heap := C.2.2.2.2.2.2.2.2.2.2.2.1
theorem CX.ba {p e s m args below meth c} (C : CX l G (p, e, s, m, args, below, meth, c) Y) : gB G ≤ s.heap.size := C.2.2.2.2.2.2.2.2.2.2.2.2
/-- weakening of the locals -/
def I_kp (ks : List Nat) (K : KT) : KT := fun L st M => K (L.zipIdx.map (fun q => if q.2 ∈ ks then xx else q.1)) st M
def I_ic (v : Int32) (K : KT) : KT := fun L st M => K L (.int v :: st) M
def I_lc (v : Int64) (K : KT) : KT := fun L st M => K L (.long v :: st) M
def I_nul (K : KT) : KT := fun L st M => K L (.null :: st) M
theorem r_iconst {i : Int} {v : Int32} (hK : Le K (Wj z l G F Y Q QX k n (pc + 1))) (d : decode (yB Y) pc = .ok (.iconst i, 1)) (hw : Int32.ofInt i = v) : Le (I_ic v K) (Wj z l G F Y Q QX k n pc) := by
  intro L st M h
  intro C
  obtain ⟨p, e, s, m, args, below, meth, c⟩ := F
  intro H locs ls hR hB hz hl hv
  exact lv_iconst C.ex C.by d hw (hK _ _ _ h C H locs ls hR hB hz hl hv)
theorem r_bipush {i : Int} {v : Int32} (hK : Le K (Wj z l G F Y Q QX k n (pc + 2))) (d : decode (yB Y) pc = .ok (.bipush i, 2)) (hw : (Int8.ofInt i).toInt32 = v) : Le (I_ic v K) (Wj z l G F Y Q QX k n pc) := by
  intro L st M h
  intro C
  obtain ⟨p, e, s, m, args, below, meth, c⟩ := F
  intro H locs ls hR hB hz hl hv
  exact lv_bipush C.ex C.by d hw (hK _ _ _ h C H locs ls hR hB hz hl hv)
theorem r_sipush {i : Int} {v : Int32} (hK : Le K (Wj z l G F Y Q QX k n (pc + 3))) (d : decode (yB Y) pc = .ok (.sipush i, 3)) (hw : (Int16.ofInt i).toInt32 = v) : Le (I_ic v K) (Wj z l G F Y Q QX k n pc) := by
  intro L st M h
  intro C
  obtain ⟨p, e, s, m, args, below, meth, c⟩ := F
  intro H locs ls hR hB hz hl hv
  exact lv_sipush C.ex C.by d hw (hK _ _ _ h C H locs ls hR hB hz hl hv)
theorem r_lconst {i : Fin 2} {v : Int64} (hK : Le K (Wj z l G F Y Q QX k n (pc + 1))) (d : decode (yB Y) pc = .ok (.lconst i, 1)) (hw : Int64.ofNat (i : Nat) = v) : Le (I_lc v K) (Wj z l G F Y Q QX k n pc) := by
  intro L st M h
  intro C
  obtain ⟨p, e, s, m, args, below, meth, c⟩ := F
  intro H locs ls hR hB hz hl hv
  exact lv_lconst C.ex C.by d hw (hK _ _ _ h C H locs ls hR hB hz hl hv)
theorem r_ldc2 {i : Nat} {v : Int64} (hK : Le K (Wj z l G F Y Q QX k n (pc + 3))) (d : decode (yB Y) pc = .ok (.ldc2_w i, 3)) (hw : Cond.constantLong (yN Y).cls i v ∈ WS) : Le (I_lc v K) (Wj z l G F Y Q QX k n pc) := by
  intro L st M h
  intro C
  obtain ⟨p, e, s, m, args, below, meth, c⟩ := F
  intro H locs ls hR hB hz hl hv
  exact lv_ldc2 C.ex C.by C.ow (C.ws _ hw) d (hK _ _ _ h C H locs ls hR hB hz hl hv)
theorem r_null (hK : Le K (Wj z l G F Y Q QX k n (pc + 1))) (d : decode (yB Y) pc = .ok (.aconst_null, 1)) : Le (I_nul K) (Wj z l G F Y Q QX k n pc) := by
  intro L st M h
  intro C
  obtain ⟨p, e, s, m, args, below, meth, c⟩ := F
  intro H locs ls hR hB hz hl hv
  exact lv_null C.ex C.by d (hK _ _ _ h C H locs ls hR hB hz hl hv)
def I_il (i : Nat) (K : KT) : KT := fun L st M => match L[i]? with
  | some (.int x) => K L (.int x :: st) M
  | _ => False
def I_ll (i : Nat) (K : KT) : KT := fun L st M => match L[i]? with
  | some (.long x) => K L (.long x :: st) M
  | _ => False
def I_al (i : Nat) (K : KT) : KT := fun L st M => match L[i]? with
  | some (.ref x) => K L (.ref x :: st) M
  | some .null => K L (.null :: st) M
  | _ => False
theorem r_iload {i : Nat} (hK : Le K (Wj z l G F Y Q QX k n (pc + 2))) (d : decode (yB Y) pc = .ok (.iload i, 2)) : Le (I_il i K) (Wj z l G F Y Q QX k n pc) := by
  intro L st M h
  unfold I_il at h
  split at h
  next x hx =>
    intro C
    obtain ⟨p, e, s, m, args, below, meth, c⟩ := F
    intro H locs ls hR hB hz hl hv
    exact lv_iload C.ex C.by d (lv_rd hv hx rfl) (hK _ _ _ h C H locs ls hR hB hz hl hv)
  next => exact h.elim
theorem r_iload_n {j : Fin 4} {i : Nat} (hK : Le K (Wj z l G F Y Q QX k n (pc + 1))) (d : decode (yB Y) pc = .ok (.iload_n j, 1)) (hi : (j : Nat) = i) : Le (I_il i K) (Wj z l G F Y Q QX k n pc) := by
  intro L st M h
  unfold I_il at h
  split at h
  next x hx =>
    intro C
    obtain ⟨p, e, s, m, args, below, meth, c⟩ := F
    intro H locs ls hR hB hz hl hv
    exact lv_iload_n C.ex C.by d hi (lv_rd hv hx rfl) (hK _ _ _ h C H locs ls hR hB hz hl hv)
  next => exact h.elim
theorem r_lload {i : Nat} (hK : Le K (Wj z l G F Y Q QX k n (pc + 2))) (d : decode (yB Y) pc = .ok (.lload i, 2)) : Le (I_ll i K) (Wj z l G F Y Q QX k n pc) := by
  intro L st M h
  unfold I_ll at h
  split at h
  next x hx =>
    intro C
    obtain ⟨p, e, s, m, args, below, meth, c⟩ := F
    intro H locs ls hR hB hz hl hv
    exact lv_lload C.ex C.by d (lv_rd hv hx rfl) (hK _ _ _ h C H locs ls hR hB hz hl hv)
  next => exact h.elim
theorem r_lload_n {j : Fin 4} {i : Nat} (hK : Le K (Wj z l G F Y Q QX k n (pc + 1))) (d : decode (yB Y) pc = .ok (.lload_n j, 1)) (hi : (j : Nat) = i) : Le (I_ll i K) (Wj z l G F Y Q QX k n pc) := by
  intro L st M h
  unfold I_ll at h
  split at h
  next x hx =>
    intro C
    obtain ⟨p, e, s, m, args, below, meth, c⟩ := F
    intro H locs ls hR hB hz hl hv
    exact lv_lload_n C.ex C.by d hi (lv_rd hv hx rfl) (hK _ _ _ h C H locs ls hR hB hz hl hv)
  next => exact h.elim
theorem r_aload {i : Nat} (hK : Le K (Wj z l G F Y Q QX k n (pc + 2))) (d : decode (yB Y) pc = .ok (.aload i, 2)) : Le (I_al i K) (Wj z l G F Y Q QX k n pc) := by
  intro L st M h
  unfold I_al at h
  split at h
  next x hx =>
    intro C
    obtain ⟨p, e, s, m, args, below, meth, c⟩ := F
    intro H locs ls hR hB hz hl hv
    exact lv_aload C.ex C.by d (lv_rd hv hx rfl) (hK _ _ _ h C H locs ls hR hB hz hl hv)
  next hx =>
    intro C
    obtain ⟨p, e, s, m, args, below, meth, c⟩ := F
    intro H locs ls hR hB hz hl hv
    exact lv_aloadN C.ex C.by d (lv_rd hv hx rfl) (hK _ _ _ h C H locs ls hR hB hz hl hv)
  next => exact h.elim
theorem r_aload_n {j : Fin 4} {i : Nat} (hK : Le K (Wj z l G F Y Q QX k n (pc + 1))) (d : decode (yB Y) pc = .ok (.aload_n j, 1)) (hi : (j : Nat) = i) : Le (I_al i K) (Wj z l G F Y Q QX k n pc) := by
  intro L st M h
  unfold I_al at h
  split at h
  next x hx =>
    intro C
    obtain ⟨p, e, s, m, args, below, meth, c⟩ := F
    intro H locs ls hR hB hz hl hv
    exact lv_aload_n C.ex C.by d hi (lv_rd hv hx rfl) (hK _ _ _ h C H locs ls hR hB hz hl hv)
  next hx =>
    intro C
    obtain ⟨p, e, s, m, args, below, meth, c⟩ := F
    intro H locs ls hR hB hz hl hv
    exact lv_aload_nN C.ex C.by d hi (lv_rd hv hx rfl) (hK _ _ _ h C H locs ls hR hB hz hl hv)
  next => exact h.elim
theorem lvOf_st1 {G : GT} {i : Nat} {v : Value} : ∀ (L : List Value) (o i : Nat) (q : Nat × Value), q ∈ lvOf G o (st1 L i v) → q = (o + i, tv G v) ∨ (q ∈ lvOf G o L ∧ ¬ q.1 = o + i ∧ ¬ (q.1 + 1 = o + i ∧ q.2.category = 2))
  | [], o, i, q, h => by cases h
  | w :: L, o, 0, q, h => by
    unfold st1 lvOf at h
    have key : q ∈ lvOf G (o + 1) L → q ∈ lvOf G o (w :: L) ∧ ¬ q.1 = o + 0 ∧ ¬ (q.1 + 1 = o + 0 ∧ q.2.category = 2) := fun h => by
      obtain ⟨j, v', h1, h2, rfl⟩ := lvOf_of (G := G) L (o + 1) q h
      refine ⟨?_, by simp; omega, by simp; omega⟩
      unfold lvOf
      split
      · exact List.mem_cons_of_mem _ h
      · exact h
    split at h
    · rcases List.mem_cons.mp h with rfl | h
      · exact Or.inl rfl
      · exact Or.inr (key h)
    · exact Or.inr (key h)
  | w :: L, o, i + 1, q, h => by
    unfold st1 lvOf at h
    have key : q ∈ lvOf G (o + 1) (st1 L i v) → q = (o + (i + 1), tv G v) ∨ (q ∈ lvOf G o (w :: L) ∧ ¬ q.1 = o + (i + 1) ∧ ¬ (q.1 + 1 = o + (i + 1) ∧ q.2.category = 2)) := fun h => by
      rcases lvOf_st1 (G := G) (i := i) (v := v) L (o + 1) i q h with rfl | ⟨h1, h2, h3⟩
      · exact Or.inl (by rw [show o + 1 + i = o + (i + 1) by omega])
      · refine Or.inr ⟨?_, by omega, fun h4 => h3 ⟨by omega, h4.2⟩⟩
        unfold lvOf
        split
        · exact List.mem_cons_of_mem _ h1
        · exact h1
    generalize hW : (if i = 0 then kil w else w) = W0 at h
    split at h
    next hk =>
      rcases List.mem_cons.mp h with rfl | h
      · refine Or.inr ⟨?_, by simp, ?_⟩
        · by_cases hi : i = 0
          · rw [if_pos hi] at hW
            unfold kil at hW
            split at hW
            · rw [← hW] at hk; cases hk
            · subst hW; unfold lvOf; rw [if_pos hk]; exact List.mem_cons_self
          · rw [if_neg hi] at hW
            subst hW; unfold lvOf; rw [if_pos hk]; exact List.mem_cons_self
        · rintro ⟨h4, h5⟩
          simp at h4
          have hi : i = 0 := by omega
          rw [if_pos hi] at hW
          unfold kil at hW
          split at hW
          · rw [← hW] at hk; cases hk
          · next hc => subst hW; rw [tv_cat] at h5; exact hc h5
      · exact key h
    next => exact key h
theorem lvOf_st2 {G : GT} {i : Nat} {v : Value} : ∀ (L : List Value) (o i : Nat) (q : Nat × Value), q ∈ lvOf G o (st2 L i v) → q = (o + i, tv G v) ∨ (q ∈ lvOf G o L ∧ ¬ q.1 = o + i ∧ ¬ q.1 = o + i + 1 ∧ ¬ (q.1 + 1 = o + i ∧ q.2.category = 2))
  | [], o, i, q, h => by cases h
  | [w], o, 0, q, h => by
    unfold st2 lvOf at h
    split at h
    · rcases List.mem_cons.mp h with rfl | h
      · exact Or.inl rfl
      · cases h
    · cases h
  | w :: w1 :: L, o, 0, q, h => by
    unfold st2 lvOf at h
    have key : q ∈ lvOf G (o + 1) (xx :: L) → q ∈ lvOf G o (w :: w1 :: L) ∧ ¬ q.1 = o + 0 ∧ ¬ q.1 = o + 0 + 1 ∧ ¬ (q.1 + 1 = o + 0 ∧ q.2.category = 2) := fun h => by
      have h' : q ∈ lvOf G (o + 1 + 1) L := h
      obtain ⟨j, v', h1, h2, rfl⟩ := lvOf_of (G := G) L (o + 1 + 1) q h'
      refine ⟨?_, by simp; omega, by simp; omega, by simp; omega⟩
      have a1 : (o + 1 + 1 + j, tv G v') ∈ lvOf G (o + 1) (w1 :: L) := by
        unfold lvOf
        split
        · exact List.mem_cons_of_mem _ h'
        · exact h'
      unfold lvOf
      split
      · exact List.mem_cons_of_mem _ a1
      · exact a1
    split at h
    · rcases List.mem_cons.mp h with rfl | h
      · exact Or.inl rfl
      · exact Or.inr (key h)
    · exact Or.inr (key h)
  | w :: L, o, i + 1, q, h => by
    have hst : st2 (w :: L) (i + 1) v = (if i = 0 then kil w else w) :: st2 L i v := by cases L <;> rfl
    rw [hst] at h
    unfold lvOf at h
    have key : q ∈ lvOf G (o + 1) (st2 L i v) → q = (o + (i + 1), tv G v) ∨ (q ∈ lvOf G o (w :: L) ∧ ¬ q.1 = o + (i + 1) ∧ ¬ q.1 = o + (i + 1) + 1 ∧ ¬ (q.1 + 1 = o + (i + 1) ∧ q.2.category = 2)) := fun h => by
      rcases lvOf_st2 (G := G) (i := i) (v := v) L (o + 1) i q h with rfl | ⟨h1, h2, h2', h3⟩
      · exact Or.inl (by rw [show o + 1 + i = o + (i + 1) by omega])
      · refine Or.inr ⟨?_, by omega, by omega, fun h4 => h3 ⟨by omega, h4.2⟩⟩
        unfold lvOf
        split
        · exact List.mem_cons_of_mem _ h1
        · exact h1
    generalize hW : (if i = 0 then kil w else w) = W0 at h
    split at h
    next hk =>
      rcases List.mem_cons.mp h with rfl | h
      · refine Or.inr ⟨?_, by simp, by simp; omega, ?_⟩
        · by_cases hi : i = 0
          · rw [if_pos hi] at hW
            unfold kil at hW
            split at hW
            · rw [← hW] at hk; cases hk
            · subst hW; unfold lvOf; rw [if_pos hk]; exact List.mem_cons_self
          · rw [if_neg hi] at hW
            subst hW; unfold lvOf; rw [if_pos hk]; exact List.mem_cons_self
        · rintro ⟨h4, h5⟩
          simp at h4
          have hi : i = 0 := by omega
          rw [if_pos hi] at hW
          unfold kil at hW
          split at hW
          · rw [← hW] at hk; cases hk
          · next hc => subst hW; rw [tv_cat] at h5; exact hc h5
      · exact key h
    next => exact key h
theorem lv_s1 {G : GT} {ls : Array Slot} {nL i : Nat} {v : Value} {L : List Value} (h : lv_has ls nL ((i, tv G v) :: (lvOf G 0 L).filter (fun q => !(q.1 == i) && !(q.1 + 1 == i && q.2.category == 2)))) : lv_has ls nL (lvOf G 0 (st1 L i v)) := by
  refine ⟨h.1, h.2.1, fun q hq => h.2.2 q ?_⟩
  rcases lvOf_st1 (G := G) (i := i) (v := v) L 0 i q hq with rfl | ⟨h1, h2, h3⟩
  · simp
  · refine List.mem_cons_of_mem _ (List.mem_filter.mpr ⟨h1, ?_⟩)
    simp only [Nat.zero_add] at h2 h3
    simp [h2]
    by_cases h4 : q.1 + 1 = i
    · exact Or.inr (fun h5 => h3 ⟨h4, h5⟩)
    · exact Or.inl h4
theorem lv_s2 {G : GT} {ls : Array Slot} {nL i : Nat} {v : Value} {L : List Value} (h : lv_has ls nL ((i, tv G v) :: (lvOf G 0 L).filter (fun q => !(q.1 == i) && (!(q.1 == i + 1) && !(q.1 + 1 == i && q.2.category == 2))))) : lv_has ls nL (lvOf G 0 (st2 L i v)) := by
  refine ⟨h.1, h.2.1, fun q hq => h.2.2 q ?_⟩
  rcases lvOf_st2 (G := G) (i := i) (v := v) L 0 i q hq with rfl | ⟨h1, h2, h2', h3⟩
  · simp
  · refine List.mem_cons_of_mem _ (List.mem_filter.mpr ⟨h1, ?_⟩)
    simp only [Nat.zero_add] at h2 h2' h3
    simp [h2, h2']
    by_cases h4 : q.1 + 1 = i
    · exact Or.inr (fun h5 => h3 ⟨h4, h5⟩)
    · exact Or.inl h4
def I_is (i : Nat) (K : KT) : KT := fun L st M => match st with
  | .int x :: r => K (st1 L i (.int x)) r M
  | _ => False
def I_ls (i : Nat) (K : KT) : KT := fun L st M => match st with
  | .long x :: r => K (st2 L i (.long x)) r M
  | _ => False
def I_as (i : Nat) (K : KT) : KT := fun L st M => match st with
  | .ref x :: r => K (st1 L i (.ref x)) r M
  | .null :: r => K (st1 L i .null) r M
  | _ => False
def I_inc (i : Nat) (v : Int32) (K : KT) : KT := fun L st M => match L[i]? with
  | some (.int x) => K (st1 L i (.int (x + v))) st M
  | _ => False
theorem r_istore {i : Nat} (hK : Le K (Wj z l G F Y Q QX k n (pc + 2))) (d : decode (yB Y) pc = .ok (.istore i, 2)) (hn : i < yL Y) : Le (I_is i K) (Wj z l G F Y Q QX k n pc) := by
  intro L st M h
  unfold I_is at h
  split at h
  next x r =>
    intro C
    obtain ⟨p, e, s, m, args, below, meth, c⟩ := F
    intro H locs ls hR hB hz hl hv
    exact lv_istore C.ex C.by d hv hn rfl (fun ls' hv' => hK _ _ _ h C H locs ls' hR hB hz hl (lv_s1 (v := .int x) hv'))
  next => exact h.elim
theorem r_istore_n {j : Fin 4} {i : Nat} (hK : Le K (Wj z l G F Y Q QX k n (pc + 1))) (d : decode (yB Y) pc = .ok (.istore_n j, 1)) (hi : (j : Nat) = i) (hn : i < yL Y) : Le (I_is i K) (Wj z l G F Y Q QX k n pc) := by
  intro L st M h
  unfold I_is at h
  split at h
  next x r =>
    intro C
    obtain ⟨p, e, s, m, args, below, meth, c⟩ := F
    intro H locs ls hR hB hz hl hv
    exact lv_istore_n C.ex C.by d hi hv hn rfl (fun ls' hv' => hK _ _ _ h C H locs ls' hR hB hz hl (lv_s1 (v := .int x) hv'))
  next => exact h.elim
theorem r_lstore {i : Nat} (hK : Le K (Wj z l G F Y Q QX k n (pc + 2))) (d : decode (yB Y) pc = .ok (.lstore i, 2)) (hn : i + 1 < yL Y) : Le (I_ls i K) (Wj z l G F Y Q QX k n pc) := by
  intro L st M h
  unfold I_ls at h
  split at h
  next x r =>
    intro C
    obtain ⟨p, e, s, m, args, below, meth, c⟩ := F
    intro H locs ls hR hB hz hl hv
    exact lv_lstore C.ex C.by d hv hn rfl (fun ls' hv' => hK _ _ _ h C H locs ls' hR hB hz hl (lv_s2 (v := .long x) hv'))
  next => exact h.elim
theorem r_lstore_n {j : Fin 4} {i : Nat} (hK : Le K (Wj z l G F Y Q QX k n (pc + 1))) (d : decode (yB Y) pc = .ok (.lstore_n j, 1)) (hi : (j : Nat) = i) (hn : i + 1 < yL Y) : Le (I_ls i K) (Wj z l G F Y Q QX k n pc) := by
  intro L st M h
  unfold I_ls at h
  split at h
  next x r =>
    intro C
    obtain ⟨p, e, s, m, args, below, meth, c⟩ := F
    intro H locs ls hR hB hz hl hv
    exact lv_lstore_n C.ex C.by d hi hv hn rfl (fun ls' hv' => hK _ _ _ h C H locs ls' hR hB hz hl (lv_s2 (v := .long x) hv'))
  next => exact h.elim
theorem r_astore {i : Nat} (hK : Le K (Wj z l G F Y Q QX k n (pc + 2))) (d : decode (yB Y) pc = .ok (.astore i, 2)) (hn : i < yL Y) : Le (I_as i K) (Wj z l G F Y Q QX k n pc) := by
  intro L st M h
  unfold I_as at h
  split at h
  next x r =>
    intro C
    obtain ⟨p, e, s, m, args, below, meth, c⟩ := F
    intro H locs ls hR hB hz hl hv
    exact lv_astore C.ex C.by d hv hn rfl (fun ls' hv' => hK _ _ _ h C H locs ls' hR hB hz hl (lv_s1 (v := .ref x) hv'))
  next r =>
    intro C
    obtain ⟨p, e, s, m, args, below, meth, c⟩ := F
    intro H locs ls hR hB hz hl hv
    exact lv_astoreN C.ex C.by d hv hn rfl (fun ls' hv' => hK _ _ _ h C H locs ls' hR hB hz hl (lv_s1 (v := .null) hv'))
  next => exact h.elim
theorem r_astore_n {j : Fin 4} {i : Nat} (hK : Le K (Wj z l G F Y Q QX k n (pc + 1))) (d : decode (yB Y) pc = .ok (.astore_n j, 1)) (hi : (j : Nat) = i) (hn : i < yL Y) : Le (I_as i K) (Wj z l G F Y Q QX k n pc) := by
  intro L st M h
  unfold I_as at h
  split at h
  next x r =>
    intro C
    obtain ⟨p, e, s, m, args, below, meth, c⟩ := F
    intro H locs ls hR hB hz hl hv
    exact lv_astore_n C.ex C.by d hi hv hn rfl (fun ls' hv' => hK _ _ _ h C H locs ls' hR hB hz hl (lv_s1 (v := .ref x) hv'))
  next r =>
    intro C
    obtain ⟨p, e, s, m, args, below, meth, c⟩ := F
    intro H locs ls hR hB hz hl hv
    exact lv_astore_nN C.ex C.by d hi hv hn rfl (fun ls' hv' => hK _ _ _ h C H locs ls' hR hB hz hl (lv_s1 (v := .null) hv'))
  next => exact h.elim
theorem r_iinc {i : Nat} {a : Int} {v : Int32} (hK : Le K (Wj z l G F Y Q QX k n (pc + 3))) (d : decode (yB Y) pc = .ok (.iinc i a, 3)) (ha : Int32.ofInt a = v) (hn : i < yL Y) : Le (I_inc i v K) (Wj z l G F Y Q QX k n pc) := by
  intro L st M h
  unfold I_inc at h
  split at h
  next x hx =>
    intro C
    obtain ⟨p, e, s, m, args, below, meth, c⟩ := F
    intro H locs ls hR hB hz hl hv
    subst ha
    obtain ⟨j, hj⟩ := List.getElem?_of_mem (lvOf_mem (G := G) L 0 i _ hx rfl)
    rw [Nat.zero_add] at hj
    exact lv_iinc C.ex C.by d hv hj rfl hn rfl (fun ls' hv' => hK _ _ _ h C H locs ls' hR hB hz hl (lv_s1 (v := .int _) hv'))
  next => exact h.elim
def I_iadd (K : KT) : KT := fun L st M => match st with
  | .int y :: .int x :: r => K L (.int (x + y) :: r) M
  | _ => False
theorem r_iadd (hK : Le K (Wj z l G F Y Q QX k n (pc + 1))) (d : decode (yB Y) pc = .ok (.iadd, 1)) : Le (I_iadd K) (Wj z l G F Y Q QX k n pc) := by
  intro L st M h
  unfold I_iadd at h
  split at h
  next y x r =>
    intro C
    obtain ⟨p, e, s, m, args, below, meth, c⟩ := F
    intro H locs ls hR hB hz hl hv
    exact lv_iadd C.ex C.by d (hK _ _ _ h C H locs ls hR hB hz hl hv)
  next => exact h.elim
def I_isub (K : KT) : KT := fun L st M => match st with
  | .int y :: .int x :: r => K L (.int (x - y) :: r) M
  | _ => False
theorem r_isub (hK : Le K (Wj z l G F Y Q QX k n (pc + 1))) (d : decode (yB Y) pc = .ok (.isub, 1)) : Le (I_isub K) (Wj z l G F Y Q QX k n pc) := by
  intro L st M h
  unfold I_isub at h
  split at h
  next y x r =>
    intro C
    obtain ⟨p, e, s, m, args, below, meth, c⟩ := F
    intro H locs ls hR hB hz hl hv
    exact lv_isub C.ex C.by d (hK _ _ _ h C H locs ls hR hB hz hl hv)
  next => exact h.elim
def I_imul (K : KT) : KT := fun L st M => match st with
  | .int y :: .int x :: r => K L (.int (x * y) :: r) M
  | _ => False
theorem r_imul (hK : Le K (Wj z l G F Y Q QX k n (pc + 1))) (d : decode (yB Y) pc = .ok (.imul, 1)) : Le (I_imul K) (Wj z l G F Y Q QX k n pc) := by
  intro L st M h
  unfold I_imul at h
  split at h
  next y x r =>
    intro C
    obtain ⟨p, e, s, m, args, below, meth, c⟩ := F
    intro H locs ls hR hB hz hl hv
    exact lv_imul C.ex C.by d (hK _ _ _ h C H locs ls hR hB hz hl hv)
  next => exact h.elim
def I_iand (K : KT) : KT := fun L st M => match st with
  | .int y :: .int x :: r => K L (.int (x &&& y) :: r) M
  | _ => False
theorem r_iand (hK : Le K (Wj z l G F Y Q QX k n (pc + 1))) (d : decode (yB Y) pc = .ok (.iand, 1)) : Le (I_iand K) (Wj z l G F Y Q QX k n pc) := by
  intro L st M h
  unfold I_iand at h
  split at h
  next y x r =>
    intro C
    obtain ⟨p, e, s, m, args, below, meth, c⟩ := F
    intro H locs ls hR hB hz hl hv
    exact lv_iand C.ex C.by d (hK _ _ _ h C H locs ls hR hB hz hl hv)
  next => exact h.elim
def I_ladd (K : KT) : KT := fun L st M => match st with
  | .long y :: .long x :: r => K L (.long (x + y) :: r) M
  | _ => False
theorem r_ladd (hK : Le K (Wj z l G F Y Q QX k n (pc + 1))) (d : decode (yB Y) pc = .ok (.ladd, 1)) : Le (I_ladd K) (Wj z l G F Y Q QX k n pc) := by
  intro L st M h
  unfold I_ladd at h
  split at h
  next y x r =>
    intro C
    obtain ⟨p, e, s, m, args, below, meth, c⟩ := F
    intro H locs ls hR hB hz hl hv
    exact lv_ladd C.ex C.by d (hK _ _ _ h C H locs ls hR hB hz hl hv)
  next => exact h.elim
def I_lsub (K : KT) : KT := fun L st M => match st with
  | .long y :: .long x :: r => K L (.long (x - y) :: r) M
  | _ => False
theorem r_lsub (hK : Le K (Wj z l G F Y Q QX k n (pc + 1))) (d : decode (yB Y) pc = .ok (.lsub, 1)) : Le (I_lsub K) (Wj z l G F Y Q QX k n pc) := by
  intro L st M h
  unfold I_lsub at h
  split at h
  next y x r =>
    intro C
    obtain ⟨p, e, s, m, args, below, meth, c⟩ := F
    intro H locs ls hR hB hz hl hv
    exact lv_lsub C.ex C.by d (hK _ _ _ h C H locs ls hR hB hz hl hv)
  next => exact h.elim
def I_lmul (K : KT) : KT := fun L st M => match st with
  | .long y :: .long x :: r => K L (.long (x * y) :: r) M
  | _ => False
theorem r_lmul (hK : Le K (Wj z l G F Y Q QX k n (pc + 1))) (d : decode (yB Y) pc = .ok (.lmul, 1)) : Le (I_lmul K) (Wj z l G F Y Q QX k n pc) := by
  intro L st M h
  unfold I_lmul at h
  split at h
  next y x r =>
    intro C
    obtain ⟨p, e, s, m, args, below, meth, c⟩ := F
    intro H locs ls hR hB hz hl hv
    exact lv_lmul C.ex C.by d (hK _ _ _ h C H locs ls hR hB hz hl hv)
  next => exact h.elim
def I_land (K : KT) : KT := fun L st M => match st with
  | .long y :: .long x :: r => K L (.long (x &&& y) :: r) M
  | _ => False
theorem r_land (hK : Le K (Wj z l G F Y Q QX k n (pc + 1))) (d : decode (yB Y) pc = .ok (.land, 1)) : Le (I_land K) (Wj z l G F Y Q QX k n pc) := by
  intro L st M h
  unfold I_land at h
  split at h
  next y x r =>
    intro C
    obtain ⟨p, e, s, m, args, below, meth, c⟩ := F
    intro H locs ls hR hB hz hl hv
    exact lv_land C.ex C.by d (hK _ _ _ h C H locs ls hR hB hz hl hv)
  next => exact h.elim
def I_lor (K : KT) : KT := fun L st M => match st with
  | .long y :: .long x :: r => K L (.long (x ||| y) :: r) M
  | _ => False
theorem r_lor (hK : Le K (Wj z l G F Y Q QX k n (pc + 1))) (d : decode (yB Y) pc = .ok (.lor, 1)) : Le (I_lor K) (Wj z l G F Y Q QX k n pc) := by
  intro L st M h
  unfold I_lor at h
  split at h
  next y x r =>
    intro C
    obtain ⟨p, e, s, m, args, below, meth, c⟩ := F
    intro H locs ls hR hB hz hl hv
    exact lv_lor C.ex C.by d (hK _ _ _ h C H locs ls hR hB hz hl hv)
  next => exact h.elim
def I_idiv (K : KT) : KT := fun L st M => match st with
  | .int y :: .int x :: r => (¬ y = 0) ∧ K L (.int (x / y) :: r) M
  | _ => False
theorem r_idiv (hK : Le K (Wj z l G F Y Q QX k n (pc + 1))) (d : decode (yB Y) pc = .ok (.idiv, 1)) : Le (I_idiv K) (Wj z l G F Y Q QX k n pc) := by
  intro L st M h
  unfold I_idiv at h
  split at h
  next y x r =>
    intro C
    obtain ⟨p, e, s, m, args, below, meth, c⟩ := F
    intro H locs ls hR hB hz hl hv
    exact lv_idiv C.ex C.by d h.1 (hK _ _ _ h.2 C H locs ls hR hB hz hl hv)
  next => exact h.elim
def I_irem (K : KT) : KT := fun L st M => match st with
  | .int y :: .int x :: r => (¬ y = 0) ∧ K L (.int (x - x / y * y) :: r) M
  | _ => False
theorem r_irem (hK : Le K (Wj z l G F Y Q QX k n (pc + 1))) (d : decode (yB Y) pc = .ok (.irem, 1)) : Le (I_irem K) (Wj z l G F Y Q QX k n pc) := by
  intro L st M h
  unfold I_irem at h
  split at h
  next y x r =>
    intro C
    obtain ⟨p, e, s, m, args, below, meth, c⟩ := F
    intro H locs ls hR hB hz hl hv
    exact lv_irem C.ex C.by d h.1 (hK _ _ _ h.2 C H locs ls hR hB hz hl hv)
  next => exact h.elim
def I_ishr (K : KT) : KT := fun L st M => match st with
  | .int y :: .int x :: r => K L (.int (x >>> (y &&& 31)) :: r) M
  | _ => False
theorem r_ishr (hK : Le K (Wj z l G F Y Q QX k n (pc + 1))) (d : decode (yB Y) pc = .ok (.ishr, 1)) : Le (I_ishr K) (Wj z l G F Y Q QX k n pc) := by
  intro L st M h
  unfold I_ishr at h
  split at h
  next y x r =>
    intro C
    obtain ⟨p, e, s, m, args, below, meth, c⟩ := F
    intro H locs ls hR hB hz hl hv
    exact lv_ishr C.ex C.by d (hK _ _ _ h C H locs ls hR hB hz hl hv)
  next => exact h.elim
def I_lshl (K : KT) : KT := fun L st M => match st with
  | .int y :: .long x :: r => K L (.long (x <<< (y.toInt64 &&& 63)) :: r) M
  | _ => False
theorem r_lshl (hK : Le K (Wj z l G F Y Q QX k n (pc + 1))) (d : decode (yB Y) pc = .ok (.lshl, 1)) : Le (I_lshl K) (Wj z l G F Y Q QX k n pc) := by
  intro L st M h
  unfold I_lshl at h
  split at h
  next y x r =>
    intro C
    obtain ⟨p, e, s, m, args, below, meth, c⟩ := F
    intro H locs ls hR hB hz hl hv
    exact lv_lshl C.ex C.by d rfl (hK _ _ _ h C H locs ls hR hB hz hl hv)
  next => exact h.elim
def I_lshr (K : KT) : KT := fun L st M => match st with
  | .int y :: .long x :: r => K L (.long (x >>> (y.toInt64 &&& 63)) :: r) M
  | _ => False
theorem r_lshr (hK : Le K (Wj z l G F Y Q QX k n (pc + 1))) (d : decode (yB Y) pc = .ok (.lshr, 1)) : Le (I_lshr K) (Wj z l G F Y Q QX k n pc) := by
  intro L st M h
  unfold I_lshr at h
  split at h
  next y x r =>
    intro C
    obtain ⟨p, e, s, m, args, below, meth, c⟩ := F
    intro H locs ls hR hB hz hl hv
    exact lv_lshr C.ex C.by d rfl (hK _ _ _ h C H locs ls hR hB hz hl hv)
  next => exact h.elim
def I_lushr (K : KT) : KT := fun L st M => match st with
  | .int y :: .long x :: r => K L (.long (x.toUInt64 >>> (y.toInt64.toUInt64 &&& Int64.toUInt64 63)).toInt64 :: r) M
  | _ => False
theorem r_lushr (hK : Le K (Wj z l G F Y Q QX k n (pc + 1))) (d : decode (yB Y) pc = .ok (.lushr, 1)) : Le (I_lushr K) (Wj z l G F Y Q QX k n pc) := by
  intro L st M h
  unfold I_lushr at h
  split at h
  next y x r =>
    intro C
    obtain ⟨p, e, s, m, args, below, meth, c⟩ := F
    intro H locs ls hR hB hz hl hv
    exact lv_lushr C.ex C.by d rfl (hK _ _ _ h C H locs ls hR hB hz hl hv)
  next => exact h.elim
def I_lcmp (K : KT) : KT := fun L st M => match st with
  | .long y :: .long x :: r => K L (.int (lg_cmp x y) :: r) M
  | _ => False
theorem r_lcmp (hK : Le K (Wj z l G F Y Q QX k n (pc + 1))) (d : decode (yB Y) pc = .ok (.lcmp, 1)) : Le (I_lcmp K) (Wj z l G F Y Q QX k n pc) := by
  intro L st M h
  unfold I_lcmp at h
  split at h
  next y x r =>
    intro C
    obtain ⟨p, e, s, m, args, below, meth, c⟩ := F
    intro H locs ls hR hB hz hl hv
    exact W.lcmp C.ex C.by d (hK _ _ _ h C H locs ls hR hB hz hl hv)
  next => exact h.elim
def I_i2l (K : KT) : KT := fun L st M => match st with
  | .int x :: r => K L (.long x.toInt64 :: r) M
  | _ => False
theorem r_i2l (hK : Le K (Wj z l G F Y Q QX k n (pc + 1))) (d : decode (yB Y) pc = .ok (.i2l, 1)) : Le (I_i2l K) (Wj z l G F Y Q QX k n pc) := by
  intro L st M h
  unfold I_i2l at h
  split at h
  next x r =>
    intro C
    obtain ⟨p, e, s, m, args, below, meth, c⟩ := F
    intro H locs ls hR hB hz hl hv
    exact lv_i2l C.ex C.by d rfl (hK _ _ _ h C H locs ls hR hB hz hl hv)
  next => exact h.elim
def I_l2i (K : KT) : KT := fun L st M => match st with
  | .long x :: r => K L (.int x.toInt32 :: r) M
  | _ => False
theorem r_l2i (hK : Le K (Wj z l G F Y Q QX k n (pc + 1))) (d : decode (yB Y) pc = .ok (.l2i, 1)) : Le (I_l2i K) (Wj z l G F Y Q QX k n pc) := by
  intro L st M h
  unfold I_l2i at h
  split at h
  next x r =>
    intro C
    obtain ⟨p, e, s, m, args, below, meth, c⟩ := F
    intro H locs ls hR hB hz hl hv
    exact lv_l2i C.ex C.by d rfl (hK _ _ _ h C H locs ls hR hB hz hl hv)
  next => exact h.elim
def I_dup (K : KT) : KT := fun L st M => match st with
  | a :: r => a.category = 1 ∧ K L (a :: a :: r) M
  | _ => False
theorem r_dup (hK : Le K (Wj z l G F Y Q QX k n (pc + 1))) (d : decode (yB Y) pc = .ok (.dup, 1)) : Le (I_dup K) (Wj z l G F Y Q QX k n pc) := by
  intro L st M h
  unfold I_dup at h
  split at h
  next a r =>
    intro C
    obtain ⟨p, e, s, m, args, below, meth, c⟩ := F
    intro H locs ls hR hB hz hl hv
    exact lv_dup C.ex C.by d ((tv_cat G a).trans h.1) (hK _ _ _ h.2 C H locs ls hR hB hz hl hv)
  next => exact h.elim
def I_pop (K : KT) : KT := fun L st M => match st with
  | a :: r => a.category = 1 ∧ K L r M
  | _ => False
theorem r_pop (hK : Le K (Wj z l G F Y Q QX k n (pc + 1))) (d : decode (yB Y) pc = .ok (.pop, 1)) : Le (I_pop K) (Wj z l G F Y Q QX k n pc) := by
  intro L st M h
  unfold I_pop at h
  split at h
  next a r =>
    intro C
    obtain ⟨p, e, s, m, args, below, meth, c⟩ := F
    intro H locs ls hR hB hz hl hv
    exact lv_pop C.ex C.by d ((tv_cat G a).trans h.1) (hK _ _ _ h.2 C H locs ls hR hB hz hl hv)
  next => exact h.elim
def I_dup2 (K : KT) : KT := fun L st M => match st with
  | a :: b :: r => a.category = 1 ∧ b.category = 1 ∧ K L (a :: b :: a :: b :: r) M
  | _ => False
theorem r_dup2 (hK : Le K (Wj z l G F Y Q QX k n (pc + 1))) (d : decode (yB Y) pc = .ok (.dup2, 1)) : Le (I_dup2 K) (Wj z l G F Y Q QX k n pc) := by
  intro L st M h
  unfold I_dup2 at h
  split at h
  next a b r =>
    intro C
    obtain ⟨p, e, s, m, args, below, meth, c⟩ := F
    intro H locs ls hR hB hz hl hv
    exact lv_dup2_11 C.ex C.by d ((tv_cat G a).trans h.1) ((tv_cat G b).trans h.2.1) (hK _ _ _ h.2.2 C H locs ls hR hB hz hl hv)
  next => exact h.elim
theorem r_goto {o : Int} {t : Nat} (hK : Le K (Wj z l G F Y Q QX k n t)) (d : decode (yB Y) pc = .ok (.goto o, 3)) (ht : (pc : Int) + o = (t : Int)) : Le K (Wj z l G F Y Q QX k n pc) := by
  intro L st M h
  intro C
  obtain ⟨p, e, s, m, args, below, meth, c⟩ := F
  intro H locs ls hR hB hz hl hv
  exact lv_goto C.ex C.by d ht (hK _ _ _ h C H locs ls hR hB hz hl hv)
def I_ifeq (Kt K : KT) : KT := fun L st M => match st with
  | .int x :: r => (x = 0 → Kt L r M) ∧ (¬ x = 0 → K L r M)
  | _ => False
theorem r_ifeq {o : Int} {t : Nat} (hT : Le Kt (Wj z l G F Y Q QX k n t)) (hK : Le K (Wj z l G F Y Q QX k n (pc + 3))) (d : decode (yB Y) pc = .ok (.ifCond .eq o, 3)) (ht : (pc : Int) + o = (t : Int)) : Le (I_ifeq Kt K) (Wj z l G F Y Q QX k n pc) := by
  intro L st M h
  unfold I_ifeq at h
  split at h
  next x r =>
    intro C
    obtain ⟨p, e, s, m, args, below, meth, c⟩ := F
    intro H locs ls hR hB hz hl hv
    exact lv_if_eq C.ex C.by d ht (fun g => hT _ _ _ (h.1 g) C H locs ls hR hB hz hl hv) (fun g => hK _ _ _ (h.2 g) C H locs ls hR hB hz hl hv)
  next => exact h.elim
def I_iceq (Kt K : KT) : KT := fun L st M => match st with
  | .int y :: .int x :: r => (x = y → Kt L r M) ∧ (¬ x = y → K L r M)
  | _ => False
theorem r_iceq {o : Int} {t : Nat} (hT : Le Kt (Wj z l G F Y Q QX k n t)) (hK : Le K (Wj z l G F Y Q QX k n (pc + 3))) (d : decode (yB Y) pc = .ok (.if_icmp .eq o, 3)) (ht : (pc : Int) + o = (t : Int)) : Le (I_iceq Kt K) (Wj z l G F Y Q QX k n pc) := by
  intro L st M h
  unfold I_iceq at h
  split at h
  next y x r =>
    intro C
    obtain ⟨p, e, s, m, args, below, meth, c⟩ := F
    intro H locs ls hR hB hz hl hv
    exact lv_icmp_eq C.ex C.by d ht (fun g => hT _ _ _ (h.1 g) C H locs ls hR hB hz hl hv) (fun g => hK _ _ _ (h.2 g) C H locs ls hR hB hz hl hv)
  next => exact h.elim
def I_ifne (Kt K : KT) : KT := fun L st M => match st with
  | .int x :: r => (¬ x = 0 → Kt L r M) ∧ (x = 0 → K L r M)
  | _ => False
theorem r_ifne {o : Int} {t : Nat} (hT : Le Kt (Wj z l G F Y Q QX k n t)) (hK : Le K (Wj z l G F Y Q QX k n (pc + 3))) (d : decode (yB Y) pc = .ok (.ifCond .ne o, 3)) (ht : (pc : Int) + o = (t : Int)) : Le (I_ifne Kt K) (Wj z l G F Y Q QX k n pc) := by
  intro L st M h
  unfold I_ifne at h
  split at h
  next x r =>
    intro C
    obtain ⟨p, e, s, m, args, below, meth, c⟩ := F
    intro H locs ls hR hB hz hl hv
    exact lv_if_ne C.ex C.by d ht (fun g => hT _ _ _ (h.1 g) C H locs ls hR hB hz hl hv) (fun g => hK _ _ _ (h.2 g) C H locs ls hR hB hz hl hv)
  next => exact h.elim
def I_icne (Kt K : KT) : KT := fun L st M => match st with
  | .int y :: .int x :: r => (¬ x = y → Kt L r M) ∧ (x = y → K L r M)
  | _ => False
theorem r_icne {o : Int} {t : Nat} (hT : Le Kt (Wj z l G F Y Q QX k n t)) (hK : Le K (Wj z l G F Y Q QX k n (pc + 3))) (d : decode (yB Y) pc = .ok (.if_icmp .ne o, 3)) (ht : (pc : Int) + o = (t : Int)) : Le (I_icne Kt K) (Wj z l G F Y Q QX k n pc) := by
  intro L st M h
  unfold I_icne at h
  split at h
  next y x r =>
    intro C
    obtain ⟨p, e, s, m, args, below, meth, c⟩ := F
    intro H locs ls hR hB hz hl hv
    exact lv_icmp_ne C.ex C.by d ht (fun g => hT _ _ _ (h.1 g) C H locs ls hR hB hz hl hv) (fun g => hK _ _ _ (h.2 g) C H locs ls hR hB hz hl hv)
  next => exact h.elim
def I_iflt (Kt K : KT) : KT := fun L st M => match st with
  | .int x :: r => (x < 0 → Kt L r M) ∧ (¬ x < 0 → K L r M)
  | _ => False
theorem r_iflt {o : Int} {t : Nat} (hT : Le Kt (Wj z l G F Y Q QX k n t)) (hK : Le K (Wj z l G F Y Q QX k n (pc + 3))) (d : decode (yB Y) pc = .ok (.ifCond .lt o, 3)) (ht : (pc : Int) + o = (t : Int)) : Le (I_iflt Kt K) (Wj z l G F Y Q QX k n pc) := by
  intro L st M h
  unfold I_iflt at h
  split at h
  next x r =>
    intro C
    obtain ⟨p, e, s, m, args, below, meth, c⟩ := F
    intro H locs ls hR hB hz hl hv
    exact lv_if_lt C.ex C.by d ht (fun g => hT _ _ _ (h.1 g) C H locs ls hR hB hz hl hv) (fun g => hK _ _ _ (h.2 g) C H locs ls hR hB hz hl hv)
  next => exact h.elim
def I_iclt (Kt K : KT) : KT := fun L st M => match st with
  | .int y :: .int x :: r => (x < y → Kt L r M) ∧ (¬ x < y → K L r M)
  | _ => False
theorem r_iclt {o : Int} {t : Nat} (hT : Le Kt (Wj z l G F Y Q QX k n t)) (hK : Le K (Wj z l G F Y Q QX k n (pc + 3))) (d : decode (yB Y) pc = .ok (.if_icmp .lt o, 3)) (ht : (pc : Int) + o = (t : Int)) : Le (I_iclt Kt K) (Wj z l G F Y Q QX k n pc) := by
  intro L st M h
  unfold I_iclt at h
  split at h
  next y x r =>
    intro C
    obtain ⟨p, e, s, m, args, below, meth, c⟩ := F
    intro H locs ls hR hB hz hl hv
    exact lv_icmp_lt C.ex C.by d ht (fun g => hT _ _ _ (h.1 g) C H locs ls hR hB hz hl hv) (fun g => hK _ _ _ (h.2 g) C H locs ls hR hB hz hl hv)
  next => exact h.elim
def I_ifge (Kt K : KT) : KT := fun L st M => match st with
  | .int x :: r => (0 ≤ x → Kt L r M) ∧ (¬ 0 ≤ x → K L r M)
  | _ => False
theorem r_ifge {o : Int} {t : Nat} (hT : Le Kt (Wj z l G F Y Q QX k n t)) (hK : Le K (Wj z l G F Y Q QX k n (pc + 3))) (d : decode (yB Y) pc = .ok (.ifCond .ge o, 3)) (ht : (pc : Int) + o = (t : Int)) : Le (I_ifge Kt K) (Wj z l G F Y Q QX k n pc) := by
  intro L st M h
  unfold I_ifge at h
  split at h
  next x r =>
    intro C
    obtain ⟨p, e, s, m, args, below, meth, c⟩ := F
    intro H locs ls hR hB hz hl hv
    exact lv_if_ge C.ex C.by d ht (fun g => hT _ _ _ (h.1 g) C H locs ls hR hB hz hl hv) (fun g => hK _ _ _ (h.2 g) C H locs ls hR hB hz hl hv)
  next => exact h.elim
def I_icge (Kt K : KT) : KT := fun L st M => match st with
  | .int y :: .int x :: r => (y ≤ x → Kt L r M) ∧ (¬ y ≤ x → K L r M)
  | _ => False
theorem r_icge {o : Int} {t : Nat} (hT : Le Kt (Wj z l G F Y Q QX k n t)) (hK : Le K (Wj z l G F Y Q QX k n (pc + 3))) (d : decode (yB Y) pc = .ok (.if_icmp .ge o, 3)) (ht : (pc : Int) + o = (t : Int)) : Le (I_icge Kt K) (Wj z l G F Y Q QX k n pc) := by
  intro L st M h
  unfold I_icge at h
  split at h
  next y x r =>
    intro C
    obtain ⟨p, e, s, m, args, below, meth, c⟩ := F
    intro H locs ls hR hB hz hl hv
    exact lv_icmp_ge C.ex C.by d ht (fun g => hT _ _ _ (h.1 g) C H locs ls hR hB hz hl hv) (fun g => hK _ _ _ (h.2 g) C H locs ls hR hB hz hl hv)
  next => exact h.elim
def I_ifgt (Kt K : KT) : KT := fun L st M => match st with
  | .int x :: r => (0 < x → Kt L r M) ∧ (¬ 0 < x → K L r M)
  | _ => False
theorem r_ifgt {o : Int} {t : Nat} (hT : Le Kt (Wj z l G F Y Q QX k n t)) (hK : Le K (Wj z l G F Y Q QX k n (pc + 3))) (d : decode (yB Y) pc = .ok (.ifCond .gt o, 3)) (ht : (pc : Int) + o = (t : Int)) : Le (I_ifgt Kt K) (Wj z l G F Y Q QX k n pc) := by
  intro L st M h
  unfold I_ifgt at h
  split at h
  next x r =>
    intro C
    obtain ⟨p, e, s, m, args, below, meth, c⟩ := F
    intro H locs ls hR hB hz hl hv
    exact lv_if_gt C.ex C.by d ht (fun g => hT _ _ _ (h.1 g) C H locs ls hR hB hz hl hv) (fun g => hK _ _ _ (h.2 g) C H locs ls hR hB hz hl hv)
  next => exact h.elim
def I_icgt (Kt K : KT) : KT := fun L st M => match st with
  | .int y :: .int x :: r => (y < x → Kt L r M) ∧ (¬ y < x → K L r M)
  | _ => False
theorem r_icgt {o : Int} {t : Nat} (hT : Le Kt (Wj z l G F Y Q QX k n t)) (hK : Le K (Wj z l G F Y Q QX k n (pc + 3))) (d : decode (yB Y) pc = .ok (.if_icmp .gt o, 3)) (ht : (pc : Int) + o = (t : Int)) : Le (I_icgt Kt K) (Wj z l G F Y Q QX k n pc) := by
  intro L st M h
  unfold I_icgt at h
  split at h
  next y x r =>
    intro C
    obtain ⟨p, e, s, m, args, below, meth, c⟩ := F
    intro H locs ls hR hB hz hl hv
    exact lv_icmp_gt C.ex C.by d ht (fun g => hT _ _ _ (h.1 g) C H locs ls hR hB hz hl hv) (fun g => hK _ _ _ (h.2 g) C H locs ls hR hB hz hl hv)
  next => exact h.elim
def I_ifle (Kt K : KT) : KT := fun L st M => match st with
  | .int x :: r => (x ≤ 0 → Kt L r M) ∧ (¬ x ≤ 0 → K L r M)
  | _ => False
theorem r_ifle {o : Int} {t : Nat} (hT : Le Kt (Wj z l G F Y Q QX k n t)) (hK : Le K (Wj z l G F Y Q QX k n (pc + 3))) (d : decode (yB Y) pc = .ok (.ifCond .le o, 3)) (ht : (pc : Int) + o = (t : Int)) : Le (I_ifle Kt K) (Wj z l G F Y Q QX k n pc) := by
  intro L st M h
  unfold I_ifle at h
  split at h
  next x r =>
    intro C
    obtain ⟨p, e, s, m, args, below, meth, c⟩ := F
    intro H locs ls hR hB hz hl hv
    exact lv_if_le C.ex C.by d ht (fun g => hT _ _ _ (h.1 g) C H locs ls hR hB hz hl hv) (fun g => hK _ _ _ (h.2 g) C H locs ls hR hB hz hl hv)
  next => exact h.elim
def I_icle (Kt K : KT) : KT := fun L st M => match st with
  | .int y :: .int x :: r => (x ≤ y → Kt L r M) ∧ (¬ x ≤ y → K L r M)
  | _ => False
theorem r_icle {o : Int} {t : Nat} (hT : Le Kt (Wj z l G F Y Q QX k n t)) (hK : Le K (Wj z l G F Y Q QX k n (pc + 3))) (d : decode (yB Y) pc = .ok (.if_icmp .le o, 3)) (ht : (pc : Int) + o = (t : Int)) : Le (I_icle Kt K) (Wj z l G F Y Q QX k n pc) := by
  intro L st M h
  unfold I_icle at h
  split at h
  next y x r =>
    intro C
    obtain ⟨p, e, s, m, args, below, meth, c⟩ := F
    intro H locs ls hR hB hz hl hv
    exact lv_icmp_le C.ex C.by d ht (fun g => hT _ _ _ (h.1 g) C H locs ls hR hB hz hl hv) (fun g => hK _ _ _ (h.2 g) C H locs ls hR hB hz hl hv)
  next => exact h.elim
def I_ifnull (Kt K : KT) : KT := fun L st M => match st with
  | .null :: r => Kt L r M
  | .ref _ :: r => K L r M
  | _ => False
theorem r_ifnull {o : Int} {t : Nat} (hT : Le Kt (Wj z l G F Y Q QX k n t)) (hK : Le K (Wj z l G F Y Q QX k n (pc + 3))) (d : decode (yB Y) pc = .ok (.ifnull o, 3)) (ht : (pc : Int) + o = (t : Int)) : Le (I_ifnull Kt K) (Wj z l G F Y Q QX k n pc) := by
  intro L st M h
  unfold I_ifnull at h
  split at h
  next r =>
    intro C
    obtain ⟨p, e, s, m, args, below, meth, c⟩ := F
    intro H locs ls hR hB hz hl hv
    exact lv_ifnullN C.ex C.by d ht (hT _ _ _ h C H locs ls hR hB hz hl hv)
  next x r =>
    intro C
    obtain ⟨p, e, s, m, args, below, meth, c⟩ := F
    intro H locs ls hR hB hz hl hv
    exact lv_ifnull C.ex C.by d (hK _ _ _ h C H locs ls hR hB hz hl hv)
  next => exact h.elim
def I_ifnonnull (Kt K : KT) : KT := fun L st M => match st with
  | .null :: r => K L r M
  | .ref _ :: r => Kt L r M
  | _ => False
theorem r_ifnonnull {o : Int} {t : Nat} (hT : Le Kt (Wj z l G F Y Q QX k n t)) (hK : Le K (Wj z l G F Y Q QX k n (pc + 3))) (d : decode (yB Y) pc = .ok (.ifnonnull o, 3)) (ht : (pc : Int) + o = (t : Int)) : Le (I_ifnonnull Kt K) (Wj z l G F Y Q QX k n pc) := by
  intro L st M h
  unfold I_ifnonnull at h
  split at h
  next r =>
    intro C
    obtain ⟨p, e, s, m, args, below, meth, c⟩ := F
    intro H locs ls hR hB hz hl hv
    exact lv_ifnonnullN C.ex C.by d (hK _ _ _ h C H locs ls hR hB hz hl hv)
  next x r =>
    intro C
    obtain ⟨p, e, s, m, args, below, meth, c⟩ := F
    intro H locs ls hR hB hz hl hv
    exact lv_ifnonnull C.ex C.by d ht (hT _ _ _ h C H locs ls hR hB hz hl hv)
  next => exact h.elim
def swK (x : Int32) (L st : List Value) (M : Mm) (Kd : KT) : Int → List KT → Prop
  | _, [] => Kd L st M
  | lo, K :: Ks => (x.toInt = lo → K L st M) ∧ (¬ x.toInt = lo → swK x L st M Kd (lo + 1) Ks)
def I_sw (lo : Int) (Ks : List KT) (Kd : KT) : KT := fun L st M => match st with
  | .int x :: r => swK x L r M Kd lo Ks
  | _ => False
def AllLe (z : Bool) (l : Launch) (G : GT) (F : FX) (Y : YT) (Q : PQ) (QX : PX) (k n pc : Nat) : List KT → List Int → Prop
  | [], [] => True
  | K :: Ks, o :: os => (∃ t : Nat, (pc : Int) + o = (t : Int) ∧ Le K (Wj z l G F Y Q QX k n t)) ∧ AllLe z l G F Y Q QX k n pc Ks os
  | _, _ => False
theorem swK_out {x : Int32} {L st : List Value} {M : Mm} {Kd : KT} : ∀ (Ks : List KT) (lo : Int), swK x L st M Kd lo Ks → (x.toInt < lo ∨ lo + Ks.length ≤ x.toInt) → Kd L st M
  | [], _, h, _ => h
  | K :: Ks, lo, h, hx => by
    simp only [List.length_cons, Int.natCast_add, Int.natCast_one] at hx
    refine swK_out Ks (lo + 1) (h.2 (by omega)) (by omega)
theorem swK_in {x : Int32} {L st : List Value} {M : Mm} {Kd : KT} : ∀ (Ks : List KT) (os : List Int) (lo : Int), AllLe z l G F Y Q QX k n pc Ks os → swK x L st M Kd lo Ks → lo ≤ x.toInt → x.toInt < lo + Ks.length → ∃ (o : Int) (t : Nat), os[(x.toInt - lo).toNat]? = some o ∧ (pc : Int) + o = (t : Int) ∧ Wj z l G F Y Q QX k n t L st M
  | [], _, lo, _, _, h1, h2 => by simp at h2; omega
  | K :: Ks, [], lo, ha, _, _, _ => ha.elim
  | K :: Ks, o :: os, lo, ha, h, h1, h2 => by
    by_cases hx : x.toInt = lo
    · obtain ⟨t, ht, hK⟩ := ha.1
      exact ⟨o, t, by rw [show (x.toInt - lo).toNat = 0 by omega]; rfl, ht, hK _ _ _ (h.1 hx)⟩
    · simp only [List.length_cons, Int.natCast_add, Int.natCast_one] at h2
      obtain ⟨o', t, g1, g2, g3⟩ := swK_in Ks os (lo + 1) ha.2 (h.2 hx) (by omega) (by omega)
      refine ⟨o', t, ?_, g2, g3⟩
      rw [show (x.toInt - lo).toNat = (x.toInt - (lo + 1)).toNat + 1 by omega, List.getElem?_cons_succ]
      exact g1
theorem r_sw {Ks : List KT} {Kd : KT} {os : List Int} {offs : Array Int} {dflt lo hi : Int} {len t : Nat} (hD : Le Kd (Wj z l G F Y Q QX k n t)) (hA : AllLe z l G F Y Q QX k n pc Ks os) (d : decode (yB Y) pc = .ok (.tableswitch dflt lo hi offs, len)) (ho : offs.toList = os) (hlen : lo + Ks.length = hi + 1) (ht : (pc : Int) + dflt = (t : Int)) : Le (I_sw lo Ks Kd) (Wj z l G F Y Q QX k n pc) := by
  intro L st M h
  unfold I_sw at h
  split at h
  next x r =>
    by_cases hx : x.toInt < lo ∨ hi < x.toInt
    · have hd := hD _ _ _ (swK_out Ks lo h (by omega))
      intro C
      obtain ⟨p, e, s, m, args, below, meth, c⟩ := F
      intro H locs ls hR hB hz hl hv
      exact lv_tableOut C.ex C.by d hx ht (hd C H locs ls hR hB hz hl hv)
    · obtain ⟨o, t', g1, g2, g3⟩ := swK_in Ks os lo hA h (by omega) (by omega)
      intro C
      obtain ⟨p, e, s, m, args, below, meth, c⟩ := F
      intro H locs ls hR hB hz hl hv
      exact lv_tableIn C.ex C.by d (fun q => hx (Or.inl q)) (fun q => hx (Or.inr q)) (by rw [← ho] at g1; simpa using g1) g2 (g3 C H locs ls hR hB hz hl hv)
  next => exact h.elim
end RULES
