/-! ===== entry, calls ===== -/
/-- the locals at the entry -/
def arL : List Value → List Value
  | [] => []
  | v :: vs => if v.category = 2 then v :: xx :: arL vs else v :: arL vs
theorem arL_in {G : GT} : ∀ (vs : List Value) (o m : Nat) (q : Nat × Value), q ∈ lvOf G o (arL vs ++ List.replicate m xx) → q ∈ lv_args o (vs.map (tv G))
  | [], o, m, q, h => by
    exfalso
    have : ∀ (m o : Nat), lvOf G o (List.replicate m xx) = [] := by
      intro m
      induction m with
      | zero => intro o; rfl
      | succ m ih => intro o; rw [List.replicate_succ]; unfold lvOf; rw [if_neg (by decide), ih]
    simp only [arL, List.nil_append] at h
    rw [this] at h
    cases h
  | v :: vs, o, m, q, h => by
    rw [List.map_cons]
    unfold lv_args
    rw [tv_cat]
    unfold arL at h
    by_cases hc : v.category = 2
    · rw [if_pos hc] at h ⊢
      rw [List.cons_append, List.cons_append] at h
      unfold lvOf at h
      have h2 : q ∈ lvOf G (o + 1) (xx :: (arL vs ++ List.replicate m xx)) → q ∈ lv_args (o + 2) (vs.map (tv G)) := fun h => by
        unfold lvOf at h
        rw [if_neg (by decide)] at h
        exact arL_in vs (o + 1 + 1) m q h
      split at h
      · rcases List.mem_cons.mp h with rfl | h
        · exact List.mem_cons_self
        · exact List.mem_cons_of_mem _ (h2 h)
      · exact List.mem_cons_of_mem _ (h2 h)
    · rw [if_neg hc] at h ⊢
      rw [List.cons_append] at h
      unfold lvOf at h
      split at h
      · rcases List.mem_cons.mp h with rfl | h
        · exact List.mem_cons_self
        · exact List.mem_cons_of_mem _ (arL_in vs (o + 1) m q h)
      · exact List.mem_cons_of_mem _ (arL_in vs (o + 1) m q h)
def ar0 (n : Nat) (As : List Value) : List Value := arL As ++ List.replicate (n - (arL As).length) xx
theorem lg_len (G : GT) : ∀ vs : List Value, (lg_sl (vs.map (tv G))).length = (arL vs).length
  | [] => rfl
  | v :: vs => by
    have ih := lg_len G vs
    unfold lg_sl at ih ⊢
    rw [List.map_cons, List.flatMap_cons, List.length_append, ih, tv_cat, show arL (v :: vs) = if v.category = 2 then v :: xx :: arL vs else v :: arL vs from rfl]
    by_cases hc : v.category = 2
    · simp [hc]; omega
    · simp [hc]; omega
theorem tr_of {z : Bool} {l : Launch} {G : GT} {Y : YT} {As L0 : List Value} {M : Mm} {Q : PQ} {QX : PX} (hpl : plainName (yN Y).cls = true) (hn : (arL As).length ≤ yL Y) (hL : ar0 (yL Y) As = L0) (body : ∀ F : FX, Wj z l G F Y Q QX 0 0 0 L0 [] M) : Tr z l G Y As M Q QX := by
  unfold Tr
  refine vx_ofW (cc := yB Y) (maxL := yL Y) (ret := yR Y) hpl rfl ?_
  intro p e s m args below meth c s₁ B hml htb hv
  obtain ⟨rfl, hgo, hka, hzz, hR⟩ := hv
  have hts : ∀ w ∈ yC1 Y :: WS, w.before _ s = true := atoms_spec (ws := yC1 Y :: WS) B.pre
  have C : CX l G (p, e, s, m, (As.map (tv G)).toArray, below, meth, c) Y := ⟨B.exec, B.bytes, hml, B.returns, B.notSynchronized, htb, findClass_of_methodNamed B.named, (name_of_methodNamed B.named B.method).1, fun w hw => hts w (List.mem_cons_of_mem _ hw), hgo, hka, hzz, by have := hR.1; omega⟩
  have hl := lv_entry (As.map (tv G)) (n := yL Y) (by rw [lg_len]; exact hn)
  rw [lg_entry_eq]
  refine body (p, e, s, m, (As.map (tv G)).toArray, below, meth, c) C s.heap [] _ hR (fun _ _ => rfl) (Nat.le_refl _) (fun _ h => by cases h) ⟨hl.1, hl.2.1, fun q hq => hl.2.2 q ?_⟩
  rw [← hL] at hq
  exact arL_in As 0 _ q hq
/-- what a caller needs to know of a callee -/
def okC (Y : YT) (n : Nat) : Prop := yC1 Y ∈ WS ∧ Cond.initialized (yN Y).cls ∈ WS ∧ ((yN Y).cls ≠ "java/lang/invoke/MethodHandle" ∧ (yN Y).cls ≠ "java/lang/invoke/VarHandle" ∧ (parseMethodDescriptor (yN Y).desc).map (fun d => d.parameters.length) = some n)
def okV (Y : YT) (n : Nat) : Prop := okC Y n ∧ Cond.instanceMethod (yN Y) ∈ WS ∧ Cond.selects (yN Y).cls (yN Y) (yN Y) ∈ WS
def okS (Y : YT) (n : Nat) : Prop := okC Y n ∧ Cond.static (yN Y) ∈ WS
/-- frames and words of the callee fit into the caller's -/
def fit (Yc Y : YT) : Prop := yF Yc + 1 ≤ yF Y ∧ 8 + (yL Yc + 11) + yW Yc ≤ yW Y
def popA : Nat → List Value → List Value → Option (List Value × List Value)
  | 0, st, acc => some (acc, st)
  | _ + 1, [], _ => none
  | n + 1, v :: st, acc => popA n st (v :: acc)
theorem popA_spec : ∀ (n : Nat) (st acc as st' : List Value), popA n st acc = some (as, st') → ∃ bs, as = bs ++ acc ∧ st = bs.reverse ++ st' ∧ bs.length = n
  | 0, st, acc, as, st', h => by
    simp only [popA, Option.some.injEq, Prod.mk.injEq] at h
    exact ⟨[], by simp [h.1], by simp [h.2], rfl⟩
  | n + 1, [], acc, as, st', h => by cases h
  | n + 1, v :: st, acc, as, st', h => by
    obtain ⟨bs, h1, h2, h3⟩ := popA_spec n st (v :: acc) as st' h
    exact ⟨bs ++ [v], by rw [h1]; simp, by rw [h2]; simp, by simp [h3]⟩
theorem popA_0 {n : Nat} {st as st' : List Value} (h : popA n st [] = some (as, st')) : st = as.reverse ++ st' ∧ as.length = n := by
  obtain ⟨bs, h1, h2, h3⟩ := popA_spec n st [] as st' h
  rw [List.append_nil] at h1
  subst h1
  exact ⟨h2, h3⟩
theorem cat_sum {G : GT} (st : List Value) : ((st.map (tv G)).map fun v => v.category).sum = (st.map Value.category).sum := by
  rw [List.map_map]
  congr 1
  apply List.map_congr_left
  intro v _
  exact tv_cat G v
section CALLS
variable {z : Bool} {l : Launch} {G : GT} {F : FX} {Y : YT} {Q : PQ} {QX : PX} {k n pc : Nat} {K Kt : KT}
theorem sok_moved {M : Mm} {s U : State} {H : Heap} (hgo : GOK G) (hka : va_K (gD G) vwCl (tysG G) s) (hzz : gZ G s s.heap) (hR : RepH z G M H) (hB : ∀ q, q < gB G → H[q]? = s.heap[q]?) (hU : U.heap = H) (hW : s.WarmedH U.vm) : SOK z G M U :=
  ⟨hgo, va_K.moved hW.alike hka, by rw [hU]; exact hgo.1 s U H hW (hgo.2.2 s s.heap H hB hzz), by rw [hU]; exact hR⟩
theorem sok_blind {As : List Value} {M : Mm} : FrameBlind (fun (v : Array Value) (U : State) => v = (As.map (tv G)).toArray ∧ SOK z G M U) := fun a U g mk q => by
  obtain ⟨h1, hgo, hka, hzz, hR⟩ := q
  exact ⟨h1, hgo, va_K.moved (u := U) (U := U.calling g mk a) (Vm.Alike.refl U.vm) hka, hgo.2.1 U _ _ rfl hzz, hR⟩
/-- behind a call, however it was made -/
theorem vj_call {p : Program} {e : Env} {s : State} {m : MethodId} {args : Array Value} {below : List Frame} {meth : Method} {c : Code} {Yc : YT} {H : Heap} {locs : List Loc} {ls : Array Slot} {L st0 rest : List Value} {a : Array Value}
    (hK : Le K (Wj z l G (p, e, s, m, args, below, meth, c) Y Q QX (k + yC Yc) (n + yS Yc) (pc + 3))) (C : CX l G (p, e, s, m, args, below, meth, c) Y) (hB : ∀ q, q < gB G → H[q]? = s.heap[q]?) (hz : s.heap.size ≤ H.size) (hlo : ∀ x ∈ locs, gB G ≤ x.base) (hv : lv_has ls (yL Y) (lvOf G 0 L))
    (hr : vx_Run p l e (yRoom Y) s m args below meth c H locs k n (yC Yc) (yS Yc) (F0 m pc ls (st0.map (tv G))) (rest.map (tv G)) (Qr z G (fun r M' => K L (r.toList ++ rest) M') a) (Qx z G QX) (fun q => gB G ≤ q)) (hk : k + yC Yc ≤ yC Y) (hn : n + yS Yc ≤ yS Y) :
    W p l e (yRoom Y) s m args below meth c H locs k n (vx_MQ below (Qr z G Q) (Qx z G QX) args s (yC Y) (yS Y) (fun q => gB G ≤ q)) (F0 m pc ls (st0.map (tv G))) := by
  intro T hT X
  rcases hr T hT X with ⟨v, st₀, t, T', L1, h0, X', hL, e1, e2, ⟨r, M', hq, hv', hR', hB', hz'⟩, st⟩ | ⟨q, st₀, t, T', L1, E, ce, h0, X', hL, e1, e2, ⟨M', hq, hR', hB', hz'⟩, hce, hcv, hcl, st⟩
  · cases hv'
    rw [h0] at hB' hz'
    have hl2 : ∀ x ∈ locs ++ L1, gB G ≤ x.base := fun x hx => by
      rcases List.mem_append.mp hx with h | h
      · exact hlo x h
      · exact hL x h
    have hw := hK _ _ _ hq C T'.heap (locs ++ L1) ls (by rw [e1]; exact hR') (fun q hq => by rw [e1, hB' q hq]; exact hB q hq) (Nat.le_trans hz (by rw [e1]; exact hz')) hl2 hv
    obtain ⟨t2, a1, b1⟩ := hw T' rfl X'
    refine ⟨t2, st t2 ?_, b1⟩
    have : (Option.map (tv G) r).toList ++ rest.map (tv G) = (r.toList ++ rest).map (tv G) := by cases r <;> simp
    rw [this]
    exact a1
  · rw [h0] at hB' hz'
    have hl2 : ∀ x ∈ locs ++ L1, gB G ≤ x.base := fun x hx => by
      rcases List.mem_append.mp hx with h | h
      · exact hlo x h
      · exact hL x h
    have hw := vx_out (p := p) (l := l) (e := e) (R := yRoom Y) (s := s) (m := m) (args := args) (below := below) (meth := meth) (c := c) (H := T'.heap) (locs := locs ++ L1) (cells := k + yC Yc) (slots := n + yS Yc) (free := fun q => gB G ≤ q) (Qc := Qr z G Q) (XC := Qx z G QX) (pc := pc) (ls := ls) (rest := rest.map (tv G)) (E := E) (ce := ce) (q := q)
      (fun x hx => (C.tb x hx).elim) C.lk (by rw [e1]; exact hce) hcv hcl (fun t' ht' _ => ⟨M', hq, by rw [ht', e1]; exact hR', fun q hq => by rw [ht', e1, hB' q hq]; exact hB q hq, by rw [ht', e1]; exact Nat.le_trans hz hz'⟩) hl2 hk hn
    obtain ⟨t2, a1, b1⟩ := hw T' rfl X'
    exact ⟨t2, st.trans a1, b1⟩
theorem okC_cb {p e s m args below meth c} {Yc : YT} {nc ix : Nat} (C : CX l G (p, e, s, m, args, below, meth, c) Y) (ok : okC Yc nc) (hl : Cond.methodLink (yN Y).cls ix (yN Yc) ∈ WS) (hf : fit Yc Y) : CallB (yRoom Y) s args (yN Y).cls ix (yN Yc) (yB Yc) (yL Yc) (yR Yc) (yC1 Yc :: WS) (yRoom Yc) (yC Yc) (yS Yc) nc :=
  callB_of nc C.ws (ws_gi ok.1) rfl rfl rfl (C.ws _ ok.2.1) (C.ws _ hl) ok.2.2 hf
/-- a call of an object's method -/
def I_cv (T : List Value → Mm → PQ → PX → Prop) (ci nf nc : Nat) (QX : PX) (K : KT) : KT := fun L st M => match popA nc st [] with
  | some (as, .ref o :: r) => KX o = (1, ci, nf) ∧ (r.map Value.category).sum ≤ 8 ∧ T (.ref o :: as) M (fun v M' => K L (v.toList ++ r) M') QX
  | _ => False
theorem r_cv {Yc : YT} {ci nf nc ix : Nat} {C0 : String} {T0 : u_T} {ty : Nat → FieldType} (hK : Le K (Wj true l G F Y Q QX (k + yC Yc) (n + yS Yc) (pc + 3))) (d : decode (yB Y) pc = .ok (.invokevirtual ix, 3)) (hc : CLO ci nf C0 T0 ty) (ok : okV Yc nc) (hcls : (yN Yc).cls = C0) (hl : Cond.methodLink (yN Y).cls ix (yN Yc) ∈ WS) (hf : fit Yc Y) (hk : k + yC Yc ≤ yC Y ∧ n + yS Yc ≤ yS Y) :
    Le (I_cv (Tr true l G Yc) ci nf nc QX K) (Wj true l G F Y Q QX k n pc) := by
  intro L st M h
  unfold I_cv at h
  split at h
  next as o r hpop =>
    intro C
    obtain ⟨p, e, s, m, args, below, meth, c⟩ := F
    intro H locs ls hR hB hz hlo hv
    obtain ⟨hx, hcat, h⟩ := h
    obtain ⟨hst, hlen⟩ := popA_0 hpop
    have hkx : (KX o).1 ≠ 0 := by rw [hx]; exact Nat.succ_ne_zero _
    have hP := rep_at hR (rep_lt hR hkx) hkx
    rw [cellE_1 hx] at hP
    have hrec := va_recv C.ka hP hc.1 (q0 := 0) rfl
    have hcb := okC_cb C ok.1 hl hf
    refine vj_call (Yc := Yc) (rest := r) hK C hB hz hlo hv (vx_runV (C := C0) (As := as.map (tv G)) ⟨C.ex, C.by, C.ml, C.ow, C.ws⟩ h ⟨hcb, C.ws _ ok.2.1, by rw [← hcls]; exact C.ws _ ok.2.2⟩ ⟨sok_blind, hrec, fun U hU hW => ⟨rfl, sok_moved C.go C.ka C.zz hR hB hU hW⟩⟩ rfl (by rw [List.length_map]; exact hlen) hv.1 ?_ ?_ d hk) hk.1 hk.2
    · show st.map (tv G) = _
      rw [hst]
      simp [tv]
    · show 2 * 0 + _ ≤ 8
      rw [cat_sum]
      omega
  next => exact h.elim
/-- a call of a class's method -/
def I_cs (T : List Value → Mm → PQ → PX → Prop) (nc : Nat) (QX : PX) (K : KT) : KT := fun L st M => match popA nc st [] with
  | some (as, r) => (r.map Value.category).sum ≤ 8 ∧ T as M (fun v M' => K L (v.toList ++ r) M') QX
  | _ => False
theorem r_cs {Yc : YT} {nc ix : Nat} (hK : Le K (Wj z l G F Y Q QX (k + yC Yc) (n + yS Yc) (pc + 3))) (d : decode (yB Y) pc = .ok (.invokestatic ix, 3)) (ok : okS Yc nc) (hl : Cond.methodLink (yN Y).cls ix (yN Yc) ∈ WS) (hf : fit Yc Y) (hk : k + yC Yc ≤ yC Y ∧ n + yS Yc ≤ yS Y) :
    Le (I_cs (Tr z l G Yc) nc QX K) (Wj z l G F Y Q QX k n pc) := by
  intro L st M h
  unfold I_cs at h
  split at h
  next as r hpop =>
    intro C
    obtain ⟨p, e, s, m, args, below, meth, c⟩ := F
    intro H locs ls hR hB hz hlo hv
    obtain ⟨hcat, h⟩ := h
    obtain ⟨hst, hlen⟩ := popA_0 hpop
    have hcb := okC_cb C ok.1 hl hf
    refine vj_call (Yc := Yc) (rest := r) hK C hB hz hlo hv (vx_runS (As := as.map (tv G)) ⟨C.ex, C.by, C.ml, C.ow, C.ws⟩ h ⟨hcb, C.ws _ ok.2⟩ ⟨sok_blind, fun U hU hW => ⟨rfl, sok_moved C.go C.ka C.zz hR hB hU hW⟩⟩ rfl (by rw [List.length_map]; exact hlen) hv.1 ?_ ?_ d hk) hk.1 hk.2
    · show st.map (tv G) = _
      rw [hst]
      simp
    · show 2 * 0 + _ ≤ 8
      rw [cat_sum]
      omega
  next => exact h.elim
/-- contracts: a stronger end -/
theorem Tr.mono {Yc : YT} {As : List Value} {M : Mm} {Q1 Q2 : PQ} {X1 X2 : PX} (h : Tr z l G Yc As M Q1 X1) (hq : ∀ r M', Q1 r M' → Q2 r M') (hx : ∀ E M', X1 E M' → X2 E M') : Tr z l G Yc As M Q2 X2 := by
  intro p e ha hc hk s m args below hf happ hP hT
  obtain ⟨t, o, h1, h2, h3, h4⟩ := h p e ha hc hk s m args below hf happ hP hT
  refine ⟨t, o, h1, h2, h3, ?_⟩
  rcases h4 with ⟨⟨r, M', g1, g2⟩, g3⟩ | ⟨q, g1, E, ce, L, ⟨M', g2, g3⟩, g4⟩
  · exact Or.inl ⟨⟨r, M', hq _ _ g1, g2⟩, g3⟩
  · exact Or.inr ⟨q, g1, E, ce, L, ⟨M', hx _ _ g2, g3⟩, g4⟩
end CALLS
