/-! ===== cells: reading and writing ===== -/
theorem kx_lt {a : Nat} (h : (KX a).1 ≠ 0) : a < 1098 := by
  by_cases hh : a < 1098
  · exact hh
  · exfalso
    apply h
    have e : KX a = (0, 0, 0) := by
      unfold KX
      repeat rw [if_neg (by omega)]
    rw [e]
theorem kx_lt' {a x y w : Nat} (h : KX a = (x, y, w)) (hx : x ≠ 0) : a < 1098 := kx_lt (by rw [h]; exact hx)
theorem rh_lt {G : GT} {a : Nat} (h : a < 1000000) : rh G a = gB G + a := if_pos h
theorem cellE_1 {G : GT} {M : Mm} {a c n : Nat} (h : KX a = (1, c, n)) : cellE G M a = .inr (c, (List.range n).map (fun k => fv G M c a k)) := by unfold cellE; rw [h]; rfl
theorem cellE_2 {G : GT} {M : Mm} {a c n : Nat} (h : KX a = (2, c, n)) : cellE G M a = .inl (gA G 0, n, .inl (mI M a)) := by unfold cellE; rw [h]; rfl
theorem cellE_3 {G : GT} {M : Mm} {a c n : Nat} (h : KX a = (3, c, n)) : cellE G M a = .inl (gA G 1, n, .inr (.inl (mL M a))) := by unfold cellE; rw [h]; rfl
theorem cellE_4 {G : GT} {M : Mm} {a c n : Nat} (h : KX a = (4, c, n)) : cellE G M a = .inl (gA G c, n, .inr (.inr (.inr (.inr (fun j => pq G (mP M a j)))))) := by unfold cellE; rw [h]; rfl
theorem cellE_congr {G : GT} {M M' : Mm} {b : Nat} (h1 : mI M' b = mI M b) (h2 : mL M' b = mL M b) (h3 : mP M' b = mP M b) : cellE G M' b = cellE G M b := by
  have hf : ∀ c, (fun k => fv G M' c b k) = (fun k => fv G M c b k) := fun c => funext fun k => by unfold fv; rw [h1, h2, h3]
  unfold cellE
  split
  · rw [hf]
  · rw [h1]
  · rw [h2]
  · rw [h3]
theorem u2_row {α : Type} {f : Nat → Nat → α} {a k : Nat} {v : α} {b : Nat} (h : b ≠ a) : u2 f a k v b = f b := funext fun j => u2_n (fun q => h q.1)
theorem u2_self {α : Type} (f : Nat → Nat → α) (a k : Nat) (v : α) : u2 f a k v a = fun j => if j = k then v else f a j := funext fun j => by
  unfold u2
  by_cases hj : j = k
  · rw [if_pos ⟨rfl, hj⟩, if_pos hj]
  · rw [if_neg (fun q => hj q.2), if_neg hj]
theorem rep_at {z : Bool} {G : GT} {M : Mm} {H : Heap} {a : Nat} (hR : RepH z G M H) (ha : a < mN M) (hk : (KX a).1 ≠ 0) : va_P (gD G) vwCl [(rh G a, cellE G M a)] H := by
  intro j q hj
  cases j with
  | zero =>
    simp at hj
    subst hj
    rw [rh_lt (Nat.lt_of_lt_of_le (kx_lt hk) (by decide))]
    exact hR.2.1 a ha hk
  | succ j => simp at hj
theorem rep_lt {G : GT} {M : Mm} {H : Heap} {a : Nat} (hR : RepH true G M H) (hk : (KX a).1 ≠ 0) : a < mN M := Nat.lt_of_lt_of_le (kx_lt hk) (hR.2.2.1 rfl).2
theorem rep_put {z : Bool} {G : GT} {M M' : Mm} {H H1 : Heap} {a : Nat} (hR : RepH z G M H) (hk : (KX a).1 ≠ 0) (h1 : va_at (gD G) vwCl (rh G a, cellE G M' a) H1) (hz : H1.size = H.size) (ho : ∀ q, q ≠ rh G a → H1[q]? = H[q]?)
    (hM : mN M' = mN M) (hE : ∀ b, b ≠ a → cellE G M' b = cellE G M b) (hP : z = true → PInv M → PInv M') : RepH z G M' H1 := by
  have hra := rh_lt (G := G) (Nat.lt_of_lt_of_le (kx_lt hk) (by decide : 1098 ≤ 1000000))
  refine ⟨by rw [hz, hM]; exact hR.1, fun b hb hkb => ?_, fun hz => ⟨hP hz (hR.2.2.1 hz).1, by rw [hM]; exact (hR.2.2.1 hz).2⟩, by rw [hM]; exact hR.2.2.2⟩
  by_cases hba : b = a
  · subst hba
    rw [← hra]
    exact h1
  · rw [hE b hba]
    rw [hM] at hb
    exact (hR.2.1 b hb hkb).kept (ho _ (by rw [hra]; show gB G + b ≠ gB G + a; omega))
theorem frame_put {G : GT} {H H1 H0 : Heap} {a : Nat} (hk : (KX a).1 ≠ 0) (ho : ∀ q, q ≠ rh G a → H1[q]? = H[q]?) (hB : ∀ q, q < gB G → H[q]? = H0[q]?) : ∀ q, q < gB G → H1[q]? = H0[q]? := fun q hq => by
  have hra := rh_lt (G := G) (Nat.lt_of_lt_of_le (kx_lt hk) (by decide : 1098 ≤ 1000000))
  rw [ho q (by rw [hra]; omega)]
  exact hB q hq
theorem locs_put {G : GT} {locs : List Loc} {a j : Nat} (hk : (KX a).1 ≠ 0) (hl : ∀ x ∈ locs, gB G ≤ x.base) : ∀ x ∈ locs ++ [(⟨rh G a, j⟩ : Loc)], gB G ≤ x.base := fun x hx => by
  have hra := rh_lt (G := G) (Nat.lt_of_lt_of_le (kx_lt hk) (by decide : 1098 ≤ 1000000))
  rcases List.mem_append.mp hx with h | h
  · exact hl x h
  · rw [List.mem_singleton.mp h]
    show gB G ≤ rh G a
    omega
/-- a class of ours: its place, fields, words -/
def CLO (ci nf : Nat) (C : String) (T : u_T) (ty : Nat → FieldType) : Prop := vwCl[ci]? = some (C, T, nf) ∧ (∀ w ∈ u_ws C T nf, w ∈ WS) ∧ (∀ k, k < nf → parseFieldDescriptor (T k).2.2.1 = some (ty k)) ∧ (∀ a, a < nf → ∀ b, b < nf → a ≠ b → (T a).2.1 ≠ (T b).2.1)
section VJ
variable {p : Program} {l : Launch} {e : Env} {R : Room} {s : State} {m : MethodId} {args : Array Value} {below : List Frame} {meth : Method} {c : Code} {H : Heap} {locs : List Loc} {cells slots : Nat} {Q : State → Prop}
variable {cc : ByteArray} {pc : Nat} {ls : Array Slot} {rest : List Value} {D : va_G} {cl : List vw_C} {A : Nat → Prop} {a : Nat} {tys : List (ClassId × FieldType)} {ws : va_W} {H0 : Heap}
theorem vj_put (hexec : p.tables.exec = Jvm.exec) (hb : c.code = cc) {own ref C : String} {T : u_T} {N ci index : Nat} {Ts : List Cond} (hts : ∀ w ∈ Ts, w.before args s = true) (hin : ∀ w ∈ u_ws C T N, w ∈ Ts) (ty0 : Nat → FieldType) (hty : ∀ k, k < N → parseFieldDescriptor (T k).2.2.1 = some (ty0 k)) (hnm : ∀ a, a < N → ∀ b, b < N → a ≠ b → (T a).2.1 ≠ (T b).2.1) (hown : s.vm.findClass own = some m.cls) (hK : va_K D cl tys s) {fs : List Value} (hP : va_at D cl (a, .inr (ci, fs)) H) (hc : cl[ci]? = some (C, T, N)) (k : Nat) (hk : k < N) (hlink : (Cond.fieldLink own index ref (T k).2.1 (T k).2.2.1).before args s = true) (hsame : ∀ x, s.fieldFound? (T k).1 (T k).2.1 (T k).2.2.1 = some x → s.fieldFound? ref (T k).2.1 (T k).2.2.1 = some x) (hfin : (T k).2.2.2 = false) {ty : FieldType} {v : Value} (hd : parseFieldDescriptor (T k).2.2.1 = some ty) (hn : narrow ty v = v) (hfit : fits ty v = true) (hl : k < fs.length)
    (hdg : decode cc pc = .ok (.putfield index, 3)) (kk : ∀ (H1 : Heap) (j : Nat), va_at D cl (a, .inr (ci, fs.set k v)) H1 → H1.size = H.size → (∀ q, q ≠ a → H1[q]? = H[q]?) → W p l e R s m args below meth c H1 (locs ++ [⟨a, j⟩]) cells slots Q (F0 m (pc + 3) ls rest)) : W p l e R s m args below meth c H locs cells slots Q (F0 m pc ls (v :: .ref a :: rest)) := by
  have hap := va_apart (own := own) hts hin ty0 hty hnm hK hc
  obtain ⟨r, h1, cell, q1, q2, q3, q4⟩ := hP
  have hr : r = (C, T, N) := Option.some.inj (h1.symm.trans hc)
  subst hr
  obtain ⟨hS, hfc, kC, hkC, hkind⟩ := hK.1 ci _ hc
  obtain ⟨cf, kf, fi, f, hi, hsl⟩ := hS k hk
  have hlay := hts _ (hin _ (u_in_lay hk))
  unfold u_lay at hlay
  rw [if_neg (by rw [hfin]; decide)] at hlay
  have hst := (u_facts hfc hkC (u_lays hts hin hk) hi).1
  have h6 := u_store hfc hkC hkind hlay hi hd hn hfit
  refine W.putK hexec hb (f := f) ⟨hown, hlink, ⟨_, _, _, hsame _ hi⟩, hst⟩ (by rw [q2]; exact h6) q1 q3 (by rw [hsl]; exact k2_hasslot (q4 k hk)) rfl rfl hdg fun H' e1 e2 e3 => ?_
  rw [hsl] at e1 ⊢
  exact kk H' _ ⟨_, hc, t_OB.to (V := updV (vp_V fs) k v) ⟨_, e1, q2, q3, t_set q4 hap hk v⟩ (fun j _ => vp_updV_set hl v j)⟩ e2 e3
theorem vj_putF (hexec : p.tables.exec = Jvm.exec) (hb : c.code = cc) {own ref C : String} {T : u_T} {N ci index : Nat} {Ts : List Cond} (hts : ∀ w ∈ Ts, w.before args s = true) (hin : ∀ w ∈ u_ws C T N, w ∈ Ts) (ty0 : Nat → FieldType) (hty : ∀ k, k < N → parseFieldDescriptor (T k).2.2.1 = some (ty0 k)) (hnm : ∀ a, a < N → ∀ b, b < N → a ≠ b → (T a).2.1 ≠ (T b).2.1) (hown : s.vm.findClass own = some m.cls) (hK : va_K D cl tys s) {fs : List Value} (hP : va_at D cl (a, .inr (ci, fs)) H) (hc : cl[ci]? = some (C, T, N)) (k : Nat) (hk : k < N) (hlink : (Cond.fieldLink own index ref (T k).2.1 (T k).2.2.1).before args s = true) (hsame : ∀ x, s.fieldFound? (T k).1 (T k).2.1 (T k).2.2.1 = some x → s.fieldFound? ref (T k).2.1 (T k).2.2.1 = some x) (hfin : (T k).2.2.2 = true) (hin2 : meth.name = "<init>") (hdecl : (T k).1 = own) {ty : FieldType} {v : Value} (hd : parseFieldDescriptor (T k).2.2.1 = some ty) (hn : narrow ty v = v) (hfit : fits ty v = true) (hl : k < fs.length)
    (hdg : decode cc pc = .ok (.putfield index, 3)) (kk : ∀ (H1 : Heap) (j : Nat), va_at D cl (a, .inr (ci, fs.set k v)) H1 → H1.size = H.size → (∀ q, q ≠ a → H1[q]? = H[q]?) → W p l e R s m args below meth c H1 (locs ++ [⟨a, j⟩]) cells slots Q (F0 m (pc + 3) ls rest)) : W p l e R s m args below meth c H locs cells slots Q (F0 m pc ls (v :: .ref a :: rest)) := by
  have hap := va_apart (own := own) hts hin ty0 hty hnm hK hc
  obtain ⟨r, h1, cell, q1, q2, q3, q4⟩ := hP
  have hr : r = (C, T, N) := Option.some.inj (h1.symm.trans hc)
  subst hr
  obtain ⟨hS, hfc, kC, hkC, hkind⟩ := hK.1 ci _ hc
  obtain ⟨cf, kf, fi, f, hi, hsl⟩ := hS k hk
  have hlay := hts _ (hin _ (u_in_lay hk))
  unfold u_lay at hlay
  rw [if_pos hfin] at hlay
  have hst := (u_facts hfc hkC (u_lays hts hin hk) hi).1
  have hcf : m.cls = cf := by
    obtain ⟨_, _, c', _, _, _, -, -, hf', -, -, -, hown2, -⟩ := Cond.laysFinal_spec hlay
    have e1 : c' = cf := by have := hi.symm.trans hf'; simp at this; exact this.1.symm
    rw [hdecl] at hown2
    rw [← e1]; exact Option.some.inj (hown.symm.trans hown2)
  have h6 := u_fits hfc hkC hkind (Or.inr hlay) hi hd hn hfit
  refine W.putFinK hexec hb hown hlink (hsame _ hi) hst hcf hin2 (by rw [q2]; exact h6) q1 q3 (by rw [hsl]; exact k2_hasslot (q4 k hk)) rfl rfl hdg fun H' e1 e2 e3 => ?_
  rw [hsl] at e1 ⊢
  exact kk H' _ ⟨_, hc, t_OB.to (V := updV (vp_V fs) k v) ⟨_, e1, q2, q3, t_set q4 hap hk v⟩ (fun j _ => vp_updV_set hl v j)⟩ e2 e3
end VJ
section HEAP
variable {z : Bool} {l : Launch} {G : GT} {F : FX} {Y : YT} {Q : PQ} {QX : PX} {k n pc : Nat} {K Kt : KT}
/-- an int field -/
def I_gi (ci kf nf : Nat) (K : KT) : KT := fun L st M => match st with
  | .ref a :: r => KX a = (1, ci, nf) ∧ K L (.int (mI M a kf) :: r) M
  | _ => False
theorem fs_get {G : GT} {M : Mm} {c a nf kf : Nat} (h : kf < nf) : ((List.range nf).map (fun k => fv G M c a k))[kf]? = some (fv G M c a kf) := by
  rw [List.getElem?_map, List.getElem?_range h]; rfl
theorem r_gi {ci kf nf : Nat} {C : String} {T : u_T} {ty : Nat → FieldType} {ix : Nat} (hK : Le K (Wj true l G F Y Q QX k n (pc + 3))) (d : decode (yB Y) pc = .ok (.getfield ix, 3)) (hc : CLO ci nf C T ty) (hk : kf < nf) (hf : ft ci kf = 0) (hl : Cond.fieldLink (yN Y).cls ix (T kf).1 (T kf).2.1 (T kf).2.2.1 ∈ WS) : Le (I_gi ci kf nf K) (Wj true l G F Y Q QX k n pc) := by
  intro L st M h
  unfold I_gi at h
  split at h
  next a r =>
    intro C
    obtain ⟨p, e, s, m, args, below, meth, c⟩ := F
    intro H locs ls hR hB hz hlo hv
    obtain ⟨hx, h⟩ := h
    have hkx : (KX a).1 ≠ 0 := by rw [hx]; exact Nat.succ_ne_zero _
    have hP := rep_at hR (rep_lt hR hkx) hkx
    rw [cellE_1 hx] at hP
    refine va_get (D := gD G) (cl := vwCl) (Ts := WS) C.ex C.by C.ws hc.2.1 C.ow C.ka hP 0 rfl hc.1 kf hk (C.ws _ hl) (fun _ h9 => h9) (v := .int (mI M a kf)) ?_ d (hK _ _ _ h C H locs ls hR hB hz hlo hv)
    rw [fs_get hk]
    unfold fv
    rw [hf]
    rfl
  next => exact h.elim
/-- a long field -/
def I_gl (ci kf nf : Nat) (K : KT) : KT := fun L st M => match st with
  | .ref a :: r => KX a = (1, ci, nf) ∧ K L (.long (mL M a kf) :: r) M
  | _ => False
theorem r_gl {ci kf nf : Nat} {C : String} {T : u_T} {ty : Nat → FieldType} {ix : Nat} (hK : Le K (Wj true l G F Y Q QX k n (pc + 3))) (d : decode (yB Y) pc = .ok (.getfield ix, 3)) (hc : CLO ci nf C T ty) (hk : kf < nf) (hf : ft ci kf = 1) (hl : Cond.fieldLink (yN Y).cls ix (T kf).1 (T kf).2.1 (T kf).2.2.1 ∈ WS) : Le (I_gl ci kf nf K) (Wj true l G F Y Q QX k n pc) := by
  intro L st M h
  unfold I_gl at h
  split at h
  next a r =>
    intro C
    obtain ⟨p, e, s, m, args, below, meth, c⟩ := F
    intro H locs ls hR hB hz hlo hv
    obtain ⟨hx, h⟩ := h
    have hkx : (KX a).1 ≠ 0 := by rw [hx]; exact Nat.succ_ne_zero _
    have hP := rep_at hR (rep_lt hR hkx) hkx
    rw [cellE_1 hx] at hP
    refine va_get (D := gD G) (cl := vwCl) (Ts := WS) C.ex C.by C.ws hc.2.1 C.ow C.ka hP 0 rfl hc.1 kf hk (C.ws _ hl) (fun _ h9 => h9) (v := .long (mL M a kf)) ?_ d (hK _ _ _ h C H locs ls hR hB hz hlo hv)
    rw [fs_get hk]
    unfold fv
    rw [hf]
    rfl
  next => exact h.elim
/-- a reference field, which points where it is made to -/
def I_gp (ci nf off : Nat) (K : KT) : KT := fun L st M => match st with
  | .ref a :: r => KX a = (1, ci, nf) ∧ K L (.ref (a + off) :: r) M
  | _ => False
theorem r_gp {ci kf nf off : Nat} {C : String} {T : u_T} {ty : Nat → FieldType} {ix : Nat} (hK : Le K (Wj true l G F Y Q QX k n (pc + 3))) (d : decode (yB Y) pc = .ok (.getfield ix, 3)) (hc : CLO ci nf C T ty) (hk : kf < nf) (hf : ft ci kf = 2) (hl : Cond.fieldLink (yN Y).cls ix (T kf).1 (T kf).2.1 (T kf).2.2.1 ∈ WS) (hp : ∀ a, KX a = (1, ci, nf) → PV a kf = a + off + 1) : Le (I_gp ci nf off K) (Wj true l G F Y Q QX k n pc) := by
  intro L st M h
  unfold I_gp at h
  split at h
  next a r =>
    intro C
    obtain ⟨p, e, s, m, args, below, meth, c⟩ := F
    intro H locs ls hR hB hz hlo hv
    obtain ⟨hx, h⟩ := h
    have hkx : (KX a).1 ≠ 0 := by rw [hx]; exact Nat.succ_ne_zero _
    have hP := rep_at hR (rep_lt hR hkx) hkx
    rw [cellE_1 hx] at hP
    refine va_get (D := gD G) (cl := vwCl) (Ts := WS) C.ex C.by C.ws hc.2.1 C.ow C.ka hP 0 rfl hc.1 kf hk (C.ws _ hl) (fun _ h9 => h9) (v := .ref (rh G (a + off))) ?_ d (hK _ _ _ h C H locs ls hR hB hz hlo hv)
    rw [fs_get hk]
    unfold fv
    rw [hf, (hR.2.2.1 rfl).1 a kf (by rw [hp a hx]; omega), hp a hx]
    rfl
  next => exact h.elim
theorem fs_len {G : GT} {M : Mm} {c a nf : Nat} : ((List.range nf).map (fun k => fv G M c a k)).length = nf := by simp
theorem cellE_sI {G : GT} {M : Mm} {a kf c nf : Nat} {x : Int32} (hx : KX a = (1, c, nf)) (hf : ft c kf = 0) (hk : kf < nf) : cellE G (sI M a kf x) a = .inr (c, ((List.range nf).map (fun k => fv G M c a k)).set kf (.int x)) := by
  rw [cellE_1 hx]
  congr 2
  apply List.ext_getElem?
  intro j
  by_cases hj : j < nf
  · rw [fs_get hj]
    by_cases hjk : j = kf
    · subst hjk
      rw [List.getElem?_set_self (by rw [fs_len]; exact hj)]
      unfold fv
      rw [hf]
      show some (Value.int (u2 (mI M) a j x a j)) = _
      rw [u2_s]
    · rw [List.getElem?_set_ne (Ne.symm hjk), fs_get hj]
      unfold fv
      split
      · show some (Value.int (u2 (mI M) a kf x a j)) = _
        rw [u2_n (fun q => hjk q.2)]
      · rfl
      · rfl
  · rw [List.getElem?_eq_none (by rw [fs_len]; omega), List.getElem?_eq_none (by rw [List.length_set, fs_len]; omega)]
theorem cellE_sL {G : GT} {M : Mm} {a kf c nf : Nat} {x : Int64} (hx : KX a = (1, c, nf)) (hf : ft c kf = 1) (hk : kf < nf) : cellE G (sL M a kf x) a = .inr (c, ((List.range nf).map (fun k => fv G M c a k)).set kf (.long x)) := by
  rw [cellE_1 hx]
  congr 2
  apply List.ext_getElem?
  intro j
  by_cases hj : j < nf
  · rw [fs_get hj]
    by_cases hjk : j = kf
    · subst hjk
      rw [List.getElem?_set_self (by rw [fs_len]; exact hj)]
      unfold fv
      rw [hf]
      show some (Value.long (u2 (mL M) a j x a j)) = _
      rw [u2_s]
    · rw [List.getElem?_set_ne (Ne.symm hjk), fs_get hj]
      unfold fv
      split
      · rfl
      · show some (Value.long (u2 (mL M) a kf x a j)) = _
        rw [u2_n (fun q => hjk q.2)]
      · rfl
  · rw [List.getElem?_eq_none (by rw [fs_len]; omega), List.getElem?_eq_none (by rw [List.length_set, fs_len]; omega)]
theorem cellE_sIn {G : GT} {M : Mm} {a j : Nat} {x : Int32} (b : Nat) (h : b ≠ a) : cellE G (sI M a j x) b = cellE G M b := cellE_congr (u2_row h) rfl rfl
theorem cellE_sLn {G : GT} {M : Mm} {a j : Nat} {x : Int64} (b : Nat) (h : b ≠ a) : cellE G (sL M a j x) b = cellE G M b := cellE_congr rfl (u2_row h) rfl
theorem cellE_sPn {G : GT} {M : Mm} {a j x : Nat} (b : Nat) (h : b ≠ a) : cellE G (sP M a j x) b = cellE G M b := cellE_congr rfl rfl (u2_row h)
def I_pi (ci kf nf : Nat) (K : KT) : KT := fun L st M => match st with
  | .int x :: .ref a :: r => KX a = (1, ci, nf) ∧ K L r (sI M a kf x)
  | _ => False
theorem r_pi {ci kf nf : Nat} {C : String} {T : u_T} {ty : Nat → FieldType} {ix : Nat} (hK : Le K (Wj true l G F Y Q QX k n (pc + 3))) (d : decode (yB Y) pc = .ok (.putfield ix, 3)) (hc : CLO ci nf C T ty) (hk : kf < nf) (hf : ft ci kf = 0) (hl : Cond.fieldLink (yN Y).cls ix (T kf).1 (T kf).2.1 (T kf).2.2.1 ∈ WS) (hfin : (T kf).2.2.2 = false) (hd : parseFieldDescriptor (T kf).2.2.1 = some .int) : Le (I_pi ci kf nf K) (Wj true l G F Y Q QX k n pc) := by
  intro L st M h
  unfold I_pi at h
  split at h
  next x a r =>
    intro C
    obtain ⟨p, e, s, m, args, below, meth, c⟩ := F
    intro H locs ls hR hB hz hlo hv
    obtain ⟨hx, h⟩ := h
    have hkx : (KX a).1 ≠ 0 := by rw [hx]; exact Nat.succ_ne_zero _
    have hP := rep_at hR (rep_lt hR hkx) hkx 0 _ rfl
    rw [cellE_1 hx] at hP
    refine vj_put (Ts := WS) C.ex C.by C.ws hc.2.1 ty hc.2.2.1 hc.2.2.2 C.ow C.ka hP hc.1 kf hk (C.ws _ hl) (fun _ h9 => h9) hfin hd rfl rfl (by rw [fs_len]; exact hk) d (fun H1 j h1 h2 h3 => hK _ _ _ h C H1 _ ls (rep_put hR hkx (by rw [cellE_sI hx hf hk]; exact h1) h2 h3 rfl cellE_sIn (fun _ q => q)) (frame_put hkx h3 hB) (by rw [h2]; exact hz) (locs_put hkx hlo) hv)
  next => exact h.elim
def I_pl (ci kf nf : Nat) (K : KT) : KT := fun L st M => match st with
  | .long x :: .ref a :: r => KX a = (1, ci, nf) ∧ K L r (sL M a kf x)
  | _ => False
theorem r_pl {ci kf nf : Nat} {C : String} {T : u_T} {ty : Nat → FieldType} {ix : Nat} (hK : Le K (Wj true l G F Y Q QX k n (pc + 3))) (d : decode (yB Y) pc = .ok (.putfield ix, 3)) (hc : CLO ci nf C T ty) (hk : kf < nf) (hf : ft ci kf = 1) (hl : Cond.fieldLink (yN Y).cls ix (T kf).1 (T kf).2.1 (T kf).2.2.1 ∈ WS) (hfin : (T kf).2.2.2 = false) (hd : parseFieldDescriptor (T kf).2.2.1 = some .long) : Le (I_pl ci kf nf K) (Wj true l G F Y Q QX k n pc) := by
  intro L st M h
  unfold I_pl at h
  split at h
  next x a r =>
    intro C
    obtain ⟨p, e, s, m, args, below, meth, c⟩ := F
    intro H locs ls hR hB hz hlo hv
    obtain ⟨hx, h⟩ := h
    have hkx : (KX a).1 ≠ 0 := by rw [hx]; exact Nat.succ_ne_zero _
    have hP := rep_at hR (rep_lt hR hkx) hkx 0 _ rfl
    rw [cellE_1 hx] at hP
    refine vj_put (Ts := WS) C.ex C.by C.ws hc.2.1 ty hc.2.2.1 hc.2.2.2 C.ow C.ka hP hc.1 kf hk (C.ws _ hl) (fun _ h9 => h9) hfin hd rfl rfl (by rw [fs_len]; exact hk) d (fun H1 j h1 h2 h3 => hK _ _ _ h C H1 _ ls (rep_put hR hkx (by rw [cellE_sL hx hf hk]; exact h1) h2 h3 rfl cellE_sLn (fun _ q => q)) (frame_put hkx h3 hB) (by rw [h2]; exact hz) (locs_put hkx hlo) hv)
  next => exact h.elim
/-! arrays -/
def I_ial (K : KT) : KT := fun L st M => match st with
  | .int i :: .ref a :: r => (KX a).1 = 2 ∧ vp_in i (KX a).2.2 ∧ K L (.int (mI M a i.toNatClampNeg) :: r) M
  | _ => False
theorem r_ial (hK : Le K (Wj true l G F Y Q QX k n (pc + 1))) (d : decode (yB Y) pc = .ok (.iaload, 1)) : Le (I_ial K) (Wj true l G F Y Q QX k n pc) := by
  intro L st M h
  unfold I_ial at h
  split at h
  next i a r =>
    intro C
    obtain ⟨p, e, s, m, args, below, meth, c⟩ := F
    intro H locs ls hR hB hz hlo hv
    obtain ⟨hx, hi, h⟩ := h
    have hkx : (KX a).1 ≠ 0 := by rw [hx]; exact Nat.succ_ne_zero _
    have hP := rep_at hR (rep_lt hR hkx) hkx
    rw [cellE_2 (c := (KX a).2.1) (n := (KX a).2.2) (by rw [← hx])] at hP
    exact va_iald (D := gD G) (cl := vwCl) C.ex C.by C.ka hP 0 0 rfl rfl hi d (hK _ _ _ h C H locs ls hR hB hz hlo hv)
  next => exact h.elim
def I_lal (K : KT) : KT := fun L st M => match st with
  | .int i :: .ref a :: r => (KX a).1 = 3 ∧ vp_in i (KX a).2.2 ∧ K L (.long (mL M a i.toNatClampNeg) :: r) M
  | _ => False
theorem r_lal (hK : Le K (Wj true l G F Y Q QX k n (pc + 1))) (d : decode (yB Y) pc = .ok (.laload, 1)) : Le (I_lal K) (Wj true l G F Y Q QX k n pc) := by
  intro L st M h
  unfold I_lal at h
  split at h
  next i a r =>
    intro C
    obtain ⟨p, e, s, m, args, below, meth, c⟩ := F
    intro H locs ls hR hB hz hlo hv
    obtain ⟨hx, hi, h⟩ := h
    have hkx : (KX a).1 ≠ 0 := by rw [hx]; exact Nat.succ_ne_zero _
    have hP := rep_at hR (rep_lt hR hkx) hkx
    rw [cellE_3 (c := (KX a).2.1) (n := (KX a).2.2) (by rw [← hx])] at hP
    exact va_lald (D := gD G) (cl := vwCl) C.ex C.by C.ka hP 0 1 rfl rfl hi d (hK _ _ _ h C H locs ls hR hB hz hlo hv)
  next => exact h.elim
def I_ias (K : KT) : KT := fun L st M => match st with
  | .int x :: .int i :: .ref a :: r => (KX a).1 = 2 ∧ vp_in i (KX a).2.2 ∧ K L r (sI M a i.toNatClampNeg x)
  | _ => False
theorem r_ias (hK : Le K (Wj true l G F Y Q QX k n (pc + 1))) (d : decode (yB Y) pc = .ok (.iastore, 1)) : Le (I_ias K) (Wj true l G F Y Q QX k n pc) := by
  intro L st M h
  unfold I_ias at h
  split at h
  next x i a r =>
    intro C
    obtain ⟨p, e, s, m, args, below, meth, c⟩ := F
    intro H locs ls hR hB hz hlo hv
    obtain ⟨hx, hi, h⟩ := h
    have hkx : (KX a).1 ≠ 0 := by rw [hx]; exact Nat.succ_ne_zero _
    have hP := rep_at hR (rep_lt hR hkx) hkx 0 _ rfl
    have hx2 : KX a = (2, (KX a).2.1, (KX a).2.2) := by rw [← hx]
    rw [cellE_2 hx2] at hP
    refine W.iast C.ex C.by hP ((C.ka.2 0 _ rfl).1 _ (fun j => .int (mI M a j))) (fun q => by cases q) (by show ¬ (i < 0 ∨ (arrV _ _ _).slots.size ≤ _); rw [arrV_size]; exact hi) rfl rfl d fun H1 e1 z1 o1 => ?_
    refine hK _ _ _ h C H1 _ ls (rep_put hR hkx ?_ z1 o1 rfl cellE_sIn (fun _ q => q)) (frame_put hkx o1 hB) (by rw [z1]; exact hz) (locs_put hkx hlo) hv
    rw [cellE_2 hx2]
    show H1[rh G a]? = some (vp_cell _ _)
    rw [e1]
    rw [vp_cell_i, vp_cell_i, arrV_store]
    congr 2
    funext q
    show updV _ _ _ q = Value.int (u2 (mI M) a i.toNatClampNeg x a q)
    rw [u2_self]
    by_cases hq : q = i.toNatClampNeg
    · simp [updV, hq]
    · simp [updV, hq]
  next => exact h.elim
def I_las (K : KT) : KT := fun L st M => match st with
  | .long x :: .int i :: .ref a :: r => (KX a).1 = 3 ∧ vp_in i (KX a).2.2 ∧ K L r (sL M a i.toNatClampNeg x)
  | _ => False
theorem r_las (hK : Le K (Wj true l G F Y Q QX k n (pc + 1))) (d : decode (yB Y) pc = .ok (.lastore, 1)) : Le (I_las K) (Wj true l G F Y Q QX k n pc) := by
  intro L st M h
  unfold I_las at h
  split at h
  next x i a r =>
    intro C
    obtain ⟨p, e, s, m, args, below, meth, c⟩ := F
    intro H locs ls hR hB hz hlo hv
    obtain ⟨hx, hi, h⟩ := h
    have hkx : (KX a).1 ≠ 0 := by rw [hx]; exact Nat.succ_ne_zero _
    have hP := rep_at hR (rep_lt hR hkx) hkx 0 _ rfl
    have hx2 : KX a = (3, (KX a).2.1, (KX a).2.2) := by rw [← hx]
    rw [cellE_3 hx2] at hP
    refine W.last C.ex C.by hP ((C.ka.2 1 _ rfl).1 _ (fun j => .long (mL M a j))) (fun q => by cases q) (by show ¬ (i < 0 ∨ (arrV _ _ _).slots.size ≤ _); rw [arrV_size]; exact hi) rfl rfl d fun H1 e1 z1 o1 => ?_
    refine hK _ _ _ h C H1 _ ls (rep_put hR hkx ?_ z1 o1 rfl cellE_sLn (fun _ q => q)) (frame_put hkx o1 hB) (by rw [z1]; exact hz) (locs_put hkx hlo) hv
    rw [cellE_3 hx2]
    show H1[rh G a]? = some (vp_cell _ _)
    rw [e1]
    rw [vp_cell_l, vp_cell_l, arrV_store]
    congr 2
    funext q
    show updV _ _ _ q = Value.long (u2 (mL M) a i.toNatClampNeg x a q)
    rw [u2_self]
    by_cases hq : q = i.toNatClampNeg
    · simp [updV, hq]
    · simp [updV, hq]
  next => exact h.elim
/-- a row of references, which point where they are made to -/
def I_aal (c off w : Nat) (K : KT) : KT := fun L st M => match st with
  | .int i :: .ref a :: r => (KX a).1 = 4 ∧ (KX a).2.1 = c ∧ vp_in i (KX a).2.2 ∧ K L (.ref (a + off + w * i.toNatClampNeg) :: r) M
  | _ => False
theorem r_aal {c off w : Nat} {ty : FieldType} (hK : Le K (Wj true l G F Y Q QX k n (pc + 1))) (d : decode (yB Y) pc = .ok (.aaload, 1)) (hty : (tysG G)[c]? = some (gA G c, ty)) (hr : ty.isReference = true) (hp : ∀ a j m, KX a = (4, c, m) → j < m → PV a j = a + off + w * j + 1) : Le (I_aal c off w K) (Wj true l G F Y Q QX k n pc) := by
  intro L st M h
  unfold I_aal at h
  split at h
  next i a r =>
    intro C
    obtain ⟨p, e, s, m, args, below, meth, cd⟩ := F
    intro H locs ls hR hB hz hlo hv
    obtain ⟨hx, hc, hi, h⟩ := h
    have hkx : (KX a).1 ≠ 0 := by rw [hx]; exact Nat.succ_ne_zero _
    have hP := rep_at hR (rep_lt hR hkx) hkx 0 _ rfl
    have hx2 : KX a = (4, c, (KX a).2.2) := by rw [← hx, ← hc]
    rw [cellE_4 hx2] at hP
    have hlt : i.toNatClampNeg < (KX a).2.2 := Nat.not_le.mp fun q => hi (Or.inr q)
    refine W.aald (v := .ref (rh G (a + off + w * i.toNatClampNeg))) (ty := ty) C.ex C.by hP ((C.ka.2 c _ hty).1 _ (fun j => va_rf (pq G (mP M a j)))) hr (fun q => by cases q) (by show ¬ (i < 0 ∨ (arrV _ _ _).slots.size ≤ _); rw [arrV_size]; exact hi) ?_ rfl rfl d (hK _ _ _ h C H locs ls hR hB hz hlo hv)
    show (arrV _ _ _).slots[_]? = _
    rw [arrV_read _ _ hlt]
    show some (va_rf (pq G (mP M a i.toNatClampNeg))) = _
    rw [(hR.2.2.1 rfl).1 a _ (by rw [hp a _ _ hx2 hlt]; omega), hp a _ _ hx2 hlt]
    rfl
  next => exact h.elim
/-- the length of a row -/
def I_len (K : KT) : KT := fun L st M => match st with
  | .ref a :: r => (2 ≤ (KX a).1 ∧ (KX a).1 ≤ 3) ∧ K L (.int (Int32.ofNat (KX a).2.2) :: r) M
  | _ => False
theorem r_len (hK : Le K (Wj true l G F Y Q QX k n (pc + 1))) (d : decode (yB Y) pc = .ok (.arraylength, 1)) : Le (I_len K) (Wj true l G F Y Q QX k n pc) := by
  intro L st M h
  unfold I_len at h
  split at h
  next a r =>
    intro C
    obtain ⟨p, e, s, m, args, below, meth, c⟩ := F
    intro H locs ls hR hB hz hlo hv
    obtain ⟨⟨hx1, hx3⟩, h⟩ := h
    have hkx : (KX a).1 ≠ 0 := by omega
    have hP := rep_at hR (rep_lt hR hkx) hkx
    rcases (show (KX a).1 = 2 ∨ (KX a).1 = 3 by omega) with hx | hx
    · rw [cellE_2 (c := (KX a).2.1) (n := (KX a).2.2) (by rw [← hx])] at hP
      exact va_alen (D := gD G) (cl := vwCl) C.ex C.by C.ka hP 0 0 rfl rfl rfl d (hK _ _ _ h C H locs ls hR hB hz hlo hv)
    · rw [cellE_3 (c := (KX a).2.1) (n := (KX a).2.2) (by rw [← hx])] at hP
      exact va_alen (D := gD G) (cl := vwCl) C.ex C.by C.ka hP 0 1 rfl rfl rfl d (hK _ _ _ h C H locs ls hR hB hz hlo hv)
  next => exact h.elim
/-! ends -/
def I_ir (Q : PQ) : KT := fun _ st M => match st with
  | [.int x] => Q (some (.int x)) M
  | _ => False
theorem qr_of {M : Mm} {r : Option Value} {p e s m args below meth c} {H : Heap} (_ : CX l G (p, e, s, m, args, below, meth, c) Y) (h : Q r M) (hR : RepH z G M H) (hB : ∀ q, q < gB G → H[q]? = s.heap[q]?) (hz : s.heap.size ≤ H.size) (t : State) (ht : t.heap = H) : Qr z G Q args s (.returned (r.map (tv G))) t :=
  ⟨r, M, h, rfl, by rw [ht]; exact hR, by rw [ht]; exact hB, by rw [ht]; exact hz⟩
theorem r_ir (d : decode (yB Y) pc = .ok (.ireturn, 1)) (hr : yR Y = some .int) (hk : k ≤ yC Y) (hn : n ≤ yS Y) : Le (I_ir Q) (Wj z l G F Y Q QX k n pc) := by
  intro L st M h
  unfold I_ir at h
  split at h
  next x =>
    intro C
    obtain ⟨p, e, s, m, args, below, meth, c⟩ := F
    intro H locs ls hR hB hz hlo hv
    exact W.widen hk hn (vx_ret (W.iret C.ex C.by (C.rt.trans hr) (fun t ht _ => qr_of C h hR hB hz t ht) hlo d C.lk))
  next => exact h.elim
def I_zr (Q : PQ) : KT := fun _ st M => match st with
  | [.int x] => (x = 0 ∨ x = 1) ∧ Q (some (.int x)) M
  | _ => False
theorem r_zr (d : decode (yB Y) pc = .ok (.ireturn, 1)) (hr : yR Y = some .boolean) (hk : k ≤ yC Y) (hn : n ≤ yS Y) : Le (I_zr Q) (Wj z l G F Y Q QX k n pc) := by
  intro L st M h
  unfold I_zr at h
  split at h
  next x =>
    intro C
    obtain ⟨p, e, s, m, args, below, meth, c⟩ := F
    intro H locs ls hR hB hz hlo hv
    exact W.widen hk hn (vx_ret (W.zret C.ex C.by (C.rt.trans hr) (by rcases h.1 with h | h <;> (subst h; rfl)) (fun t ht _ => qr_of C h.2 hR hB hz t ht) hlo d C.lk))
  next => exact h.elim
def I_lr (Q : PQ) : KT := fun _ st M => match st with
  | [.long x] => Q (some (.long x)) M
  | _ => False
theorem r_lr (d : decode (yB Y) pc = .ok (.lreturn, 1)) (hr : yR Y = some .long) (hk : k ≤ yC Y) (hn : n ≤ yS Y) : Le (I_lr Q) (Wj z l G F Y Q QX k n pc) := by
  intro L st M h
  unfold I_lr at h
  split at h
  next x =>
    intro C
    obtain ⟨p, e, s, m, args, below, meth, c⟩ := F
    intro H locs ls hR hB hz hlo hv
    exact W.widen hk hn (vx_ret (W.lret C.ex C.by (C.rt.trans hr) (fun t ht _ => qr_of C h hR hB hz t ht) hlo d C.lk))
  next => exact h.elim
def I_vr (Q : PQ) : KT := fun _ st M => match st with
  | [] => Q none M
  | _ => False
theorem r_vr (d : decode (yB Y) pc = .ok (.return_, 1)) (hr : yR Y = none) (hk : k ≤ yC Y) (hn : n ≤ yS Y) : Le (I_vr Q) (Wj z l G F Y Q QX k n pc) := by
  intro L st M h
  unfold I_vr at h
  split at h
  next =>
    intro C
    obtain ⟨p, e, s, m, args, below, meth, c⟩ := F
    intro H locs ls hR hB hz hlo hv
    exact W.widen hk hn (vx_ret (W.vret C.ex C.by (C.rt.trans hr) (fun t ht _ => qr_of C h hR hB hz t ht) hlo d C.lk))
  next => exact h.elim
def I_ar (Q : PQ) : KT := fun _ st M => match st with
  | [.ref x] => Q (some (.ref x)) M
  | [.null] => Q (some .null) M
  | _ => False
theorem r_ar {nm : String} (d : decode (yB Y) pc = .ok (.areturn, 1)) (hr : yR Y = some (.object nm)) (hk : k ≤ yC Y) (hn : n ≤ yS Y) : Le (I_ar Q) (Wj z l G F Y Q QX k n pc) := by
  intro L st M h
  unfold I_ar at h
  split at h
  next x =>
    intro C
    obtain ⟨p, e, s, m, args, below, meth, c⟩ := F
    intro H locs ls hR hB hz hlo hv
    exact W.widen hk hn (vx_ret (W.aret C.ex C.by (C.rt.trans hr) (Or.inl ⟨_, rfl⟩) (Or.inr ⟨_, rfl⟩) (fun t ht _ => qr_of C h hR hB hz t ht) hlo d C.lk))
  next =>
    intro C
    obtain ⟨p, e, s, m, args, below, meth, c⟩ := F
    intro H locs ls hR hB hz hlo hv
    exact W.widen hk hn (vx_ret (W.aret C.ex C.by (C.rt.trans hr) (Or.inl ⟨_, rfl⟩) (Or.inl rfl) (fun t ht _ => qr_of C h hR hB hz t ht) hlo d C.lk))
  next => exact h.elim
end HEAP
