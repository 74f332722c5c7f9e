/-! ===== what the library does: Math.max, Math.min, System.arraycopy; locals that are no longer read ===== -/
section BUILTIN
variable {p : Program} {l : Launch} {e : Env} {R : Room} {s : State} {m : MethodId} {args : Array Value} {below : List Frame} {meth : Method} {c : Code} {H : Heap} {locs : List Loc} {cells slots : Nat} {Q : State → Prop}
variable {cc : ByteArray} {pc : Nat} {ls : Array Slot} {rest : List Value} {D : va_G} {cl : List vw_C} {A : Nat → Prop} {a : Nat} {tys : List (ClassId × FieldType)} {ws : va_W} {H0 : Heap}
theorem vj_copyi (hexec : p.tables.exec = Jvm.exec) (hb : c.code = cc) (hml : c.maxLocals = ls.size) {own : String} {index : Nat} (hown : s.vm.findClass own = some m.cls) (hlink : (Cond.methodLink own index arraycopyName).before args s = true) (hnat : (Cond.native arraycopyName).before args s = true) (hstat : (Cond.static arraycopyName).before args s = true) (hini : (Cond.initialized "java/lang/System").before args s = true)
    (hK : va_K D cl tys s) (t0 : Nat) {a0 : Nat} {c0 : ClassId} {n0 n1 : Nat} {f g : Nat → Int32} {ty : FieldType} (hc0 : H[a0]? = some (vp_cell c0 (n0, .inl f))) (hc1 : H[a]? = some (vp_cell c0 (n1, .inl g))) (ht0 : tys[t0]? = some (c0, ty)) (hprim : refKind ty = false)
    {sp dp n : Int32} (h1 : ¬ sp < 0) (h2 : ¬ dp < 0) (h3 : ¬ n < 0) (h4 : sp.toNatClampNeg + n.toNatClampNeg ≤ n0) (h5 : dp.toNatClampNeg + n.toNatClampNeg ≤ n1) (hfit : ∀ i, i < n.toNatClampNeg → fits ty (.int (f (sp.toNatClampNeg + i))) = true)
    (hframes : 1 ≤ R.frames) (hlocals : (rest.map fun v => v.category).sum + (nativeFrameWords "java/lang/System" "arraycopy" 5 + 11) ≤ R.locals) (hdg : decode cc pc = .ok (.invokestatic index, 3))
    (kk : ∀ (H1 : Heap) (L1 : List Loc), H1[a]? = some (vp_cell c0 (n1, .inl (va_cpy f g sp.toNatClampNeg dp.toNatClampNeg n.toNatClampNeg))) → H1.size = H.size → (∀ q, q ≠ a → H1[q]? = H[q]?) → (∀ x ∈ L1, x.base = a) → W p l e R s m args below meth c H1 (locs ++ L1) cells slots Q (F0 m (pc + 3) ls rest)) : W p l e R s m args below meth c H locs cells slots Q (F0 m pc ls (.int n :: .int dp :: .ref a :: .int sp :: .ref a0 :: rest)) := by
  have nn : ∀ z : Int32, ¬ z < 0 → z.toInt = (z.toNatClampNeg : Int) := by
    intro z hz
    have hz0 : (0 : Int) ≤ z.toInt := by
      have := Int32.not_lt.mp hz
      simpa using Int32.le_iff_toInt_le.mp this
    show z.toInt = ((z.toInt.toNat : Nat) : Int)
    omega
  intro T hT X
  obtain ⟨-, k0, hk0, cm0, hkk0⟩ := (hK.2 t0 _ ht0).1 n0 (fun j => .int (f j))
  obtain ⟨-, k1, hk1, cm1, hkk1⟩ := (hK.2 t0 _ ht0).1 n1 (fun j => .int (g j))
  obtain ⟨vm', X', step⟩ := X.arraycopy hexec hown hlink hnat hstat hini (src := a0) (dst := a) (cs := vp_cell c0 (n0, .inl f)) (cd := vp_cell c0 (n1, .inl g)) (srcPos := sp) (destPos := dp) (n := n) (by rw [hT]; exact hc0) (by rw [hT]; exact hc1)
    (fun _ h => by cases h) (fun _ h => by cases h) (fun h => by cases h) (fun h => by cases h) hk0 hk1 hkk0 hkk1 (by simp [hprim]) h1 h2 h3
    (by rw [nn sp h1, nn n h3]; show ¬ _ > ((arrV c0 n0 (fun j => .int (f j))).slots.size : Int); rw [arrV_size]; omega)
    (by rw [nn dp h2, nn n h3]; show ¬ _ > ((arrV c0 n1 (fun j => .int (g j))).slots.size : Int); rw [arrV_size]; omega)
    (fun vm₁ _ i hi => by
      have e : (vp_cell c0 (n0, .inl f)).slots.getD (sp.toNatClampNeg + i) .null = .int (f (sp.toNatClampNeg + i)) := by
        show (arrV c0 n0 (fun j => .int (f j))).slots.getD _ _ = _
        rw [Array.getD_eq_getD_getElem?, arrV_read _ _ (by omega)]
        rfl
      refine ⟨?_, ?_⟩
      · rw [e]
        exact hfit i hi
      · rw [e]
        exact trivial)
    (g := F0 m pc ls (.int n :: .int dp :: .ref a :: .int sp :: .ref a0 :: rest)) rfl (by rw [hml]) (rest := rest) rfl (by rw [hb]; exact hdg) hframes (by show 2 * 0 + _ + _ ≤ _; omega)
  have e1 : copied (vp_cell c0 (n0, .inl f)) (vp_cell c0 (n1, .inl g)) sp dp n = vp_cell c0 (n1, .inl (va_cpy f g sp.toNatClampNeg dp.toNatClampNeg n.toNatClampNeg)) := va_copied (fun z => .int z) c0 c0 f g h4
  rw [e1] at X' step
  have hl : a < H.size := (Array.getElem?_eq_some_iff.mp hc1).1
  have hheap : ((T.setVm vm').setCell a (vp_cell c0 (n1, .inl (va_cpy f g sp.toNatClampNeg dp.toNatClampNeg n.toNatClampNeg)))).heap = H.setIfInBounds a (vp_cell c0 (n1, .inl (va_cpy f g sp.toNatClampNeg dp.toNatClampNeg n.toNatClampNeg))) := by rw [← hT]; rfl
  obtain ⟨t, a1, b1⟩ := kk _ _ (show (H.setIfInBounds a _)[a]? = some _ by simp [Array.getElem?_setIfInBounds, hl]) (by simp) (fun q hq => by simp [Array.getElem?_setIfInBounds, Ne.symm hq]) (fun q hq => by
      obtain ⟨z, -, hz⟩ := List.mem_map.mp hq
      rw [← hz]) _ hheap X'
  exact ⟨t, step t a1, b1⟩
theorem vj_copyl (hexec : p.tables.exec = Jvm.exec) (hb : c.code = cc) (hml : c.maxLocals = ls.size) {own : String} {index : Nat} (hown : s.vm.findClass own = some m.cls) (hlink : (Cond.methodLink own index arraycopyName).before args s = true) (hnat : (Cond.native arraycopyName).before args s = true) (hstat : (Cond.static arraycopyName).before args s = true) (hini : (Cond.initialized "java/lang/System").before args s = true)
    (hK : va_K D cl tys s) (t0 : Nat) {a0 : Nat} {c0 : ClassId} {n0 n1 : Nat} {f g : Nat → Int64} {ty : FieldType} (hc0 : H[a0]? = some (vp_cell c0 (n0, .inr (.inl f)))) (hc1 : H[a]? = some (vp_cell c0 (n1, .inr (.inl g)))) (ht0 : tys[t0]? = some (c0, ty)) (hprim : refKind ty = false)
    {sp dp n : Int32} (h1 : ¬ sp < 0) (h2 : ¬ dp < 0) (h3 : ¬ n < 0) (h4 : sp.toNatClampNeg + n.toNatClampNeg ≤ n0) (h5 : dp.toNatClampNeg + n.toNatClampNeg ≤ n1) (hfit : ∀ i, i < n.toNatClampNeg → fits ty (.long (f (sp.toNatClampNeg + i))) = true)
    (hframes : 1 ≤ R.frames) (hlocals : (rest.map fun v => v.category).sum + (nativeFrameWords "java/lang/System" "arraycopy" 5 + 11) ≤ R.locals) (hdg : decode cc pc = .ok (.invokestatic index, 3))
    (kk : ∀ (H1 : Heap) (L1 : List Loc), H1[a]? = some (vp_cell c0 (n1, .inr (.inl (va_cpy f g sp.toNatClampNeg dp.toNatClampNeg n.toNatClampNeg)))) → H1.size = H.size → (∀ q, q ≠ a → H1[q]? = H[q]?) → (∀ x ∈ L1, x.base = a) → W p l e R s m args below meth c H1 (locs ++ L1) cells slots Q (F0 m (pc + 3) ls rest)) : W p l e R s m args below meth c H locs cells slots Q (F0 m pc ls (.int n :: .int dp :: .ref a :: .int sp :: .ref a0 :: rest)) := by
  have nn : ∀ z : Int32, ¬ z < 0 → z.toInt = (z.toNatClampNeg : Int) := by
    intro z hz
    have hz0 : (0 : Int) ≤ z.toInt := by
      have := Int32.not_lt.mp hz
      simpa using Int32.le_iff_toInt_le.mp this
    show z.toInt = ((z.toInt.toNat : Nat) : Int)
    omega
  intro T hT X
  obtain ⟨-, k0, hk0, cm0, hkk0⟩ := (hK.2 t0 _ ht0).1 n0 (fun j => .long (f j))
  obtain ⟨-, k1, hk1, cm1, hkk1⟩ := (hK.2 t0 _ ht0).1 n1 (fun j => .long (g j))
  obtain ⟨vm', X', step⟩ := X.arraycopy hexec hown hlink hnat hstat hini (src := a0) (dst := a) (cs := vp_cell c0 (n0, .inr (.inl f))) (cd := vp_cell c0 (n1, .inr (.inl g))) (srcPos := sp) (destPos := dp) (n := n) (by rw [hT]; exact hc0) (by rw [hT]; exact hc1)
    (fun _ h => by cases h) (fun _ h => by cases h) (fun h => by cases h) (fun h => by cases h) hk0 hk1 hkk0 hkk1 (by simp [hprim]) h1 h2 h3
    (by rw [nn sp h1, nn n h3]; show ¬ _ > ((arrV c0 n0 (fun j => .long (f j))).slots.size : Int); rw [arrV_size]; omega)
    (by rw [nn dp h2, nn n h3]; show ¬ _ > ((arrV c0 n1 (fun j => .long (g j))).slots.size : Int); rw [arrV_size]; omega)
    (fun vm₁ _ i hi => by
      have e : (vp_cell c0 (n0, .inr (.inl f))).slots.getD (sp.toNatClampNeg + i) .null = .long (f (sp.toNatClampNeg + i)) := by
        show (arrV c0 n0 (fun j => .long (f j))).slots.getD _ _ = _
        rw [Array.getD_eq_getD_getElem?, arrV_read _ _ (by omega)]
        rfl
      refine ⟨?_, ?_⟩
      · rw [e]
        exact hfit i hi
      · rw [e]
        exact trivial)
    (g := F0 m pc ls (.int n :: .int dp :: .ref a :: .int sp :: .ref a0 :: rest)) rfl (by rw [hml]) (rest := rest) rfl (by rw [hb]; exact hdg) hframes (by show 2 * 0 + _ + _ ≤ _; omega)
  have e1 : copied (vp_cell c0 (n0, .inr (.inl f))) (vp_cell c0 (n1, .inr (.inl g))) sp dp n = vp_cell c0 (n1, .inr (.inl (va_cpy f g sp.toNatClampNeg dp.toNatClampNeg n.toNatClampNeg))) := va_copied (fun z => .long z) c0 c0 f g h4
  rw [e1] at X' step
  have hl : a < H.size := (Array.getElem?_eq_some_iff.mp hc1).1
  have hheap : ((T.setVm vm').setCell a (vp_cell c0 (n1, .inr (.inl (va_cpy f g sp.toNatClampNeg dp.toNatClampNeg n.toNatClampNeg))))).heap = H.setIfInBounds a (vp_cell c0 (n1, .inr (.inl (va_cpy f g sp.toNatClampNeg dp.toNatClampNeg n.toNatClampNeg)))) := by rw [← hT]; rfl
  obtain ⟨t, a1, b1⟩ := kk _ _ (show (H.setIfInBounds a _)[a]? = some _ by simp [Array.getElem?_setIfInBounds, hl]) (by simp) (fun q hq => by simp [Array.getElem?_setIfInBounds, Ne.symm hq]) (fun q hq => by
      obtain ⟨z, -, hz⟩ := List.mem_map.mp hq
      rw [← hz]) _ hheap X'
  exact ⟨t, step t a1, b1⟩
end BUILTIN
def cI (M : Mm) (a sp b dp n : Nat) : Mm := (mN M, (fun q j => if q = b then va_cpy (mI M a) (mI M b) sp dp n j else mI M q j), mL M, mP M)
def cL (M : Mm) (a sp b dp n : Nat) : Mm := (mN M, mI M, (fun q j => if q = b then va_cpy (mL M a) (mL M b) sp dp n j else mL M q j), mP M)
section BUILTIN2
variable {z : Bool} {l : Launch} {G : GT} {F : FX} {Y : YT} {Q : PQ} {QX : PX} {k n pc : Nat} {K Kt : KT}
/-- frames and words for a native, for Math -/
def fitN (Y : YT) : Prop := 1 ≤ yF Y ∧ 8 + (nativeFrameWords "java/lang/System" "arraycopy" 5 + 11) ≤ yW Y
def fitM (Y : YT) : Prop := 1 ≤ yF Y ∧ 21 ≤ yW Y
def I_max (K : KT) : KT := fun L st M => match st with
  | .int y :: .int x :: r => (r.map Value.category).sum ≤ 8 ∧ K L (.int (if x < y then y else x) :: r) M
  | _ => False
theorem r_max {ix : Nat} (hK : Le K (Wj z l G F Y Q QX k n (pc + 3))) (d : decode (yB Y) pc = .ok (.invokestatic ix, 3)) (hl : Cond.methodLink (yN Y).cls ix Lib.Math.max.name ∈ WS) (hs : Cond.static Lib.Math.max.name ∈ WS) (hi : Cond.initialized "java/lang/Math" ∈ WS) (hc : Cond.code Lib.Math.max.name Lib.Math.max.code 2 (some .int) ∈ WS) (hf : fitM Y) (hk : k ≤ yC Y ∧ n ≤ yS Y) : Le (I_max K) (Wj z l G F Y Q QX k n pc) := by
  intro L st M h
  unfold I_max at h
  split at h
  next y x r =>
    intro C
    obtain ⟨p, e, s, m, args, below, meth, c⟩ := F
    intro H locs ls hR hB hz hlo hv
    exact va_mmax C.ex C.by (C.ml.trans hv.1.symm) C.ow (C.ws _ hl) (C.ws _ hs) (C.ws _ hi) (C.ws _ hc) hf.1 (by rw [cat_sum]; exact Nat.le_trans (Nat.add_le_add_right h.1 13) hf.2) hk.1 hk.2 d (hK _ _ _ h.2 C H locs ls hR hB hz hlo hv)
  next => exact h.elim
def I_min (K : KT) : KT := fun L st M => match st with
  | .int y :: .int x :: r => (r.map Value.category).sum ≤ 8 ∧ K L (.int (if y < x then y else x) :: r) M
  | _ => False
theorem r_min {ix : Nat} (hK : Le K (Wj z l G F Y Q QX k n (pc + 3))) (d : decode (yB Y) pc = .ok (.invokestatic ix, 3)) (hl : Cond.methodLink (yN Y).cls ix Lib.Math.min.name ∈ WS) (hs : Cond.static Lib.Math.min.name ∈ WS) (hi : Cond.initialized "java/lang/Math" ∈ WS) (hc : Cond.code Lib.Math.min.name Lib.Math.min.code 2 (some .int) ∈ WS) (hf : fitM Y) (hk : k ≤ yC Y ∧ n ≤ yS Y) : Le (I_min K) (Wj z l G F Y Q QX k n pc) := by
  intro L st M h
  unfold I_min at h
  split at h
  next y x r =>
    intro C
    obtain ⟨p, e, s, m, args, below, meth, c⟩ := F
    intro H locs ls hR hB hz hlo hv
    exact va_mmin C.ex C.by (C.ml.trans hv.1.symm) C.ow (C.ws _ hl) (C.ws _ hs) (C.ws _ hi) (C.ws _ hc) hf.1 (by rw [cat_sum]; exact Nat.le_trans (Nat.add_le_add_right h.1 13) hf.2) hk.1 hk.2 d (hK _ _ _ h.2 C H locs ls hR hB hz hlo hv)
  next => exact h.elim
theorem locs_copy {locs L1 : List Loc} {a : Nat} (hk : (KX a).1 ≠ 0) (hl : ∀ x ∈ locs, gB G ≤ x.base) (h1 : ∀ x ∈ L1, x.base = rh G a) : ∀ x ∈ locs ++ L1, gB G ≤ x.base := fun x hx => by
  have hra := rh_lt (G := G) (Nat.lt_of_lt_of_le (kx_lt hk) (by decide : 1098 ≤ 1000000))
  rcases List.mem_append.mp hx with h | h
  · exact hl x h
  · rw [h1 x h, hra]; omega
def I_cpi (K : KT) : KT := fun L st M => match st with
  | .int n :: .int dp :: .ref b :: .int sp :: .ref a :: r => (KX a).1 = 2 ∧ (KX b).1 = 2 ∧ ¬ sp < 0 ∧ ¬ dp < 0 ∧ ¬ n < 0 ∧ sp.toNatClampNeg + n.toNatClampNeg ≤ (KX a).2.2 ∧ dp.toNatClampNeg + n.toNatClampNeg ≤ (KX b).2.2 ∧ (r.map Value.category).sum ≤ 8 ∧ K L r (cI M a sp.toNatClampNeg b dp.toNatClampNeg n.toNatClampNeg)
  | _ => False
theorem r_cpi {ix : Nat} (hK : Le K (Wj true l G F Y Q QX k n (pc + 3))) (d : decode (yB Y) pc = .ok (.invokestatic ix, 3)) (hl : Cond.methodLink (yN Y).cls ix arraycopyName ∈ WS) (hn : Cond.native arraycopyName ∈ WS) (hs : Cond.static arraycopyName ∈ WS) (hi : Cond.initialized "java/lang/System" ∈ WS) (hf : fitN Y) : Le (I_cpi K) (Wj true l G F Y Q QX k n pc) := by
  intro L st M h
  unfold I_cpi at h
  split at h
  next n dp b sp a r =>
    intro C
    obtain ⟨p, e, s, m, args, below, meth, c⟩ := F
    intro H locs ls hR hB hz hlo hv
    obtain ⟨hx, hy, h1, h2, h3, h4, h5, hcat, h⟩ := h
    have hkx : (KX a).1 ≠ 0 := by rw [hx]; exact Nat.succ_ne_zero _
    have hky : (KX b).1 ≠ 0 := by rw [hy]; exact Nat.succ_ne_zero _
    have hx2 : KX a = (2, (KX a).2.1, (KX a).2.2) := by rw [← hx]
    have hy2 : KX b = (2, (KX b).2.1, (KX b).2.2) := by rw [← hy]
    have hP := rep_at hR (rep_lt hR hkx) hkx 0 _ rfl
    have hP2 := rep_at hR (rep_lt hR hky) hky 0 _ rfl
    rw [cellE_2 hx2] at hP
    rw [cellE_2 hy2] at hP2
    refine vj_copyi C.ex C.by (C.ml.trans hv.1.symm) C.ow (C.ws _ hl) (C.ws _ hn) (C.ws _ hs) (C.ws _ hi) C.ka 0 hP hP2 rfl rfl h1 h2 h3 h4 h5 (fun _ _ => rfl) hf.1 (by rw [cat_sum]; exact Nat.le_trans (Nat.add_le_add_right hcat _) hf.2) d fun H1 L1 e1 z1 o1 l1 => ?_
    refine hK _ _ _ h C H1 _ ls (rep_put hR hky ?_ z1 o1 rfl (fun q hb => cellE_congr (funext fun j => if_neg hb) rfl rfl) (fun _ q => q)) (frame_put hky o1 hB) (by rw [z1]; exact hz) (locs_copy hky hlo l1) hv
    rw [cellE_2 hy2]
    show H1[rh G b]? = some (vp_cell _ _)
    rw [e1]
    congr 4
    funext j
    exact (if_pos rfl).symm
  next => exact h.elim
def I_cpl (K : KT) : KT := fun L st M => match st with
  | .int n :: .int dp :: .ref b :: .int sp :: .ref a :: r => (KX a).1 = 3 ∧ (KX b).1 = 3 ∧ ¬ sp < 0 ∧ ¬ dp < 0 ∧ ¬ n < 0 ∧ sp.toNatClampNeg + n.toNatClampNeg ≤ (KX a).2.2 ∧ dp.toNatClampNeg + n.toNatClampNeg ≤ (KX b).2.2 ∧ (r.map Value.category).sum ≤ 8 ∧ K L r (cL M a sp.toNatClampNeg b dp.toNatClampNeg n.toNatClampNeg)
  | _ => False
theorem r_cpl {ix : Nat} (hK : Le K (Wj true l G F Y Q QX k n (pc + 3))) (d : decode (yB Y) pc = .ok (.invokestatic ix, 3)) (hl : Cond.methodLink (yN Y).cls ix arraycopyName ∈ WS) (hn : Cond.native arraycopyName ∈ WS) (hs : Cond.static arraycopyName ∈ WS) (hi : Cond.initialized "java/lang/System" ∈ WS) (hf : fitN Y) : Le (I_cpl K) (Wj true l G F Y Q QX k n pc) := by
  intro L st M h
  unfold I_cpl at h
  split at h
  next n dp b sp a r =>
    intro C
    obtain ⟨p, e, s, m, args, below, meth, c⟩ := F
    intro H locs ls hR hB hz hlo hv
    obtain ⟨hx, hy, h1, h2, h3, h4, h5, hcat, h⟩ := h
    have hkx : (KX a).1 ≠ 0 := by rw [hx]; exact Nat.succ_ne_zero _
    have hky : (KX b).1 ≠ 0 := by rw [hy]; exact Nat.succ_ne_zero _
    have hx2 : KX a = (3, (KX a).2.1, (KX a).2.2) := by rw [← hx]
    have hy2 : KX b = (3, (KX b).2.1, (KX b).2.2) := by rw [← hy]
    have hP := rep_at hR (rep_lt hR hkx) hkx 0 _ rfl
    have hP2 := rep_at hR (rep_lt hR hky) hky 0 _ rfl
    rw [cellE_3 hx2] at hP
    rw [cellE_3 hy2] at hP2
    refine vj_copyl C.ex C.by (C.ml.trans hv.1.symm) C.ow (C.ws _ hl) (C.ws _ hn) (C.ws _ hs) (C.ws _ hi) C.ka 1 hP hP2 rfl rfl h1 h2 h3 h4 h5 (fun _ _ => rfl) hf.1 (by rw [cat_sum]; exact Nat.le_trans (Nat.add_le_add_right hcat _) hf.2) d fun H1 L1 e1 z1 o1 l1 => ?_
    refine hK _ _ _ h C H1 _ ls (rep_put hR hky ?_ z1 o1 rfl (fun q hb => cellE_congr rfl (funext fun j => if_neg hb) rfl) (fun _ q => q)) (frame_put hky o1 hB) (by rw [z1]; exact hz) (locs_copy hky hlo l1) hv
    rw [cellE_3 hy2]
    show H1[rh G b]? = some (vp_cell _ _)
    rw [e1]
    congr 5
    funext j
    exact (if_pos rfl).symm
  next => exact h.elim
/-- a local that is no longer read -/
def I_kl (i : Nat) (K : KT) : KT := fun L st M => K (L.set i xx) st M
theorem lvOf_set {G : GT} : ∀ (L : List Value) (o i : Nat) (q : Nat × Value), q ∈ lvOf G o (L.set i xx) → q ∈ lvOf G o L
  | [], _, _, _, h => by cases h
  | w :: L, o, 0, q, h => by
    rw [List.set_cons_zero] at h
    unfold lvOf at h ⊢
    rw [if_neg (by decide)] at h
    split
    · exact List.mem_cons_of_mem _ h
    · exact h
  | w :: L, o, i + 1, q, h => by
    rw [List.set_cons_succ] at h
    unfold lvOf at h ⊢
    split at h
    next hk =>
      rw [if_pos hk]
      rcases List.mem_cons.mp h with rfl | h
      · exact List.mem_cons_self
      · exact List.mem_cons_of_mem _ (lvOf_set L (o + 1) i q h)
    next hk =>
      rw [if_neg hk]
      exact lvOf_set L (o + 1) i q h
theorem r_kl {i : Nat} (hK : Le K (Wj z l G F Y Q QX k n pc)) : Le (I_kl i K) (Wj z l G F Y Q QX k n pc) := by
  intro L st M h
  intro C
  obtain ⟨p, e, s, m, args, below, meth, c⟩ := F
  intro H locs ls hR hB hz hlo hv
  exact hK _ _ _ h C H locs ls hR hB hz hlo ⟨hv.1, hv.2.1, fun q hq => hv.2.2 q (lvOf_set L 0 i q hq)⟩
end BUILTIN2
