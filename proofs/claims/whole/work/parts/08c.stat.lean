/-! ===== static cells: fields, rows, objects that nobody writes ===== -/
section STAT
variable {z : Bool} {l : Launch} {G : GT} {F : FX} {Y : YT} {Q : PQ} {QX : PX} {k n pc : Nat} {K Kt : KT}
theorem zz_S {s : State} {H : Heap} {locs : List Loc} (hB : ∀ q, q < gB G → H[q]? = s.heap[q]?) (hz : s.heap.size ≤ H.size) (hlo : ∀ x ∈ locs, gB G ≤ x.base) : va_S (fun q => gB G ≤ q) s.heap H locs := ⟨hz, fun q _ h => hB q (Nat.not_le.mp h), hlo⟩
theorem rh_s (G : GT) (j : Nat) : rh G (1000000 + j) = gS G j := by
  unfold rh
  rw [if_neg (by omega), Nat.add_sub_cancel_left]
theorem rh_s' {G : GT} {a : Nat} (h : 1000000 ≤ a) : rh G a = gS G (a - 1000000) := by
  unfold rh
  rw [if_neg (by omega)]
/-- a static field -/
def I_gs (v : Value) (K : KT) : KT := fun L st M => K L (v :: st) M
theorem r_gs {q : String × String × String × Value} {ix : Nat} (hK : Le K (Wj z l G F Y Q QX k n (pc + 3))) (d : decode (yB Y) pc = .ok (.getstatic ix, 3)) (hq : q ∈ SZt) (hl : Cond.fieldLink (yN Y).cls ix q.1 q.2.1 q.2.2.1 ∈ WS) : Le (I_gs q.2.2.2 K) (Wj z l G F Y Q QX k n pc) := by
  intro L st M h C
  obtain ⟨p, e, s, m, args, below, meth, c⟩ := F
  intro H locs ls hR hB hz hlo hv
  exact va_gets C.ex C.by ((show ZF G s s.heap from C.zz).2.2.2.1 q hq) (zz_S hB hz hlo) C.ow (C.ws _ hl) (fun _ h9 => h9) d (hK L (q.2.2.2 :: st) M h C H locs ls hR hB hz hlo hv)
/-- the static field that is only carried -/
def I_gf (K : KT) : KT := fun L st M => K L (.null :: st) M ∧ K L (.ref 1000099 :: st) M
theorem r_gf {ix : Nat} (hK : Le K (Wj z l G F Y Q QX k n (pc + 3))) (d : decode (yB Y) pc = .ok (.getstatic ix, 3)) (hl : Cond.fieldLink (yN Y).cls ix "jdk/internal/util/Preconditions" "SIOOBE_FORMATTER" "Ljava/util/function/BiFunction;" ∈ WS) : Le (I_gf K) (Wj z l G F Y Q QX k n pc) := by
  intro L st M h C
  obtain ⟨p, e, s, m, args, below, meth, c⟩ := F
  intro H locs ls hR hB hz hlo hv
  rcases (show ZF G s s.heap from C.zz).2.1.2.2.1 with h4 | h4
  · exact va_gets C.ex C.by h4 (zz_S hB hz hlo) C.ow (C.ws _ hl) (fun _ h9 => h9) d (hK L (.null :: st) M h.1 C H locs ls hR hB hz hlo hv)
  · exact va_gets C.ex C.by h4 (zz_S hB hz hlo) C.ow (C.ws _ hl) (fun _ h9 => h9) d (hK L (.ref 1000099 :: st) M h.2 C H locs ls hR hB hz hlo hv)
theorem st_T {s : State} {H : Heap} {a i : Nat} {ty : FieldType} {f : Nat → Value} (hz : ZF G s H) (ha : 1000000 ≤ a) (h : inST (a - 1000000) ty i f) : va_T ty (rh G a) i (fun j => tv G (f j)) (fun q => gB G ≤ q) s H := by
  rw [rh_s' ha]
  exact hz.2.2.2.2.2.2 _ _ _ _ h
/-- the length of a static row -/
def I_sln (K : KT) : KT := fun L st M => match st with
  | .ref a :: r => 1000000 ≤ a ∧ ∃ ty i f, inST (a - 1000000) ty i f ∧ K L (.int (Int32.ofNat i) :: r) M
  | _ => False
theorem r_sln (hK : Le K (Wj z l G F Y Q QX k n (pc + 1))) (d : decode (yB Y) pc = .ok (.arraylength, 1)) : Le (I_sln K) (Wj z l G F Y Q QX k n pc) := by
  intro L st M h
  unfold I_sln at h
  split at h
  next a r =>
    intro C
    obtain ⟨p, e, s, m, args, below, meth, c⟩ := F
    intro H locs ls hR hB hz hlo hv
    obtain ⟨ha, ty, i, f, hT, h⟩ := h
    exact va_tlen C.ex C.by (st_T C.zz ha hT) (zz_S hB hz hlo) rfl d (hK _ _ _ h C H locs ls hR hB hz hlo hv)
  next => exact h.elim
/-- a static row of ints -/
def I_sil (K : KT) : KT := fun L st M => match st with
  | .int i :: .ref a :: r => 1000000 ≤ a ∧ ∃ j f, inST (a - 1000000) .int j f ∧ vp_in i j ∧ K L (f i.toNatClampNeg :: r) M
  | _ => False
theorem r_sil (hK : Le K (Wj z l G F Y Q QX k n (pc + 1))) (d : decode (yB Y) pc = .ok (.iaload, 1)) : Le (I_sil K) (Wj z l G F Y Q QX k n pc) := by
  intro L st M h
  unfold I_sil at h
  split at h
  next i a r =>
    intro C
    obtain ⟨p, e, s, m, args, below, meth, c⟩ := F
    intro H locs ls hR hB hz hlo hv
    obtain ⟨ha, j, f, hT, hi, h⟩ := h
    exact va_ti C.ex C.by (st_T C.zz ha hT) (zz_S hB hz hlo) hi rfl d (hK _ _ _ h C H locs ls hR hB hz hlo hv)
  next => exact h.elim
/-- a static row of bytes -/
def I_sbl (K : KT) : KT := fun L st M => match st with
  | .int i :: .ref a :: r => 1000000 ≤ a ∧ ∃ j f, inST (a - 1000000) .byte j f ∧ vp_in i j ∧ K L (f i.toNatClampNeg :: r) M
  | _ => False
theorem r_sbl (hK : Le K (Wj z l G F Y Q QX k n (pc + 1))) (d : decode (yB Y) pc = .ok (.baload, 1)) : Le (I_sbl K) (Wj z l G F Y Q QX k n pc) := by
  intro L st M h
  unfold I_sbl at h
  split at h
  next i a r =>
    intro C
    obtain ⟨p, e, s, m, args, below, meth, c⟩ := F
    intro H locs ls hR hB hz hlo hv
    obtain ⟨ha, j, f, hT, hi, h⟩ := h
    exact va_tb C.ex C.by (st_T C.zz ha hT) (zz_S hB hz hlo) hi rfl d (hK _ _ _ h C H locs ls hR hB hz hlo hv)
  next => exact h.elim
/-- a static row of references -/
def I_saa (K : KT) : KT := fun L st M => match st with
  | .int i :: .ref a :: r => 1000000 ≤ a ∧ ∃ C j f, inST (a - 1000000) (.object C) j f ∧ vp_in i j ∧ K L (f i.toNatClampNeg :: r) M
  | _ => False
theorem r_saa (hK : Le K (Wj z l G F Y Q QX k n (pc + 1))) (d : decode (yB Y) pc = .ok (.aaload, 1)) : Le (I_saa K) (Wj z l G F Y Q QX k n pc) := by
  intro L st M h
  unfold I_saa at h
  split at h
  next i a r =>
    intro C
    obtain ⟨p, e, s, m, args, below, meth, c⟩ := F
    intro H locs ls hR hB hz hlo hv
    obtain ⟨ha, Cn, j, f, hT, hi, h⟩ := h
    obtain ⟨cell, h1, h2, h3, h4, h5, h6, h7⟩ := st_T C.zz ha hT
    have hS := zz_S hB hz hlo
    have hlt : i.toNatClampNeg < j := Nat.not_le.mp fun q => hi (Or.inr q)
    refine W.aald (v := tv G (f i.toNatClampNeg)) (ty := .object Cn) C.ex C.by (by rw [hS.2.1 _ (Array.getElem?_eq_some_iff.mp h1).1 h7]; exact h1) h2 rfl h3 ?_ (h6 _ hlt) rfl rfl d (hK _ _ _ h C H locs ls hR hB hz hlo hv)
    intro q
    rcases q with q | q
    · exact hi (Or.inl q)
    · omega
  next => exact h.elim
/-- a field of a static object -/
def I_sgf (o nm de : String) (K : KT) : KT := fun L st M => match st with
  | .ref a :: r => 1000000 ≤ a ∧ ∃ v, inSF (a - 1000000) o nm de v ∧ K L (v :: r) M
  | _ => False
theorem r_sgf {o nm de : String} {ix : Nat} (hK : Le K (Wj z l G F Y Q QX k n (pc + 3))) (d : decode (yB Y) pc = .ok (.getfield ix, 3)) (hl : Cond.fieldLink (yN Y).cls ix o nm de ∈ WS) : Le (I_sgf o nm de K) (Wj z l G F Y Q QX k n pc) := by
  intro L st M h
  unfold I_sgf at h
  split at h
  next a r =>
    intro C
    obtain ⟨p, e, s, m, args, below, meth, c⟩ := F
    intro H locs ls hR hB hz hlo hv
    obtain ⟨ha, v, hF, h⟩ := h
    have hO := (show ZF G s s.heap from C.zz).2.2.2.2.2.1 _ _ _ _ _ hF
    rw [← rh_s' ha] at hO
    exact vk_getf C.ex C.by hO (zz_S hB hz hlo) C.ow (C.ws _ hl) (fun _ h9 => h9) d (hK _ _ _ h C H locs ls hR hB hz hlo hv)
  next => exact h.elim
def I_i2c (K : KT) : KT := fun L st M => match st with
  | .int x :: r => (0 ≤ x.toInt ∧ x.toInt < 65536) ∧ K L (.int x :: r) M
  | _ => False
theorem r_i2c (hK : Le K (Wj z l G F Y Q QX k n (pc + 1))) (d : decode (yB Y) pc = .ok (.i2c, 1)) : Le (I_i2c K) (Wj z l G F Y Q QX k n pc) := by
  intro L st M h
  unfold I_i2c at h
  split at h
  next x r =>
    intro C
    obtain ⟨p, e, s, m, args, below, meth, c⟩ := F
    intro H locs ls hR hB hz hlo hv
    exact lv_i2c C.ex C.by d (lg_i2c_word h.1.1 h.1.2) (hK _ _ _ h.2 C H locs ls hR hB hz hlo hv)
  next => exact h.elim
/-- a call of a static object's method, which the class of its own or one above has -/
def okU (Yc : YT) (C : String) (nc : Nat) : Prop := okC Yc nc ∧ Cond.selects C (yN Yc) (yN Yc) ∈ WS ∧ Cond.instanceMethod (yN Yc) ∈ WS
def I_cvS (T : List Value → Mm → PQ → PX → Prop) (C : String) (nc : Nat) (QX : PX) (K : KT) : KT := fun L st M => match popA nc st [] with
  | some (as, .ref o :: r) => (1000000 ≤ o ∧ inSO (o - 1000000) C) ∧ (r.map Value.category).sum ≤ 8 ∧ T (.ref o :: as) M (fun v M' => K L (v.toList ++ r) M') QX
  | _ => False
theorem r_cvS {Yc : YT} {nc ix : Nat} {C0 : String} (hK : Le K (Wj z l G F Y Q QX k n (pc + 3))) (d : decode (yB Y) pc = .ok (.invokevirtual ix, 3)) (ok : okU Yc C0 nc) (hl : Cond.methodLink (yN Y).cls ix (yN Yc) ∈ WS) (hf : fit Yc Y) (hk : k ≤ yC Y ∧ n ≤ yS Y) (h0 : yC Yc = 0) (h1 : yS Yc = 0) :
    Le (I_cvS (Tr z l G Yc) C0 nc QX K) (Wj z l G F Y Q QX k n pc) := by
  intro L st M h
  unfold I_cvS at h
  split at h
  next as o r hpop =>
    intro C
    obtain ⟨p, e, s, m, args, below, meth, c⟩ := F
    intro H locs ls hR hB hz hlo hv
    obtain ⟨⟨ho, hx⟩, hcat, h⟩ := h
    obtain ⟨hst, hlen⟩ := popA_0 hpop
    have hO := (show ZF G s s.heap from C.zz).2.2.2.2.1 _ _ hx
    rw [← rh_s' ho] at hO
    have hrec := va_Orecv hO (zz_S hB hz hlo)
    have hcb := okC_cb C ok.1 hl hf
    refine vj_call (Yc := Yc) (rest := r) (K := K) (by rw [h0, h1]; exact hK) C hB hz hlo hv (vx_runV (C := C0) (As := as.map (tv G)) ⟨C.ex, C.by, C.ml, C.ow, C.ws⟩ h ⟨hcb, C.ws _ ok.2.2, C.ws _ ok.2.1⟩ ⟨sok_blind, hrec, fun U hU hW => ⟨rfl, sok_moved C.go C.ka C.zz hR hB hU hW⟩⟩ rfl (by rw [List.length_map]; exact hlen) hv.1 ?_ ?_ d (by rw [h0, h1]; exact hk)) (by rw [h0]; exact hk.1) (by rw [h1]; exact hk.2)
    · show st.map (tv G) = _
      rw [hst]
      simp [tv]
    · show 2 * 0 + _ ≤ 8
      rw [cat_sum]
      omega
  next => exact h.elim
/-- the row of the read commands: what lies in it -/
def I_cal (K : KT) : KT := fun L st M => match st with
  | .int i :: .ref a :: r => (KX a).1 = 4 ∧ (KX a).2.1 = 6 ∧ vp_in i (KX a).2.2 ∧ ∃ j, mP M a i.toNatClampNeg = j + 1 ∧ K L (.ref j :: r) M
  | _ => False
theorem r_cal (hK : Le K (Wj true l G F Y Q QX k n (pc + 1))) (d : decode (yB Y) pc = .ok (.aaload, 1)) : Le (I_cal K) (Wj true l G F Y Q QX k n pc) := by
  intro L st M h
  unfold I_cal at h
  split at h
  next i a r =>
    intro C
    obtain ⟨p, e, s, m, args, below, meth, cd⟩ := F
    intro H locs ls hR hB hz hlo hv
    obtain ⟨hx, hc, hi, j, hj, h⟩ := h
    have hkx : (KX a).1 ≠ 0 := by rw [hx]; exact Nat.succ_ne_zero _
    have hx2 : KX a = (4, 6, (KX a).2.2) := by rw [← hx, ← hc]
    have hP := rep_at hR (rep_lt hR hkx) hkx 0 _ rfl
    rw [cellE_4 hx2] at hP
    have hlt : i.toNatClampNeg < (KX a).2.2 := Nat.not_le.mp fun q => hi (Or.inr q)
    refine W.aald (v := .ref (rh G j)) (ty := .object RX2) C.ex C.by hP ((C.ka.2 6 _ rfl).1 _ (fun j => va_rf (pq G (mP M a j)))) rfl (fun q => by cases q) (by show ¬ (i < 0 ∨ (arrV _ _ _).slots.size ≤ _); rw [arrV_size]; exact hi) ?_ rfl rfl d (hK _ _ _ h C H locs ls hR hB hz hlo hv)
    show (arrV _ _ _).slots[_]? = _
    rw [arrV_read _ _ hlt]
    show some (va_rf (pq G (mP M a i.toNatClampNeg))) = _
    rw [hj]
    rfl
  next => exact h.elim
/-- a static object is put into the row of the read commands -/
def I_cas (K : KT) : KT := fun L st M => match st with
  | .ref o :: .int i :: .ref a :: r => KX a = (4, 6, 21) ∧ vp_in i 21 ∧ (1000000 ≤ o ∧ inSO (o - 1000000) RX2) ∧ K L r (sP M a i.toNatClampNeg (o + 1))
  | _ => False
theorem pv_cmds {a : Nat} (h : KX a = (4, 6, 21)) (j : Nat) : PV a j = 0 := by
  unfold PV
  rw [h]
  rfl
theorem r_cas (hK : Le K (Wj true l G F Y Q QX k n (pc + 1))) (d : decode (yB Y) pc = .ok (.aastore, 1)) : Le (I_cas K) (Wj true l G F Y Q QX k n pc) := by
  intro L st M h
  unfold I_cas at h
  split at h
  next o i a r =>
    intro C
    obtain ⟨p, e, s, m, args, below, meth, c⟩ := F
    intro H locs ls hR hB hz hlo hv
    obtain ⟨hx1, hi, ⟨ho, hx⟩, h⟩ := h
    have hkx : (KX a).1 ≠ 0 := by rw [hx1]; exact Nat.succ_ne_zero _
    have hP := rep_at hR (rep_lt hR hkx) hkx 0 _ rfl
    rw [cellE_4 hx1] at hP
    have hO := (show ZF G s s.heap from C.zz).2.2.2.2.1 _ _ hx
    rw [← rh_s' ho] at hO
    obtain ⟨cv, g1, g2, g3⟩ := va_Orecv hO (zz_S hB hz hlo)
    obtain ⟨kA, comp, k1, k2, k3, -⟩ := (C.ka.2 6 _ rfl).2
    have hcomp : comp = cv.cls := Option.some.inj (k3.symm.trans g3)
    subst hcomp
    obtain ⟨kC, hkC⟩ := Vm.classAt_of_findClass k3
    have hlt : i.toNatClampNeg < 21 := Nat.not_le.mp fun q => hi (Or.inr q)
    refine W.aast (k := kA) (t := .object RX2) C.ex C.by hP (fun q h => by cases h) (fun h => by cases h) k1 k2 rfl hkC ⟨fun q => hi (Or.inl q), by show _ < (arrV _ _ _).slots.size; rw [arrV_size]; exact hlt⟩ g1 (fun q h => by rw [h] at g2; cases g2) hkC (va_asg _ _) rfl rfl d fun H1 e1 z1 o1 => ?_
    refine hK _ _ _ h C H1 _ ls (rep_put hR hkx ?_ z1 o1 rfl cellE_sPn (fun _ q b j hb => ?_)) (frame_put hkx o1 hB) (by rw [z1]; exact hz) (locs_put hkx hlo) hv
    · rw [cellE_4 hx1]
      show H1[rh G a]? = some (vp_cell _ _)
      rw [e1]
      rw [vp_cell_q, vp_cell_q, arrV_store]
      congr 2
      funext q
      show updV _ _ _ q = va_rf (pq G (u2 (mP M) a i.toNatClampNeg (o + 1) a q))
      rw [u2_self]
      by_cases hq : q = i.toNatClampNeg
      · simp [updV, hq, pq, va_rf]
      · simp [updV, hq]
    · show u2 (mP M) a i.toNatClampNeg (o + 1) b j = PV b j
      by_cases hbb : b = a
      · exfalso
        subst hbb
        exact hb (pv_cmds hx1 j)
      · rw [u2_n (fun c => hbb c.1)]
        exact q b j hb
  next => exact h.elim
end STAT
