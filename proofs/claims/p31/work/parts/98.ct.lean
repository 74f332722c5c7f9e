/-! ===== making: new objects, new rows, final fields ===== -/
theorem rep_new {G : GT} {M : Mm} {H H1 : Heap} (hR : RepH false G M H) (hs : H1.size = H.size + 1) (hq : ∀ q, q < H.size → H1[q]? = H[q]?) (hn : va_at (gD G) vwCl (H.size, cellE G (aN M) (mN M)) H1) (hm : mN M < 1098) : RepH false G (aN M) H1 := by
  have h1 := hR.1
  refine ⟨by rw [hs, h1]; exact Nat.add_assoc .., fun a ha hk => ?_, fun hz => (by cases hz), Nat.lt_of_le_of_lt (Nat.succ_le_of_lt hm) (Nat.lt_of_lt_of_le (Nat.lt_succ_self 1098) (Nat.le_of_ble_eq_true rfl))⟩
  by_cases e : a = mN M
  · subst e
    rw [← h1]
    exact hn
  · have hlt : a < mN M := Nat.lt_of_le_of_ne (Nat.le_of_lt_succ ha) e
    have hc : cellE G (aN M) a = cellE G M a := cellE_congr (funext fun j => if_neg e) (funext fun j => if_neg e) (funext fun j => if_neg e)
    rw [hc]
    exact (hR.2.1 a hlt hk).kept (hq _ (by rw [h1]; omega))
theorem frm_new {G : GT} {H H1 H0 : Heap} (hb : gB G ≤ H.size) (hq : ∀ q, q < H.size → H1[q]? = H[q]?) (hB : ∀ q, q < gB G → H[q]? = H0[q]?) : ∀ q, q < gB G → H1[q]? = H0[q]? := fun q h => (hq q (Nat.lt_of_lt_of_le h hb)).trans (hB q h)
theorem rh_new {z : Bool} {G : GT} {M : Mm} {H : Heap} (hR : RepH z G M H) (hm : mN M < 1098) : rh G (mN M) = H.size := by
  rw [rh_lt (Nat.lt_of_lt_of_le hm (by decide)), hR.1]
/-- default values of a class of ours -/
def dvF (c j : Nat) : Value := match ft c j with
  | 0 => .int 0
  | 1 => .long 0
  | _ => .null
theorem fv_new (G : GT) (M : Mm) (c j : Nat) : fv G (aN M) c (mN M) j = dvF c j := by
  have h1 : mI (aN M) (mN M) j = 0 := if_pos rfl
  have h2 : mL (aN M) (mN M) j = 0 := if_pos rfl
  have h3 : mP (aN M) (mN M) j = 0 := if_pos rfl
  unfold fv dvF
  rw [h1, h2, h3]
  generalize ft c j = t
  rcases t with _ | _ | t
  · rfl
  · rfl
  · rfl
section MAKE
variable {l : Launch} {G : GT} {F : FX} {Y : YT} {Q : PQ} {QX : PX} {k n pc : Nat} {K Kt : KT}
def I_new (ci nf : Nat) (K : KT) : KT := fun L st M => KX (mN M) = (1, ci, nf) ∧ K L (.ref (mN M) :: st) (aN M)
theorem r_new {ci nf : Nat} {C : String} {T : u_T} {ty : Nat → FieldType} {ix : Nat} (hK : Le K (Wj false l G F Y Q QX (k + 1) (n + nf) (pc + 3))) (d : decode (yB Y) pc = .ok (.new ix, 3)) (hc : CLO ci nf C T ty) (hcl : Cond.classLink (yN Y).cls ix C ∈ WS) (hin : Cond.instantiable C nf ∈ WS) (hi : Cond.initialized C ∈ WS) (hdf : ∀ j, j < nf → defaultValue (ty j) = dvF ci j) (hk : k + 1 ≤ yC Y ∧ n + nf ≤ yS Y) : Le (I_new ci nf K) (Wj false l G F Y Q QX k n pc) := by
  intro L st M h C9
  obtain ⟨hx, h⟩ := h
  obtain ⟨p, e, s, m, args, below, meth, c⟩ := F
  intro H locs ls hR hB hz hlo hv
  have hm : mN M < 1098 := kx_lt' hx (by decide)
  have hKn := C9.ka.1 ci _ hc.1
  refine W.newcK C9.ex C9.by C9.ow (C9.ws _ hcl) (C9.ws _ hin) (C9.ws _ hi) rfl d hk.1 hk.2 hKn.2.1 rfl fun H1 kC hkC e1 z1 o1 => ?_
  have hre := rh_new hR hm
  have hat : va_at (gD G) vwCl (H.size, cellE G (aN M) (mN M)) H1 := by
    rw [cellE_1 hx]
    refine ⟨_, hc.1, (u_born ty C9.ws hc.2.1 hKn hkC e1 hc.2.2.1).to fun j hj => ?_⟩
    rw [hdf j hj]
    unfold vp_V
    rw [List.getD_eq_getElem?_getD, fs_get hj, fv_new]
    rfl
  have hw := hK L (.ref (mN M) :: st) (aN M) h C9 H1 locs ls (rep_new hR z1 o1 hat hm) (frm_new (by rw [hR.1]; omega) o1 hB) (by rw [z1]; omega) hlo hv
  rw [List.map_cons] at hw
  rw [show tv G (.ref (mN M)) = .ref H.size by show Value.ref (rh G (mN M)) = _; rw [hre]] at hw
  exact hw
/-- a row of ints, of longs -/
def I_naI (v : Int32) (len : Nat) (K : KT) : KT := fun L st M => match st with
  | .int x :: r => x = v ∧ KX (mN M) = (2, 0, len) ∧ K L (.ref (mN M) :: r) (aN M)
  | _ => False
theorem r_naI {len : Nat} {v : Int32} (hK : Le K (Wj false l G F Y Q QX (k + 1) (n + len) (pc + 2))) (d : decode (yB Y) pc = .ok (.newarray .int, 2)) (ha : Cond.arrayClass .int ∈ WS) (hlen : v.toInt.toNat = len) (h0 : 0 ≤ v.toInt) (hb : len ≤ 100000) (hk : k + 1 ≤ yC Y ∧ n + len ≤ yS Y) : Le (I_naI v len K) (Wj false l G F Y Q QX k n pc) := by
  intro L st M h C9
  obtain ⟨r, rfl, hx, h⟩ : ∃ r, st = .int v :: r ∧ KX (mN M) = (2, 0, len) ∧ K L (.ref (mN M) :: r) (aN M) := by
    unfold I_naI at h
    split at h
    next x r => exact ⟨r, by rw [h.1], h.2⟩
    next => exact h.elim
  obtain ⟨p, e, s, m, args, below, meth, c⟩ := F
  intro H locs ls hR hB hz hlo hv
  have hm : mN M < 1098 := kx_lt' hx (by decide)
  have hre := rh_new hR hm
  refine va_newaK (atype := .int) (N := len) C9.ex C9.by (C9.ws _ ha) rfl d rfl (fun q => by have := i_lt.mp q; rw [tI_0] at this; omega) hlen (by show len * 4 ≤ 536870912; omega) hk.1 hk.2 rfl fun H1 cA e1 z1 o1 hAr hNm => ?_
  have hcA : cA = gA G 0 := Option.some.inj (hNm.symm.trans (C9.ka.2 0 _ rfl).2)
  subst hcA
  have hat : va_at (gD G) vwCl (H.size, cellE G (aN M) (mN M)) H1 := by
    rw [cellE_2 hx]
    show H1[H.size]? = some (vp_cell _ _)
    rw [vp_cell_i, e1]
    congr 2
    funext j
    show Value.int 0 = Value.int (if mN M = mN M then 0 else _)
    rw [if_pos rfl]
  have hw := hK L (.ref (mN M) :: r) (aN M) h C9 H1 locs ls (rep_new hR z1 o1 hat hm) (frm_new (by rw [hR.1]; omega) o1 hB) (by rw [z1]; omega) hlo hv
  rw [List.map_cons] at hw
  rw [show tv G (.ref (mN M)) = .ref H.size by show Value.ref (rh G (mN M)) = _; rw [hre]] at hw
  exact hw
def I_naL (v : Int32) (len : Nat) (K : KT) : KT := fun L st M => match st with
  | .int x :: r => x = v ∧ KX (mN M) = (3, 1, len) ∧ K L (.ref (mN M) :: r) (aN M)
  | _ => False
theorem r_naL {len : Nat} {v : Int32} (hK : Le K (Wj false l G F Y Q QX (k + 1) (n + len) (pc + 2))) (d : decode (yB Y) pc = .ok (.newarray .long, 2)) (ha : Cond.arrayClass .long ∈ WS) (hlen : v.toInt.toNat = len) (h0 : 0 ≤ v.toInt) (hb : len ≤ 100000) (hk : k + 1 ≤ yC Y ∧ n + len ≤ yS Y) : Le (I_naL v len K) (Wj false l G F Y Q QX k n pc) := by
  intro L st M h C9
  obtain ⟨r, rfl, hx, h⟩ : ∃ r, st = .int v :: r ∧ KX (mN M) = (3, 1, len) ∧ K L (.ref (mN M) :: r) (aN M) := by
    unfold I_naL at h
    split at h
    next x r => exact ⟨r, by rw [h.1], h.2⟩
    next => exact h.elim
  obtain ⟨p, e, s, m, args, below, meth, c⟩ := F
  intro H locs ls hR hB hz hlo hv
  have hm : mN M < 1098 := kx_lt' hx (by decide)
  have hre := rh_new hR hm
  refine va_newaK (atype := .long) (N := len) C9.ex C9.by (C9.ws _ ha) rfl d rfl (fun q => by have := i_lt.mp q; rw [tI_0] at this; omega) hlen (by show len * 8 ≤ 536870912; omega) hk.1 hk.2 rfl fun H1 cA e1 z1 o1 hAr hNm => ?_
  have hcA : cA = gA G 1 := Option.some.inj (hNm.symm.trans (C9.ka.2 1 _ rfl).2)
  subst hcA
  have hat : va_at (gD G) vwCl (H.size, cellE G (aN M) (mN M)) H1 := by
    rw [cellE_3 hx]
    show H1[H.size]? = some (vp_cell _ _)
    rw [vp_cell_l, e1]
    congr 2
    funext j
    show Value.long 0 = Value.long (if mN M = mN M then 0 else _)
    rw [if_pos rfl]
  have hw := hK L (.ref (mN M) :: r) (aN M) h C9 H1 locs ls (rep_new hR z1 o1 hat hm) (frm_new (by rw [hR.1]; omega) o1 hB) (by rw [z1]; omega) hlo hv
  rw [List.map_cons] at hw
  rw [show tv G (.ref (mN M)) = .ref H.size by show Value.ref (rh G (mN M)) = _; rw [hre]] at hw
  exact hw
/-- a row of objects -/
def I_naA (v : Int32) (ci len : Nat) (K : KT) : KT := fun L st M => match st with
  | .int x :: r => x = v ∧ KX (mN M) = (4, ci, len) ∧ K L (.ref (mN M) :: r) (aN M)
  | _ => False
theorem r_naA {ci len ix : Nat} {v : Int32} {Cn : String} (hK : Le K (Wj false l G F Y Q QX (k + 1) (n + len) (pc + 3))) (d : decode (yB Y) pc = .ok (.anewarray ix, 3)) (hcl : Cond.classLink (yN Y).cls ix Cn ∈ WS) (ha : Cn ∈ aovW) (hty : (tysG G)[ci]? = some (gA G ci, .object Cn)) (h3 : 3 ≤ ci) (hlen : v.toInt.toNat = len) (h0 : 0 ≤ v.toInt) (hb : len ≤ 100000) (hk : k + 1 ≤ yC Y ∧ n + len ≤ yS Y) : Le (I_naA v ci len K) (Wj false l G F Y Q QX k n pc) := by
  intro L st M h C9
  obtain ⟨r, rfl, hx, h⟩ : ∃ r, st = .int v :: r ∧ KX (mN M) = (4, ci, len) ∧ K L (.ref (mN M) :: r) (aN M) := by
    unfold I_naA at h
    split at h
    next x r => exact ⟨r, by rw [h.1], h.2⟩
    next => exact h.elim
  obtain ⟨p, e, s, m, args, below, meth, c⟩ := F
  intro H locs ls hR hB hz hlo hv
  have hm : mN M < 1098 := kx_lt' hx (by decide)
  have hre := rh_new hR hm
  have hlen' : v.toNatClampNeg = len := hlen
  have hzf : ZF G s s.heap := C9.zz
  have hnw : nwZ s := hzf.2.1.2.2.2
  refine W.anew (C := Cn) C9.ex C9.by C9.ow (C9.ws _ hcl) (va_AO.use (hnw.2.2.2.1 Cn ha)) rfl d rfl (fun q => by have := i_lt.mp q; rw [tI_0] at this; omega) (by rw [hlen']; omega) hk.1 (by rw [hlen']; exact hk.2) fun cA kA comp h1 h2 h3 h4 => ?_
  obtain ⟨-, kA', comp', g1, g2, g3, g4⟩ := C9.ka.2 ci _ hty
  have hcA : cA = gA G ci := Option.some.inj (h1.symm.trans g4)
  subst hcA
  rw [hlen']
  have hat : va_at (gD G) vwCl (H.size, cellE G (aN M) (mN M)) (H.push { cls := gA G ci, slots := Array.replicate len .null, vm := .none }) := by
    rw [cellE_4 hx]
    show (H.push _)[H.size]? = some (vp_cell _ _)
    rw [vp_cell_q, arrV_new, Array.getElem?_push_size]
    congr 2
    funext j
    show Value.null = va_rf (pq G (if mN M = mN M then 0 else _))
    rw [if_pos rfl]
    rfl
  have o1 : ∀ q, q < H.size → (H.push ({ cls := gA G ci, slots := Array.replicate len .null, vm := .none } : Cell))[q]? = H[q]? := fun q hq => by rw [Array.getElem?_push, if_neg (Nat.ne_of_lt hq)]
  have z1 : (H.push ({ cls := gA G ci, slots := Array.replicate len .null, vm := .none } : Cell)).size = H.size + 1 := Array.size_push ..
  have hw := hK L (.ref (mN M) :: r) (aN M) h C9 _ locs ls (rep_new hR z1 o1 hat hm) (frm_new (by rw [hR.1]; omega) o1 hB) (by rw [z1]; omega) hlo hv
  rw [List.map_cons] at hw
  rw [show tv G (.ref (mN M)) = .ref H.size by show Value.ref (rh G (mN M)) = _; rw [hre]] at hw
  exact hw
/-- the constructor of Object -/
def I_oi (K : KT) : KT := fun L st M => match st with
  | [.ref _] => K L [] M
  | _ => False
theorem r_oi {ix : Nat} {z : Bool} (hK : Le K (Wj z l G F Y Q QX k n (pc + 3))) (d : decode (yB Y) pc = .ok (.invokespecial ix, 3)) (hl : Cond.methodLink (yN Y).cls ix Lib.objectInit ∈ WS) (hf : 1 ≤ yF Y ∧ 12 ≤ yW Y) : Le (I_oi K) (Wj z l G F Y Q QX k n pc) := by
  intro L st M h
  unfold I_oi at h
  split at h
  next a =>
    intro C9
    obtain ⟨p, e, s, m, args, below, meth, c⟩ := F
    intro H locs ls hR hB hz hlo hv
    refine W.objInit C9.ex C9.by C9.ow (C9.ws _ hl) (C9.ws _ wd_1_23) (C9.ws _ wd_1_24) rfl (hv.1.trans C9.ml.symm) rfl d hf.1 (by show 2 * 0 + 0 + 12 ≤ yW Y; exact hf.2) (hK L [] M h C9 H locs ls hR hB hz hlo hv)
  next => exact h.elim
/-- a final field -/
def I_pp (ci kf nf : Nat) (K : KT) : KT := fun L st M => match st with
  | .ref v :: .ref o :: r => KX o = (1, ci, nf) ∧ o < mN M ∧ K L r (sP M o kf (v + 1))
  | _ => False
theorem cellE_sP {M : Mm} {a kf c nf v : Nat} (hx : KX a = (1, c, nf)) (hf : ft c kf = 2) (hk : kf < nf) : cellE G (sP M a kf (v + 1)) a = .inr (c, ((List.range nf).map (fun k => fv G M c a k)).set kf (.ref (rh G v))) := by
  rw [cellE_1 hx]
  congr 2
  apply List.ext_getElem?
  intro j
  by_cases hj : j < nf
  · rw [fs_get hj]
    by_cases hjk : j = kf
    · subst hjk
      rw [List.getElem?_set_self (by rw [fs_len]; exact hj)]
      unfold fv
      rw [hf]
      show some (va_rf (pq G (u2 (mP M) a j (v + 1) a j))) = _
      rw [u2_s]
      rfl
    · rw [List.getElem?_set_ne (Ne.symm hjk), fs_get hj]
      unfold fv
      split
      · rfl
      · rfl
      · show some (va_rf (pq G (u2 (mP M) a kf (v + 1) a j))) = _
        rw [u2_n (fun q => hjk q.2)]
  · rw [List.getElem?_eq_none (by rw [fs_len]; omega), List.getElem?_eq_none (by rw [List.length_set, fs_len]; omega)]
theorem r_pp {ci kf nf : Nat} {C : String} {T : u_T} {ty : Nat → FieldType} {t : FieldType} {ix : Nat} (hK : Le K (Wj false l G F Y Q QX k n (pc + 3))) (d : decode (yB Y) pc = .ok (.putfield ix, 3)) (hc : CLO ci nf C T ty) (hk : kf < nf) (hf : ft ci kf = 2) (hl : Cond.fieldLink (yN Y).cls ix (T kf).1 (T kf).2.1 (T kf).2.2.1 ∈ WS) (hfin : (T kf).2.2.2 = true) (hn : (yN Y).name = "<init>") (hcls : (T kf).1 = (yN Y).cls) (hd : parseFieldDescriptor (T kf).2.2.1 = some t) (ht : ∀ q, narrow t (.ref q) = .ref q ∧ fits t (.ref q) = true) : Le (I_pp ci kf nf K) (Wj false l G F Y Q QX k n pc) := by
  intro L st M h
  unfold I_pp at h
  split at h
  next v a r =>
    intro C9
    obtain ⟨p, e, s, m, args, below, meth, c⟩ := F
    intro H locs ls hR hB hz hlo hv
    obtain ⟨hx, hlt, h⟩ := h
    have hkx : (KX a).1 ≠ 0 := by rw [hx]; exact Nat.succ_ne_zero _
    have hP := rep_at hR hlt hkx 0 _ rfl
    rw [cellE_1 hx] at hP
    refine vj_putF (Ts := WS) C9.ex C9.by C9.ws hc.2.1 ty hc.2.2.1 hc.2.2.2 C9.ow C9.ka hP hc.1 kf hk (C9.ws _ hl) (fun _ h9 => h9) hfin (C9.nm.trans hn) hcls hd (ht _).1 (ht _).2 (by rw [fs_len]; exact hk) d (fun H1 j h1 h2 h3 => hK _ _ _ h C9 H1 _ ls (rep_put hR hkx (by rw [cellE_sP hx hf hk]; exact h1) h2 h3 rfl cellE_sPn (fun q => by cases q)) (frame_put hkx h3 hB) (by rw [h2]; exact hz) (locs_put hkx hlo) hv)
  next => exact h.elim
/-- reading a reference while things are made -/
def I_gq (ci kf nf : Nat) (K : KT) : KT := fun L st M => match st with
  | .ref a :: r => KX a = (1, ci, nf) ∧ a < mN M ∧ ∃ j, mP M a kf = j + 1 ∧ K L (.ref j :: r) M
  | _ => False
theorem r_gq {ci kf nf : Nat} {C : String} {T : u_T} {ty : Nat → FieldType} {ix : Nat} {z : Bool} (hK : Le K (Wj z l G F Y Q QX k n (pc + 3))) (d : decode (yB Y) pc = .ok (.getfield ix, 3)) (hc : CLO ci nf C T ty) (hk : kf < nf) (hf : ft ci kf = 2) (hl : Cond.fieldLink (yN Y).cls ix (T kf).1 (T kf).2.1 (T kf).2.2.1 ∈ WS) : Le (I_gq ci kf nf K) (Wj z l G F Y Q QX k n pc) := by
  intro L st M h
  unfold I_gq at h
  split at h
  next a r =>
    intro C9
    obtain ⟨p, e, s, m, args, below, meth, c⟩ := F
    intro H locs ls hR hB hz hlo hv
    obtain ⟨hx, hlt, j, hj, h⟩ := h
    have hkx : (KX a).1 ≠ 0 := by rw [hx]; exact Nat.succ_ne_zero _
    have hP := rep_at hR hlt hkx
    rw [cellE_1 hx] at hP
    refine va_get (D := gD G) (cl := vwCl) (Ts := WS) C9.ex C9.by C9.ws hc.2.1 C9.ow C9.ka hP 0 rfl hc.1 kf hk (C9.ws _ hl) (fun _ h9 => h9) (v := .ref (rh G j)) ?_ d (hK _ _ _ h C9 H locs ls hR hB hz hlo hv)
    rw [fs_get hk]
    unfold fv
    rw [hf, hj]
    rfl
  next => exact h.elim
/-- an object is put into a row of objects -/
def I_asz (c len ci nf : Nat) (K : KT) : KT := fun L st M => match st with
  | .ref o :: .int i :: .ref a :: r => KX a = (4, c, len) ∧ a < mN M ∧ vp_in i len ∧ KX o = (1, ci, nf) ∧ o < mN M ∧ K L r (sP M a i.toNatClampNeg (o + 1))
  | _ => False
theorem r_asz {c0 len ci nf : Nat} {C : String} {T : u_T} {ty : Nat → FieldType} (hK : Le K (Wj false l G F Y Q QX k n (pc + 1))) (d : decode (yB Y) pc = .ok (.aastore, 1)) (hc : CLO ci nf C T ty) (hty : (tysG G)[c0]? = some (gA G c0, .object C)) : Le (I_asz c0 len ci nf K) (Wj false l G F Y Q QX k n pc) := by
  intro L st M h
  unfold I_asz at h
  split at h
  next o i a r =>
    intro C9
    obtain ⟨p, e, s, m, args, below, meth, c⟩ := F
    intro H locs ls hR hB hz hlo hv
    obtain ⟨hx1, hlt1, hi, hx2, hlt2, h⟩ := h
    have hkx : (KX a).1 ≠ 0 := by rw [hx1]; exact Nat.succ_ne_zero _
    have hkx2 : (KX o).1 ≠ 0 := by rw [hx2]; exact Nat.succ_ne_zero _
    have hP := rep_at hR hlt1 hkx 0 _ rfl
    rw [cellE_4 hx1] at hP
    have hPo := rep_at hR hlt2 hkx2
    rw [cellE_1 hx2] at hPo
    obtain ⟨cv, g1, g2, g3⟩ := va_recv C9.ka hPo hc.1 (q0 := 0) rfl
    obtain ⟨kA, comp, k1, k2, k3, -⟩ := (C9.ka.2 c0 _ hty).2
    have hcomp : comp = cv.cls := Option.some.inj (k3.symm.trans g3)
    subst hcomp
    obtain ⟨kC, hkC⟩ := Vm.classAt_of_findClass k3
    have hlt : i.toNatClampNeg < len := Nat.not_le.mp fun q => hi (Or.inr q)
    refine W.aast (k := kA) (t := .object C) C9.ex C9.by hP (fun q h => by cases h) (fun h => by cases h) k1 k2 rfl hkC ⟨fun q => hi (Or.inl q), by show _ < (arrV _ _ _).slots.size; rw [arrV_size]; exact hlt⟩ g1 (fun q h => by rw [h] at g2; cases g2) hkC (va_asg _ _) rfl rfl d fun H1 e1 z1 o1 => ?_
    refine hK _ _ _ h C9 H1 _ ls (rep_put hR hkx ?_ z1 o1 rfl cellE_sPn (fun q => by cases q)) (frame_put hkx o1 hB) (by rw [z1]; exact hz) (locs_put hkx hlo) hv
    rw [cellE_4 hx1]
    show H1[rh G a]? = some (vp_cell _ _)
    rw [e1]
    rw [vp_cell_q, vp_cell_q, arrV_store]
    congr 2
    funext q
    show updV _ _ _ q = va_rf (pq G (u2 (mP M) a i.toNatClampNeg (o + 1) a q))
    rw [u2_self]
    by_cases hq : q = i.toNatClampNeg
    · simp [updV, hq, pq, va_rf]
    · simp [updV, hq]
  next => exact h.elim
end MAKE
