/-! ===== making: rows of rows; constructors that are called ===== -/
/-- a row of rows of ints: it, then its rows -/
def mnM (M : Mm) (N : Nat) : Mm := (mN M + 1 + N, (fun b j => if mN M ≤ b then 0 else mI M b j), (fun b j => if mN M ≤ b then 0 else mL M b j), (fun b j => if b = mN M then (if j < N then mN M + 1 + j + 1 else 0) else if mN M ≤ b then 0 else mP M b j))
section MAKE2
variable {l : Launch} {G : GT} {F : FX} {Y : YT} {Q : PQ} {QX : PX} {k n pc : Nat} {K Kt : KT}
def I_mnA (v w : Int32) (N D : Nat) (K : KT) : KT := fun L st M => match st with
  | .int y :: .int x :: r => (x = v ∧ y = w) ∧ KX (mN M) = (4, 2, N) ∧ (∀ j, j < N → KX (mN M + 1 + j) = (2, 0, D)) ∧ mN M + 1 + N ≤ 1098 ∧ K L (.ref (mN M) :: r) (mnM M N)
  | _ => False
theorem r_mnA {N D ix : Nat} {v w : Int32} (hK : Le K (Wj false l G F Y Q QX (k + 1 + N) (n + N + N * D) (pc + 4))) (d : decode (yB Y) pc = .ok (.multianewarray ix 2, 4)) (hcl : Cond.classLink (yN Y).cls ix "[[I" ∈ WS) (hN : v.toInt.toNat = N) (hD : w.toInt.toNat = D) (hv0 : 0 ≤ v.toInt) (hw0 : 0 ≤ w.toInt) (hb : N ≤ 100000 ∧ D ≤ 100000) (hk : k + 1 + N ≤ yC Y ∧ n + N + N * D ≤ yS Y) :
    Le (I_mnA v w N D K) (Wj false l G F Y Q QX k n pc) := by
  intro L st M h C9
  obtain ⟨r, rfl, hx, hxr, hm6, h⟩ : ∃ r, st = .int w :: .int v :: r ∧ KX (mN M) = (4, 2, N) ∧ (∀ j, j < N → KX (mN M + 1 + j) = (2, 0, D)) ∧ mN M + 1 + N ≤ 1098 ∧ K L (.ref (mN M) :: r) (mnM M N) := by
    unfold I_mnA at h
    split at h
    next y x r => exact ⟨r, by rw [h.1.1, h.1.2], h.2⟩
    next => exact h.elim
  obtain ⟨p, e, s, m, args, below, meth, c⟩ := F
  intro H locs ls hR hB hz hlo hv
  have hm : mN M < 1098 := kx_lt' hx (by decide)
  have hre := rh_new hR hm
  have hzf : ZF G s s.heap := C9.zz
  have hnw : nwZ s := hzf.2.1.2.2.2
  obtain ⟨cA, cy, cc, kA, kC, g1, g2, g3, g4, g5, g6⟩ := hnw.2.2.2.2
  have hcA : cA = gA G 2 := Option.some.inj (g1.symm.trans (C9.ka.2 2 _ rfl).2)
  have hcy : cy = gA G 0 := Option.some.inj (g4.symm.trans (C9.ka.2 0 _ rfl).2)
  subst hcA hcy
  have hN' : v.toNatClampNeg = N := hN
  have hD' : w.toNatClampNeg = D := hD
  have hx1 := hk.1
  have hx2 := hk.2
  refine rw_rule C9.ex C9.by (own := (yN Y).cls) (ix := ix) C9.ow (C9.ws _ hcl) g1 g2 g3 g5 g6 d (fun q => by have := i_lt.mp q; rw [tI_0] at this; omega) (fun q => by have := i_lt.mp q; rw [tI_0] at this; omega) hN' hD' (by omega) (by omega) (by show k + (1 + N) ≤ yC Y; omega) (by show n + (N + N * D) ≤ yS Y; omega) fun U f1 f2 f5 f6 => ?_
  have h1 := hR.1
  have hR' : RepH false G (mnM M N) U := by
    refine ⟨by rw [f1, h1]; show gB G + mN M + 1 + N = gB G + (mN M + 1 + N); omega, fun a ha hka => ?_, fun hz => (by cases hz), Nat.lt_of_le_of_lt hm6 (by decide)⟩
    have ha' : a < mN M + 1 + N := ha
    by_cases e1 : a < mN M
    · have hc : cellE G (mnM M N) a = cellE G M a := cellE_congr (funext fun j => if_neg (by omega)) (funext fun j => if_neg (by omega)) (funext fun j => by
        show (if a = mN M then _ else if mN M ≤ a then 0 else mP M a j) = _
        rw [if_neg (by omega), if_neg (by omega)])
      rw [hc]
      exact (hR.2.1 a e1 hka).kept (f5 _ (by rw [h1]; omega))
    · by_cases e2 : a = mN M
      · subst e2
        rw [cellE_4 hx, ← h1]
        show U[H.size]? = some (vp_cell _ _)
        rw [f2, vp_cell_q]
        refine congrArg some (congrArg (arrV (gA G 2) N) (funext fun j => ?_))
        show (if j < N then Value.ref (H.size + 1 + j) else Value.null) = va_rf (pq G (if mN M = mN M then (if j < N then mN M + 1 + j + 1 else 0) else _))
        rw [if_pos rfl]
        by_cases hj : j < N
        · rw [if_pos hj, if_pos hj]
          show Value.ref (H.size + 1 + j) = Value.ref (rh G (mN M + 1 + j))
          rw [rh_lt (a := mN M + 1 + j) (by omega), h1]
          rw [show gB G + mN M + 1 + j = gB G + (mN M + 1 + j) by omega]
        · rw [if_neg hj, if_neg hj]
          rfl
      · obtain ⟨j, rfl⟩ : ∃ j, a = mN M + 1 + j := ⟨a - (mN M + 1), by omega⟩
        have hj : j < N := by omega
        rw [cellE_2 (hxr j hj)]
        show U[gB G + (mN M + 1 + j)]? = some (vp_cell _ _)
        rw [show gB G + (mN M + 1 + j) = H.size + 1 + j by rw [h1]; omega, f6 j hj, vp_cell_i]
        refine congrArg some (congrArg (arrV (gA G 0) D) (funext fun q => ?_))
        show Value.int 0 = Value.int (if mN M ≤ mN M + 1 + j then 0 else _)
        rw [if_pos (by omega)]
  have hw := hK L (.ref (mN M) :: r) (mnM M N) h C9 U locs ls hR' (fun q hq => (f5 q (by rw [h1]; omega)).trans (hB q hq)) (by rw [f1]; omega) hlo hv
  rw [List.map_cons, show tv G (.ref (mN M)) = .ref H.size by show Value.ref (rh G (mN M)) = _; rw [hre]] at hw
  exact hw
/-- a constructor that is called -/
def I_ci (T : List Value → Mm → PQ → Prop) (K : KT) : KT := fun L st M => match st with
  | .ref o :: r => (r.map Value.category).sum ≤ 8 ∧ T [.ref o] M (fun v M' => K L (v.toList ++ r) M')
  | _ => False
theorem r_ci {Yc : YT} {ix : Nat} (hK : Le K (Wj false l G F Y Q QX (k + yC Yc) (n + yS Yc) (pc + 3))) (d : decode (yB Y) pc = .ok (.invokespecial ix, 3)) (ok : okC Yc 0) (hr : yR Yc = none) (hn : (yN Yc).name = "<init>") (hi : Cond.instanceMethod (yN Yc) ∈ WS) (hl : Cond.methodLink (yN Y).cls ix (yN Yc) ∈ WS) (hf : fit Yc Y) (hk : k + yC Yc ≤ yC Y ∧ n + yS Yc ≤ yS Y) :
    Le (I_ci (fun As M Q => Tr false l G Yc As M Q NX) K) (Wj false l G F Y Q QX k n pc) := by
  intro L st M h
  unfold I_ci at h
  split at h
  next o r =>
    intro C
    obtain ⟨p, e, s, m, args, below, meth, c⟩ := F
    intro H locs ls hR hB hz hlo hv
    obtain ⟨hcat, h⟩ := h
    have hcb := okC_cb C ok hl hf
    rw [hr] at hcb
    refine vj_call (Yc := Yc) (rest := r) hK C hB hz hlo hv (run_x (va_runI (As := []) ⟨C.ex, C.by, C.ml, C.ow, C.ws⟩ (tr_met h) ⟨hcb, hn, C.ws _ hi⟩ ⟨sok_blind, fun U hU hW => ⟨rfl, sok_moved C.go C.ka C.zz hR hB hU hW⟩⟩ rfl rfl hv.1 rfl ?_ d hk)) hk.1 hk.2
    show 2 * 0 + _ ≤ 8
    rw [cat_sum]
    omega
  next => exact h.elim
theorem r_ciN {Yc : YT} {ix : Nat} (hK : Le K (Wj false l G F Y Q QX (k + yC Yc) (n + yS Yc) (pc + 3))) (d : decode (yB Y) pc = .ok (.invokespecial ix, 3)) (ok : okC Yc 0) (hr : yR Yc = none) (hn : (yN Yc).name = "<init>") (hi : Cond.instanceMethod (yN Yc) ∈ WS) (hl : ((yN Y).cls, ix, yN Yc) ∈ nestW) (hf : fit Yc Y) (hk : k + yC Yc ≤ yC Y ∧ n + yS Yc ≤ yS Y) :
    Le (I_ci (fun As M Q => Tr false l G Yc As M Q NX) K) (Wj false l G F Y Q QX k n pc) := by
  obtain ⟨cy, cb, cl9, cr, rest9⟩ := Yc
  have hr' : cr = none := hr
  subst hr'
  intro L st M h
  unfold I_ci at h
  split at h
  next o r =>
    intro C
    obtain ⟨p, e, s, m, args, below, meth, c⟩ := F
    intro H locs ls hR hB hz hlo hv
    obtain ⟨hcat, h⟩ := h
    have hnw := (show ZF G s s.heap from C.zz).1 _ hl
    have hcn := va_cnB (R := yRoom Y) (rm := yRoom (cy, cb, cl9, none, rest9)) (mc := yC (cy, cb, cl9, none, rest9)) (ms := yS (cy, cb, cl9, none, rest9)) 0 C.ws (ws_gi ok.1) rfl rfl rfl hnw (C.ws _ ok.2.1) ok.2.2 hf
    refine vj_call (Yc := (cy, cb, cl9, none, rest9)) (rest := r) hK C hB hz hlo hv (run_x (va_runIN (As := []) ⟨C.ex, C.by, C.ml, C.ow, C.ws⟩ (tr_met h) ⟨hcn, hn, C.ws _ hi⟩ ⟨sok_blind, fun U hU hW => ⟨rfl, sok_moved C.go C.ka C.zz hR hB hU hW⟩⟩ rfl rfl hv.1 rfl ?_ d hk)) hk.1 hk.2
    show 2 * 0 + _ ≤ 8
    rw [cat_sum]
    omega
  next => exact h.elim
end MAKE2
