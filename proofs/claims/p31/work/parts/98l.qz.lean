/-! ===== the questions by numbers ===== -/
/-- what stays while questions are asked -/
def CT (l : Launch) (M : Mm) (X : St) (L : List St) (T : List Int) : Prop := MF M X L T ∧ WfS X ∧ (mN M < 900000 ∧ l.stackTraces = false)
theorem apA_of {X : St} {a : Nat} {x : Ap} {v : Int} (hv : v = a) (hx : X.aps[a]? = some x) : apA X v = x ∧ isA X v := by
  subst hv
  have hl := lt_of hx
  refine ⟨?_, by omega, by omega⟩
  unfold apA
  rw [Int.toNat_natCast, List.getD_eq_getElem?_getD, hx]
  rfl
theorem isA_at {X : St} {v : Int} (h : isA X v) : ∃ (a : Nat) (x : Ap), v = a ∧ X.aps[a]? = some x := by
  have h0 := h.1
  have h1 := h.2
  obtain ⟨x, hx, -⟩ := ex_of (L := X.aps) (i := v.toNat) (by omega)
  exact ⟨v.toNat, x, by omega, hx⟩
section QZL
variable {l : Launch} {G : GT} {M : Mm} {Q : PQ} {X : St} {L : List St} {T : List Int} {v w u b : Int32} {a : Nat} {x : Ap} {k : Int}
theorem qz_one (c : CT l M X L T) (hv : v.toInt = a) (hx : X.aps[a]? = some x) (hw : w.toInt = k) (hk : 0 ≤ k ∧ k ≤ 11) (h : ∀ r : Int32, r.toInt = aVal X x k → Q (some (.int r)) M) : TrH l G Y_L_one0 hh_one [.ref 0, .int v, .int w] M Q := by
  obtain ⟨e1, e2⟩ := apA_of hv hx
  have e : vApp X v.toInt w.toInt = (0, aVal X x k) := by
    unfold vApp
    rw [pIf_n (fun c => c e2), hw, pIf_n (fun c => c hk), e1]
  exact lz_one c.1 c.2.1 c.2.2 (by rw [e]) fun r hr => h r (by rw [hr, e])
theorem qz_part {p : Nat} (c : CT l M X L T) (hv : v.toInt = a) (hx : X.aps[a]? = some x) (hp : w.toInt = p) (hp3 : p < 3) (hw : u.toInt = k) (hk : 0 ≤ k ∧ k ≤ 4) (h : ∀ r : Int32, r.toInt = pVal X x p k → Q (some (.int r)) M) : TrH l G Y_L_part0 hh_part [.ref 0, .int v, .int w, .int u] M Q := by
  obtain ⟨e1, e2⟩ := apA_of hv hx
  have e : vPart X v.toInt w.toInt u.toInt = (0, pVal X x p k) := by
    unfold vPart
    rw [pIf_n (fun c => c e2), hw, hp, pIf_n (fun c => c ⟨by omega, hk⟩), e1, Int.toNat_natCast]
  exact lz_part c.1 c.2.1 c.2.2 (by rw [e]) fun r hr => h r (by rw [hr, e])
theorem qz_entP {i : Int} {n : Nat} (c : CT l M X L T) (hv : v.toInt = a) (hx : X.aps[a]? = some x) (hi : u.toInt = i) (h0 : 0 ≤ i) (hn : b.toInt = n) (hn4 : n < 4) (h : ∀ r : Int32, r.toInt = evA x.pend i n → Q (some (.int r)) M) : TrH l G Y_L_entry0 hh_entry [.ref 0, .int v, .int 0, .int u, .int b] M Q := by
  obtain ⟨e1, e2⟩ := apA_of hv hx
  have e : vEntry X v.toInt (0 : Int32).toInt u.toInt b.toInt = (0, evA x.pend i n) := by
    unfold vEntry
    rw [pIf_n (fun c => c e2), hi, hn, pIf_n (fun c => c ⟨h0, by omega, by omega⟩), e1, Int.toNat_natCast]
    unfold eVal
    rw [if_neg (fun c => c tI_0)]
  exact lz_entry c.1 c.2.1 c.2.2 (by rw [e]) fun r hr => h r (by rw [hr, e])
theorem qz_entD {i : Int} {n : Nat} (c : CT l M X L T) (hv : v.toInt = a) (hx : X.aps[a]? = some x) (hi : u.toInt = i) (h0 : 0 ≤ i) (hn : b.toInt = n) (hn4 : n < 4) (h : ∀ r : Int32, r.toInt = evA x.dbt i n → Q (some (.int r)) M) : TrH l G Y_L_entry0 hh_entry [.ref 0, .int v, .int 1, .int u, .int b] M Q := by
  obtain ⟨e1, e2⟩ := apA_of hv hx
  have e : vEntry X v.toInt (1 : Int32).toInt u.toInt b.toInt = (0, evA x.dbt i n) := by
    unfold vEntry
    rw [pIf_n (fun c => c e2), hi, hn, pIf_n (fun c => c ⟨h0, by omega, by omega⟩), e1, Int.toNat_natCast]
    unfold eVal
    rw [if_pos (show ¬ (1 : Int32).toInt = 0 by decide)]
  exact lz_entry c.1 c.2.1 c.2.2 (by rw [e]) fun r hr => h r (by rw [hr, e])
theorem qz_whole (c : CT l M X L T) (hv : v.toInt = k) (hk : 0 ≤ k ∧ k ≤ 9) (h : ∀ r : Int32, r.toInt = wTold X T.length k → Q (some (.int r)) M) : TrH l G Y_L_whole0 hh_whole [.ref 0, .int v] M Q := by
  have e : vWhole X T.length v.toInt = (0, wTold X T.length k) := by
    unfold vWhole
    rw [hv, pIf_n (fun c => c hk)]
  exact lz_whole c.1 c.2.1 c.2.2 (by rw [e]) fun r hr => h r (by rw [hr, e])
theorem qz_mentor {m : Int} (c : CT l M X L T) (hv : v.toInt = m) (hm : 0 ≤ m ∧ m < X.ments.length) (hw : w.toInt = k) (hk : 0 ≤ k ∧ k ≤ 4) (h : ∀ r : Int32, r.toInt = mVal X m k → Q (some (.int r)) M) : TrH l G Y_L_mentor0 hh_mentor [.ref 0, .int v, .int w] M Q := by
  have e : vMentor X v.toInt w.toInt = (0, mVal X m k) := by
    unfold vMentor
    rw [hv, hw, pIf_n (fun c => c hm), pIf_n (fun c => c hk)]
  exact lz_mentor c.1 c.2.1 c.2.2 (by rw [e]) fun r hr => h r (by rw [hr, e])
theorem qz_full (c : CT l M X L T) (hv : v.toInt = a) (hx : X.aps[a]? = some x) (hw : w.toInt = k) (hk : 1 ≤ k ∧ k ≤ 12) (h : ∀ r : Int32, r.toInt = cdV X x k → Q (some (.int r)) M) : TrH l G Y_L_full0 hh_full [.ref 0, .int v, .int w] M Q := by
  obtain ⟨e1, e2⟩ := apA_of hv hx
  have e : vComp X v.toInt w.toInt = (0, cdV X x k) := by
    unfold vComp
    rw [pIf_n (fun c => c e2), hw, pIf_n (fun c => c hk), e1]
  exact lz_full c.1 c.2.1 c.2.2 (by rw [e]) fun r hr => h r (by rw [hr, e])
theorem qz_best (c : CT l M X L T) (hv : v.toInt = a) (hx : X.aps[a]? = some x) (h : ∀ r : Int32, r.toInt = lbL X x X.ments.length 0 (-1) → Q (some (.int r)) M) : TrH l G Y_L_best0 hh_best [.ref 0, .int v] M Q := by
  obtain ⟨e1, e2⟩ := apA_of hv hx
  have e : vBest X v.toInt = (0, lbL X x X.ments.length 0 (-1)) := by
    unfold vBest
    rw [pIf_n (fun c => c e2), e1]
  exact lz_best c.1 c.2.1 c.2.2 (by rw [e]) fun r hr => h r (by rw [hr, e])
theorem qz_next (c : CT l M X L T) (hv : v.toInt = a) (hx : X.aps[a]? = some x) (hw : w.toInt = k) (hk : 0 ≤ k ∧ k ≤ 9999) (h : ∀ r : Int32, r.toInt = ffrom x.rel (200 - k.toNat) k.toNat → Q (some (.int r)) M) : TrH l G Y_L_next0 hh_next [.ref 0, .int v, .int w] M Q := by
  obtain ⟨e1, e2⟩ := apA_of hv hx
  have e : vNext X v.toInt w.toInt = (0, ffrom x.rel (200 - k.toNat) k.toNat) := by
    unfold vNext
    rw [pIf_n (fun c => c e2), hw, pIf_n (fun c => c hk), e1]
  exact lz_next c.1 c.2.1 c.2.2 (by rw [e]) fun r hr => h r (by rw [hr, e])
theorem qz_why {m : Int} (c : CT l M X L T) (hv : v.toInt = a) (hx : X.aps[a]? = some x) (hw : w.toInt = m) (hm : 0 ≤ m ∧ m < X.ments.length) (h : ∀ r : Int32, r.toInt = obs X x m → Q (some (.int r)) M) : TrH l G Y_L_why0 hh_why [.ref 0, .int v, .int w] M Q := by
  obtain ⟨e1, e2⟩ := apA_of hv hx
  have e : vReason X v.toInt w.toInt = (0, obs X x m) := by
    unfold vReason
    rw [hw, pIf_n (fun c => c ⟨e2, hm⟩), e1]
  exact lz_why c.1 c.2.1 c.2.2 (by rw [e]) fun r hr => h r (by rw [hr, e])
noncomputable def dbyV (X : St) (x z : Ap) : Int := pIf (cExc X x z) ((x.pend.length - cWith z.mentor x.pend) + (z.pend.length - cWith x.mentor z.pend)) (-1)
theorem qz_doubted {d : Nat} {z : Ap} (c : CT l M X L T) (hv : v.toInt = a) (hx : X.aps[a]? = some x) (hw : w.toInt = d) (hz : X.aps[d]? = some z) (h : ∀ r : Int32, r.toInt = dbyV X x z → Q (some (.int r)) M) : TrH l G Y_L_doubted0 hh_doubted [.ref 0, .int v, .int w] M Q := by
  obtain ⟨e1, e2⟩ := apA_of hv hx
  obtain ⟨e3, e4⟩ := apA_of hw hz
  have e : vDby X v.toInt w.toInt = (0, dbyV X x z) := by
    unfold vDby
    rw [pIf_n (fun c => c ⟨e2, e4⟩), e1, e3]
    rfl
  exact lz_doubted c.1 c.2.1 c.2.2 (by rw [e]) fun r hr => h r (by rw [hr, e])
end QZL
