/-! ===== the states of the property: what holds after n operations ===== -/
def LW (X : St) (n : Nat) : Prop := Wn X n ∧ PI X ∧ HX X ≤ 30 * (n : Int) ∧ X.day ≤ (n : Int) ∧ X.needs.length = 3 ∧ X.ments.length = 3 ∧ X.aps.length = 5
theorem LW.up {X : St} {n : Nat} (h : LW X n) : LW X (n + 1) := ⟨h.1.mono (by omega), h.2.1, by have := h.2.2.1; omega, by have := h.2.2.2.1; omega, h.2.2.2.2⟩
theorem LW.setA {X : St} {n a : Nat} {x y : Ap} (h : LW X n) (hx : X.aps[a]? = some x) (hw : Wn (X.setA a y) (n + 1)) (pa : PA X.day y) (hh : hrs y ≤ hrs x + 30) : LW (X.setA a y) (n + 1) :=
  ⟨hw, h.2.1.setA pa, by rw [HX_set hx]; have := h.2.2.1; omega, by have := h.2.2.2.1; show X.day ≤ _; omega, h.2.2.2.2.1, h.2.2.2.2.2.1, by show (X.aps.set a y).length = 5; rw [List.length_set]; exact h.2.2.2.2.2.2⟩
theorem st_at {X : St} {a : Nat} {x y : Ap} (hx : X.aps[a]? = some x) : (X.setA a y).aps[a]? = some y := by
  show (X.aps.set a y)[a]? = _
  rw [List.getElem?_set_self (lt_of hx)]
theorem LW.dn {X : St} {n a p : Nat} {x : Ap} (h : LW X n) (hx : X.aps[a]? = some x) (hp : p < 3) : 0 ≤ x.done p ∧ x.done p ≤ 30 * (n : Int) := by
  have h1 := hx_done h.1.1 hx hp
  have h2 := h.2.2.1
  omega
/-! log -/
theorem rLog_ok {X : St} {a : Nat} {x : Ap} {p h : Int} (hx : X.aps[a]? = some x) (hp : 0 ≤ p ∧ p ≤ 2) (hh : 1 ≤ h ∧ h ≤ 12) (hc : canW X x h) : rLog X ((a : Nat) : Int) p h = (0, X.setA a (aWork x p h X.day), (x.pend.length : Int) + 1) := by
  obtain ⟨e1, e2⟩ := apA_of (v := ((a : Nat) : Int)) rfl hx
  unfold rLog
  rw [pIf_n (fun c => c e2), pIf_n (fun c => c ⟨hp, hh⟩), e1, pIf_n (fun c => c hc), Int.toNat_natCast]
theorem rLog_no {X : St} {a : Nat} {x : Ap} {p h : Int} (hx : X.aps[a]? = some x) (hp : 0 ≤ p ∧ p ≤ 2) (hh : 1 ≤ h ∧ h ≤ 12) (hc : ¬ canW X x h) : (rLog X ((a : Nat) : Int) p h).1 = 3 := by
  obtain ⟨e1, e2⟩ := apA_of (v := ((a : Nat) : Int)) rfl hx
  unfold rLog
  rw [pIf_n (fun c => c e2), pIf_n (fun c => c ⟨hp, hh⟩), e1, pIf_p hc]
theorem lw_log {X : St} {n a : Nat} {x : Ap} {p h : Int} (w : LW X n) (hn : n ≤ 1000) (hx : X.aps[a]? = some x) (hp : 0 ≤ p ∧ p ≤ 2) (hh : 1 ≤ h ∧ h ≤ 12) (hc : canW X x h) : LW (X.setA a (aWork x p h X.day)) (n + 1) := by
  have hw := wn_log (a := ((a : Nat) : Int)) (p := p) (d := h) (by omega) w.1
  rw [rLog_ok hx hp hh hc] at hw
  refine w.setA hx hw ((w.2.1 x (List.mem_of_getElem? hx)).work hh.1 (w.1.1.at hx).td.1) ?_
  rw [hrs_work]
  omega
/-! the end of a day -/
theorem rEnd_ok {X : St} (h : ¬ X.day = 9999) : rEnd X = (0, X.pass, pdN X.day X.aps) := by
  unfold rEnd
  rw [pIf_n h]
theorem pdN_D (d : Int) : ∀ K : List Ap, sumA fD (K.map (pdA d)) = sumA fD K + pdN d K
  | [] => by simp [ap_done, ap_pend, ap_dbt, ap_rel, ap_wrk, ap_trade, ap_mentor, ap_refused, ap_wdays, ap_today, ap_moves, st_day, st_needs, st_ments, st_aps, ap_eta, st_eta, sumA, pdN]
  | x :: K => by
    have ih := pdN_D d K
    rw [List.map_cons, sumA, sumA, pdN, ih]
    have e : fD (pdA d x) = fD x + (x.pend.filter (fun e => decide (e.2.2.1 ≤ d - 14))).length := by
      show ((x.dbt ++ x.pend.filter (fun e => decide (e.2.2.1 ≤ d - 14))).length : Int) = x.dbt.length + _
      rw [List.length_append]
      omega
    omega
theorem lw_end {X : St} {n : Nat} (w : LW X n) (hn : n ≤ 1000) : LW X.pass (n + 1) := by
  have hd := w.2.2.2.1
  have hw := wn_end w.1
  rw [rEnd_ok (by omega)] at hw
  refine ⟨hw, w.2.1.pass, ?_, ?_, w.2.2.2.2.1, w.2.2.2.2.2.1, ?_⟩
  · have e : HX X.pass = HX X := sumA_map (hrs_pd X.day) X.aps
    rw [e]
    have := w.2.2.1
    omega
  · show X.day + 1 ≤ _
    omega
  · show (X.aps.map (pdA X.day)).length = 5
    rw [List.length_map]
    exact w.2.2.2.2.2.2
/-! confirming -/
theorem hPart_A (p : Int) : ∀ K : List En, (∀ e ∈ K, EW e) → hPart p K ≤ hAll K
  | [], _ => by simp [ap_done, ap_pend, ap_dbt, ap_rel, ap_wrk, ap_trade, ap_mentor, ap_refused, ap_wdays, ap_today, ap_moves, st_day, st_needs, st_ments, st_aps, ap_eta, st_eta, hPart, hAll]
  | e :: K, h => by
    have ih := hPart_A p K fun z hz => h z (List.mem_cons_of_mem _ hz)
    have he := (h e (List.mem_cons_self ..)).2.1
    rw [hPart, hAll]
    split <;> omega
theorem cCf_ok {X : St} {m : Int} : ∀ (K : List Ap) (k : Int), (∀ x ∈ K, WfA X x ∧ ∀ p, p < 3 → x.done p ≤ 1000000) → cCf m k K
  | [], _, _ => by simp [ap_done, ap_pend, ap_dbt, ap_rel, ap_wrk, ap_trade, ap_mentor, ap_refused, ap_wdays, ap_today, ap_moves, st_day, st_needs, st_ments, st_aps, ap_eta, st_eta, cCf]
  | x :: K, k, h => by
    have hK : ∀ x ∈ K, WfA X x ∧ ∀ p, p < 3 → x.done p ≤ 1000000 := fun z hz => h z (List.mem_cons_of_mem _ hz)
    obtain ⟨w, hd⟩ := h x (List.mem_cons_self ..)
    rw [cCf]
    split
    · refine ⟨fun p hp => ?_, cCf_ok K _ hK⟩
      have h1 := (w.dn p hp).1
      have h2 := hd p hp
      have h3 := hF_tk x.mentor ((p : Nat) : Int) x.pend k
      have ht : ∀ e ∈ tkT x.mentor k x.pend, EW e := fun e he => w.ep e (tkT_mem _ _ _ _ he)
      have h4 := hPart_0 ((p : Nat) : Int) _ ht
      have h5 := hPart_A ((p : Nat) : Int) _ ht
      have h6 := hAll_take x.mentor x.pend k
      have h7 := hAll_0 (tkR x.mentor k x.pend) fun e he => w.ep e ((tkR_sub _ _ _).subset he)
      have h8 := hAll_0 x.pend w.ep
      have ln := w.ln
      unfold cAdd dIn
      rw [if_pos (by omega), Int.toNat_natCast, h3]
      omega
    · exact cCf_ok K _ hK
theorem pwN_0 (m : Int) : ∀ K : List Ap, 0 ≤ pwN m K
  | [] => Int.le_refl _
  | x :: K => by
    have ih := pwN_0 m K
    have hb := cWith_b m x.pend
    rw [pwN]
    split <;> omega
theorem cfN_min (m : Int) : ∀ (K : List Ap) (k : Int), 0 ≤ k → cfN m k K = min k (pwN m K)
  | [], k, hk => by
    simp only [ap_done, ap_pend, ap_dbt, ap_rel, ap_wrk, ap_trade, ap_mentor, ap_refused, ap_wdays, ap_today, ap_moves, st_day, st_needs, st_ments, st_aps, ap_eta, st_eta, cfN, pwN]
    omega
  | x :: K, k, hk => by
    rw [cfN, pwN]
    have hb := cWith_b m x.pend
    have hp := pwN_0 m K
    split
    next g =>
      have h1 := tk_len m x.pend k hk
      have ih := cfN_min m K (k - (tkT m k x.pend).length) (by omega)
      rw [ih]
      omega
    next g =>
      have ih := cfN_min m K k hk
      rw [ih]
      omega
theorem tk_sum (m : Int) : ∀ (K : List En) (k : Int), (tkT m k K).length + (tkR m k K).length = K.length
  | [], k => by simp [ap_done, ap_pend, ap_dbt, ap_rel, ap_wrk, ap_trade, ap_mentor, ap_refused, ap_wdays, ap_today, ap_moves, st_day, st_needs, st_ments, st_aps, ap_eta, st_eta, tkT, tkR]
  | e :: K, k => by
    rw [tkT, tkR]
    split
    · simp
    · split
      · have := tk_sum m K (k - 1)
        simp only [ap_done, ap_pend, ap_dbt, ap_rel, ap_wrk, ap_trade, ap_mentor, ap_refused, ap_wdays, ap_today, ap_moves, st_day, st_needs, st_ments, st_aps, ap_eta, st_eta, List.length_cons]
        omega
      · have := tk_sum m K k
        simp only [ap_done, ap_pend, ap_dbt, ap_rel, ap_wrk, ap_trade, ap_mentor, ap_refused, ap_wdays, ap_today, ap_moves, st_day, st_needs, st_ments, st_aps, ap_eta, st_eta, List.length_cons]
        omega
theorem cfL_P (m : Int) : ∀ (K : List Ap) (k : Int), sumA fP (cfL m k K) = sumA fP K - cfN m k K
  | [], k => by simp [ap_done, ap_pend, ap_dbt, ap_rel, ap_wrk, ap_trade, ap_mentor, ap_refused, ap_wdays, ap_today, ap_moves, st_day, st_needs, st_ments, st_aps, ap_eta, st_eta, cfL, cfN, sumA]
  | x :: K, k => by
    rw [cfL, cfN]
    split
    next g =>
      have h1 := tk_sum m x.pend k
      rw [sumA, sumA, cfL_P m K]
      have e : fP (aTake x k) = (tkR x.mentor k x.pend).length := rfl
      have e2 : fP x = x.pend.length := rfl
      rw [e, e2, g]
      omega
    next g =>
      rw [sumA, sumA, cfL_P m K]
      omega
theorem rConf_ok {X : St} {m k : Int} (hm : isM X m) (hk : 1 ≤ k ∧ k ≤ 99) (hc : cCf m k X.aps) : rConf X m k = (0, X.conf m.toNat (mt X m) k, cfN m k X.aps) := by
  unfold rConf
  rw [pIf_n (fun c => c hm), pIf_n (fun c => c hk), pIf_n (fun c => c hc)]
theorem cf_ok {X : St} {n : Nat} {m k : Int} (w : LW X n) (hn : n ≤ 1000) : cCf m k X.aps := cCf_ok (X := X) X.aps k fun x hx => ⟨w.1.1.ab x hx, fun p hp => by
  obtain ⟨a, ha⟩ := List.mem_iff_getElem?.mp hx
  have := (w.dn ha hp).2
  omega⟩
theorem cn_h {X : St} {m k : Int} (w : WfS X) (hm : 0 ≤ m) : HX (X.conf m.toNat (mt X m) k) = HX X := by
  show sumA hrs (cfL ((m.toNat : Nat) : Int) k X.aps) = _
  exact cfL_h (X := X) _ _ w.ab
theorem lw_conf {X : St} {n : Nat} {m k : Int} (w : LW X n) (hn : n ≤ 1000) (hm : isM X m) (hk : 1 ≤ k ∧ k ≤ 99) : LW (X.conf m.toNat (mt X m) k) (n + 1) := by
  have hw := wn_conf (m := m) (k := k) (by omega) w.1
  rw [rConf_ok hm hk (cf_ok w hn)] at hw
  refine ⟨hw, w.2.1.conf, ?_, ?_, w.2.2.2.2.1, ?_, ?_⟩
  · rw [cn_h w.1.1 hm.1]
    have := w.2.2.1
    omega
  · show X.day ≤ _
    have := w.2.2.2.1
    omega
  · show (X.ments.set m.toNat _).length = 3
    rw [List.length_set]
    exact w.2.2.2.2.2.1
  · show (cfL ((m.toNat : Nat) : Int) k X.aps).length = 5
    rw [cfL_len]
    exact w.2.2.2.2.2.2
theorem cn_m {X : St} {m k : Int} (hm : isM X m) : (mt (X.conf m.toNat (mt X m) k) m).2.2 = (mt X m).2.2 + cfN m k X.aps := by
  have h1 := hm.2
  have h0 := hm.1
  have e : ((m.toNat : Nat) : Int) = m := by omega
  show ((X.ments.set m.toNat (addC (mt X m) (cfN ((m.toNat : Nat) : Int) k X.aps))).getD m.toNat (0, 0, 0)).2.2 = _
  rw [List.getD_eq_getElem?_getD, List.getElem?_set_self (by omega), e]
  rfl
/-! settling -/
theorem rSettle_ok {X : St} {n a : Nat} {x : Ap} {b : Int} {e : En} {D : List En} (w : LW X n) (hn : n ≤ 1000) (hx : X.aps[a]? = some x) (hd : x.dbt = e :: D) : rSettle X ((a : Nat) : Int) b = (0, X.setA a (aSet x b e D), e.2.1) := by
  obtain ⟨e1, e2⟩ := apA_of (v := ((a : Nat) : Int)) rfl hx
  have hew := (w.1.1.at hx).ed e (by rw [hd]; exact List.mem_cons_self ..)
  obtain ⟨q1, q2, q3, q4⟩ := hew
  have hc : cSet x (¬ b = 0) := by
    unfold cSet
    rw [hd]
    intro _
    have h1 := w.dn hx (p := e.1.toNat) (by omega)
    unfold cAdd dIn
    rw [if_pos (by omega)]
    omega
  unfold rSettle
  rw [pIf_n (fun c => c e2), e1, pIf_n (fun c => c hc), hd, Int.toNat_natCast]
  rfl
theorem rSettle_no {X : St} {a : Nat} {x : Ap} {b : Int} (hx : X.aps[a]? = some x) (hd : x.dbt = []) : (rSettle X ((a : Nat) : Int) b).1 = 2 := by
  obtain ⟨e1, e2⟩ := apA_of (v := ((a : Nat) : Int)) rfl hx
  have hc : ¬ cSet x (¬ b = 0) := by
    unfold cSet
    rw [hd]
    exact id
  unfold rSettle
  rw [pIf_n (fun c => c e2), e1, pIf_p hc]
theorem hrs_set {x : Ap} {b : Int} {e : En} {D : List En} (hd : x.dbt = e :: D) (he : EW e) : hrs (aSet x b e D) = hrs x := by
  obtain ⟨q1, q2, q3, q4⟩ := he
  have h1 : hAll x.dbt = e.2.1 + hAll D := by rw [hd, hAll]
  unfold aSet
  split
  · show hAll x.pend + hAll D + (x.refused + e.2.1) + (x.done 0 + x.done 1 + x.done 2) = hAll x.pend + hAll x.dbt + x.refused + (x.done 0 + x.done 1 + x.done 2)
    omega
  · show hAll x.pend + hAll D + x.refused + ((if e.1 = ((0 : Nat) : Int) then x.done 0 + e.2.1 else x.done 0) + (if e.1 = ((1 : Nat) : Int) then x.done 1 + e.2.1 else x.done 1) + (if e.1 = ((2 : Nat) : Int) then x.done 2 + e.2.1 else x.done 2)) = hAll x.pend + hAll x.dbt + x.refused + (x.done 0 + x.done 1 + x.done 2)
    have : e.1 = 0 ∨ e.1 = 1 ∨ e.1 = 2 := by omega
    rcases this with g | g | g <;> rw [g] <;> simp <;> omega
theorem lw_settle {X : St} {n a : Nat} {x : Ap} {b : Int} {e : En} {D : List En} (w : LW X n) (hn : n ≤ 1000) (hx : X.aps[a]? = some x) (hd : x.dbt = e :: D) : LW (X.setA a (aSet x b e D)) (n + 1) ∧ HX (X.setA a (aSet x b e D)) = HX X := by
  have he := (w.1.1.at hx).ed e (by rw [hd]; exact List.mem_cons_self ..)
  have hw := wn_settle (a := ((a : Nat) : Int)) (b := b) (by omega) w.1
  rw [rSettle_ok w hn hx hd] at hw
  have hh := hrs_set (b := b) hd he
  refine ⟨w.setA hx hw ?_ (by omega), by rw [HX_set hx, hh]; omega⟩
  obtain ⟨h1, h2, h3, h4⟩ := w.2.1 x (List.mem_of_getElem? hx)
  have h3' : ∀ f ∈ D, f.2.2.1 ≤ X.day := fun f hf => h3 f (by rw [hd]; exact List.mem_cons_of_mem _ hf)
  unfold aSet
  split
  · exact ⟨h1, h2, h3', h4⟩
  · exact ⟨h1, h2, h3', h4⟩
/-! doubting -/
theorem rDoubt_ok {X : St} {a : Nat} {x : Ap} {e : En} {D : List En} (hx : X.aps[a]? = some x) (hm : ¬ x.mentor = -1) (hd : x.pend = e :: D) : rDoubt X ((a : Nat) : Int) = (0, X.setA a (mkAp (Ap.done (x)) (D) (x.dbt ++ [e]) (Ap.rel (x)) (Ap.wrk (x)) (Ap.trade (x)) (Ap.mentor (x)) (Ap.refused (x)) (Ap.wdays (x)) (Ap.today (x)) (Ap.moves (x))), e.2.1) := by
  obtain ⟨e1, e2⟩ := apA_of (v := ((a : Nat) : Int)) rfl hx
  unfold rDoubt
  rw [pIf_n (fun c => c e2), e1, pIf_n (fun c => c.elim hm (fun h => by rw [hd] at h; cases h)), hd, Int.toNat_natCast]
  rfl
theorem rDoubt_no {X : St} {a : Nat} {x : Ap} (hx : X.aps[a]? = some x) (hm : x.mentor = -1 ∨ x.pend = []) : (rDoubt X ((a : Nat) : Int)).1 = 2 := by
  obtain ⟨e1, e2⟩ := apA_of (v := ((a : Nat) : Int)) rfl hx
  unfold rDoubt
  rw [pIf_n (fun c => c e2), e1, pIf_p hm]
theorem lw_doubt {X : St} {n a : Nat} {x : Ap} {e : En} {D : List En} (w : LW X n) (hx : X.aps[a]? = some x) (hm : ¬ x.mentor = -1) (hd : x.pend = e :: D) : LW (X.setA a (mkAp (Ap.done (x)) (D) (x.dbt ++ [e]) (Ap.rel (x)) (Ap.wrk (x)) (Ap.trade (x)) (Ap.mentor (x)) (Ap.refused (x)) (Ap.wdays (x)) (Ap.today (x)) (Ap.moves (x)))) (n + 1) ∧ HX (X.setA a (mkAp (Ap.done (x)) (D) (x.dbt ++ [e]) (Ap.rel (x)) (Ap.wrk (x)) (Ap.trade (x)) (Ap.mentor (x)) (Ap.refused (x)) (Ap.wdays (x)) (Ap.today (x)) (Ap.moves (x)))) = HX X := by
  have hw := wn_doubt (a := ((a : Nat) : Int)) w.1
  rw [rDoubt_ok hx hm hd] at hw
  have h1 : hAll x.pend = e.2.1 + hAll D := by rw [hd, hAll]
  have h2 := hAll_app x.dbt [e]
  have h3 : hAll [e] = e.2.1 := by simp [ap_done, ap_pend, ap_dbt, ap_rel, ap_wrk, ap_trade, ap_mentor, ap_refused, ap_wdays, ap_today, ap_moves, st_day, st_needs, st_ments, st_aps, ap_eta, st_eta, hAll]
  have hh : hrs (mkAp (Ap.done (x)) (D) (x.dbt ++ [e]) (Ap.rel (x)) (Ap.wrk (x)) (Ap.trade (x)) (Ap.mentor (x)) (Ap.refused (x)) (Ap.wdays (x)) (Ap.today (x)) (Ap.moves (x))) = hrs x := by
    show hAll D + hAll (x.dbt ++ [e]) + x.refused + (x.done 0 + x.done 1 + x.done 2) = hAll x.pend + hAll x.dbt + x.refused + (x.done 0 + x.done 1 + x.done 2)
    omega
  refine ⟨w.setA hx hw ?_ (by omega), by rw [HX_set hx, hh]; omega⟩
  obtain ⟨g1, g2, g3, g4⟩ := w.2.1 x (List.mem_of_getElem? hx)
  rw [hd] at g1 g2
  refine ⟨(List.pairwise_cons.mp g1).2, fun f hf => g2 f (List.mem_cons_of_mem _ hf), fun f hf => ?_, g4⟩
  have hf : f ∈ x.dbt ++ [e] := hf
  rcases List.mem_append.mp hf with h | h
  · exact g3 f h
  · rw [List.mem_singleton] at h
    subst h
    exact (g2 f (List.mem_cons_self ..)).1
/-! moving, leaving, releases, credits -/
theorem lw_move {X : St} {n a : Nat} {x : Ap} {m : Int} (w : LW X n) (hn : n ≤ 1000) (hx : X.aps[a]? = some x) (hm : isM X m) (h : obs X x m = 0) : LW (X.setA a (aLead x m)) (n + 1) ∧ HX (X.setA a (aLead x m)) = HX X := by
  have hw := wn_move (a := ((a : Nat) : Int)) (m := m) (by omega) w.1
  rw [rMove_ok hx hm h] at hw
  have hh := hrs_lead x m
  exact ⟨w.setA hx hw ((w.2.1 x (List.mem_of_getElem? hx)).lead m) (by omega), by rw [HX_set hx, hh]; omega⟩
theorem rLeave_ok {X : St} {a : Nat} {x : Ap} (hx : X.aps[a]? = some x) (hm : ¬ x.mentor = -1) : rLeave X ((a : Nat) : Int) = (0, X.setA a (mkAp (Ap.done (x)) (Ap.pend (x)) (Ap.dbt (x)) (Ap.rel (x)) (Ap.wrk (x)) (Ap.trade (x)) (-1) (Ap.refused (x)) (Ap.wdays (x)) (Ap.today (x)) (Ap.moves (x))), x.mentor) := by
  obtain ⟨e1, e2⟩ := apA_of (v := ((a : Nat) : Int)) rfl hx
  unfold rLeave
  rw [pIf_n (fun c => c e2), e1, pIf_n hm, Int.toNat_natCast]
theorem rLeave_no {X : St} {a : Nat} {x : Ap} (hx : X.aps[a]? = some x) (hm : x.mentor = -1) : (rLeave X ((a : Nat) : Int)).1 = 2 := by
  obtain ⟨e1, e2⟩ := apA_of (v := ((a : Nat) : Int)) rfl hx
  unfold rLeave
  rw [pIf_n (fun c => c e2), e1, pIf_p hm]
theorem lw_leave {X : St} {n a : Nat} {x : Ap} (w : LW X n) (hx : X.aps[a]? = some x) (hm : ¬ x.mentor = -1) : LW (X.setA a (mkAp (Ap.done (x)) (Ap.pend (x)) (Ap.dbt (x)) (Ap.rel (x)) (Ap.wrk (x)) (Ap.trade (x)) (-1) (Ap.refused (x)) (Ap.wdays (x)) (Ap.today (x)) (Ap.moves (x)))) (n + 1) ∧ HX (X.setA a (mkAp (Ap.done (x)) (Ap.pend (x)) (Ap.dbt (x)) (Ap.rel (x)) (Ap.wrk (x)) (Ap.trade (x)) (-1) (Ap.refused (x)) (Ap.wdays (x)) (Ap.today (x)) (Ap.moves (x)))) = HX X := by
  have hw := wn_leave (a := ((a : Nat) : Int)) w.1
  rw [rLeave_ok hx hm] at hw
  have hh : hrs (mkAp (Ap.done (x)) (Ap.pend (x)) (Ap.dbt (x)) (Ap.rel (x)) (Ap.wrk (x)) (Ap.trade (x)) (-1) (Ap.refused (x)) (Ap.wdays (x)) (Ap.today (x)) (Ap.moves (x))) = hrs x := rfl
  refine ⟨w.setA hx hw ?_ (by omega), by rw [HX_set hx, hh]; omega⟩
  obtain ⟨g1, g2, g3, g4⟩ := w.2.1 x (List.mem_of_getElem? hx)
  exact ⟨g1, fun f hf => ⟨(g2 f hf).1, (g2 f hf).2.1, fun h => absurd (show (0 : Int) ≤ -1 from h) (by decide)⟩, g3, g4⟩
theorem rFree_ok {X : St} {a : Nat} {x : Ap} {d : Int} (hx : X.aps[a]? = some x) (hd : 0 ≤ d ∧ d ≤ 199) (h : ¬ hasD x.wrk d) : rFree X ((a : Nat) : Int) d = (0, X.setA a (mkAp (Ap.done (x)) (Ap.pend (x)) (Ap.dbt (x)) (sPutI x.rel d) (Ap.wrk (x)) (Ap.trade (x)) (Ap.mentor (x)) (Ap.refused (x)) (Ap.wdays (x)) (Ap.today (x)) (Ap.moves (x))), cnt (sPutI x.rel d) 200) := by
  obtain ⟨e1, e2⟩ := apA_of (v := ((a : Nat) : Int)) rfl hx
  unfold rFree
  rw [pIf_n (fun c => c e2), pIf_n (fun c => c hd), e1, pIf_n h, Int.toNat_natCast]
theorem rFree_no {X : St} {a : Nat} {x : Ap} {d : Int} (hx : X.aps[a]? = some x) (hd : 0 ≤ d ∧ d ≤ 199) (h : hasD x.wrk d) : (rFree X ((a : Nat) : Int) d).1 = 3 := by
  obtain ⟨e1, e2⟩ := apA_of (v := ((a : Nat) : Int)) rfl hx
  unfold rFree
  rw [pIf_n (fun c => c e2), pIf_n (fun c => c hd), e1, pIf_p h]
theorem lw_free {X : St} {n a : Nat} {x : Ap} {d : Int} (w : LW X n) (hx : X.aps[a]? = some x) (hd : 0 ≤ d ∧ d ≤ 199) (h : ¬ hasD x.wrk d) : LW (X.setA a (mkAp (Ap.done (x)) (Ap.pend (x)) (Ap.dbt (x)) (sPutI x.rel d) (Ap.wrk (x)) (Ap.trade (x)) (Ap.mentor (x)) (Ap.refused (x)) (Ap.wdays (x)) (Ap.today (x)) (Ap.moves (x)))) (n + 1) := by
  have hw := wn_free (a := ((a : Nat) : Int)) (d := d) w.1
  rw [rFree_ok hx hd h] at hw
  have hh : hrs (mkAp (Ap.done (x)) (Ap.pend (x)) (Ap.dbt (x)) (sPutI x.rel d) (Ap.wrk (x)) (Ap.trade (x)) (Ap.mentor (x)) (Ap.refused (x)) (Ap.wdays (x)) (Ap.today (x)) (Ap.moves (x))) = hrs x := rfl
  exact w.setA hx hw (w.2.1 x (List.mem_of_getElem? hx)) (by omega)
theorem rCredit_ok {X : St} {a : Nat} {x : Ap} {p h : Int} (hx : X.aps[a]? = some x) (hp : 0 ≤ p ∧ p ≤ 2) (hc : cAdd x p h) : rCredit X ((a : Nat) : Int) p h = (0, X.setA a (aDone x p h), x.done p.toNat + h) := by
  obtain ⟨e1, e2⟩ := apA_of (v := ((a : Nat) : Int)) rfl hx
  unfold rCredit
  rw [pIf_n (fun c => c e2), pIf_n (fun c => c hp), e1, pIf_n (fun c => c hc), Int.toNat_natCast]
theorem rCredit_no {X : St} {a : Nat} {x : Ap} {p h : Int} (hx : X.aps[a]? = some x) (hp : 0 ≤ p ∧ p ≤ 2) (hc : ¬ cAdd x p h) : (rCredit X ((a : Nat) : Int) p h).1 = 3 := by
  obtain ⟨e1, e2⟩ := apA_of (v := ((a : Nat) : Int)) rfl hx
  unfold rCredit
  rw [pIf_n (fun c => c e2), pIf_n (fun c => c hp), e1, pIf_p hc]
theorem lw_credit {X : St} {n a : Nat} {x : Ap} {p h : Int} (w : LW X n) (hx : X.aps[a]? = some x) (hp : 0 ≤ p ∧ p ≤ 2) (hh : h ≤ 30) (hc : cAdd x p h) : LW (X.setA a (aDone x p h)) (n + 1) ∧ HX (X.setA a (aDone x p h)) = HX X + h := by
  have hw := wn_credit (a := ((a : Nat) : Int)) (p := p) (d := h) w.1
  rw [rCredit_ok hx hp hc] at hw
  have hr := hrs_done x h (p := p) (by omega)
  exact ⟨w.setA hx hw (w.2.1 x (List.mem_of_getElem? hx)) (by omega), by rw [HX_set hx, hr]; omega⟩
