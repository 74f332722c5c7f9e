/-! ===== what the small methods of the property do ===== -/
/-- what is answered for an exception: 1 no such, 2 an argument, 3 the state -/
def xc (k : Int) : Int := if k = 1 then -900000003 else if k = 2 then -900000001 else -900000002
def afS (X : St) (R : Rs) : St := if R.1 = 0 then R.2.1 else X
def afL (X : St) (L : List St) (R : Rs) : List St := if R.1 = 0 then uPush L X else L
def lans (kf : Int → Int) (R : Rs) : Int := if R.1 = 0 then R.2.2 else xc (kf R.1)
def vans (V : Vs) : Int := if V.1 = 0 then V.2 else xc V.1
/-- some objects more -/
def MG (M M1 : Mm) : Prop := mN M ≤ mN M1 ∧ mN M1 ≤ mN M + 1
theorem mg_0 {M M' : Mm} (h : CF M M') : MG M M' := ⟨Nat.le_of_eq h.2.symm, Nat.le_trans (Nat.le_of_eq h.2) (Nat.le_add_right _ _)⟩
theorem mg_b (M : Mm) : MG M (bN M) := ⟨Nat.le_succ _, Nat.le_refl _⟩
def LO (Q : PQ) (M : Mm) (X : St) (L : List St) (T : List Int) (kf : Int → Int) (R : Rs) : Prop := ∀ (M1 : Mm) (r : Int32), r.toInt = lans kf R → MF M1 (afS X R) (afL X L R) T → MG M M1 → Q (some (.int r)) M1
def LV (Q : PQ) (M : Mm) (X : St) (L : List St) (T : List Int) (V : Vs) : Prop := ∀ (M1 : Mm) (r : Int32), r.toInt = vans V → MF M1 X L T → MG M M1 → Q (some (.int r)) M1
theorem MF.b {M : Mm} {X : St} {L : List St} {T : List Int} (h : MF M X L T) : MF (bN M) X L T := h
def bd (R : Int) (k : Int) : Prop := 0 ≤ R ∧ R ≤ k
theorem pIf_b {P : Prop} {A B : Rs} {k : Int} (ha : bd A.1 k) (hb : bd B.1 k) : bd (pIf P A B).1 k := by
  by_cases g : P
  · rw [pIf_p g]; exact ha
  · rw [pIf_n g]; exact hb
theorem pIf_v {P : Prop} {A B : Vs} {k : Int} (ha : bd A.1 k) (hb : bd B.1 k) : bd (pIf P A B).1 k := by
  by_cases g : P
  · rw [pIf_p g]; exact ha
  · rw [pIf_n g]; exact hb
theorem bd0 {k : Int} (h : 0 ≤ k) : bd 0 k := ⟨Int.le_refl _, h⟩
section HPJ
variable {l : Launch} {G : GT} {M : Mm} {Q : PQ} {X : St} {L : List St} {T : List Int} {v w u b : Int32} {R : Rs} {V : Vs} {kf : Int → Int}
theorem lo_ok (h : LO Q M X L T kf R) (h0 : R.1 = 0) : ∀ (M' : Mm) (r : Int32), CF M M' → MF M' R.2.1 (uPush L X) T → r.toInt = R.2.2 → ∃ x : Int32, some (Value.int r) = some (.int x) ∧ Q (some (.int x)) M' := fun M' r c f hr => ⟨r, rfl, h _ r (by unfold lans; rw [if_pos h0]; exact hr) (by unfold afS afL; rw [if_pos h0, if_pos h0]; exact f) (mg_0 c)⟩
theorem lo_no (h : LO Q M X L T kf R) (f : MF M X L T) {k : Int32} (h0 : ¬ R.1 = 0) (hk : k.toInt = xc (kf R.1)) : Q (some (.int k)) (bN M) := h (bN M) k (by unfold lans; rw [if_neg h0]; exact hk) (by unfold afS afL; rw [if_neg h0, if_neg h0]; exact f.b) (mg_b M)
theorem lv_no (h : LV Q M X L T V) (f : MF M X L T) {k : Int32} (h0 : ¬ V.1 = 0) (hk : k.toInt = xc V.1) : Q (some (.int k)) (bN M) := h (bN M) k (by unfold vans; rw [if_neg h0]; exact hk) f.b (mg_b M)
theorem lv_ok (h : LV Q M X L T V) (f : MF M X L T) (h0 : V.1 = 0) : ∀ r : Int32, r.toInt = V.2 → ∃ x : Int32, some (Value.int r) = some (.int x) ∧ Q (some (.int x)) M := fun r hr => ⟨r, rfl, h _ r (by unfold vans; rw [if_pos h0]; exact hr) f ⟨Nat.le_refl _, Nat.le_succ _⟩⟩
theorem fo_A (h : LO Q M X L T kA R) (f : MF M X L T) (hb : bd R.1 2) : FO (fun r M' => ∃ x : Int32, r = some (.int x) ∧ Q (some (.int x)) M') (fun E M' => (E = "java/lang/IllegalArgumentException" ∧ Q (some (.int (-900000001))) M') ∨ (E = "java/lang/IllegalStateException" ∧ Q (some (.int (-900000002))) M')) M X L T kA R := by
  refine ⟨lo_ok h, fun h0 => ?_⟩
  obtain ⟨b0, b1⟩ := hb
  have : R.1 = 1 ∨ R.1 = 2 := by omega
  rcases this with e | e
  · have q := lo_no (k := (-900000001)) h f h0 (by rw [e]; rfl)
    rw [e]
    exact (Or.inl ⟨rfl, q⟩)
  · have q := lo_no (k := (-900000002)) h f h0 (by rw [e]; rfl)
    rw [e]
    exact (Or.inr ⟨rfl, q⟩)
theorem fo_B (h : LO Q M X L T kB R) (f : MF M X L T) (hb : bd R.1 2) : FO (fun r M' => ∃ x : Int32, r = some (.int x) ∧ Q (some (.int x)) M') (fun E M' => (E = "java/lang/IndexOutOfBoundsException" ∧ Q (some (.int (-900000003))) M') ∨ (E = "java/lang/IllegalStateException" ∧ Q (some (.int (-900000002))) M')) M X L T kB R := by
  refine ⟨lo_ok h, fun h0 => ?_⟩
  obtain ⟨b0, b1⟩ := hb
  have : R.1 = 1 ∨ R.1 = 2 := by omega
  rcases this with e | e
  · have q := lo_no (k := (-900000003)) h f h0 (by rw [e]; rfl)
    rw [e]
    exact (Or.inl ⟨rfl, q⟩)
  · have q := lo_no (k := (-900000002)) h f h0 (by rw [e]; rfl)
    rw [e]
    exact (Or.inr ⟨rfl, q⟩)
theorem fo_I (h : LO Q M X L T kI R) (f : MF M X L T) (hb : bd R.1 3) : FO (fun r M' => ∃ x : Int32, r = some (.int x) ∧ Q (some (.int x)) M') (fun E M' => (E = "java/lang/IndexOutOfBoundsException" ∧ Q (some (.int (-900000003))) M') ∨ (E = "java/lang/IllegalArgumentException" ∧ Q (some (.int (-900000001))) M') ∨ (E = "java/lang/IllegalStateException" ∧ Q (some (.int (-900000002))) M')) M X L T kI R := by
  refine ⟨lo_ok h, fun h0 => ?_⟩
  obtain ⟨b0, b1⟩ := hb
  have : R.1 = 1 ∨ R.1 = 2 ∨ R.1 = 3 := by omega
  rcases this with e | e | e
  · have q := lo_no (k := (-900000003)) h f h0 (by rw [e]; rfl)
    rw [e]
    exact (Or.inl ⟨rfl, q⟩)
  · have q := lo_no (k := (-900000001)) h f h0 (by rw [e]; rfl)
    rw [e]
    exact (Or.inr (Or.inl ⟨rfl, q⟩))
  · have q := lo_no (k := (-900000002)) h f h0 (by rw [e]; rfl)
    rw [e]
    exact (Or.inr (Or.inr ⟨rfl, q⟩))
theorem fo_E (h : LO Q M X L T (fun _ => 3) R) (f : MF M X L T) (hb : bd R.1 1) : FO (fun r M' => ∃ x : Int32, r = some (.int x) ∧ Q (some (.int x)) M') (fun E M' => (E = "java/lang/IllegalStateException" ∧ Q (some (.int (-900000002))) M')) M X L T (fun _ => 3) R := by
  refine ⟨lo_ok h, fun h0 => ?_⟩
  obtain ⟨b0, b1⟩ := hb
  have e : R.1 = 1 := by omega
  have q := lo_no (k := (-900000002)) h f h0 rfl
  exact ⟨rfl, q⟩
theorem fv_1 (h : LV Q M X L T V) (f : MF M X L T) (hb : bd V.1 1) : FV (fun r M' => ∃ x : Int32, r = some (.int x) ∧ Q (some (.int x)) M') (fun E M' => (E = "java/lang/IndexOutOfBoundsException" ∧ Q (some (.int (-900000003))) M')) M V := by
  refine ⟨lv_ok h f, fun h0 => ?_⟩
  obtain ⟨b0, b1⟩ := hb
  have e : V.1 = 1 := by omega
  have q := lv_no (k := (-900000003)) h f h0 (by rw [e]; rfl)
  rw [e]
  exact ⟨rfl, q⟩
theorem fv_2 (h : LV Q M X L T V) (f : MF M X L T) (hb : bd V.1 2) : FV (fun r M' => ∃ x : Int32, r = some (.int x) ∧ Q (some (.int x)) M') (fun E M' => (E = "java/lang/IndexOutOfBoundsException" ∧ Q (some (.int (-900000003))) M') ∨ (E = "java/lang/IllegalArgumentException" ∧ Q (some (.int (-900000001))) M')) M V := by
  refine ⟨lv_ok h f, fun h0 => ?_⟩
  obtain ⟨b0, b1⟩ := hb
  have : V.1 = 1 ∨ V.1 = 2 := by omega
  rcases this with e | e
  · have q := lv_no (k := (-900000003)) h f h0 (by rw [e]; rfl)
    rw [e]
    exact (Or.inl ⟨rfl, q⟩)
  · have q := lv_no (k := (-900000001)) h f h0 (by rw [e]; rfl)
    rw [e]
    exact (Or.inr ⟨rfl, q⟩)
theorem fw_1 (h : ∀ (M1 : Mm) (r : Int32), r.toInt = (if V.1 = 0 then V.2 else -900000001) → MF M1 X L T → MG M M1 → Q (some (.int r)) M1) (f : MF M X L T) : FW (fun r M' => ∃ x : Int32, r = some (.int x) ∧ Q (some (.int x)) M') (fun E M' => (E = "java/lang/IllegalArgumentException" ∧ Q (some (.int (-900000001))) M')) M V :=
  ⟨fun h0 r hr => ⟨r, rfl, h _ r (by rw [if_pos h0]; exact hr) f ⟨Nat.le_refl _, Nat.le_succ _⟩⟩, fun h0 => ⟨rfl, h (bN M) (-900000001) (by rw [if_neg h0]; rfl) f.b (mg_b M)⟩⟩
theorem lo_trade (f : MF M X L T) (ws : WfS X) (hm : mN M < 900000 ∧ l.stackTraces = false) (h : LO Q M X L T kA (rTrade X v.toInt w.toInt u.toInt)) : TrH l G Y_L_trade hh_trade [.ref 0, .int v, .int w, .int u] M Q := hp_trade (sp_X9_addTrade f ws hm (fo_A h f (pIf_b (show bd 1 2 from ⟨by decide, by decide⟩) (pIf_b (show bd 2 2 from ⟨by decide, by decide⟩) (bd0 (by decide))))))
theorem lo_mentors (f : MF M X L T) (ws : WfS X) (hm : mN M < 900000 ∧ l.stackTraces = false) (h : LO Q M X L T kA (rMentor X v.toInt w.toInt)) : TrH l G Y_L_mentors hh_mentors [.ref 0, .int v, .int w] M Q := hp_mentors (sp_X9_addMentor f ws hm (fo_A h f (pIf_b (show bd 1 2 from ⟨by decide, by decide⟩) (pIf_b (show bd 2 2 from ⟨by decide, by decide⟩) (bd0 (by decide))))))
theorem lo_pupil (f : MF M X L T) (ws : WfS X) (hm : mN M < 900000 ∧ l.stackTraces = false) (h : LO Q M X L T kB (rPupil X v.toInt w.toInt)) : TrH l G Y_L_pupil hh_pupil [.ref 0, .int v, .int w] M Q := hp_pupil (sp_X9_addApprentice f ws hm (fo_B h f (pIf_b (show bd 1 2 from ⟨by decide, by decide⟩) (pIf_b (show bd 2 2 from ⟨by decide, by decide⟩) (bd0 (by decide))))))
theorem lo_frees (f : MF M X L T) (ws : WfS X) (hm : mN M < 900000 ∧ l.stackTraces = false) (h : LO Q M X L T kI (rFree X v.toInt w.toInt)) : TrH l G Y_L_frees hh_frees [.ref 0, .int v, .int w] M Q := hp_frees (sp_X9_release f ws hm (fo_I h f (pIf_b (show bd 1 3 from ⟨by decide, by decide⟩) (pIf_b (show bd 2 3 from ⟨by decide, by decide⟩) (pIf_b (show bd 3 3 from ⟨by decide, by decide⟩) (bd0 (by decide)))))))
theorem lo_logs (f : MF M X L T) (ws : WfS X) (hm : mN M < 900000 ∧ l.stackTraces = false) (h : LO Q M X L T kI (rLog X v.toInt w.toInt u.toInt)) : TrH l G Y_L_logs hh_logs [.ref 0, .int v, .int w, .int u] M Q := hp_logs (sp_X9_log f ws hm (fo_I h f (pIf_b (show bd 1 3 from ⟨by decide, by decide⟩) (pIf_b (show bd 2 3 from ⟨by decide, by decide⟩) (pIf_b (show bd 3 3 from ⟨by decide, by decide⟩) (bd0 (by decide)))))))
theorem lo_confirms (f : MF M X L T) (ws : WfS X) (hm : mN M < 900000 ∧ l.stackTraces = false) (h : LO Q M X L T kI (rConf X v.toInt w.toInt)) : TrH l G Y_L_confirms hh_confirms [.ref 0, .int v, .int w] M Q := hp_confirms (sp_X9_confirm f ws hm (fo_I h f (pIf_b (show bd 1 3 from ⟨by decide, by decide⟩) (pIf_b (show bd 2 3 from ⟨by decide, by decide⟩) (pIf_b (show bd 3 3 from ⟨by decide, by decide⟩) (bd0 (by decide)))))))
theorem lo_doubts (f : MF M X L T) (ws : WfS X) (hm : mN M < 900000 ∧ l.stackTraces = false) (h : LO Q M X L T kB (rDoubt X v.toInt)) : TrH l G Y_L_doubts hh_doubts [.ref 0, .int v] M Q := hp_doubts (sp_X9_doubt f ws hm (fo_B h f (pIf_b (show bd 1 2 from ⟨by decide, by decide⟩) (pIf_b (show bd 2 2 from ⟨by decide, by decide⟩) (bd0 (by decide))))))
theorem lo_settles (f : MF M X L T) (ws : WfS X) (hm : mN M < 900000 ∧ l.stackTraces = false) (h : LO Q M X L T kB (rSettle X v.toInt w.toInt)) : TrH l G Y_L_settles hh_settles [.ref 0, .int v, .int w] M Q := hp_settles (sp_X9_settle f ws hm (fo_B h f (pIf_b (show bd 1 2 from ⟨by decide, by decide⟩) (pIf_b (show bd 2 2 from ⟨by decide, by decide⟩) (bd0 (by decide))))))
theorem lo_credits (f : MF M X L T) (ws : WfS X) (hm : mN M < 900000 ∧ l.stackTraces = false) (h : LO Q M X L T kI (rCredit X v.toInt w.toInt u.toInt)) : TrH l G Y_L_credits hh_credits [.ref 0, .int v, .int w, .int u] M Q := hp_credits (sp_X9_credit f ws hm (fo_I h f (pIf_b (show bd 1 3 from ⟨by decide, by decide⟩) (pIf_b (show bd 2 3 from ⟨by decide, by decide⟩) (pIf_b (show bd 3 3 from ⟨by decide, by decide⟩) (bd0 (by decide)))))))
theorem lo_ends (f : MF M X L T) (ws : WfS X) (hm : mN M < 900000 ∧ l.stackTraces = false) (h : LO Q M X L T (fun _ => 3) (rEnd X)) : TrH l G Y_L_ends hh_ends [.ref 0] M Q := hp_ends (sp_X9_endDay f ws hm (fo_E h f (pIf_b (show bd 1 1 from ⟨by decide, by decide⟩) (bd0 (by decide)))))
theorem lo_moves (f : MF M X L T) (ws : WfS X) (hm : mN M < 900000 ∧ l.stackTraces = false) (h : LO Q M X L T kB (rMove X v.toInt w.toInt)) : TrH l G Y_L_moves hh_moves [.ref 0, .int v, .int w] M Q := hp_moves (sp_X9_move f ws hm (fo_B h f (pIf_b (show bd 1 2 from ⟨by decide, by decide⟩) (pIf_b (show bd 2 2 from ⟨by decide, by decide⟩) (bd0 (by decide))))))
theorem lo_leaves (f : MF M X L T) (ws : WfS X) (hm : mN M < 900000 ∧ l.stackTraces = false) (h : LO Q M X L T kB (rLeave X v.toInt)) : TrH l G Y_L_leaves hh_leaves [.ref 0, .int v] M Q := hp_leaves (sp_X9_leave f ws hm (fo_B h f (pIf_b (show bd 1 2 from ⟨by decide, by decide⟩) (pIf_b (show bd 2 2 from ⟨by decide, by decide⟩) (bd0 (by decide))))))
theorem lo_swaps (f : MF M X L T) (ws : WfS X) (hm : mN M < 900000 ∧ l.stackTraces = false) (h : LO Q M X L T kI (rSwap X v.toInt w.toInt)) : TrH l G Y_L_swaps hh_swaps [.ref 0, .int v, .int w] M Q := hp_swaps (sp_X9_exchange f ws hm (fo_I h f (pIf_b (show bd 1 3 from ⟨by decide, by decide⟩) (pIf_b (show bd 2 3 from ⟨by decide, by decide⟩) (pIf_b (show bd 3 3 from ⟨by decide, by decide⟩) (bd0 (by decide)))))))
theorem lo_why (f : MF M X L T) (ws : WfS X) (hm : mN M < 900000 ∧ l.stackTraces = false) (h : LV Q M X L T (vReason X v.toInt w.toInt)) : TrH l G Y_L_why hh_why [.ref 0, .int v, .int w] M Q := hp_why (sp_X9_reason f ws hm (fv_1 h f (pIf_v (show bd 1 1 from ⟨by decide, by decide⟩) (bd0 (by decide)))))
theorem lz_why (f : MF M X L T) (ws : WfS X) (hm : mN M < 900000 ∧ l.stackTraces = false) (h0 : (vReason X v.toInt w.toInt).1 = 0) (h : ∀ r : Int32, r.toInt = (vReason X v.toInt w.toInt).2 → Q (some (.int r)) M) : TrH l G Y_L_why0 hh_why [.ref 0, .int v, .int w] M Q := hp_why0 (sp_Z9_reason f ws hm ⟨fun _ r hr => ⟨r, rfl, h r hr⟩, fun c => absurd h0 c⟩)
theorem lo_mentor (f : MF M X L T) (ws : WfS X) (hm : mN M < 900000 ∧ l.stackTraces = false) (h : LV Q M X L T (vMentor X v.toInt w.toInt)) : TrH l G Y_L_mentor hh_mentor [.ref 0, .int v, .int w] M Q := hp_mentor (sp_X9_mentor f ws hm (fv_2 h f (pIf_v (show bd 1 2 from ⟨by decide, by decide⟩) (pIf_v (show bd 2 2 from ⟨by decide, by decide⟩) (bd0 (by decide))))))
theorem lz_mentor (f : MF M X L T) (ws : WfS X) (hm : mN M < 900000 ∧ l.stackTraces = false) (h0 : (vMentor X v.toInt w.toInt).1 = 0) (h : ∀ r : Int32, r.toInt = (vMentor X v.toInt w.toInt).2 → Q (some (.int r)) M) : TrH l G Y_L_mentor0 hh_mentor [.ref 0, .int v, .int w] M Q := hp_mentor0 (sp_Z9_mentor f ws hm ⟨fun _ r hr => ⟨r, rfl, h r hr⟩, fun c => absurd h0 c⟩)
theorem lo_one (f : MF M X L T) (ws : WfS X) (hm : mN M < 900000 ∧ l.stackTraces = false) (h : LV Q M X L T (vApp X v.toInt w.toInt)) : TrH l G Y_L_one hh_one [.ref 0, .int v, .int w] M Q := hp_one (sp_X9_apprentice f ws hm (fv_2 h f (pIf_v (show bd 1 2 from ⟨by decide, by decide⟩) (pIf_v (show bd 2 2 from ⟨by decide, by decide⟩) (bd0 (by decide))))))
theorem lz_one (f : MF M X L T) (ws : WfS X) (hm : mN M < 900000 ∧ l.stackTraces = false) (h0 : (vApp X v.toInt w.toInt).1 = 0) (h : ∀ r : Int32, r.toInt = (vApp X v.toInt w.toInt).2 → Q (some (.int r)) M) : TrH l G Y_L_one0 hh_one [.ref 0, .int v, .int w] M Q := hp_one0 (sp_Z9_apprentice f ws hm ⟨fun _ r hr => ⟨r, rfl, h r hr⟩, fun c => absurd h0 c⟩)
theorem lo_part (f : MF M X L T) (ws : WfS X) (hm : mN M < 900000 ∧ l.stackTraces = false) (h : LV Q M X L T (vPart X v.toInt w.toInt u.toInt)) : TrH l G Y_L_part hh_part [.ref 0, .int v, .int w, .int u] M Q := hp_part (sp_X9_part f ws hm (fv_2 h f (pIf_v (show bd 1 2 from ⟨by decide, by decide⟩) (pIf_v (show bd 2 2 from ⟨by decide, by decide⟩) (bd0 (by decide))))))
theorem lz_part (f : MF M X L T) (ws : WfS X) (hm : mN M < 900000 ∧ l.stackTraces = false) (h0 : (vPart X v.toInt w.toInt u.toInt).1 = 0) (h : ∀ r : Int32, r.toInt = (vPart X v.toInt w.toInt u.toInt).2 → Q (some (.int r)) M) : TrH l G Y_L_part0 hh_part [.ref 0, .int v, .int w, .int u] M Q := hp_part0 (sp_Z9_part f ws hm ⟨fun _ r hr => ⟨r, rfl, h r hr⟩, fun c => absurd h0 c⟩)
theorem lo_entry (f : MF M X L T) (ws : WfS X) (hm : mN M < 900000 ∧ l.stackTraces = false) (h : LV Q M X L T (vEntry X v.toInt w.toInt u.toInt b.toInt)) : TrH l G Y_L_entry hh_entry [.ref 0, .int v, .int w, .int u, .int b] M Q := hp_entry (sp_X9_entry f ws hm (fv_2 h f (pIf_v (show bd 1 2 from ⟨by decide, by decide⟩) (pIf_v (show bd 2 2 from ⟨by decide, by decide⟩) (bd0 (by decide))))))
theorem lz_entry (f : MF M X L T) (ws : WfS X) (hm : mN M < 900000 ∧ l.stackTraces = false) (h0 : (vEntry X v.toInt w.toInt u.toInt b.toInt).1 = 0) (h : ∀ r : Int32, r.toInt = (vEntry X v.toInt w.toInt u.toInt b.toInt).2 → Q (some (.int r)) M) : TrH l G Y_L_entry0 hh_entry [.ref 0, .int v, .int w, .int u, .int b] M Q := hp_entry0 (sp_Z9_entry f ws hm ⟨fun _ r hr => ⟨r, rfl, h r hr⟩, fun c => absurd h0 c⟩)
theorem lo_full (f : MF M X L T) (ws : WfS X) (hm : mN M < 900000 ∧ l.stackTraces = false) (h : LV Q M X L T (vComp X v.toInt w.toInt)) : TrH l G Y_L_full hh_full [.ref 0, .int v, .int w] M Q := hp_full (sp_X9_completeOn f ws hm (fv_2 h f (pIf_v (show bd 1 2 from ⟨by decide, by decide⟩) (pIf_v (show bd 2 2 from ⟨by decide, by decide⟩) (bd0 (by decide))))))
theorem lz_full (f : MF M X L T) (ws : WfS X) (hm : mN M < 900000 ∧ l.stackTraces = false) (h0 : (vComp X v.toInt w.toInt).1 = 0) (h : ∀ r : Int32, r.toInt = (vComp X v.toInt w.toInt).2 → Q (some (.int r)) M) : TrH l G Y_L_full0 hh_full [.ref 0, .int v, .int w] M Q := hp_full0 (sp_Z9_completeOn f ws hm ⟨fun _ r hr => ⟨r, rfl, h r hr⟩, fun c => absurd h0 c⟩)
theorem lo_best (f : MF M X L T) (ws : WfS X) (hm : mN M < 900000 ∧ l.stackTraces = false) (h : LV Q M X L T (vBest X v.toInt)) : TrH l G Y_L_best hh_best [.ref 0, .int v] M Q := hp_best (sp_X9_bestMentor f ws hm (fv_1 h f (pIf_v (show bd 1 1 from ⟨by decide, by decide⟩) (bd0 (by decide)))))
theorem lz_best (f : MF M X L T) (ws : WfS X) (hm : mN M < 900000 ∧ l.stackTraces = false) (h0 : (vBest X v.toInt).1 = 0) (h : ∀ r : Int32, r.toInt = (vBest X v.toInt).2 → Q (some (.int r)) M) : TrH l G Y_L_best0 hh_best [.ref 0, .int v] M Q := hp_best0 (sp_Z9_bestMentor f ws hm ⟨fun _ r hr => ⟨r, rfl, h r hr⟩, fun c => absurd h0 c⟩)
theorem lo_doubted (f : MF M X L T) (ws : WfS X) (hm : mN M < 900000 ∧ l.stackTraces = false) (h : LV Q M X L T (vDby X v.toInt w.toInt)) : TrH l G Y_L_doubted hh_doubted [.ref 0, .int v, .int w] M Q := hp_doubted (sp_X9_doubtsBy f ws hm (fv_1 h f (pIf_v (show bd 1 1 from ⟨by decide, by decide⟩) (bd0 (by decide)))))
theorem lz_doubted (f : MF M X L T) (ws : WfS X) (hm : mN M < 900000 ∧ l.stackTraces = false) (h0 : (vDby X v.toInt w.toInt).1 = 0) (h : ∀ r : Int32, r.toInt = (vDby X v.toInt w.toInt).2 → Q (some (.int r)) M) : TrH l G Y_L_doubted0 hh_doubted [.ref 0, .int v, .int w] M Q := hp_doubted0 (sp_Z9_doubtsBy f ws hm ⟨fun _ r hr => ⟨r, rfl, h r hr⟩, fun c => absurd h0 c⟩)
theorem lo_next (f : MF M X L T) (ws : WfS X) (hm : mN M < 900000 ∧ l.stackTraces = false) (h : LV Q M X L T (vNext X v.toInt w.toInt)) : TrH l G Y_L_next hh_next [.ref 0, .int v, .int w] M Q := hp_next (sp_X9_nextRelease f ws hm (fv_2 h f (pIf_v (show bd 1 2 from ⟨by decide, by decide⟩) (pIf_v (show bd 2 2 from ⟨by decide, by decide⟩) (bd0 (by decide))))))
theorem lz_next (f : MF M X L T) (ws : WfS X) (hm : mN M < 900000 ∧ l.stackTraces = false) (h0 : (vNext X v.toInt w.toInt).1 = 0) (h : ∀ r : Int32, r.toInt = (vNext X v.toInt w.toInt).2 → Q (some (.int r)) M) : TrH l G Y_L_next0 hh_next [.ref 0, .int v, .int w] M Q := hp_next0 (sp_Z9_nextRelease f ws hm ⟨fun _ r hr => ⟨r, rfl, h r hr⟩, fun c => absurd h0 c⟩)
theorem lo_whole (f : MF M X L T) (ws : WfS X) (hm : mN M < 900000 ∧ l.stackTraces = false) (h : ∀ (M1 : Mm) (r : Int32), r.toInt = (if (vWhole X T.length v.toInt).1 = 0 then (vWhole X T.length v.toInt).2 else -900000001) → MF M1 X L T → MG M M1 → Q (some (.int r)) M1) : TrH l G Y_L_whole hh_whole [.ref 0, .int v] M Q := hp_whole (sp_X9_whole f ws hm (fw_1 h f))
theorem lz_whole (f : MF M X L T) (ws : WfS X) (hm : mN M < 900000 ∧ l.stackTraces = false) (h0 : (vWhole X T.length v.toInt).1 = 0) (h : ∀ r : Int32, r.toInt = (vWhole X T.length v.toInt).2 → Q (some (.int r)) M) : TrH l G Y_L_whole0 hh_whole [.ref 0, .int v] M Q := hp_whole0 (sp_Z9_whole f ws hm ⟨fun _ r hr => ⟨r, rfl, h r hr⟩, fun c => absurd h0 c⟩)
/-- a byte that is none -/
theorem lo_types (f : MF M X L T) (hm : mN M < 900000 ∧ l.stackTraces = false) (hv : ¬ (0 ≤ v.toInt ∧ v.toInt ≤ 127)) (h : ∀ M1 : Mm, MF M1 X L T → MG M M1 → Q (some (.int (-900000001))) M1) : TrH l G Y_L_types hh_types [.ref 0, .int v] M Q := by
  have e : vType T v.toInt = (1, T) := by unfold vType; rw [pIf_p hv]
  refine hp_types (sp_X9_type f hm (fun c => ?_) fun _ => ?_)
  · rw [e] at c
    exact absurd (show (1 : Int) = 0 from c) (by decide)
  · rw [e]
    exact Or.inl ⟨rfl, h _ f.b (mg_b M)⟩
theorem lo_back0 (f : MF M X [] T) (hm : mN M < 900000 ∧ l.stackTraces = false) (h : ∀ M1, MF M1 X [] T → MG M M1 → Q (some (.int (-900000002))) M1) : TrH l G Y_L_back hh_back [.ref 0] M Q := hp_back (sp_X9_undo0 f hm ⟨rfl, h _ f.b (mg_b M)⟩)
theorem lo_back1 {Y : St} {L0 : List St} (hL : L = L0 ++ [Y]) (f : MF M X L T) (hm : mN M < 900000 ∧ l.stackTraces = false) (h : ∀ (M1 : Mm) (r : Int32), MF M1 Y L0 T → r.toInt = L0.length → MG M M1 → Q (some (.int r)) M1) : TrH l G Y_L_back hh_back [.ref 0] M Q := hp_back (sp_X9_undo1 hL f hm fun M' r c f' hr => ⟨r, rfl, h _ r f' hr (mg_0 c)⟩)
end HPJ
