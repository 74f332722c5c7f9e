/-! ===== what the law's small methods do ===== -/
/-- the reference's cells are as before; some objects more -/
def CG (M M1 : Mm) : Prop := (∀ b, 1098 ≤ b ∧ b < 1105 → mI M1 b = mI M b ∧ mL M1 b = mL M b) ∧ mN M ≤ mN M1 ∧ mN M1 ≤ mN M + 2
theorem CF.cg {M M' : Mm} (h : CF M M') (x : Int64) : CG M (sL M' 1105 0 x) := ⟨fun b hb => ⟨(h.1 b hb.1).1, by
  rw [← (h.1 b hb.1).2]
  funext j
  rw [mL_sL, if_neg (by omega)]⟩, Nat.le_of_eq h.2.symm, Nat.le_trans (Nat.le_of_eq h.2) (Nat.le_add_right _ _)⟩
theorem cg_b (M : Mm) : CG M (bN M) := ⟨fun _ _ => ⟨rfl, rfl⟩, Nat.le_succ _, Nat.add_le_add_left (by decide) _⟩
theorem MD.cg {M M1 : Mm} {X : St} {L : List St} {T : List Int} (h : MD M X L T) (c : CG M M1) : MD M1 X L T := ⟨by rw [(c.1 1099 (by decide)).2]; exact h.1, h.2.1.of (by rw [(c.1 1098 (by decide)).1]) (c.1 1100 (by decide)).2, h.2.2.of (by rw [(c.1 1098 (by decide)).1]) (c.1 1102 (by decide)).1⟩
theorem sm_o (M : Mm) (x : Int64) : Sm M (sL M 1105 0 x) 1105 1106 := ⟨fun b hb => ⟨rfl, by
  funext j
  rw [mL_sL, if_neg (by omega)]⟩, rfl, rfl⟩
theorem MF.sm {M M' : Mm} {X : St} {L : List St} {T : List Int} {hi : Nat} (h : MF M X L T) (s : Sm M M' 1098 hi) : MF M' X L T := ⟨h.1.sm s (Or.inl (by decide)), h.2.1.sm s (Or.inr (by decide)), h.2.2.sm s (Or.inr (by decide))⟩
theorem MF.o {M : Mm} {X : St} {L : List St} {T : List Int} (h : MF M X L T) (x : Int64) : MF (sL M 1105 0 x) X L T := h.sm (hi := 1106) ⟨fun b hb => (sm_o M x).1 b (hb.imp (fun c => Nat.lt_of_lt_of_le c (by decide)) id), rfl, rfl⟩
theorem MF.b {M : Mm} {X : St} {L : List St} {T : List Int} (h : MF M X L T) : MF (bN M) X L T := h
theorem o_at (M : Mm) (x : Int32) : (mL (sL M 1105 0 x.toInt64) 1105 0).toInt = x.toInt := by
  rw [mL_sL, if_pos ⟨rfl, rfl⟩, Int32.toInt_toInt64]
def HO (Q : PQ) (M : Mm) (X : St) (L : List St) (T : List Int) (R : Rs) : Prop := ∀ (M1 : Mm) (k : Int32), k.toInt = R.1 → MF M1 (afS X R) (afL X L R) T → (R.1 = 0 → (mL M1 1105 0).toInt = R.2.2) → CG M M1 → Q (some (.int k)) M1
def HV (Q : PQ) (M : Mm) (X : St) (L : List St) (T : List Int) (R : Vs) : Prop := ∀ (M1 : Mm) (k : Int32), k.toInt = R.1 → MF M1 X L T → (R.1 = 0 → (mL M1 1105 0).toInt = R.2) → CG M M1 → Q (some (.int k)) M1
def HT (Q : PQ) (M : Mm) (X : St) (L : List St) (R : Int × List Int) : Prop := ∀ (M1 : Mm) (k : Int32), k.toInt = R.1 → MF M1 X L R.2 → (R.1 = 0 → (mL M1 1105 0).toInt = R.2.length) → CG M M1 → Q (some (.int k)) M1
def bd (R : Int) (k : Int) : Prop := 0 ≤ R ∧ R ≤ k
theorem pIf_b {P : Prop} {A B : Rs} {k : Int} (ha : bd A.1 k) (hb : bd B.1 k) : bd (pIf P A B).1 k := by
  by_cases g : P
  · rw [pIf_p g]; exact ha
  · rw [pIf_n g]; exact hb
theorem pIf_v {P : Prop} {A B : Vs} {k : Int} (ha : bd A.1 k) (hb : bd B.1 k) : bd (pIf P A B).1 k := by
  by_cases g : P
  · rw [pIf_p g]; exact ha
  · rw [pIf_n g]; exact hb
theorem bd0 {k : Int} (h : 0 ≤ k) : bd 0 k := ⟨Int.le_refl _, h⟩
theorem exn_1 : exn 1 = "java/lang/IndexOutOfBoundsException" := rfl
theorem exn_2 : exn 2 = "java/lang/IllegalArgumentException" := rfl
theorem exn_3 : exn 3 = "java/lang/IllegalStateException" := rfl
section HPJ
variable {l : Launch} {G : GT} {M : Mm} {Q : PQ} {X : St} {L : List St} {T : List Int} {v w u b : Int32} {R : Rs} {V : Vs}
theorem ho_ok (h : HO Q M X L T R) (h0 : R.1 = 0) : ∀ (M' : Mm) (r : Int32), CF M M' → MF M' R.2.1 (uPush L X) T → r.toInt = R.2.2 → ∃ x : Int32, some (Value.int r) = some (.int x) ∧ Q (some (.int 0)) (sL M' 1105 0 x.toInt64) := fun M' r c f hr => ⟨r, rfl, h _ 0 h0.symm (by unfold afS afL; rw [if_pos h0, if_pos h0]; exact f.o _) (fun _ => (o_at M' r).trans hr) (c.cg _)⟩
theorem ho_no (h : HO Q M X L T R) (f : MF M X L T) {k : Int32} (h0 : ¬ R.1 = 0) (hk : k.toInt = R.1) : Q (some (.int k)) (bN M) := h (bN M) k hk (by unfold afS afL; rw [if_neg h0, if_neg h0]; exact f.b) (fun c => absurd c h0) (cg_b M)
theorem hv_no (h : HV Q M X L T V) (f : MF M X L T) {k : Int32} (h0 : ¬ V.1 = 0) (hk : k.toInt = V.1) : Q (some (.int k)) (bN M) := h (bN M) k hk f.b (fun c => absurd c h0) (cg_b M)
theorem hv_ok (h : HV Q M X L T V) (f : MF M X L T) (h0 : V.1 = 0) : ∀ r : Int32, r.toInt = V.2 → ∃ x : Int32, some (Value.int r) = some (.int x) ∧ Q (some (.int 0)) (sL M 1105 0 x.toInt64) := fun r hr => ⟨r, rfl, h _ 0 h0.symm (f.o _) (fun _ => (o_at M r).trans hr) ((CF_refl M).cg _)⟩
theorem fo_A (h : HO Q M X L T R) (f : MF M X L T) (hb : bd R.1 2) : FO (fun r M' => ∃ x : Int32, r = some (.int x) ∧ Q (some (.int 0)) (sL M' 1105 0 x.toInt64)) (fun E M' => (E = "java/lang/IllegalArgumentException" ∧ Q (some (.int 1)) M') ∨ (E = "java/lang/IllegalStateException" ∧ Q (some (.int 2)) M')) M X L T kA R := by
  refine ⟨ho_ok h, fun h0 => ?_⟩
  obtain ⟨b0, b1⟩ := hb
  have : R.1 = 1 ∨ R.1 = 2 := by omega
  rcases this with e | e
  · have q := ho_no (k := 1) h f h0 e.symm
    rw [e]
    exact (Or.inl ⟨rfl, q⟩)
  · have q := ho_no (k := 2) h f h0 e.symm
    rw [e]
    exact (Or.inr ⟨rfl, q⟩)
theorem fo_B (h : HO Q M X L T R) (f : MF M X L T) (hb : bd R.1 2) : FO (fun r M' => ∃ x : Int32, r = some (.int x) ∧ Q (some (.int 0)) (sL M' 1105 0 x.toInt64)) (fun E M' => (E = "java/lang/IndexOutOfBoundsException" ∧ Q (some (.int 1)) M') ∨ (E = "java/lang/IllegalStateException" ∧ Q (some (.int 2)) M')) M X L T kB R := by
  refine ⟨ho_ok h, fun h0 => ?_⟩
  obtain ⟨b0, b1⟩ := hb
  have : R.1 = 1 ∨ R.1 = 2 := by omega
  rcases this with e | e
  · have q := ho_no (k := 1) h f h0 e.symm
    rw [e]
    exact (Or.inl ⟨rfl, q⟩)
  · have q := ho_no (k := 2) h f h0 e.symm
    rw [e]
    exact (Or.inr ⟨rfl, q⟩)
theorem fo_I (h : HO Q M X L T R) (f : MF M X L T) (hb : bd R.1 3) : FO (fun r M' => ∃ x : Int32, r = some (.int x) ∧ Q (some (.int 0)) (sL M' 1105 0 x.toInt64)) (fun E M' => (E = "java/lang/IndexOutOfBoundsException" ∧ Q (some (.int 1)) M') ∨ (E = "java/lang/IllegalArgumentException" ∧ Q (some (.int 2)) M') ∨ (E = "java/lang/IllegalStateException" ∧ Q (some (.int 3)) M')) M X L T kI R := by
  refine ⟨ho_ok h, fun h0 => ?_⟩
  obtain ⟨b0, b1⟩ := hb
  have : R.1 = 1 ∨ R.1 = 2 ∨ R.1 = 3 := by omega
  rcases this with e | e | e
  · have q := ho_no (k := 1) h f h0 e.symm
    rw [e]
    exact (Or.inl ⟨rfl, q⟩)
  · have q := ho_no (k := 2) h f h0 e.symm
    rw [e]
    exact (Or.inr (Or.inl ⟨rfl, q⟩))
  · have q := ho_no (k := 3) h f h0 e.symm
    rw [e]
    exact (Or.inr (Or.inr ⟨rfl, q⟩))
theorem fo_E (h : HO Q M X L T R) (f : MF M X L T) (hb : bd R.1 1) : FO (fun r M' => ∃ x : Int32, r = some (.int x) ∧ Q (some (.int 0)) (sL M' 1105 0 x.toInt64)) (fun E M' => (E = "java/lang/IllegalStateException" ∧ Q (some (.int 1)) M')) M X L T (fun _ => 3) R := by
  refine ⟨ho_ok h, fun h0 => ?_⟩
  obtain ⟨b0, b1⟩ := hb
  have e : R.1 = 1 := by omega
  · have q := ho_no (k := 1) h f h0 e.symm
    exact ⟨rfl, q⟩
theorem fv_1 (h : HV Q M X L T V) (f : MF M X L T) (hb : bd V.1 1) : FV (fun r M' => ∃ x : Int32, r = some (.int x) ∧ Q (some (.int 0)) (sL M' 1105 0 x.toInt64)) (fun E M' => (E = "java/lang/IndexOutOfBoundsException" ∧ Q (some (.int 1)) M')) M V := by
  refine ⟨hv_ok h f, fun h0 => ?_⟩
  obtain ⟨b0, b1⟩ := hb
  have e : V.1 = 1 := by omega
  · have q := hv_no (k := 1) h f h0 e.symm
    rw [e]
    exact ⟨rfl, q⟩
theorem fv_2 (h : HV Q M X L T V) (f : MF M X L T) (hb : bd V.1 2) : FV (fun r M' => ∃ x : Int32, r = some (.int x) ∧ Q (some (.int 0)) (sL M' 1105 0 x.toInt64)) (fun E M' => (E = "java/lang/IndexOutOfBoundsException" ∧ Q (some (.int 1)) M') ∨ (E = "java/lang/IllegalArgumentException" ∧ Q (some (.int 2)) M')) M V := by
  refine ⟨hv_ok h f, fun h0 => ?_⟩
  obtain ⟨b0, b1⟩ := hb
  have : V.1 = 1 ∨ V.1 = 2 := by omega
  rcases this with e | e
  · have q := hv_no (k := 1) h f h0 e.symm
    rw [e]
    exact (Or.inl ⟨rfl, q⟩)
  · have q := hv_no (k := 2) h f h0 e.symm
    rw [e]
    exact (Or.inr ⟨rfl, q⟩)
theorem fw_1 (h : HV Q M X L T V) (f : MF M X L T) (hb : bd V.1 1) : FW (fun r M' => ∃ x : Int32, r = some (.int x) ∧ Q (some (.int 0)) (sL M' 1105 0 x.toInt64)) (fun E M' => (E = "java/lang/IllegalArgumentException" ∧ Q (some (.int 1)) M')) M V := by
  refine ⟨hv_ok h f, fun h0 => ?_⟩
  obtain ⟨b0, b1⟩ := hb
  have e : V.1 = 1 := by omega
  have q := hv_no (k := 1) h f h0 e.symm
  exact ⟨rfl, q⟩
theorem ho_addTrade (f : MF M X L T) (ws : WfS X) (hm : mN M < 900000 ∧ l.stackTraces = false) (h : HO Q M X L T (rTrade X v.toInt w.toInt u.toInt)) : TrH l G Y_L_addTrade hh_addTrade [.ref 0, .int v, .int w, .int u, .ref 1105] M Q := hp_addTrade (sp_X9_addTrade f ws hm (fo_A h f (pIf_b (show bd 1 2 from ⟨by decide, by decide⟩) (pIf_b (show bd 2 2 from ⟨by decide, by decide⟩) (bd0 (by decide))))))
theorem ho_addMentor (f : MF M X L T) (ws : WfS X) (hm : mN M < 900000 ∧ l.stackTraces = false) (h : HO Q M X L T (rMentor X v.toInt w.toInt)) : TrH l G Y_L_addMentor hh_addMentor [.ref 0, .int v, .int w, .ref 1105] M Q := hp_addMentor (sp_X9_addMentor f ws hm (fo_A h f (pIf_b (show bd 1 2 from ⟨by decide, by decide⟩) (pIf_b (show bd 2 2 from ⟨by decide, by decide⟩) (bd0 (by decide))))))
theorem ho_addApprentice (f : MF M X L T) (ws : WfS X) (hm : mN M < 900000 ∧ l.stackTraces = false) (h : HO Q M X L T (rPupil X v.toInt w.toInt)) : TrH l G Y_L_addApprentice hh_addApprentice [.ref 0, .int v, .int w, .ref 1105] M Q := hp_addApprentice (sp_X9_addApprentice f ws hm (fo_B h f (pIf_b (show bd 1 2 from ⟨by decide, by decide⟩) (pIf_b (show bd 2 2 from ⟨by decide, by decide⟩) (bd0 (by decide))))))
theorem ho_release (f : MF M X L T) (ws : WfS X) (hm : mN M < 900000 ∧ l.stackTraces = false) (h : HO Q M X L T (rFree X v.toInt w.toInt)) : TrH l G Y_L_release hh_release [.ref 0, .int v, .int w, .ref 1105] M Q := hp_release (sp_X9_release f ws hm (fo_I h f (pIf_b (show bd 1 3 from ⟨by decide, by decide⟩) (pIf_b (show bd 2 3 from ⟨by decide, by decide⟩) (pIf_b (show bd 3 3 from ⟨by decide, by decide⟩) (bd0 (by decide)))))))
theorem ho_log (f : MF M X L T) (ws : WfS X) (hm : mN M < 900000 ∧ l.stackTraces = false) (h : HO Q M X L T (rLog X v.toInt w.toInt u.toInt)) : TrH l G Y_L_log hh_log [.ref 0, .int v, .int w, .int u, .ref 1105] M Q := hp_log (sp_X9_log f ws hm (fo_I h f (pIf_b (show bd 1 3 from ⟨by decide, by decide⟩) (pIf_b (show bd 2 3 from ⟨by decide, by decide⟩) (pIf_b (show bd 3 3 from ⟨by decide, by decide⟩) (bd0 (by decide)))))))
theorem ho_confirm (f : MF M X L T) (ws : WfS X) (hm : mN M < 900000 ∧ l.stackTraces = false) (h : HO Q M X L T (rConf X v.toInt w.toInt)) : TrH l G Y_L_confirm hh_confirm [.ref 0, .int v, .int w, .ref 1105] M Q := hp_confirm (sp_X9_confirm f ws hm (fo_I h f (pIf_b (show bd 1 3 from ⟨by decide, by decide⟩) (pIf_b (show bd 2 3 from ⟨by decide, by decide⟩) (pIf_b (show bd 3 3 from ⟨by decide, by decide⟩) (bd0 (by decide)))))))
theorem ho_doubt (f : MF M X L T) (ws : WfS X) (hm : mN M < 900000 ∧ l.stackTraces = false) (h : HO Q M X L T (rDoubt X v.toInt)) : TrH l G Y_L_doubt hh_doubt [.ref 0, .int v, .ref 1105] M Q := hp_doubt (sp_X9_doubt f ws hm (fo_B h f (pIf_b (show bd 1 2 from ⟨by decide, by decide⟩) (pIf_b (show bd 2 2 from ⟨by decide, by decide⟩) (bd0 (by decide))))))
theorem ho_settle (f : MF M X L T) (ws : WfS X) (hm : mN M < 900000 ∧ l.stackTraces = false) (h : HO Q M X L T (rSettle X v.toInt w.toInt)) : TrH l G Y_L_settle hh_settle [.ref 0, .int v, .int w, .ref 1105] M Q := hp_settle (sp_X9_settle f ws hm (fo_B h f (pIf_b (show bd 1 2 from ⟨by decide, by decide⟩) (pIf_b (show bd 2 2 from ⟨by decide, by decide⟩) (bd0 (by decide))))))
theorem ho_credit (f : MF M X L T) (ws : WfS X) (hm : mN M < 900000 ∧ l.stackTraces = false) (h : HO Q M X L T (rCredit X v.toInt w.toInt u.toInt)) : TrH l G Y_L_credit hh_credit [.ref 0, .int v, .int w, .int u, .ref 1105] M Q := hp_credit (sp_X9_credit f ws hm (fo_I h f (pIf_b (show bd 1 3 from ⟨by decide, by decide⟩) (pIf_b (show bd 2 3 from ⟨by decide, by decide⟩) (pIf_b (show bd 3 3 from ⟨by decide, by decide⟩) (bd0 (by decide)))))))
theorem ho_endDay (f : MF M X L T) (ws : WfS X) (hm : mN M < 900000 ∧ l.stackTraces = false) (h : HO Q M X L T (rEnd X)) : TrH l G Y_L_endDay hh_endDay [.ref 0, .ref 1105] M Q := hp_endDay (sp_X9_endDay f ws hm (fo_E h f (pIf_b (show bd 1 1 from ⟨by decide, by decide⟩) (bd0 (by decide)))))
theorem ho_move (f : MF M X L T) (ws : WfS X) (hm : mN M < 900000 ∧ l.stackTraces = false) (h : HO Q M X L T (rMove X v.toInt w.toInt)) : TrH l G Y_L_move hh_move [.ref 0, .int v, .int w, .ref 1105] M Q := hp_move (sp_X9_move f ws hm (fo_B h f (pIf_b (show bd 1 2 from ⟨by decide, by decide⟩) (pIf_b (show bd 2 2 from ⟨by decide, by decide⟩) (bd0 (by decide))))))
theorem ho_leave (f : MF M X L T) (ws : WfS X) (hm : mN M < 900000 ∧ l.stackTraces = false) (h : HO Q M X L T (rLeave X v.toInt)) : TrH l G Y_L_leave hh_leave [.ref 0, .int v, .ref 1105] M Q := hp_leave (sp_X9_leave f ws hm (fo_B h f (pIf_b (show bd 1 2 from ⟨by decide, by decide⟩) (pIf_b (show bd 2 2 from ⟨by decide, by decide⟩) (bd0 (by decide))))))
theorem ho_exchange (f : MF M X L T) (ws : WfS X) (hm : mN M < 900000 ∧ l.stackTraces = false) (h : HO Q M X L T (rSwap X v.toInt w.toInt)) : TrH l G Y_L_exchange hh_exchange [.ref 0, .int v, .int w, .ref 1105] M Q := hp_exchange (sp_X9_exchange f ws hm (fo_I h f (pIf_b (show bd 1 3 from ⟨by decide, by decide⟩) (pIf_b (show bd 2 3 from ⟨by decide, by decide⟩) (pIf_b (show bd 3 3 from ⟨by decide, by decide⟩) (bd0 (by decide)))))))
theorem ho_reason (f : MF M X L T) (ws : WfS X) (hm : mN M < 900000 ∧ l.stackTraces = false) (h : HV Q M X L T (vReason X v.toInt w.toInt)) : TrH l G Y_L_reason hh_reason [.ref 0, .int v, .int w, .ref 1105] M Q := hp_reason (sp_X9_reason f ws hm (fv_1 h f (pIf_v (show bd 1 1 from ⟨by decide, by decide⟩) (bd0 (by decide)))))
theorem ho_mentor (f : MF M X L T) (ws : WfS X) (hm : mN M < 900000 ∧ l.stackTraces = false) (h : HV Q M X L T (vMentor X v.toInt w.toInt)) : TrH l G Y_L_mentor hh_mentor [.ref 0, .int v, .int w, .ref 1105] M Q := hp_mentor (sp_X9_mentor f ws hm (fv_2 h f (pIf_v (show bd 1 2 from ⟨by decide, by decide⟩) (pIf_v (show bd 2 2 from ⟨by decide, by decide⟩) (bd0 (by decide))))))
theorem ho_apprentice (f : MF M X L T) (ws : WfS X) (hm : mN M < 900000 ∧ l.stackTraces = false) (h : HV Q M X L T (vApp X v.toInt w.toInt)) : TrH l G Y_L_apprentice hh_apprentice [.ref 0, .int v, .int w, .ref 1105] M Q := hp_apprentice (sp_X9_apprentice f ws hm (fv_2 h f (pIf_v (show bd 1 2 from ⟨by decide, by decide⟩) (pIf_v (show bd 2 2 from ⟨by decide, by decide⟩) (bd0 (by decide))))))
theorem ho_part (f : MF M X L T) (ws : WfS X) (hm : mN M < 900000 ∧ l.stackTraces = false) (h : HV Q M X L T (vPart X v.toInt w.toInt u.toInt)) : TrH l G Y_L_part hh_part [.ref 0, .int v, .int w, .int u, .ref 1105] M Q := hp_part (sp_X9_part f ws hm (fv_2 h f (pIf_v (show bd 1 2 from ⟨by decide, by decide⟩) (pIf_v (show bd 2 2 from ⟨by decide, by decide⟩) (bd0 (by decide))))))
theorem ho_completeOn (f : MF M X L T) (ws : WfS X) (hm : mN M < 900000 ∧ l.stackTraces = false) (h : HV Q M X L T (vComp X v.toInt w.toInt)) : TrH l G Y_L_completeOn hh_completeOn [.ref 0, .int v, .int w, .ref 1105] M Q := hp_completeOn (sp_X9_completeOn f ws hm (fv_2 h f (pIf_v (show bd 1 2 from ⟨by decide, by decide⟩) (pIf_v (show bd 2 2 from ⟨by decide, by decide⟩) (bd0 (by decide))))))
theorem ho_bestMentor (f : MF M X L T) (ws : WfS X) (hm : mN M < 900000 ∧ l.stackTraces = false) (h : HV Q M X L T (vBest X v.toInt)) : TrH l G Y_L_bestMentor hh_bestMentor [.ref 0, .int v, .ref 1105] M Q := hp_bestMentor (sp_X9_bestMentor f ws hm (fv_1 h f (pIf_v (show bd 1 1 from ⟨by decide, by decide⟩) (bd0 (by decide)))))
theorem ho_doubtsBy (f : MF M X L T) (ws : WfS X) (hm : mN M < 900000 ∧ l.stackTraces = false) (h : HV Q M X L T (vDby X v.toInt w.toInt)) : TrH l G Y_L_doubtsBy hh_doubtsBy [.ref 0, .int v, .int w, .ref 1105] M Q := hp_doubtsBy (sp_X9_doubtsBy f ws hm (fv_1 h f (pIf_v (show bd 1 1 from ⟨by decide, by decide⟩) (bd0 (by decide)))))
theorem ho_nextRelease (f : MF M X L T) (ws : WfS X) (hm : mN M < 900000 ∧ l.stackTraces = false) (h : HV Q M X L T (vNext X v.toInt w.toInt)) : TrH l G Y_L_nextRelease hh_nextRelease [.ref 0, .int v, .int w, .ref 1105] M Q := hp_nextRelease (sp_X9_nextRelease f ws hm (fv_2 h f (pIf_v (show bd 1 2 from ⟨by decide, by decide⟩) (pIf_v (show bd 2 2 from ⟨by decide, by decide⟩) (bd0 (by decide))))))
theorem ho_entry (f : MF M X L T) (ws : WfS X) (hm : mN M < 900000 ∧ l.stackTraces = false) (h : HV Q M X L T (vEntry X v.toInt w.toInt u.toInt b.toInt)) : TrH l G Y_L_entry hh_entry [.ref 0, .int v, .int w, .int u, .int b, .ref 1105] M Q := hp_entry (sp_X9_entry f ws hm (fv_2 h f (pIf_v (show bd 1 2 from ⟨by decide, by decide⟩) (pIf_v (show bd 2 2 from ⟨by decide, by decide⟩) (bd0 (by decide))))))
theorem ho_whole (f : MF M X L T) (ws : WfS X) (hm : mN M < 900000 ∧ l.stackTraces = false) (h : HV Q M X L T (vWhole X T.length v.toInt)) : TrH l G Y_L_whole hh_whole [.ref 0, .int v, .ref 1105] M Q := hp_whole (sp_X9_whole f ws hm (fw_1 h f (pIf_v (show bd 1 1 from ⟨by decide, by decide⟩) (bd0 (by decide)))))
theorem ho_type (f : MF M X L T) (hm : mN M < 900000 ∧ l.stackTraces = false) (h : HT Q M X L (vType T v.toInt)) : TrH l G Y_L_type hh_type [.ref 0, .int v, .ref 1105] M Q := by
  refine hp_type (sp_X9_type f hm (fun h0 M' r c f' hr => ⟨r, rfl, h _ 0 h0.symm (f'.o _) (fun _ => (o_at M' r).trans hr) (c.cg _)⟩) fun h0 => ?_)
  revert h h0
  unfold vType
  by_cases g : ¬ (0 ≤ v.toInt ∧ v.toInt ≤ 127)
  · rw [pIf_p g]
    intro h h0
    exact Or.inl ⟨rfl, h (bN M) 1 rfl f.b (fun c => absurd c h0) (cg_b M)⟩
  · rw [pIf_n g]
    by_cases g2 : T.length = 150
    · rw [pIf_p g2]
      intro h h0
      exact Or.inr ⟨rfl, h (bN M) 2 rfl f.b (fun c => absurd c h0) (cg_b M)⟩
    · rw [pIf_n g2]
      intro h h0
      exact absurd rfl h0
theorem ho_undo0 (f : MF M X [] T) (hm : mN M < 900000 ∧ l.stackTraces = false) (h : ∀ M1, MF M1 X [] T → CG M M1 → Q (some (.int 1)) M1) : TrH l G Y_L_undo hh_undo [.ref 0, .ref 1105] M Q := hp_undo (sp_X9_undo0 f hm ⟨rfl, h _ f.b (cg_b M)⟩)
theorem ho_undo1 {Y : St} {L0 : List St} (hL : L = L0 ++ [Y]) (f : MF M X L T) (hm : mN M < 900000 ∧ l.stackTraces = false) (h : ∀ M1, MF M1 Y L0 T → (mL M1 1105 0).toInt = L0.length → CG M M1 → Q (some (.int 0)) M1) : TrH l G Y_L_undo hh_undo [.ref 0, .ref 1105] M Q := hp_undo (sp_X9_undo1 hL f hm fun M' r c f' hr => ⟨r, rfl, h _ (f'.o _) ((o_at M' r).trans hr) (c.cg _)⟩)
end HPJ
