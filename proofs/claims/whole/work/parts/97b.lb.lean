/-! ===== the law's 25 small methods ===== -/
theorem k_O : (KX 1105).1 = 3 := by decide +kernel
theorem k_O0 : vp_in 0 (KX 1105).2.2 := by
  rw [show KX 1105 = (3, 1, 1) by decide +kernel]
  exact i_in (n := 1) (by decide) (by decide)
section LAB
variable {l : Launch} {G : GT} {M : Mm} {Q : PQ} {v w u b : Int32}
abbrev Y_L_addTrade : YT := (yL_addTrade, cL_addTrade, 6, (some .int), 8, 148, 1, 6)
abbrev hh_addTrade : List (Nat × Nat × Nat × Nat) := [(0,12,15,13), (0,12,19,15)]
theorem hd_addTrade_0 : Hand Y_L_addTrade hh_addTrade 7 "java/lang/IllegalArgumentException" 1 :=
  ⟨[], ⟨0, 12, 15, 13⟩, [⟨0, 12, 19, 15⟩], 5, 2, 1, rfl, (fun z hz => by cases hz), by decide, by decide, wd_4_52, List.mem_cons_of_mem _ (List.mem_cons_self ..), Or.inl ⟨rfl, dL_addTrade_15⟩, (Nat.le_of_ble_eq_true rfl), dL_addTrade_17, by decide, dL_addTrade_18⟩
theorem hd_addTrade_1 : Hand Y_L_addTrade hh_addTrade 7 "java/lang/IllegalStateException" 2 :=
  ⟨[⟨0, 12, 15, 13⟩], ⟨0, 12, 19, 15⟩, [], 5, 2, 2, rfl, (fun z hz => by
      rcases List.mem_cons.mp hz with rfl | hz
      · exact ⟨by decide, _, wd_4_52, List.mem_cons_of_mem _ (List.mem_cons_of_mem _ (List.mem_cons_self ..))⟩
      cases hz), by decide, by decide, wd_4_53, List.mem_cons_of_mem _ (List.mem_cons_of_mem _ (List.mem_cons_self ..)), Or.inl ⟨rfl, dL_addTrade_19⟩, (Nat.le_of_ble_eq_true rfl), dL_addTrade_21, by decide, dL_addTrade_22⟩
theorem hp_addTrade (h : Tr true l G Y_X9_addTrade [.ref 0, .int v, .int w, .int u] M (fun r M' => ∃ x : Int32, r = some (.int x) ∧ Q (some (.int 0)) (sL M' 1105 0 x.toInt64)) (fun E M' => (E = "java/lang/IllegalArgumentException" ∧ Q (some (.int 1)) M') ∨ (E = "java/lang/IllegalStateException" ∧ Q (some (.int 2)) M'))) : TrH l G Y_L_addTrade hh_addTrade [.ref 0, .int v, .int w, .int u, .ref 1105] M Q := by
  refine trh_of (L0 := [.ref 0, .int v, .int w, .int u, .ref 1105, xx]) (by decide) (Nat.le_of_ble_eq_true rfl) rfl fun F => ?_
  have hw : Le (I_al 4 (I_ic 0 (I_al 0 (I_il 1 (I_il 2 (I_il 3 (I_cvX (Tr true l G Y_X9_addTrade) 7 3 3 (fun E M' => (E = "java/lang/IllegalArgumentException" ∧ Q (some (.int 1)) M') ∨ (E = "java/lang/IllegalStateException" ∧ Q (some (.int 2)) M')) (I_i2l (I_las (I_ic 0 (I_ir Q))))))))))) (Wh l G F Y_L_addTrade hh_addTrade Q 0 0 0) := by
    refine h_aload (pc := 0) ?_ dL_addTrade_0
    refine h_iconst (pc := 2) ?_ dL_addTrade_2 (by decide)
    refine h_aload_n (pc := 3) ?_ dL_addTrade_3 rfl
    refine h_iload_n (pc := 4) ?_ dL_addTrade_4 rfl
    refine h_iload_n (pc := 5) ?_ dL_addTrade_5 rfl
    refine h_iload_n (pc := 6) ?_ dL_addTrade_6 rfl
    refine h_cvX (pc := 7) ?_ ?_ rfl dL_addTrade_7 ok_X9_addTrade rfl wd_4_54 ⟨Nat.le_of_ble_eq_true rfl, Nat.le_of_ble_eq_true rfl⟩ ⟨Nat.le_of_ble_eq_true rfl, Nat.le_of_ble_eq_true rfl⟩
    · refine h_i2l (pc := 10) ?_ dL_addTrade_10
      refine h_las (pc := 11) ?_ dL_addTrade_11
      refine h_goto (pc := 12) (t := 23) ?_ dL_addTrade_12 (by decide)
      refine h_iconst (pc := 23) ?_ dL_addTrade_23 (by decide)
      exact h_ir dL_addTrade_24 rfl (Nat.le_of_ble_eq_true rfl) (Nat.le_of_ble_eq_true rfl)
    · intro E M' h
      rcases h with ⟨rfl, hq⟩ | ⟨rfl, hq⟩
      · exact ⟨_, hd_addTrade_0, hq⟩
      · exact ⟨_, hd_addTrade_1, hq⟩
  refine hw _ _ _ ?_
  refine (show Tr true l G Y_X9_addTrade [.ref 0, .int v, .int w, .int u] M _ _ → _ from fun t => ?_) h
  clear h hw
  have z8 : (List.map Value.category [.int 0, .ref 1105]).sum ≤ 8 := by decide
  refine ⟨k_F, z8, t.mono (fun r M' h => ?_) fun _ _ h => h⟩
  obtain ⟨x, rfl, hq⟩ := h
  exact ⟨k_O, k_O0, hq⟩
abbrev Y_L_addMentor : YT := (yL_addMentor, cL_addMentor, 5, (some .int), 8, 147, 1, 6)
abbrev hh_addMentor : List (Nat × Nat × Nat × Nat) := [(0,10,13,13), (0,10,17,15)]
theorem hd_addMentor_0 : Hand Y_L_addMentor hh_addMentor 5 "java/lang/IllegalArgumentException" 1 :=
  ⟨[], ⟨0, 10, 13, 13⟩, [⟨0, 10, 17, 15⟩], 4, 2, 1, rfl, (fun z hz => by cases hz), by decide, by decide, wd_4_52, List.mem_cons_of_mem _ (List.mem_cons_self ..), Or.inl ⟨rfl, dL_addMentor_13⟩, (Nat.le_of_ble_eq_true rfl), dL_addMentor_15, by decide, dL_addMentor_16⟩
theorem hd_addMentor_1 : Hand Y_L_addMentor hh_addMentor 5 "java/lang/IllegalStateException" 2 :=
  ⟨[⟨0, 10, 13, 13⟩], ⟨0, 10, 17, 15⟩, [], 4, 2, 2, rfl, (fun z hz => by
      rcases List.mem_cons.mp hz with rfl | hz
      · exact ⟨by decide, _, wd_4_52, List.mem_cons_of_mem _ (List.mem_cons_of_mem _ (List.mem_cons_self ..))⟩
      cases hz), by decide, by decide, wd_4_53, List.mem_cons_of_mem _ (List.mem_cons_of_mem _ (List.mem_cons_self ..)), Or.inl ⟨rfl, dL_addMentor_17⟩, (Nat.le_of_ble_eq_true rfl), dL_addMentor_19, by decide, dL_addMentor_20⟩
theorem hp_addMentor (h : Tr true l G Y_X9_addMentor [.ref 0, .int v, .int w] M (fun r M' => ∃ x : Int32, r = some (.int x) ∧ Q (some (.int 0)) (sL M' 1105 0 x.toInt64)) (fun E M' => (E = "java/lang/IllegalArgumentException" ∧ Q (some (.int 1)) M') ∨ (E = "java/lang/IllegalStateException" ∧ Q (some (.int 2)) M'))) : TrH l G Y_L_addMentor hh_addMentor [.ref 0, .int v, .int w, .ref 1105] M Q := by
  refine trh_of (L0 := [.ref 0, .int v, .int w, .ref 1105, xx]) (by decide) (Nat.le_of_ble_eq_true rfl) rfl fun F => ?_
  have hw : Le (I_al 3 (I_ic 0 (I_al 0 (I_il 1 (I_il 2 (I_cvX (Tr true l G Y_X9_addMentor) 7 3 2 (fun E M' => (E = "java/lang/IllegalArgumentException" ∧ Q (some (.int 1)) M') ∨ (E = "java/lang/IllegalStateException" ∧ Q (some (.int 2)) M')) (I_i2l (I_las (I_ic 0 (I_ir Q)))))))))) (Wh l G F Y_L_addMentor hh_addMentor Q 0 0 0) := by
    refine h_aload_n (pc := 0) ?_ dL_addMentor_0 rfl
    refine h_iconst (pc := 1) ?_ dL_addMentor_1 (by decide)
    refine h_aload_n (pc := 2) ?_ dL_addMentor_2 rfl
    refine h_iload_n (pc := 3) ?_ dL_addMentor_3 rfl
    refine h_iload_n (pc := 4) ?_ dL_addMentor_4 rfl
    refine h_cvX (pc := 5) ?_ ?_ rfl dL_addMentor_5 ok_X9_addMentor rfl wd_4_164 ⟨Nat.le_of_ble_eq_true rfl, Nat.le_of_ble_eq_true rfl⟩ ⟨Nat.le_of_ble_eq_true rfl, Nat.le_of_ble_eq_true rfl⟩
    · refine h_i2l (pc := 8) ?_ dL_addMentor_8
      refine h_las (pc := 9) ?_ dL_addMentor_9
      refine h_goto (pc := 10) (t := 21) ?_ dL_addMentor_10 (by decide)
      refine h_iconst (pc := 21) ?_ dL_addMentor_21 (by decide)
      exact h_ir dL_addMentor_22 rfl (Nat.le_of_ble_eq_true rfl) (Nat.le_of_ble_eq_true rfl)
    · intro E M' h
      rcases h with ⟨rfl, hq⟩ | ⟨rfl, hq⟩
      · exact ⟨_, hd_addMentor_0, hq⟩
      · exact ⟨_, hd_addMentor_1, hq⟩
  refine hw _ _ _ ?_
  refine (show Tr true l G Y_X9_addMentor [.ref 0, .int v, .int w] M _ _ → _ from fun t => ?_) h
  clear h hw
  have z8 : (List.map Value.category [.int 0, .ref 1105]).sum ≤ 8 := by decide
  refine ⟨k_F, z8, t.mono (fun r M' h => ?_) fun _ _ h => h⟩
  obtain ⟨x, rfl, hq⟩ := h
  exact ⟨k_O, k_O0, hq⟩
abbrev Y_L_addApprentice : YT := (yL_addApprentice, cL_addApprentice, 5, (some .int), 8, 147, 1, 6)
abbrev hh_addApprentice : List (Nat × Nat × Nat × Nat) := [(0,10,13,24), (0,10,17,15)]
theorem hd_addApprentice_0 : Hand Y_L_addApprentice hh_addApprentice 5 "java/lang/IndexOutOfBoundsException" 1 :=
  ⟨[], ⟨0, 10, 13, 24⟩, [⟨0, 10, 17, 15⟩], 4, 2, 1, rfl, (fun z hz => by cases hz), by decide, by decide, wd_4_171, List.mem_cons_self .., Or.inl ⟨rfl, dL_addApprentice_13⟩, (Nat.le_of_ble_eq_true rfl), dL_addApprentice_15, by decide, dL_addApprentice_16⟩
theorem hd_addApprentice_1 : Hand Y_L_addApprentice hh_addApprentice 5 "java/lang/IllegalStateException" 2 :=
  ⟨[⟨0, 10, 13, 24⟩], ⟨0, 10, 17, 15⟩, [], 4, 2, 2, rfl, (fun z hz => by
      rcases List.mem_cons.mp hz with rfl | hz
      · exact ⟨by decide, _, wd_4_171, List.mem_cons_of_mem _ (List.mem_cons_self ..)⟩
      cases hz), by decide, by decide, wd_4_53, List.mem_cons_of_mem _ (List.mem_cons_of_mem _ (List.mem_cons_self ..)), Or.inl ⟨rfl, dL_addApprentice_17⟩, (Nat.le_of_ble_eq_true rfl), dL_addApprentice_19, by decide, dL_addApprentice_20⟩
theorem hp_addApprentice (h : Tr true l G Y_X9_addApprentice [.ref 0, .int v, .int w] M (fun r M' => ∃ x : Int32, r = some (.int x) ∧ Q (some (.int 0)) (sL M' 1105 0 x.toInt64)) (fun E M' => (E = "java/lang/IndexOutOfBoundsException" ∧ Q (some (.int 1)) M') ∨ (E = "java/lang/IllegalStateException" ∧ Q (some (.int 2)) M'))) : TrH l G Y_L_addApprentice hh_addApprentice [.ref 0, .int v, .int w, .ref 1105] M Q := by
  refine trh_of (L0 := [.ref 0, .int v, .int w, .ref 1105, xx]) (by decide) (Nat.le_of_ble_eq_true rfl) rfl fun F => ?_
  have hw : Le (I_al 3 (I_ic 0 (I_al 0 (I_il 1 (I_il 2 (I_cvX (Tr true l G Y_X9_addApprentice) 7 3 2 (fun E M' => (E = "java/lang/IndexOutOfBoundsException" ∧ Q (some (.int 1)) M') ∨ (E = "java/lang/IllegalStateException" ∧ Q (some (.int 2)) M')) (I_i2l (I_las (I_ic 0 (I_ir Q)))))))))) (Wh l G F Y_L_addApprentice hh_addApprentice Q 0 0 0) := by
    refine h_aload_n (pc := 0) ?_ dL_addApprentice_0 rfl
    refine h_iconst (pc := 1) ?_ dL_addApprentice_1 (by decide)
    refine h_aload_n (pc := 2) ?_ dL_addApprentice_2 rfl
    refine h_iload_n (pc := 3) ?_ dL_addApprentice_3 rfl
    refine h_iload_n (pc := 4) ?_ dL_addApprentice_4 rfl
    refine h_cvX (pc := 5) ?_ ?_ rfl dL_addApprentice_5 ok_X9_addApprentice rfl wd_4_172 ⟨Nat.le_of_ble_eq_true rfl, Nat.le_of_ble_eq_true rfl⟩ ⟨Nat.le_of_ble_eq_true rfl, Nat.le_of_ble_eq_true rfl⟩
    · refine h_i2l (pc := 8) ?_ dL_addApprentice_8
      refine h_las (pc := 9) ?_ dL_addApprentice_9
      refine h_goto (pc := 10) (t := 21) ?_ dL_addApprentice_10 (by decide)
      refine h_iconst (pc := 21) ?_ dL_addApprentice_21 (by decide)
      exact h_ir dL_addApprentice_22 rfl (Nat.le_of_ble_eq_true rfl) (Nat.le_of_ble_eq_true rfl)
    · intro E M' h
      rcases h with ⟨rfl, hq⟩ | ⟨rfl, hq⟩
      · exact ⟨_, hd_addApprentice_0, hq⟩
      · exact ⟨_, hd_addApprentice_1, hq⟩
  refine hw _ _ _ ?_
  refine (show Tr true l G Y_X9_addApprentice [.ref 0, .int v, .int w] M _ _ → _ from fun t => ?_) h
  clear h hw
  have z8 : (List.map Value.category [.int 0, .ref 1105]).sum ≤ 8 := by decide
  refine ⟨k_F, z8, t.mono (fun r M' h => ?_) fun _ _ h => h⟩
  obtain ⟨x, rfl, hq⟩ := h
  exact ⟨k_O, k_O0, hq⟩
abbrev Y_L_release : YT := (yL_release, cL_release, 5, (some .int), 8, 147, 1, 6)
abbrev hh_release : List (Nat × Nat × Nat × Nat) := [(0,10,13,24), (0,10,17,13), (0,10,21,15)]
theorem hd_release_0 : Hand Y_L_release hh_release 5 "java/lang/IndexOutOfBoundsException" 1 :=
  ⟨[], ⟨0, 10, 13, 24⟩, [⟨0, 10, 17, 13⟩, ⟨0, 10, 21, 15⟩], 4, 2, 1, rfl, (fun z hz => by cases hz), by decide, by decide, wd_4_171, List.mem_cons_self .., Or.inl ⟨rfl, dL_release_13⟩, (Nat.le_of_ble_eq_true rfl), dL_release_15, by decide, dL_release_16⟩
theorem hd_release_1 : Hand Y_L_release hh_release 5 "java/lang/IllegalArgumentException" 2 :=
  ⟨[⟨0, 10, 13, 24⟩], ⟨0, 10, 17, 13⟩, [⟨0, 10, 21, 15⟩], 4, 2, 2, rfl, (fun z hz => by
      rcases List.mem_cons.mp hz with rfl | hz
      · exact ⟨by decide, _, wd_4_171, List.mem_cons_self ..⟩
      cases hz), by decide, by decide, wd_4_52, List.mem_cons_of_mem _ (List.mem_cons_self ..), Or.inl ⟨rfl, dL_release_17⟩, (Nat.le_of_ble_eq_true rfl), dL_release_19, by decide, dL_release_20⟩
theorem hd_release_2 : Hand Y_L_release hh_release 5 "java/lang/IllegalStateException" 3 :=
  ⟨[⟨0, 10, 13, 24⟩, ⟨0, 10, 17, 13⟩], ⟨0, 10, 21, 15⟩, [], 4, 2, 3, rfl, (fun z hz => by
      rcases List.mem_cons.mp hz with rfl | hz
      · exact ⟨by decide, _, wd_4_171, List.mem_cons_of_mem _ (List.mem_cons_self ..)⟩
      rcases List.mem_cons.mp hz with rfl | hz
      · exact ⟨by decide, _, wd_4_52, List.mem_cons_of_mem _ (List.mem_cons_of_mem _ (List.mem_cons_self ..))⟩
      cases hz), by decide, by decide, wd_4_53, List.mem_cons_of_mem _ (List.mem_cons_of_mem _ (List.mem_cons_self ..)), Or.inl ⟨rfl, dL_release_21⟩, (Nat.le_of_ble_eq_true rfl), dL_release_23, by decide, dL_release_24⟩
theorem hp_release (h : Tr true l G Y_X9_release [.ref 0, .int v, .int w] M (fun r M' => ∃ x : Int32, r = some (.int x) ∧ Q (some (.int 0)) (sL M' 1105 0 x.toInt64)) (fun E M' => (E = "java/lang/IndexOutOfBoundsException" ∧ Q (some (.int 1)) M') ∨ (E = "java/lang/IllegalArgumentException" ∧ Q (some (.int 2)) M') ∨ (E = "java/lang/IllegalStateException" ∧ Q (some (.int 3)) M'))) : TrH l G Y_L_release hh_release [.ref 0, .int v, .int w, .ref 1105] M Q := by
  refine trh_of (L0 := [.ref 0, .int v, .int w, .ref 1105, xx]) (by decide) (Nat.le_of_ble_eq_true rfl) rfl fun F => ?_
  have hw : Le (I_al 3 (I_ic 0 (I_al 0 (I_il 1 (I_il 2 (I_cvX (Tr true l G Y_X9_release) 7 3 2 (fun E M' => (E = "java/lang/IndexOutOfBoundsException" ∧ Q (some (.int 1)) M') ∨ (E = "java/lang/IllegalArgumentException" ∧ Q (some (.int 2)) M') ∨ (E = "java/lang/IllegalStateException" ∧ Q (some (.int 3)) M')) (I_i2l (I_las (I_ic 0 (I_ir Q)))))))))) (Wh l G F Y_L_release hh_release Q 0 0 0) := by
    refine h_aload_n (pc := 0) ?_ dL_release_0 rfl
    refine h_iconst (pc := 1) ?_ dL_release_1 (by decide)
    refine h_aload_n (pc := 2) ?_ dL_release_2 rfl
    refine h_iload_n (pc := 3) ?_ dL_release_3 rfl
    refine h_iload_n (pc := 4) ?_ dL_release_4 rfl
    refine h_cvX (pc := 5) ?_ ?_ rfl dL_release_5 ok_X9_release rfl wd_4_179 ⟨Nat.le_of_ble_eq_true rfl, Nat.le_of_ble_eq_true rfl⟩ ⟨Nat.le_of_ble_eq_true rfl, Nat.le_of_ble_eq_true rfl⟩
    · refine h_i2l (pc := 8) ?_ dL_release_8
      refine h_las (pc := 9) ?_ dL_release_9
      refine h_goto (pc := 10) (t := 25) ?_ dL_release_10 (by decide)
      refine h_iconst (pc := 25) ?_ dL_release_25 (by decide)
      exact h_ir dL_release_26 rfl (Nat.le_of_ble_eq_true rfl) (Nat.le_of_ble_eq_true rfl)
    · intro E M' h
      rcases h with ⟨rfl, hq⟩ | ⟨rfl, hq⟩ | ⟨rfl, hq⟩
      · exact ⟨_, hd_release_0, hq⟩
      · exact ⟨_, hd_release_1, hq⟩
      · exact ⟨_, hd_release_2, hq⟩
  refine hw _ _ _ ?_
  refine (show Tr true l G Y_X9_release [.ref 0, .int v, .int w] M _ _ → _ from fun t => ?_) h
  clear h hw
  have z8 : (List.map Value.category [.int 0, .ref 1105]).sum ≤ 8 := by decide
  refine ⟨k_F, z8, t.mono (fun r M' h => ?_) fun _ _ h => h⟩
  obtain ⟨x, rfl, hq⟩ := h
  exact ⟨k_O, k_O0, hq⟩
abbrev Y_L_log : YT := (yL_log, cL_log, 6, (some .int), 8, 148, 1, 6)
abbrev hh_log : List (Nat × Nat × Nat × Nat) := [(0,12,15,24), (0,12,19,13), (0,12,23,15)]
theorem hd_log_0 : Hand Y_L_log hh_log 7 "java/lang/IndexOutOfBoundsException" 1 :=
  ⟨[], ⟨0, 12, 15, 24⟩, [⟨0, 12, 19, 13⟩, ⟨0, 12, 23, 15⟩], 5, 2, 1, rfl, (fun z hz => by cases hz), by decide, by decide, wd_4_171, List.mem_cons_self .., Or.inl ⟨rfl, dL_log_15⟩, (Nat.le_of_ble_eq_true rfl), dL_log_17, by decide, dL_log_18⟩
theorem hd_log_1 : Hand Y_L_log hh_log 7 "java/lang/IllegalArgumentException" 2 :=
  ⟨[⟨0, 12, 15, 24⟩], ⟨0, 12, 19, 13⟩, [⟨0, 12, 23, 15⟩], 5, 2, 2, rfl, (fun z hz => by
      rcases List.mem_cons.mp hz with rfl | hz
      · exact ⟨by decide, _, wd_4_171, List.mem_cons_self ..⟩
      cases hz), by decide, by decide, wd_4_52, List.mem_cons_of_mem _ (List.mem_cons_self ..), Or.inl ⟨rfl, dL_log_19⟩, (Nat.le_of_ble_eq_true rfl), dL_log_21, by decide, dL_log_22⟩
theorem hd_log_2 : Hand Y_L_log hh_log 7 "java/lang/IllegalStateException" 3 :=
  ⟨[⟨0, 12, 15, 24⟩, ⟨0, 12, 19, 13⟩], ⟨0, 12, 23, 15⟩, [], 5, 2, 3, rfl, (fun z hz => by
      rcases List.mem_cons.mp hz with rfl | hz
      · exact ⟨by decide, _, wd_4_171, List.mem_cons_of_mem _ (List.mem_cons_self ..)⟩
      rcases List.mem_cons.mp hz with rfl | hz
      · exact ⟨by decide, _, wd_4_52, List.mem_cons_of_mem _ (List.mem_cons_of_mem _ (List.mem_cons_self ..))⟩
      cases hz), by decide, by decide, wd_4_53, List.mem_cons_of_mem _ (List.mem_cons_of_mem _ (List.mem_cons_self ..)), Or.inl ⟨rfl, dL_log_23⟩, (Nat.le_of_ble_eq_true rfl), dL_log_25, by decide, dL_log_26⟩
theorem hp_log (h : Tr true l G Y_X9_log [.ref 0, .int v, .int w, .int u] M (fun r M' => ∃ x : Int32, r = some (.int x) ∧ Q (some (.int 0)) (sL M' 1105 0 x.toInt64)) (fun E M' => (E = "java/lang/IndexOutOfBoundsException" ∧ Q (some (.int 1)) M') ∨ (E = "java/lang/IllegalArgumentException" ∧ Q (some (.int 2)) M') ∨ (E = "java/lang/IllegalStateException" ∧ Q (some (.int 3)) M'))) : TrH l G Y_L_log hh_log [.ref 0, .int v, .int w, .int u, .ref 1105] M Q := by
  refine trh_of (L0 := [.ref 0, .int v, .int w, .int u, .ref 1105, xx]) (by decide) (Nat.le_of_ble_eq_true rfl) rfl fun F => ?_
  have hw : Le (I_al 4 (I_ic 0 (I_al 0 (I_il 1 (I_il 2 (I_il 3 (I_cvX (Tr true l G Y_X9_log) 7 3 3 (fun E M' => (E = "java/lang/IndexOutOfBoundsException" ∧ Q (some (.int 1)) M') ∨ (E = "java/lang/IllegalArgumentException" ∧ Q (some (.int 2)) M') ∨ (E = "java/lang/IllegalStateException" ∧ Q (some (.int 3)) M')) (I_i2l (I_las (I_ic 0 (I_ir Q))))))))))) (Wh l G F Y_L_log hh_log Q 0 0 0) := by
    refine h_aload (pc := 0) ?_ dL_log_0
    refine h_iconst (pc := 2) ?_ dL_log_2 (by decide)
    refine h_aload_n (pc := 3) ?_ dL_log_3 rfl
    refine h_iload_n (pc := 4) ?_ dL_log_4 rfl
    refine h_iload_n (pc := 5) ?_ dL_log_5 rfl
    refine h_iload_n (pc := 6) ?_ dL_log_6 rfl
    refine h_cvX (pc := 7) ?_ ?_ rfl dL_log_7 ok_X9_log rfl wd_4_186 ⟨Nat.le_of_ble_eq_true rfl, Nat.le_of_ble_eq_true rfl⟩ ⟨Nat.le_of_ble_eq_true rfl, Nat.le_of_ble_eq_true rfl⟩
    · refine h_i2l (pc := 10) ?_ dL_log_10
      refine h_las (pc := 11) ?_ dL_log_11
      refine h_goto (pc := 12) (t := 27) ?_ dL_log_12 (by decide)
      refine h_iconst (pc := 27) ?_ dL_log_27 (by decide)
      exact h_ir dL_log_28 rfl (Nat.le_of_ble_eq_true rfl) (Nat.le_of_ble_eq_true rfl)
    · intro E M' h
      rcases h with ⟨rfl, hq⟩ | ⟨rfl, hq⟩ | ⟨rfl, hq⟩
      · exact ⟨_, hd_log_0, hq⟩
      · exact ⟨_, hd_log_1, hq⟩
      · exact ⟨_, hd_log_2, hq⟩
  refine hw _ _ _ ?_
  refine (show Tr true l G Y_X9_log [.ref 0, .int v, .int w, .int u] M _ _ → _ from fun t => ?_) h
  clear h hw
  have z8 : (List.map Value.category [.int 0, .ref 1105]).sum ≤ 8 := by decide
  refine ⟨k_F, z8, t.mono (fun r M' h => ?_) fun _ _ h => h⟩
  obtain ⟨x, rfl, hq⟩ := h
  exact ⟨k_O, k_O0, hq⟩
abbrev Y_L_confirm : YT := (yL_confirm, cL_confirm, 5, (some .int), 8, 147, 1, 6)
abbrev hh_confirm : List (Nat × Nat × Nat × Nat) := [(0,10,13,24), (0,10,17,13), (0,10,21,15)]
theorem hd_confirm_0 : Hand Y_L_confirm hh_confirm 5 "java/lang/IndexOutOfBoundsException" 1 :=
  ⟨[], ⟨0, 10, 13, 24⟩, [⟨0, 10, 17, 13⟩, ⟨0, 10, 21, 15⟩], 4, 2, 1, rfl, (fun z hz => by cases hz), by decide, by decide, wd_4_171, List.mem_cons_self .., Or.inl ⟨rfl, dL_confirm_13⟩, (Nat.le_of_ble_eq_true rfl), dL_confirm_15, by decide, dL_confirm_16⟩
theorem hd_confirm_1 : Hand Y_L_confirm hh_confirm 5 "java/lang/IllegalArgumentException" 2 :=
  ⟨[⟨0, 10, 13, 24⟩], ⟨0, 10, 17, 13⟩, [⟨0, 10, 21, 15⟩], 4, 2, 2, rfl, (fun z hz => by
      rcases List.mem_cons.mp hz with rfl | hz
      · exact ⟨by decide, _, wd_4_171, List.mem_cons_self ..⟩
      cases hz), by decide, by decide, wd_4_52, List.mem_cons_of_mem _ (List.mem_cons_self ..), Or.inl ⟨rfl, dL_confirm_17⟩, (Nat.le_of_ble_eq_true rfl), dL_confirm_19, by decide, dL_confirm_20⟩
theorem hd_confirm_2 : Hand Y_L_confirm hh_confirm 5 "java/lang/IllegalStateException" 3 :=
  ⟨[⟨0, 10, 13, 24⟩, ⟨0, 10, 17, 13⟩], ⟨0, 10, 21, 15⟩, [], 4, 2, 3, rfl, (fun z hz => by
      rcases List.mem_cons.mp hz with rfl | hz
      · exact ⟨by decide, _, wd_4_171, List.mem_cons_of_mem _ (List.mem_cons_self ..)⟩
      rcases List.mem_cons.mp hz with rfl | hz
      · exact ⟨by decide, _, wd_4_52, List.mem_cons_of_mem _ (List.mem_cons_of_mem _ (List.mem_cons_self ..))⟩
      cases hz), by decide, by decide, wd_4_53, List.mem_cons_of_mem _ (List.mem_cons_of_mem _ (List.mem_cons_self ..)), Or.inl ⟨rfl, dL_confirm_21⟩, (Nat.le_of_ble_eq_true rfl), dL_confirm_23, by decide, dL_confirm_24⟩
theorem hp_confirm (h : Tr true l G Y_X9_confirm [.ref 0, .int v, .int w] M (fun r M' => ∃ x : Int32, r = some (.int x) ∧ Q (some (.int 0)) (sL M' 1105 0 x.toInt64)) (fun E M' => (E = "java/lang/IndexOutOfBoundsException" ∧ Q (some (.int 1)) M') ∨ (E = "java/lang/IllegalArgumentException" ∧ Q (some (.int 2)) M') ∨ (E = "java/lang/IllegalStateException" ∧ Q (some (.int 3)) M'))) : TrH l G Y_L_confirm hh_confirm [.ref 0, .int v, .int w, .ref 1105] M Q := by
  refine trh_of (L0 := [.ref 0, .int v, .int w, .ref 1105, xx]) (by decide) (Nat.le_of_ble_eq_true rfl) rfl fun F => ?_
  have hw : Le (I_al 3 (I_ic 0 (I_al 0 (I_il 1 (I_il 2 (I_cvX (Tr true l G Y_X9_confirm) 7 3 2 (fun E M' => (E = "java/lang/IndexOutOfBoundsException" ∧ Q (some (.int 1)) M') ∨ (E = "java/lang/IllegalArgumentException" ∧ Q (some (.int 2)) M') ∨ (E = "java/lang/IllegalStateException" ∧ Q (some (.int 3)) M')) (I_i2l (I_las (I_ic 0 (I_ir Q)))))))))) (Wh l G F Y_L_confirm hh_confirm Q 0 0 0) := by
    refine h_aload_n (pc := 0) ?_ dL_confirm_0 rfl
    refine h_iconst (pc := 1) ?_ dL_confirm_1 (by decide)
    refine h_aload_n (pc := 2) ?_ dL_confirm_2 rfl
    refine h_iload_n (pc := 3) ?_ dL_confirm_3 rfl
    refine h_iload_n (pc := 4) ?_ dL_confirm_4 rfl
    refine h_cvX (pc := 5) ?_ ?_ rfl dL_confirm_5 ok_X9_confirm rfl wd_4_193 ⟨Nat.le_of_ble_eq_true rfl, Nat.le_of_ble_eq_true rfl⟩ ⟨Nat.le_of_ble_eq_true rfl, Nat.le_of_ble_eq_true rfl⟩
    · refine h_i2l (pc := 8) ?_ dL_confirm_8
      refine h_las (pc := 9) ?_ dL_confirm_9
      refine h_goto (pc := 10) (t := 25) ?_ dL_confirm_10 (by decide)
      refine h_iconst (pc := 25) ?_ dL_confirm_25 (by decide)
      exact h_ir dL_confirm_26 rfl (Nat.le_of_ble_eq_true rfl) (Nat.le_of_ble_eq_true rfl)
    · intro E M' h
      rcases h with ⟨rfl, hq⟩ | ⟨rfl, hq⟩ | ⟨rfl, hq⟩
      · exact ⟨_, hd_confirm_0, hq⟩
      · exact ⟨_, hd_confirm_1, hq⟩
      · exact ⟨_, hd_confirm_2, hq⟩
  refine hw _ _ _ ?_
  refine (show Tr true l G Y_X9_confirm [.ref 0, .int v, .int w] M _ _ → _ from fun t => ?_) h
  clear h hw
  have z8 : (List.map Value.category [.int 0, .ref 1105]).sum ≤ 8 := by decide
  refine ⟨k_F, z8, t.mono (fun r M' h => ?_) fun _ _ h => h⟩
  obtain ⟨x, rfl, hq⟩ := h
  exact ⟨k_O, k_O0, hq⟩
abbrev Y_L_doubt : YT := (yL_doubt, cL_doubt, 4, (some .int), 8, 146, 1, 6)
abbrev hh_doubt : List (Nat × Nat × Nat × Nat) := [(0,9,12,24), (0,9,15,15)]
theorem hd_doubt_0 : Hand Y_L_doubt hh_doubt 4 "java/lang/IndexOutOfBoundsException" 1 :=
  ⟨[], ⟨0, 9, 12, 24⟩, [⟨0, 9, 15, 15⟩], 3, 1, 1, rfl, (fun z hz => by cases hz), by decide, by decide, wd_4_171, List.mem_cons_self .., Or.inr ⟨rfl, 3, rfl, dL_doubt_12⟩, (Nat.le_of_ble_eq_true rfl), dL_doubt_13, by decide, dL_doubt_14⟩
theorem hd_doubt_1 : Hand Y_L_doubt hh_doubt 4 "java/lang/IllegalStateException" 2 :=
  ⟨[⟨0, 9, 12, 24⟩], ⟨0, 9, 15, 15⟩, [], 3, 1, 2, rfl, (fun z hz => by
      rcases List.mem_cons.mp hz with rfl | hz
      · exact ⟨by decide, _, wd_4_171, List.mem_cons_of_mem _ (List.mem_cons_self ..)⟩
      cases hz), by decide, by decide, wd_4_53, List.mem_cons_of_mem _ (List.mem_cons_of_mem _ (List.mem_cons_self ..)), Or.inr ⟨rfl, 3, rfl, dL_doubt_15⟩, (Nat.le_of_ble_eq_true rfl), dL_doubt_16, by decide, dL_doubt_17⟩
theorem hp_doubt (h : Tr true l G Y_X9_doubt [.ref 0, .int v] M (fun r M' => ∃ x : Int32, r = some (.int x) ∧ Q (some (.int 0)) (sL M' 1105 0 x.toInt64)) (fun E M' => (E = "java/lang/IndexOutOfBoundsException" ∧ Q (some (.int 1)) M') ∨ (E = "java/lang/IllegalStateException" ∧ Q (some (.int 2)) M'))) : TrH l G Y_L_doubt hh_doubt [.ref 0, .int v, .ref 1105] M Q := by
  refine trh_of (L0 := [.ref 0, .int v, .ref 1105, xx]) (by decide) (Nat.le_of_ble_eq_true rfl) rfl fun F => ?_
  have hw : Le (I_al 2 (I_ic 0 (I_al 0 (I_il 1 (I_cvX (Tr true l G Y_X9_doubt) 7 3 1 (fun E M' => (E = "java/lang/IndexOutOfBoundsException" ∧ Q (some (.int 1)) M') ∨ (E = "java/lang/IllegalStateException" ∧ Q (some (.int 2)) M')) (I_i2l (I_las (I_ic 0 (I_ir Q))))))))) (Wh l G F Y_L_doubt hh_doubt Q 0 0 0) := by
    refine h_aload_n (pc := 0) ?_ dL_doubt_0 rfl
    refine h_iconst (pc := 1) ?_ dL_doubt_1 (by decide)
    refine h_aload_n (pc := 2) ?_ dL_doubt_2 rfl
    refine h_iload_n (pc := 3) ?_ dL_doubt_3 rfl
    refine h_cvX (pc := 4) ?_ ?_ rfl dL_doubt_4 ok_X9_doubt rfl wd_4_200 ⟨Nat.le_of_ble_eq_true rfl, Nat.le_of_ble_eq_true rfl⟩ ⟨Nat.le_of_ble_eq_true rfl, Nat.le_of_ble_eq_true rfl⟩
    · refine h_i2l (pc := 7) ?_ dL_doubt_7
      refine h_las (pc := 8) ?_ dL_doubt_8
      refine h_goto (pc := 9) (t := 18) ?_ dL_doubt_9 (by decide)
      refine h_iconst (pc := 18) ?_ dL_doubt_18 (by decide)
      exact h_ir dL_doubt_19 rfl (Nat.le_of_ble_eq_true rfl) (Nat.le_of_ble_eq_true rfl)
    · intro E M' h
      rcases h with ⟨rfl, hq⟩ | ⟨rfl, hq⟩
      · exact ⟨_, hd_doubt_0, hq⟩
      · exact ⟨_, hd_doubt_1, hq⟩
  refine hw _ _ _ ?_
  refine (show Tr true l G Y_X9_doubt [.ref 0, .int v] M _ _ → _ from fun t => ?_) h
  clear h hw
  have z8 : (List.map Value.category [.int 0, .ref 1105]).sum ≤ 8 := by decide
  refine ⟨k_F, z8, t.mono (fun r M' h => ?_) fun _ _ h => h⟩
  obtain ⟨x, rfl, hq⟩ := h
  exact ⟨k_O, k_O0, hq⟩
abbrev Y_L_settle : YT := (yL_settle, cL_settle, 5, (some .int), 8, 147, 1, 6)
abbrev hh_settle : List (Nat × Nat × Nat × Nat) := [(0,10,13,24), (0,10,17,15)]
theorem hd_settle_0 : Hand Y_L_settle hh_settle 5 "java/lang/IndexOutOfBoundsException" 1 :=
  ⟨[], ⟨0, 10, 13, 24⟩, [⟨0, 10, 17, 15⟩], 4, 2, 1, rfl, (fun z hz => by cases hz), by decide, by decide, wd_4_171, List.mem_cons_self .., Or.inl ⟨rfl, dL_settle_13⟩, (Nat.le_of_ble_eq_true rfl), dL_settle_15, by decide, dL_settle_16⟩
theorem hd_settle_1 : Hand Y_L_settle hh_settle 5 "java/lang/IllegalStateException" 2 :=
  ⟨[⟨0, 10, 13, 24⟩], ⟨0, 10, 17, 15⟩, [], 4, 2, 2, rfl, (fun z hz => by
      rcases List.mem_cons.mp hz with rfl | hz
      · exact ⟨by decide, _, wd_4_171, List.mem_cons_of_mem _ (List.mem_cons_self ..)⟩
      cases hz), by decide, by decide, wd_4_53, List.mem_cons_of_mem _ (List.mem_cons_of_mem _ (List.mem_cons_self ..)), Or.inl ⟨rfl, dL_settle_17⟩, (Nat.le_of_ble_eq_true rfl), dL_settle_19, by decide, dL_settle_20⟩
theorem hp_settle (h : Tr true l G Y_X9_settle [.ref 0, .int v, .int w] M (fun r M' => ∃ x : Int32, r = some (.int x) ∧ Q (some (.int 0)) (sL M' 1105 0 x.toInt64)) (fun E M' => (E = "java/lang/IndexOutOfBoundsException" ∧ Q (some (.int 1)) M') ∨ (E = "java/lang/IllegalStateException" ∧ Q (some (.int 2)) M'))) : TrH l G Y_L_settle hh_settle [.ref 0, .int v, .int w, .ref 1105] M Q := by
  refine trh_of (L0 := [.ref 0, .int v, .int w, .ref 1105, xx]) (by decide) (Nat.le_of_ble_eq_true rfl) rfl fun F => ?_
  have hw : Le (I_al 3 (I_ic 0 (I_al 0 (I_il 1 (I_il 2 (I_cvX (Tr true l G Y_X9_settle) 7 3 2 (fun E M' => (E = "java/lang/IndexOutOfBoundsException" ∧ Q (some (.int 1)) M') ∨ (E = "java/lang/IllegalStateException" ∧ Q (some (.int 2)) M')) (I_i2l (I_las (I_ic 0 (I_ir Q)))))))))) (Wh l G F Y_L_settle hh_settle Q 0 0 0) := by
    refine h_aload_n (pc := 0) ?_ dL_settle_0 rfl
    refine h_iconst (pc := 1) ?_ dL_settle_1 (by decide)
    refine h_aload_n (pc := 2) ?_ dL_settle_2 rfl
    refine h_iload_n (pc := 3) ?_ dL_settle_3 rfl
    refine h_iload_n (pc := 4) ?_ dL_settle_4 rfl
    refine h_cvX (pc := 5) ?_ ?_ rfl dL_settle_5 ok_X9_settle rfl wd_4_207 ⟨Nat.le_of_ble_eq_true rfl, Nat.le_of_ble_eq_true rfl⟩ ⟨Nat.le_of_ble_eq_true rfl, Nat.le_of_ble_eq_true rfl⟩
    · refine h_i2l (pc := 8) ?_ dL_settle_8
      refine h_las (pc := 9) ?_ dL_settle_9
      refine h_goto (pc := 10) (t := 21) ?_ dL_settle_10 (by decide)
      refine h_iconst (pc := 21) ?_ dL_settle_21 (by decide)
      exact h_ir dL_settle_22 rfl (Nat.le_of_ble_eq_true rfl) (Nat.le_of_ble_eq_true rfl)
    · intro E M' h
      rcases h with ⟨rfl, hq⟩ | ⟨rfl, hq⟩
      · exact ⟨_, hd_settle_0, hq⟩
      · exact ⟨_, hd_settle_1, hq⟩
  refine hw _ _ _ ?_
  refine (show Tr true l G Y_X9_settle [.ref 0, .int v, .int w] M _ _ → _ from fun t => ?_) h
  clear h hw
  have z8 : (List.map Value.category [.int 0, .ref 1105]).sum ≤ 8 := by decide
  refine ⟨k_F, z8, t.mono (fun r M' h => ?_) fun _ _ h => h⟩
  obtain ⟨x, rfl, hq⟩ := h
  exact ⟨k_O, k_O0, hq⟩
abbrev Y_L_credit : YT := (yL_credit, cL_credit, 6, (some .int), 8, 148, 1, 6)
abbrev hh_credit : List (Nat × Nat × Nat × Nat) := [(0,12,15,24), (0,12,19,13), (0,12,23,15)]
theorem hd_credit_0 : Hand Y_L_credit hh_credit 7 "java/lang/IndexOutOfBoundsException" 1 :=
  ⟨[], ⟨0, 12, 15, 24⟩, [⟨0, 12, 19, 13⟩, ⟨0, 12, 23, 15⟩], 5, 2, 1, rfl, (fun z hz => by cases hz), by decide, by decide, wd_4_171, List.mem_cons_self .., Or.inl ⟨rfl, dL_credit_15⟩, (Nat.le_of_ble_eq_true rfl), dL_credit_17, by decide, dL_credit_18⟩
theorem hd_credit_1 : Hand Y_L_credit hh_credit 7 "java/lang/IllegalArgumentException" 2 :=
  ⟨[⟨0, 12, 15, 24⟩], ⟨0, 12, 19, 13⟩, [⟨0, 12, 23, 15⟩], 5, 2, 2, rfl, (fun z hz => by
      rcases List.mem_cons.mp hz with rfl | hz
      · exact ⟨by decide, _, wd_4_171, List.mem_cons_self ..⟩
      cases hz), by decide, by decide, wd_4_52, List.mem_cons_of_mem _ (List.mem_cons_self ..), Or.inl ⟨rfl, dL_credit_19⟩, (Nat.le_of_ble_eq_true rfl), dL_credit_21, by decide, dL_credit_22⟩
theorem hd_credit_2 : Hand Y_L_credit hh_credit 7 "java/lang/IllegalStateException" 3 :=
  ⟨[⟨0, 12, 15, 24⟩, ⟨0, 12, 19, 13⟩], ⟨0, 12, 23, 15⟩, [], 5, 2, 3, rfl, (fun z hz => by
      rcases List.mem_cons.mp hz with rfl | hz
      · exact ⟨by decide, _, wd_4_171, List.mem_cons_of_mem _ (List.mem_cons_self ..)⟩
      rcases List.mem_cons.mp hz with rfl | hz
      · exact ⟨by decide, _, wd_4_52, List.mem_cons_of_mem _ (List.mem_cons_of_mem _ (List.mem_cons_self ..))⟩
      cases hz), by decide, by decide, wd_4_53, List.mem_cons_of_mem _ (List.mem_cons_of_mem _ (List.mem_cons_self ..)), Or.inl ⟨rfl, dL_credit_23⟩, (Nat.le_of_ble_eq_true rfl), dL_credit_25, by decide, dL_credit_26⟩
theorem hp_credit (h : Tr true l G Y_X9_credit [.ref 0, .int v, .int w, .int u] M (fun r M' => ∃ x : Int32, r = some (.int x) ∧ Q (some (.int 0)) (sL M' 1105 0 x.toInt64)) (fun E M' => (E = "java/lang/IndexOutOfBoundsException" ∧ Q (some (.int 1)) M') ∨ (E = "java/lang/IllegalArgumentException" ∧ Q (some (.int 2)) M') ∨ (E = "java/lang/IllegalStateException" ∧ Q (some (.int 3)) M'))) : TrH l G Y_L_credit hh_credit [.ref 0, .int v, .int w, .int u, .ref 1105] M Q := by
  refine trh_of (L0 := [.ref 0, .int v, .int w, .int u, .ref 1105, xx]) (by decide) (Nat.le_of_ble_eq_true rfl) rfl fun F => ?_
  have hw : Le (I_al 4 (I_ic 0 (I_al 0 (I_il 1 (I_il 2 (I_il 3 (I_cvX (Tr true l G Y_X9_credit) 7 3 3 (fun E M' => (E = "java/lang/IndexOutOfBoundsException" ∧ Q (some (.int 1)) M') ∨ (E = "java/lang/IllegalArgumentException" ∧ Q (some (.int 2)) M') ∨ (E = "java/lang/IllegalStateException" ∧ Q (some (.int 3)) M')) (I_i2l (I_las (I_ic 0 (I_ir Q))))))))))) (Wh l G F Y_L_credit hh_credit Q 0 0 0) := by
    refine h_aload (pc := 0) ?_ dL_credit_0
    refine h_iconst (pc := 2) ?_ dL_credit_2 (by decide)
    refine h_aload_n (pc := 3) ?_ dL_credit_3 rfl
    refine h_iload_n (pc := 4) ?_ dL_credit_4 rfl
    refine h_iload_n (pc := 5) ?_ dL_credit_5 rfl
    refine h_iload_n (pc := 6) ?_ dL_credit_6 rfl
    refine h_cvX (pc := 7) ?_ ?_ rfl dL_credit_7 ok_X9_credit rfl wd_4_214 ⟨Nat.le_of_ble_eq_true rfl, Nat.le_of_ble_eq_true rfl⟩ ⟨Nat.le_of_ble_eq_true rfl, Nat.le_of_ble_eq_true rfl⟩
    · refine h_i2l (pc := 10) ?_ dL_credit_10
      refine h_las (pc := 11) ?_ dL_credit_11
      refine h_goto (pc := 12) (t := 27) ?_ dL_credit_12 (by decide)
      refine h_iconst (pc := 27) ?_ dL_credit_27 (by decide)
      exact h_ir dL_credit_28 rfl (Nat.le_of_ble_eq_true rfl) (Nat.le_of_ble_eq_true rfl)
    · intro E M' h
      rcases h with ⟨rfl, hq⟩ | ⟨rfl, hq⟩ | ⟨rfl, hq⟩
      · exact ⟨_, hd_credit_0, hq⟩
      · exact ⟨_, hd_credit_1, hq⟩
      · exact ⟨_, hd_credit_2, hq⟩
  refine hw _ _ _ ?_
  refine (show Tr true l G Y_X9_credit [.ref 0, .int v, .int w, .int u] M _ _ → _ from fun t => ?_) h
  clear h hw
  have z8 : (List.map Value.category [.int 0, .ref 1105]).sum ≤ 8 := by decide
  refine ⟨k_F, z8, t.mono (fun r M' h => ?_) fun _ _ h => h⟩
  obtain ⟨x, rfl, hq⟩ := h
  exact ⟨k_O, k_O0, hq⟩
abbrev Y_L_endDay : YT := (yL_endDay, cL_endDay, 3, (some .int), 8, 150, 1, 6)
abbrev hh_endDay : List (Nat × Nat × Nat × Nat) := [(0,8,11,15)]
theorem hd_endDay_0 : Hand Y_L_endDay hh_endDay 3 "java/lang/IllegalStateException" 1 :=
  ⟨[], ⟨0, 8, 11, 15⟩, [], 2, 1, 1, rfl, (fun z hz => by cases hz), by decide, by decide, wd_4_53, List.mem_cons_of_mem _ (List.mem_cons_of_mem _ (List.mem_cons_self ..)), Or.inr ⟨rfl, 2, rfl, dL_endDay_11⟩, (Nat.le_of_ble_eq_true rfl), dL_endDay_12, by decide, dL_endDay_13⟩
theorem hp_endDay (h : Tr true l G Y_X9_endDay [.ref 0] M (fun r M' => ∃ x : Int32, r = some (.int x) ∧ Q (some (.int 0)) (sL M' 1105 0 x.toInt64)) (fun E M' => (E = "java/lang/IllegalStateException" ∧ Q (some (.int 1)) M'))) : TrH l G Y_L_endDay hh_endDay [.ref 0, .ref 1105] M Q := by
  refine trh_of (L0 := [.ref 0, .ref 1105, xx]) (by decide) (Nat.le_of_ble_eq_true rfl) rfl fun F => ?_
  have hw : Le (I_al 1 (I_ic 0 (I_al 0 (I_cvX (Tr true l G Y_X9_endDay) 7 3 0 (fun E M' => (E = "java/lang/IllegalStateException" ∧ Q (some (.int 1)) M')) (I_i2l (I_las (I_ic 0 (I_ir Q)))))))) (Wh l G F Y_L_endDay hh_endDay Q 0 0 0) := by
    refine h_aload_n (pc := 0) ?_ dL_endDay_0 rfl
    refine h_iconst (pc := 1) ?_ dL_endDay_1 (by decide)
    refine h_aload_n (pc := 2) ?_ dL_endDay_2 rfl
    refine h_cvX (pc := 3) ?_ ?_ rfl dL_endDay_3 ok_X9_endDay rfl wd_4_233 ⟨Nat.le_of_ble_eq_true rfl, Nat.le_of_ble_eq_true rfl⟩ ⟨Nat.le_of_ble_eq_true rfl, Nat.le_of_ble_eq_true rfl⟩
    · refine h_i2l (pc := 6) ?_ dL_endDay_6
      refine h_las (pc := 7) ?_ dL_endDay_7
      refine h_goto (pc := 8) (t := 14) ?_ dL_endDay_8 (by decide)
      refine h_iconst (pc := 14) ?_ dL_endDay_14 (by decide)
      exact h_ir dL_endDay_15 rfl (Nat.le_of_ble_eq_true rfl) (Nat.le_of_ble_eq_true rfl)
    · intro E M' h
      obtain ⟨rfl, hq⟩ := h
      exact ⟨_, hd_endDay_0, hq⟩
  refine hw _ _ _ ?_
  refine (show Tr true l G Y_X9_endDay [.ref 0] M _ _ → _ from fun t => ?_) h
  clear h hw
  have z8 : (List.map Value.category [.int 0, .ref 1105]).sum ≤ 8 := by decide
  refine ⟨k_F, z8, t.mono (fun r M' h => ?_) fun _ _ h => h⟩
  obtain ⟨x, rfl, hq⟩ := h
  exact ⟨k_O, k_O0, hq⟩
abbrev Y_L_move : YT := (yL_move, cL_move, 5, (some .int), 8, 150, 1, 6)
abbrev hh_move : List (Nat × Nat × Nat × Nat) := [(0,10,13,24), (0,10,17,15)]
theorem hd_move_0 : Hand Y_L_move hh_move 5 "java/lang/IndexOutOfBoundsException" 1 :=
  ⟨[], ⟨0, 10, 13, 24⟩, [⟨0, 10, 17, 15⟩], 4, 2, 1, rfl, (fun z hz => by cases hz), by decide, by decide, wd_4_171, List.mem_cons_self .., Or.inl ⟨rfl, dL_move_13⟩, (Nat.le_of_ble_eq_true rfl), dL_move_15, by decide, dL_move_16⟩
theorem hd_move_1 : Hand Y_L_move hh_move 5 "java/lang/IllegalStateException" 2 :=
  ⟨[⟨0, 10, 13, 24⟩], ⟨0, 10, 17, 15⟩, [], 4, 2, 2, rfl, (fun z hz => by
      rcases List.mem_cons.mp hz with rfl | hz
      · exact ⟨by decide, _, wd_4_171, List.mem_cons_of_mem _ (List.mem_cons_self ..)⟩
      cases hz), by decide, by decide, wd_4_53, List.mem_cons_of_mem _ (List.mem_cons_of_mem _ (List.mem_cons_self ..)), Or.inl ⟨rfl, dL_move_17⟩, (Nat.le_of_ble_eq_true rfl), dL_move_19, by decide, dL_move_20⟩
theorem hp_move (h : Tr true l G Y_X9_move [.ref 0, .int v, .int w] M (fun r M' => ∃ x : Int32, r = some (.int x) ∧ Q (some (.int 0)) (sL M' 1105 0 x.toInt64)) (fun E M' => (E = "java/lang/IndexOutOfBoundsException" ∧ Q (some (.int 1)) M') ∨ (E = "java/lang/IllegalStateException" ∧ Q (some (.int 2)) M'))) : TrH l G Y_L_move hh_move [.ref 0, .int v, .int w, .ref 1105] M Q := by
  refine trh_of (L0 := [.ref 0, .int v, .int w, .ref 1105, xx]) (by decide) (Nat.le_of_ble_eq_true rfl) rfl fun F => ?_
  have hw : Le (I_al 3 (I_ic 0 (I_al 0 (I_il 1 (I_il 2 (I_cvX (Tr true l G Y_X9_move) 7 3 2 (fun E M' => (E = "java/lang/IndexOutOfBoundsException" ∧ Q (some (.int 1)) M') ∨ (E = "java/lang/IllegalStateException" ∧ Q (some (.int 2)) M')) (I_i2l (I_las (I_ic 0 (I_ir Q)))))))))) (Wh l G F Y_L_move hh_move Q 0 0 0) := by
    refine h_aload_n (pc := 0) ?_ dL_move_0 rfl
    refine h_iconst (pc := 1) ?_ dL_move_1 (by decide)
    refine h_aload_n (pc := 2) ?_ dL_move_2 rfl
    refine h_iload_n (pc := 3) ?_ dL_move_3 rfl
    refine h_iload_n (pc := 4) ?_ dL_move_4 rfl
    refine h_cvX (pc := 5) ?_ ?_ rfl dL_move_5 ok_X9_move rfl wd_5_0 ⟨Nat.le_of_ble_eq_true rfl, Nat.le_of_ble_eq_true rfl⟩ ⟨Nat.le_of_ble_eq_true rfl, Nat.le_of_ble_eq_true rfl⟩
    · refine h_i2l (pc := 8) ?_ dL_move_8
      refine h_las (pc := 9) ?_ dL_move_9
      refine h_goto (pc := 10) (t := 21) ?_ dL_move_10 (by decide)
      refine h_iconst (pc := 21) ?_ dL_move_21 (by decide)
      exact h_ir dL_move_22 rfl (Nat.le_of_ble_eq_true rfl) (Nat.le_of_ble_eq_true rfl)
    · intro E M' h
      rcases h with ⟨rfl, hq⟩ | ⟨rfl, hq⟩
      · exact ⟨_, hd_move_0, hq⟩
      · exact ⟨_, hd_move_1, hq⟩
  refine hw _ _ _ ?_
  refine (show Tr true l G Y_X9_move [.ref 0, .int v, .int w] M _ _ → _ from fun t => ?_) h
  clear h hw
  have z8 : (List.map Value.category [.int 0, .ref 1105]).sum ≤ 8 := by decide
  refine ⟨k_F, z8, t.mono (fun r M' h => ?_) fun _ _ h => h⟩
  obtain ⟨x, rfl, hq⟩ := h
  exact ⟨k_O, k_O0, hq⟩
abbrev Y_L_leave : YT := (yL_leave, cL_leave, 4, (some .int), 8, 146, 1, 6)
abbrev hh_leave : List (Nat × Nat × Nat × Nat) := [(0,9,12,24), (0,9,15,15)]
theorem hd_leave_0 : Hand Y_L_leave hh_leave 4 "java/lang/IndexOutOfBoundsException" 1 :=
  ⟨[], ⟨0, 9, 12, 24⟩, [⟨0, 9, 15, 15⟩], 3, 1, 1, rfl, (fun z hz => by cases hz), by decide, by decide, wd_4_171, List.mem_cons_self .., Or.inr ⟨rfl, 3, rfl, dL_leave_12⟩, (Nat.le_of_ble_eq_true rfl), dL_leave_13, by decide, dL_leave_14⟩
theorem hd_leave_1 : Hand Y_L_leave hh_leave 4 "java/lang/IllegalStateException" 2 :=
  ⟨[⟨0, 9, 12, 24⟩], ⟨0, 9, 15, 15⟩, [], 3, 1, 2, rfl, (fun z hz => by
      rcases List.mem_cons.mp hz with rfl | hz
      · exact ⟨by decide, _, wd_4_171, List.mem_cons_of_mem _ (List.mem_cons_self ..)⟩
      cases hz), by decide, by decide, wd_4_53, List.mem_cons_of_mem _ (List.mem_cons_of_mem _ (List.mem_cons_self ..)), Or.inr ⟨rfl, 3, rfl, dL_leave_15⟩, (Nat.le_of_ble_eq_true rfl), dL_leave_16, by decide, dL_leave_17⟩
theorem hp_leave (h : Tr true l G Y_X9_leave [.ref 0, .int v] M (fun r M' => ∃ x : Int32, r = some (.int x) ∧ Q (some (.int 0)) (sL M' 1105 0 x.toInt64)) (fun E M' => (E = "java/lang/IndexOutOfBoundsException" ∧ Q (some (.int 1)) M') ∨ (E = "java/lang/IllegalStateException" ∧ Q (some (.int 2)) M'))) : TrH l G Y_L_leave hh_leave [.ref 0, .int v, .ref 1105] M Q := by
  refine trh_of (L0 := [.ref 0, .int v, .ref 1105, xx]) (by decide) (Nat.le_of_ble_eq_true rfl) rfl fun F => ?_
  have hw : Le (I_al 2 (I_ic 0 (I_al 0 (I_il 1 (I_cvX (Tr true l G Y_X9_leave) 7 3 1 (fun E M' => (E = "java/lang/IndexOutOfBoundsException" ∧ Q (some (.int 1)) M') ∨ (E = "java/lang/IllegalStateException" ∧ Q (some (.int 2)) M')) (I_i2l (I_las (I_ic 0 (I_ir Q))))))))) (Wh l G F Y_L_leave hh_leave Q 0 0 0) := by
    refine h_aload_n (pc := 0) ?_ dL_leave_0 rfl
    refine h_iconst (pc := 1) ?_ dL_leave_1 (by decide)
    refine h_aload_n (pc := 2) ?_ dL_leave_2 rfl
    refine h_iload_n (pc := 3) ?_ dL_leave_3 rfl
    refine h_cvX (pc := 4) ?_ ?_ rfl dL_leave_4 ok_X9_leave rfl wd_5_7 ⟨Nat.le_of_ble_eq_true rfl, Nat.le_of_ble_eq_true rfl⟩ ⟨Nat.le_of_ble_eq_true rfl, Nat.le_of_ble_eq_true rfl⟩
    · refine h_i2l (pc := 7) ?_ dL_leave_7
      refine h_las (pc := 8) ?_ dL_leave_8
      refine h_goto (pc := 9) (t := 18) ?_ dL_leave_9 (by decide)
      refine h_iconst (pc := 18) ?_ dL_leave_18 (by decide)
      exact h_ir dL_leave_19 rfl (Nat.le_of_ble_eq_true rfl) (Nat.le_of_ble_eq_true rfl)
    · intro E M' h
      rcases h with ⟨rfl, hq⟩ | ⟨rfl, hq⟩
      · exact ⟨_, hd_leave_0, hq⟩
      · exact ⟨_, hd_leave_1, hq⟩
  refine hw _ _ _ ?_
  refine (show Tr true l G Y_X9_leave [.ref 0, .int v] M _ _ → _ from fun t => ?_) h
  clear h hw
  have z8 : (List.map Value.category [.int 0, .ref 1105]).sum ≤ 8 := by decide
  refine ⟨k_F, z8, t.mono (fun r M' h => ?_) fun _ _ h => h⟩
  obtain ⟨x, rfl, hq⟩ := h
  exact ⟨k_O, k_O0, hq⟩
abbrev Y_L_exchange : YT := (yL_exchange, cL_exchange, 5, (some .int), 8, 152, 1, 6)
abbrev hh_exchange : List (Nat × Nat × Nat × Nat) := [(0,10,13,24), (0,10,17,13), (0,10,21,15)]
theorem hd_exchange_0 : Hand Y_L_exchange hh_exchange 5 "java/lang/IndexOutOfBoundsException" 1 :=
  ⟨[], ⟨0, 10, 13, 24⟩, [⟨0, 10, 17, 13⟩, ⟨0, 10, 21, 15⟩], 4, 2, 1, rfl, (fun z hz => by cases hz), by decide, by decide, wd_4_171, List.mem_cons_self .., Or.inl ⟨rfl, dL_exchange_13⟩, (Nat.le_of_ble_eq_true rfl), dL_exchange_15, by decide, dL_exchange_16⟩
theorem hd_exchange_1 : Hand Y_L_exchange hh_exchange 5 "java/lang/IllegalArgumentException" 2 :=
  ⟨[⟨0, 10, 13, 24⟩], ⟨0, 10, 17, 13⟩, [⟨0, 10, 21, 15⟩], 4, 2, 2, rfl, (fun z hz => by
      rcases List.mem_cons.mp hz with rfl | hz
      · exact ⟨by decide, _, wd_4_171, List.mem_cons_self ..⟩
      cases hz), by decide, by decide, wd_4_52, List.mem_cons_of_mem _ (List.mem_cons_self ..), Or.inl ⟨rfl, dL_exchange_17⟩, (Nat.le_of_ble_eq_true rfl), dL_exchange_19, by decide, dL_exchange_20⟩
theorem hd_exchange_2 : Hand Y_L_exchange hh_exchange 5 "java/lang/IllegalStateException" 3 :=
  ⟨[⟨0, 10, 13, 24⟩, ⟨0, 10, 17, 13⟩], ⟨0, 10, 21, 15⟩, [], 4, 2, 3, rfl, (fun z hz => by
      rcases List.mem_cons.mp hz with rfl | hz
      · exact ⟨by decide, _, wd_4_171, List.mem_cons_of_mem _ (List.mem_cons_self ..)⟩
      rcases List.mem_cons.mp hz with rfl | hz
      · exact ⟨by decide, _, wd_4_52, List.mem_cons_of_mem _ (List.mem_cons_of_mem _ (List.mem_cons_self ..))⟩
      cases hz), by decide, by decide, wd_4_53, List.mem_cons_of_mem _ (List.mem_cons_of_mem _ (List.mem_cons_self ..)), Or.inl ⟨rfl, dL_exchange_21⟩, (Nat.le_of_ble_eq_true rfl), dL_exchange_23, by decide, dL_exchange_24⟩
theorem hp_exchange (h : Tr true l G Y_X9_exchange [.ref 0, .int v, .int w] M (fun r M' => ∃ x : Int32, r = some (.int x) ∧ Q (some (.int 0)) (sL M' 1105 0 x.toInt64)) (fun E M' => (E = "java/lang/IndexOutOfBoundsException" ∧ Q (some (.int 1)) M') ∨ (E = "java/lang/IllegalArgumentException" ∧ Q (some (.int 2)) M') ∨ (E = "java/lang/IllegalStateException" ∧ Q (some (.int 3)) M'))) : TrH l G Y_L_exchange hh_exchange [.ref 0, .int v, .int w, .ref 1105] M Q := by
  refine trh_of (L0 := [.ref 0, .int v, .int w, .ref 1105, xx]) (by decide) (Nat.le_of_ble_eq_true rfl) rfl fun F => ?_
  have hw : Le (I_al 3 (I_ic 0 (I_al 0 (I_il 1 (I_il 2 (I_cvX (Tr true l G Y_X9_exchange) 7 3 2 (fun E M' => (E = "java/lang/IndexOutOfBoundsException" ∧ Q (some (.int 1)) M') ∨ (E = "java/lang/IllegalArgumentException" ∧ Q (some (.int 2)) M') ∨ (E = "java/lang/IllegalStateException" ∧ Q (some (.int 3)) M')) (I_i2l (I_las (I_ic 0 (I_ir Q)))))))))) (Wh l G F Y_L_exchange hh_exchange Q 0 0 0) := by
    refine h_aload_n (pc := 0) ?_ dL_exchange_0 rfl
    refine h_iconst (pc := 1) ?_ dL_exchange_1 (by decide)
    refine h_aload_n (pc := 2) ?_ dL_exchange_2 rfl
    refine h_iload_n (pc := 3) ?_ dL_exchange_3 rfl
    refine h_iload_n (pc := 4) ?_ dL_exchange_4 rfl
    refine h_cvX (pc := 5) ?_ ?_ rfl dL_exchange_5 ok_X9_exchange rfl wd_5_22 ⟨Nat.le_of_ble_eq_true rfl, Nat.le_of_ble_eq_true rfl⟩ ⟨Nat.le_of_ble_eq_true rfl, Nat.le_of_ble_eq_true rfl⟩
    · refine h_i2l (pc := 8) ?_ dL_exchange_8
      refine h_las (pc := 9) ?_ dL_exchange_9
      refine h_goto (pc := 10) (t := 25) ?_ dL_exchange_10 (by decide)
      refine h_iconst (pc := 25) ?_ dL_exchange_25 (by decide)
      exact h_ir dL_exchange_26 rfl (Nat.le_of_ble_eq_true rfl) (Nat.le_of_ble_eq_true rfl)
    · intro E M' h
      rcases h with ⟨rfl, hq⟩ | ⟨rfl, hq⟩ | ⟨rfl, hq⟩
      · exact ⟨_, hd_exchange_0, hq⟩
      · exact ⟨_, hd_exchange_1, hq⟩
      · exact ⟨_, hd_exchange_2, hq⟩
  refine hw _ _ _ ?_
  refine (show Tr true l G Y_X9_exchange [.ref 0, .int v, .int w] M _ _ → _ from fun t => ?_) h
  clear h hw
  have z8 : (List.map Value.category [.int 0, .ref 1105]).sum ≤ 8 := by decide
  refine ⟨k_F, z8, t.mono (fun r M' h => ?_) fun _ _ h => h⟩
  obtain ⟨x, rfl, hq⟩ := h
  exact ⟨k_O, k_O0, hq⟩
abbrev Y_L_reason : YT := (yL_reason, cL_reason, 5, (some .int), 8, 124, 1, 6)
abbrev hh_reason : List (Nat × Nat × Nat × Nat) := [(0,10,13,24)]
theorem hd_reason_0 : Hand Y_L_reason hh_reason 5 "java/lang/IndexOutOfBoundsException" 1 :=
  ⟨[], ⟨0, 10, 13, 24⟩, [], 4, 2, 1, rfl, (fun z hz => by cases hz), by decide, by decide, wd_4_171, List.mem_cons_self .., Or.inl ⟨rfl, dL_reason_13⟩, (Nat.le_of_ble_eq_true rfl), dL_reason_15, by decide, dL_reason_16⟩
theorem hp_reason (h : Tr true l G Y_X9_reason [.ref 0, .int v, .int w] M (fun r M' => ∃ x : Int32, r = some (.int x) ∧ Q (some (.int 0)) (sL M' 1105 0 x.toInt64)) (fun E M' => (E = "java/lang/IndexOutOfBoundsException" ∧ Q (some (.int 1)) M'))) : TrH l G Y_L_reason hh_reason [.ref 0, .int v, .int w, .ref 1105] M Q := by
  refine trh_of (L0 := [.ref 0, .int v, .int w, .ref 1105, xx]) (by decide) (Nat.le_of_ble_eq_true rfl) rfl fun F => ?_
  have hw : Le (I_al 3 (I_ic 0 (I_al 0 (I_il 1 (I_il 2 (I_cvX (Tr true l G Y_X9_reason) 7 3 2 (fun E M' => (E = "java/lang/IndexOutOfBoundsException" ∧ Q (some (.int 1)) M')) (I_i2l (I_las (I_ic 0 (I_ir Q)))))))))) (Wh l G F Y_L_reason hh_reason Q 0 0 0) := by
    refine h_aload_n (pc := 0) ?_ dL_reason_0 rfl
    refine h_iconst (pc := 1) ?_ dL_reason_1 (by decide)
    refine h_aload_n (pc := 2) ?_ dL_reason_2 rfl
    refine h_iload_n (pc := 3) ?_ dL_reason_3 rfl
    refine h_iload_n (pc := 4) ?_ dL_reason_4 rfl
    refine h_cvX (pc := 5) ?_ ?_ rfl dL_reason_5 ok_X9_reason rfl wd_5_29 ⟨Nat.le_of_ble_eq_true rfl, Nat.le_of_ble_eq_true rfl⟩ ⟨Nat.le_of_ble_eq_true rfl, Nat.le_of_ble_eq_true rfl⟩
    · refine h_i2l (pc := 8) ?_ dL_reason_8
      refine h_las (pc := 9) ?_ dL_reason_9
      refine h_goto (pc := 10) (t := 17) ?_ dL_reason_10 (by decide)
      refine h_iconst (pc := 17) ?_ dL_reason_17 (by decide)
      exact h_ir dL_reason_18 rfl (Nat.le_of_ble_eq_true rfl) (Nat.le_of_ble_eq_true rfl)
    · intro E M' h
      obtain ⟨rfl, hq⟩ := h
      exact ⟨_, hd_reason_0, hq⟩
  refine hw _ _ _ ?_
  refine (show Tr true l G Y_X9_reason [.ref 0, .int v, .int w] M _ _ → _ from fun t => ?_) h
  clear h hw
  have z8 : (List.map Value.category [.int 0, .ref 1105]).sum ≤ 8 := by decide
  refine ⟨k_F, z8, t.mono (fun r M' h => ?_) fun _ _ h => h⟩
  obtain ⟨x, rfl, hq⟩ := h
  exact ⟨k_O, k_O0, hq⟩
abbrev Y_L_mentor : YT := (yL_mentor, cL_mentor, 5, (some .int), 8, 124, 2, 12)
abbrev hh_mentor : List (Nat × Nat × Nat × Nat) := [(0,10,13,24), (0,10,17,13)]
theorem hd_mentor_0 : Hand Y_L_mentor hh_mentor 5 "java/lang/IndexOutOfBoundsException" 1 :=
  ⟨[], ⟨0, 10, 13, 24⟩, [⟨0, 10, 17, 13⟩], 4, 2, 1, rfl, (fun z hz => by cases hz), by decide, by decide, wd_4_171, List.mem_cons_self .., Or.inl ⟨rfl, dL_mentor_13⟩, (Nat.le_of_ble_eq_true rfl), dL_mentor_15, by decide, dL_mentor_16⟩
theorem hd_mentor_1 : Hand Y_L_mentor hh_mentor 5 "java/lang/IllegalArgumentException" 2 :=
  ⟨[⟨0, 10, 13, 24⟩], ⟨0, 10, 17, 13⟩, [], 4, 2, 2, rfl, (fun z hz => by
      rcases List.mem_cons.mp hz with rfl | hz
      · exact ⟨by decide, _, wd_4_171, List.mem_cons_self ..⟩
      cases hz), by decide, by decide, wd_4_52, List.mem_cons_of_mem _ (List.mem_cons_self ..), Or.inl ⟨rfl, dL_mentor_17⟩, (Nat.le_of_ble_eq_true rfl), dL_mentor_19, by decide, dL_mentor_20⟩
theorem hp_mentor (h : Tr true l G Y_X9_mentor [.ref 0, .int v, .int w] M (fun r M' => ∃ x : Int32, r = some (.int x) ∧ Q (some (.int 0)) (sL M' 1105 0 x.toInt64)) (fun E M' => (E = "java/lang/IndexOutOfBoundsException" ∧ Q (some (.int 1)) M') ∨ (E = "java/lang/IllegalArgumentException" ∧ Q (some (.int 2)) M'))) : TrH l G Y_L_mentor hh_mentor [.ref 0, .int v, .int w, .ref 1105] M Q := by
  refine trh_of (L0 := [.ref 0, .int v, .int w, .ref 1105, xx]) (by decide) (Nat.le_of_ble_eq_true rfl) rfl fun F => ?_
  have hw : Le (I_al 3 (I_ic 0 (I_al 0 (I_il 1 (I_il 2 (I_cvX (Tr true l G Y_X9_mentor) 7 3 2 (fun E M' => (E = "java/lang/IndexOutOfBoundsException" ∧ Q (some (.int 1)) M') ∨ (E = "java/lang/IllegalArgumentException" ∧ Q (some (.int 2)) M')) (I_i2l (I_las (I_ic 0 (I_ir Q)))))))))) (Wh l G F Y_L_mentor hh_mentor Q 0 0 0) := by
    refine h_aload_n (pc := 0) ?_ dL_mentor_0 rfl
    refine h_iconst (pc := 1) ?_ dL_mentor_1 (by decide)
    refine h_aload_n (pc := 2) ?_ dL_mentor_2 rfl
    refine h_iload_n (pc := 3) ?_ dL_mentor_3 rfl
    refine h_iload_n (pc := 4) ?_ dL_mentor_4 rfl
    refine h_cvX (pc := 5) ?_ ?_ rfl dL_mentor_5 ok_X9_mentor rfl wd_5_36 ⟨Nat.le_of_ble_eq_true rfl, Nat.le_of_ble_eq_true rfl⟩ ⟨Nat.le_of_ble_eq_true rfl, Nat.le_of_ble_eq_true rfl⟩
    · refine h_i2l (pc := 8) ?_ dL_mentor_8
      refine h_las (pc := 9) ?_ dL_mentor_9
      refine h_goto (pc := 10) (t := 21) ?_ dL_mentor_10 (by decide)
      refine h_iconst (pc := 21) ?_ dL_mentor_21 (by decide)
      exact h_ir dL_mentor_22 rfl (Nat.le_of_ble_eq_true rfl) (Nat.le_of_ble_eq_true rfl)
    · intro E M' h
      rcases h with ⟨rfl, hq⟩ | ⟨rfl, hq⟩
      · exact ⟨_, hd_mentor_0, hq⟩
      · exact ⟨_, hd_mentor_1, hq⟩
  refine hw _ _ _ ?_
  refine (show Tr true l G Y_X9_mentor [.ref 0, .int v, .int w] M _ _ → _ from fun t => ?_) h
  clear h hw
  have z8 : (List.map Value.category [.int 0, .ref 1105]).sum ≤ 8 := by decide
  refine ⟨k_F, z8, t.mono (fun r M' h => ?_) fun _ _ h => h⟩
  obtain ⟨x, rfl, hq⟩ := h
  exact ⟨k_O, k_O0, hq⟩
abbrev Y_L_apprentice : YT := (yL_apprentice, cL_apprentice, 5, (some .int), 8, 124, 2, 12)
abbrev hh_apprentice : List (Nat × Nat × Nat × Nat) := [(0,10,13,24), (0,10,17,13)]
theorem hd_apprentice_0 : Hand Y_L_apprentice hh_apprentice 5 "java/lang/IndexOutOfBoundsException" 1 :=
  ⟨[], ⟨0, 10, 13, 24⟩, [⟨0, 10, 17, 13⟩], 4, 2, 1, rfl, (fun z hz => by cases hz), by decide, by decide, wd_4_171, List.mem_cons_self .., Or.inl ⟨rfl, dL_apprentice_13⟩, (Nat.le_of_ble_eq_true rfl), dL_apprentice_15, by decide, dL_apprentice_16⟩
theorem hd_apprentice_1 : Hand Y_L_apprentice hh_apprentice 5 "java/lang/IllegalArgumentException" 2 :=
  ⟨[⟨0, 10, 13, 24⟩], ⟨0, 10, 17, 13⟩, [], 4, 2, 2, rfl, (fun z hz => by
      rcases List.mem_cons.mp hz with rfl | hz
      · exact ⟨by decide, _, wd_4_171, List.mem_cons_self ..⟩
      cases hz), by decide, by decide, wd_4_52, List.mem_cons_of_mem _ (List.mem_cons_self ..), Or.inl ⟨rfl, dL_apprentice_17⟩, (Nat.le_of_ble_eq_true rfl), dL_apprentice_19, by decide, dL_apprentice_20⟩
theorem hp_apprentice (h : Tr true l G Y_X9_apprentice [.ref 0, .int v, .int w] M (fun r M' => ∃ x : Int32, r = some (.int x) ∧ Q (some (.int 0)) (sL M' 1105 0 x.toInt64)) (fun E M' => (E = "java/lang/IndexOutOfBoundsException" ∧ Q (some (.int 1)) M') ∨ (E = "java/lang/IllegalArgumentException" ∧ Q (some (.int 2)) M'))) : TrH l G Y_L_apprentice hh_apprentice [.ref 0, .int v, .int w, .ref 1105] M Q := by
  refine trh_of (L0 := [.ref 0, .int v, .int w, .ref 1105, xx]) (by decide) (Nat.le_of_ble_eq_true rfl) rfl fun F => ?_
  have hw : Le (I_al 3 (I_ic 0 (I_al 0 (I_il 1 (I_il 2 (I_cvX (Tr true l G Y_X9_apprentice) 7 3 2 (fun E M' => (E = "java/lang/IndexOutOfBoundsException" ∧ Q (some (.int 1)) M') ∨ (E = "java/lang/IllegalArgumentException" ∧ Q (some (.int 2)) M')) (I_i2l (I_las (I_ic 0 (I_ir Q)))))))))) (Wh l G F Y_L_apprentice hh_apprentice Q 0 0 0) := by
    refine h_aload_n (pc := 0) ?_ dL_apprentice_0 rfl
    refine h_iconst (pc := 1) ?_ dL_apprentice_1 (by decide)
    refine h_aload_n (pc := 2) ?_ dL_apprentice_2 rfl
    refine h_iload_n (pc := 3) ?_ dL_apprentice_3 rfl
    refine h_iload_n (pc := 4) ?_ dL_apprentice_4 rfl
    refine h_cvX (pc := 5) ?_ ?_ rfl dL_apprentice_5 ok_X9_apprentice rfl wd_5_43 ⟨Nat.le_of_ble_eq_true rfl, Nat.le_of_ble_eq_true rfl⟩ ⟨Nat.le_of_ble_eq_true rfl, Nat.le_of_ble_eq_true rfl⟩
    · refine h_i2l (pc := 8) ?_ dL_apprentice_8
      refine h_las (pc := 9) ?_ dL_apprentice_9
      refine h_goto (pc := 10) (t := 21) ?_ dL_apprentice_10 (by decide)
      refine h_iconst (pc := 21) ?_ dL_apprentice_21 (by decide)
      exact h_ir dL_apprentice_22 rfl (Nat.le_of_ble_eq_true rfl) (Nat.le_of_ble_eq_true rfl)
    · intro E M' h
      rcases h with ⟨rfl, hq⟩ | ⟨rfl, hq⟩
      · exact ⟨_, hd_apprentice_0, hq⟩
      · exact ⟨_, hd_apprentice_1, hq⟩
  refine hw _ _ _ ?_
  refine (show Tr true l G Y_X9_apprentice [.ref 0, .int v, .int w] M _ _ → _ from fun t => ?_) h
  clear h hw
  have z8 : (List.map Value.category [.int 0, .ref 1105]).sum ≤ 8 := by decide
  refine ⟨k_F, z8, t.mono (fun r M' h => ?_) fun _ _ h => h⟩
  obtain ⟨x, rfl, hq⟩ := h
  exact ⟨k_O, k_O0, hq⟩
abbrev Y_L_part : YT := (yL_part, cL_part, 6, (some .int), 8, 125, 2, 12)
abbrev hh_part : List (Nat × Nat × Nat × Nat) := [(0,12,15,24), (0,12,19,13)]
theorem hd_part_0 : Hand Y_L_part hh_part 7 "java/lang/IndexOutOfBoundsException" 1 :=
  ⟨[], ⟨0, 12, 15, 24⟩, [⟨0, 12, 19, 13⟩], 5, 2, 1, rfl, (fun z hz => by cases hz), by decide, by decide, wd_4_171, List.mem_cons_self .., Or.inl ⟨rfl, dL_part_15⟩, (Nat.le_of_ble_eq_true rfl), dL_part_17, by decide, dL_part_18⟩
theorem hd_part_1 : Hand Y_L_part hh_part 7 "java/lang/IllegalArgumentException" 2 :=
  ⟨[⟨0, 12, 15, 24⟩], ⟨0, 12, 19, 13⟩, [], 5, 2, 2, rfl, (fun z hz => by
      rcases List.mem_cons.mp hz with rfl | hz
      · exact ⟨by decide, _, wd_4_171, List.mem_cons_self ..⟩
      cases hz), by decide, by decide, wd_4_52, List.mem_cons_of_mem _ (List.mem_cons_self ..), Or.inl ⟨rfl, dL_part_19⟩, (Nat.le_of_ble_eq_true rfl), dL_part_21, by decide, dL_part_22⟩
theorem hp_part (h : Tr true l G Y_X9_part [.ref 0, .int v, .int w, .int u] M (fun r M' => ∃ x : Int32, r = some (.int x) ∧ Q (some (.int 0)) (sL M' 1105 0 x.toInt64)) (fun E M' => (E = "java/lang/IndexOutOfBoundsException" ∧ Q (some (.int 1)) M') ∨ (E = "java/lang/IllegalArgumentException" ∧ Q (some (.int 2)) M'))) : TrH l G Y_L_part hh_part [.ref 0, .int v, .int w, .int u, .ref 1105] M Q := by
  refine trh_of (L0 := [.ref 0, .int v, .int w, .int u, .ref 1105, xx]) (by decide) (Nat.le_of_ble_eq_true rfl) rfl fun F => ?_
  have hw : Le (I_al 4 (I_ic 0 (I_al 0 (I_il 1 (I_il 2 (I_il 3 (I_cvX (Tr true l G Y_X9_part) 7 3 3 (fun E M' => (E = "java/lang/IndexOutOfBoundsException" ∧ Q (some (.int 1)) M') ∨ (E = "java/lang/IllegalArgumentException" ∧ Q (some (.int 2)) M')) (I_i2l (I_las (I_ic 0 (I_ir Q))))))))))) (Wh l G F Y_L_part hh_part Q 0 0 0) := by
    refine h_aload (pc := 0) ?_ dL_part_0
    refine h_iconst (pc := 2) ?_ dL_part_2 (by decide)
    refine h_aload_n (pc := 3) ?_ dL_part_3 rfl
    refine h_iload_n (pc := 4) ?_ dL_part_4 rfl
    refine h_iload_n (pc := 5) ?_ dL_part_5 rfl
    refine h_iload_n (pc := 6) ?_ dL_part_6 rfl
    refine h_cvX (pc := 7) ?_ ?_ rfl dL_part_7 ok_X9_part rfl wd_5_50 ⟨Nat.le_of_ble_eq_true rfl, Nat.le_of_ble_eq_true rfl⟩ ⟨Nat.le_of_ble_eq_true rfl, Nat.le_of_ble_eq_true rfl⟩
    · refine h_i2l (pc := 10) ?_ dL_part_10
      refine h_las (pc := 11) ?_ dL_part_11
      refine h_goto (pc := 12) (t := 23) ?_ dL_part_12 (by decide)
      refine h_iconst (pc := 23) ?_ dL_part_23 (by decide)
      exact h_ir dL_part_24 rfl (Nat.le_of_ble_eq_true rfl) (Nat.le_of_ble_eq_true rfl)
    · intro E M' h
      rcases h with ⟨rfl, hq⟩ | ⟨rfl, hq⟩
      · exact ⟨_, hd_part_0, hq⟩
      · exact ⟨_, hd_part_1, hq⟩
  refine hw _ _ _ ?_
  refine (show Tr true l G Y_X9_part [.ref 0, .int v, .int w, .int u] M _ _ → _ from fun t => ?_) h
  clear h hw
  have z8 : (List.map Value.category [.int 0, .ref 1105]).sum ≤ 8 := by decide
  refine ⟨k_F, z8, t.mono (fun r M' h => ?_) fun _ _ h => h⟩
  obtain ⟨x, rfl, hq⟩ := h
  exact ⟨k_O, k_O0, hq⟩
abbrev Y_L_entry : YT := (yL_entry, cL_entry, 7, (some .int), 8, 126, 2, 12)
abbrev hh_entry : List (Nat × Nat × Nat × Nat) := [(0,14,17,24), (0,14,21,13)]
theorem hd_entry_0 : Hand Y_L_entry hh_entry 9 "java/lang/IndexOutOfBoundsException" 1 :=
  ⟨[], ⟨0, 14, 17, 24⟩, [⟨0, 14, 21, 13⟩], 6, 2, 1, rfl, (fun z hz => by cases hz), by decide, by decide, wd_4_171, List.mem_cons_self .., Or.inl ⟨rfl, dL_entry_17⟩, (Nat.le_of_ble_eq_true rfl), dL_entry_19, by decide, dL_entry_20⟩
theorem hd_entry_1 : Hand Y_L_entry hh_entry 9 "java/lang/IllegalArgumentException" 2 :=
  ⟨[⟨0, 14, 17, 24⟩], ⟨0, 14, 21, 13⟩, [], 6, 2, 2, rfl, (fun z hz => by
      rcases List.mem_cons.mp hz with rfl | hz
      · exact ⟨by decide, _, wd_4_171, List.mem_cons_self ..⟩
      cases hz), by decide, by decide, wd_4_52, List.mem_cons_of_mem _ (List.mem_cons_self ..), Or.inl ⟨rfl, dL_entry_21⟩, (Nat.le_of_ble_eq_true rfl), dL_entry_23, by decide, dL_entry_24⟩
theorem hp_entry (h : Tr true l G Y_X9_entry [.ref 0, .int v, .int w, .int u, .int b] M (fun r M' => ∃ x : Int32, r = some (.int x) ∧ Q (some (.int 0)) (sL M' 1105 0 x.toInt64)) (fun E M' => (E = "java/lang/IndexOutOfBoundsException" ∧ Q (some (.int 1)) M') ∨ (E = "java/lang/IllegalArgumentException" ∧ Q (some (.int 2)) M'))) : TrH l G Y_L_entry hh_entry [.ref 0, .int v, .int w, .int u, .int b, .ref 1105] M Q := by
  refine trh_of (L0 := [.ref 0, .int v, .int w, .int u, .int b, .ref 1105, xx]) (by decide) (Nat.le_of_ble_eq_true rfl) rfl fun F => ?_
  have hw : Le (I_al 5 (I_ic 0 (I_al 0 (I_il 1 (I_il 2 (I_il 3 (I_il 4 (I_cvX (Tr true l G Y_X9_entry) 7 3 4 (fun E M' => (E = "java/lang/IndexOutOfBoundsException" ∧ Q (some (.int 1)) M') ∨ (E = "java/lang/IllegalArgumentException" ∧ Q (some (.int 2)) M')) (I_i2l (I_las (I_ic 0 (I_ir Q)))))))))))) (Wh l G F Y_L_entry hh_entry Q 0 0 0) := by
    refine h_aload (pc := 0) ?_ dL_entry_0
    refine h_iconst (pc := 2) ?_ dL_entry_2 (by decide)
    refine h_aload_n (pc := 3) ?_ dL_entry_3 rfl
    refine h_iload_n (pc := 4) ?_ dL_entry_4 rfl
    refine h_iload_n (pc := 5) ?_ dL_entry_5 rfl
    refine h_iload_n (pc := 6) ?_ dL_entry_6 rfl
    refine h_iload (pc := 7) ?_ dL_entry_7
    refine h_cvX (pc := 9) ?_ ?_ rfl dL_entry_9 ok_X9_entry rfl wd_5_57 ⟨Nat.le_of_ble_eq_true rfl, Nat.le_of_ble_eq_true rfl⟩ ⟨Nat.le_of_ble_eq_true rfl, Nat.le_of_ble_eq_true rfl⟩
    · refine h_i2l (pc := 12) ?_ dL_entry_12
      refine h_las (pc := 13) ?_ dL_entry_13
      refine h_goto (pc := 14) (t := 25) ?_ dL_entry_14 (by decide)
      refine h_iconst (pc := 25) ?_ dL_entry_25 (by decide)
      exact h_ir dL_entry_26 rfl (Nat.le_of_ble_eq_true rfl) (Nat.le_of_ble_eq_true rfl)
    · intro E M' h
      rcases h with ⟨rfl, hq⟩ | ⟨rfl, hq⟩
      · exact ⟨_, hd_entry_0, hq⟩
      · exact ⟨_, hd_entry_1, hq⟩
  refine hw _ _ _ ?_
  refine (show Tr true l G Y_X9_entry [.ref 0, .int v, .int w, .int u, .int b] M _ _ → _ from fun t => ?_) h
  clear h hw
  have z8 : (List.map Value.category [.int 0, .ref 1105]).sum ≤ 8 := by decide
  refine ⟨k_F, z8, t.mono (fun r M' h => ?_) fun _ _ h => h⟩
  obtain ⟨x, rfl, hq⟩ := h
  exact ⟨k_O, k_O0, hq⟩
abbrev Y_L_whole : YT := (yL_whole, cL_whole, 4, (some .int), 8, 154, 1, 6)
abbrev hh_whole : List (Nat × Nat × Nat × Nat) := [(0,9,12,13)]
theorem hd_whole_0 : Hand Y_L_whole hh_whole 4 "java/lang/IllegalArgumentException" 1 :=
  ⟨[], ⟨0, 9, 12, 13⟩, [], 3, 1, 1, rfl, (fun z hz => by cases hz), by decide, by decide, wd_4_52, List.mem_cons_of_mem _ (List.mem_cons_self ..), Or.inr ⟨rfl, 3, rfl, dL_whole_12⟩, (Nat.le_of_ble_eq_true rfl), dL_whole_13, by decide, dL_whole_14⟩
theorem hp_whole (h : Tr true l G Y_X9_whole [.ref 0, .int v] M (fun r M' => ∃ x : Int32, r = some (.int x) ∧ Q (some (.int 0)) (sL M' 1105 0 x.toInt64)) (fun E M' => (E = "java/lang/IllegalArgumentException" ∧ Q (some (.int 1)) M'))) : TrH l G Y_L_whole hh_whole [.ref 0, .int v, .ref 1105] M Q := by
  refine trh_of (L0 := [.ref 0, .int v, .ref 1105, xx]) (by decide) (Nat.le_of_ble_eq_true rfl) rfl fun F => ?_
  have hw : Le (I_al 2 (I_ic 0 (I_al 0 (I_il 1 (I_cvX (Tr true l G Y_X9_whole) 7 3 1 (fun E M' => (E = "java/lang/IllegalArgumentException" ∧ Q (some (.int 1)) M')) (I_i2l (I_las (I_ic 0 (I_ir Q))))))))) (Wh l G F Y_L_whole hh_whole Q 0 0 0) := by
    refine h_aload_n (pc := 0) ?_ dL_whole_0 rfl
    refine h_iconst (pc := 1) ?_ dL_whole_1 (by decide)
    refine h_aload_n (pc := 2) ?_ dL_whole_2 rfl
    refine h_iload_n (pc := 3) ?_ dL_whole_3 rfl
    refine h_cvX (pc := 4) ?_ ?_ rfl dL_whole_4 ok_X9_whole rfl wd_5_64 ⟨Nat.le_of_ble_eq_true rfl, Nat.le_of_ble_eq_true rfl⟩ ⟨Nat.le_of_ble_eq_true rfl, Nat.le_of_ble_eq_true rfl⟩
    · refine h_i2l (pc := 7) ?_ dL_whole_7
      refine h_las (pc := 8) ?_ dL_whole_8
      refine h_goto (pc := 9) (t := 15) ?_ dL_whole_9 (by decide)
      refine h_iconst (pc := 15) ?_ dL_whole_15 (by decide)
      exact h_ir dL_whole_16 rfl (Nat.le_of_ble_eq_true rfl) (Nat.le_of_ble_eq_true rfl)
    · intro E M' h
      obtain ⟨rfl, hq⟩ := h
      exact ⟨_, hd_whole_0, hq⟩
  refine hw _ _ _ ?_
  refine (show Tr true l G Y_X9_whole [.ref 0, .int v] M _ _ → _ from fun t => ?_) h
  clear h hw
  have z8 : (List.map Value.category [.int 0, .ref 1105]).sum ≤ 8 := by decide
  refine ⟨k_F, z8, t.mono (fun r M' h => ?_) fun _ _ h => h⟩
  obtain ⟨x, rfl, hq⟩ := h
  exact ⟨k_O, k_O0, hq⟩
abbrev Y_L_completeOn : YT := (yL_completeOn, cL_completeOn, 5, (some .int), 8, 124, 2, 12)
abbrev hh_completeOn : List (Nat × Nat × Nat × Nat) := [(0,10,13,24), (0,10,17,13)]
theorem hd_completeOn_0 : Hand Y_L_completeOn hh_completeOn 5 "java/lang/IndexOutOfBoundsException" 1 :=
  ⟨[], ⟨0, 10, 13, 24⟩, [⟨0, 10, 17, 13⟩], 4, 2, 1, rfl, (fun z hz => by cases hz), by decide, by decide, wd_4_171, List.mem_cons_self .., Or.inl ⟨rfl, dL_completeOn_13⟩, (Nat.le_of_ble_eq_true rfl), dL_completeOn_15, by decide, dL_completeOn_16⟩
theorem hd_completeOn_1 : Hand Y_L_completeOn hh_completeOn 5 "java/lang/IllegalArgumentException" 2 :=
  ⟨[⟨0, 10, 13, 24⟩], ⟨0, 10, 17, 13⟩, [], 4, 2, 2, rfl, (fun z hz => by
      rcases List.mem_cons.mp hz with rfl | hz
      · exact ⟨by decide, _, wd_4_171, List.mem_cons_self ..⟩
      cases hz), by decide, by decide, wd_4_52, List.mem_cons_of_mem _ (List.mem_cons_self ..), Or.inl ⟨rfl, dL_completeOn_17⟩, (Nat.le_of_ble_eq_true rfl), dL_completeOn_19, by decide, dL_completeOn_20⟩
theorem hp_completeOn (h : Tr true l G Y_X9_completeOn [.ref 0, .int v, .int w] M (fun r M' => ∃ x : Int32, r = some (.int x) ∧ Q (some (.int 0)) (sL M' 1105 0 x.toInt64)) (fun E M' => (E = "java/lang/IndexOutOfBoundsException" ∧ Q (some (.int 1)) M') ∨ (E = "java/lang/IllegalArgumentException" ∧ Q (some (.int 2)) M'))) : TrH l G Y_L_completeOn hh_completeOn [.ref 0, .int v, .int w, .ref 1105] M Q := by
  refine trh_of (L0 := [.ref 0, .int v, .int w, .ref 1105, xx]) (by decide) (Nat.le_of_ble_eq_true rfl) rfl fun F => ?_
  have hw : Le (I_al 3 (I_ic 0 (I_al 0 (I_il 1 (I_il 2 (I_cvX (Tr true l G Y_X9_completeOn) 7 3 2 (fun E M' => (E = "java/lang/IndexOutOfBoundsException" ∧ Q (some (.int 1)) M') ∨ (E = "java/lang/IllegalArgumentException" ∧ Q (some (.int 2)) M')) (I_i2l (I_las (I_ic 0 (I_ir Q)))))))))) (Wh l G F Y_L_completeOn hh_completeOn Q 0 0 0) := by
    refine h_aload_n (pc := 0) ?_ dL_completeOn_0 rfl
    refine h_iconst (pc := 1) ?_ dL_completeOn_1 (by decide)
    refine h_aload_n (pc := 2) ?_ dL_completeOn_2 rfl
    refine h_iload_n (pc := 3) ?_ dL_completeOn_3 rfl
    refine h_iload_n (pc := 4) ?_ dL_completeOn_4 rfl
    refine h_cvX (pc := 5) ?_ ?_ rfl dL_completeOn_5 ok_X9_completeOn rfl wd_5_71 ⟨Nat.le_of_ble_eq_true rfl, Nat.le_of_ble_eq_true rfl⟩ ⟨Nat.le_of_ble_eq_true rfl, Nat.le_of_ble_eq_true rfl⟩
    · refine h_i2l (pc := 8) ?_ dL_completeOn_8
      refine h_las (pc := 9) ?_ dL_completeOn_9
      refine h_goto (pc := 10) (t := 21) ?_ dL_completeOn_10 (by decide)
      refine h_iconst (pc := 21) ?_ dL_completeOn_21 (by decide)
      exact h_ir dL_completeOn_22 rfl (Nat.le_of_ble_eq_true rfl) (Nat.le_of_ble_eq_true rfl)
    · intro E M' h
      rcases h with ⟨rfl, hq⟩ | ⟨rfl, hq⟩
      · exact ⟨_, hd_completeOn_0, hq⟩
      · exact ⟨_, hd_completeOn_1, hq⟩
  refine hw _ _ _ ?_
  refine (show Tr true l G Y_X9_completeOn [.ref 0, .int v, .int w] M _ _ → _ from fun t => ?_) h
  clear h hw
  have z8 : (List.map Value.category [.int 0, .ref 1105]).sum ≤ 8 := by decide
  refine ⟨k_F, z8, t.mono (fun r M' h => ?_) fun _ _ h => h⟩
  obtain ⟨x, rfl, hq⟩ := h
  exact ⟨k_O, k_O0, hq⟩
abbrev Y_L_bestMentor : YT := (yL_bestMentor, cL_bestMentor, 4, (some .int), 8, 131, 1, 6)
abbrev hh_bestMentor : List (Nat × Nat × Nat × Nat) := [(0,9,12,24)]
theorem hd_bestMentor_0 : Hand Y_L_bestMentor hh_bestMentor 4 "java/lang/IndexOutOfBoundsException" 1 :=
  ⟨[], ⟨0, 9, 12, 24⟩, [], 3, 1, 1, rfl, (fun z hz => by cases hz), by decide, by decide, wd_4_171, List.mem_cons_self .., Or.inr ⟨rfl, 3, rfl, dL_bestMentor_12⟩, (Nat.le_of_ble_eq_true rfl), dL_bestMentor_13, by decide, dL_bestMentor_14⟩
theorem hp_bestMentor (h : Tr true l G Y_X9_bestMentor [.ref 0, .int v] M (fun r M' => ∃ x : Int32, r = some (.int x) ∧ Q (some (.int 0)) (sL M' 1105 0 x.toInt64)) (fun E M' => (E = "java/lang/IndexOutOfBoundsException" ∧ Q (some (.int 1)) M'))) : TrH l G Y_L_bestMentor hh_bestMentor [.ref 0, .int v, .ref 1105] M Q := by
  refine trh_of (L0 := [.ref 0, .int v, .ref 1105, xx]) (by decide) (Nat.le_of_ble_eq_true rfl) rfl fun F => ?_
  have hw : Le (I_al 2 (I_ic 0 (I_al 0 (I_il 1 (I_cvX (Tr true l G Y_X9_bestMentor) 7 3 1 (fun E M' => (E = "java/lang/IndexOutOfBoundsException" ∧ Q (some (.int 1)) M')) (I_i2l (I_las (I_ic 0 (I_ir Q))))))))) (Wh l G F Y_L_bestMentor hh_bestMentor Q 0 0 0) := by
    refine h_aload_n (pc := 0) ?_ dL_bestMentor_0 rfl
    refine h_iconst (pc := 1) ?_ dL_bestMentor_1 (by decide)
    refine h_aload_n (pc := 2) ?_ dL_bestMentor_2 rfl
    refine h_iload_n (pc := 3) ?_ dL_bestMentor_3 rfl
    refine h_cvX (pc := 4) ?_ ?_ rfl dL_bestMentor_4 ok_X9_bestMentor rfl wd_5_82 ⟨Nat.le_of_ble_eq_true rfl, Nat.le_of_ble_eq_true rfl⟩ ⟨Nat.le_of_ble_eq_true rfl, Nat.le_of_ble_eq_true rfl⟩
    · refine h_i2l (pc := 7) ?_ dL_bestMentor_7
      refine h_las (pc := 8) ?_ dL_bestMentor_8
      refine h_goto (pc := 9) (t := 15) ?_ dL_bestMentor_9 (by decide)
      refine h_iconst (pc := 15) ?_ dL_bestMentor_15 (by decide)
      exact h_ir dL_bestMentor_16 rfl (Nat.le_of_ble_eq_true rfl) (Nat.le_of_ble_eq_true rfl)
    · intro E M' h
      obtain ⟨rfl, hq⟩ := h
      exact ⟨_, hd_bestMentor_0, hq⟩
  refine hw _ _ _ ?_
  refine (show Tr true l G Y_X9_bestMentor [.ref 0, .int v] M _ _ → _ from fun t => ?_) h
  clear h hw
  have z8 : (List.map Value.category [.int 0, .ref 1105]).sum ≤ 8 := by decide
  refine ⟨k_F, z8, t.mono (fun r M' h => ?_) fun _ _ h => h⟩
  obtain ⟨x, rfl, hq⟩ := h
  exact ⟨k_O, k_O0, hq⟩
abbrev Y_L_doubtsBy : YT := (yL_doubtsBy, cL_doubtsBy, 5, (some .int), 8, 124, 1, 6)
abbrev hh_doubtsBy : List (Nat × Nat × Nat × Nat) := [(0,10,13,24)]
theorem hd_doubtsBy_0 : Hand Y_L_doubtsBy hh_doubtsBy 5 "java/lang/IndexOutOfBoundsException" 1 :=
  ⟨[], ⟨0, 10, 13, 24⟩, [], 4, 2, 1, rfl, (fun z hz => by cases hz), by decide, by decide, wd_4_171, List.mem_cons_self .., Or.inl ⟨rfl, dL_doubtsBy_13⟩, (Nat.le_of_ble_eq_true rfl), dL_doubtsBy_15, by decide, dL_doubtsBy_16⟩
theorem hp_doubtsBy (h : Tr true l G Y_X9_doubtsBy [.ref 0, .int v, .int w] M (fun r M' => ∃ x : Int32, r = some (.int x) ∧ Q (some (.int 0)) (sL M' 1105 0 x.toInt64)) (fun E M' => (E = "java/lang/IndexOutOfBoundsException" ∧ Q (some (.int 1)) M'))) : TrH l G Y_L_doubtsBy hh_doubtsBy [.ref 0, .int v, .int w, .ref 1105] M Q := by
  refine trh_of (L0 := [.ref 0, .int v, .int w, .ref 1105, xx]) (by decide) (Nat.le_of_ble_eq_true rfl) rfl fun F => ?_
  have hw : Le (I_al 3 (I_ic 0 (I_al 0 (I_il 1 (I_il 2 (I_cvX (Tr true l G Y_X9_doubtsBy) 7 3 2 (fun E M' => (E = "java/lang/IndexOutOfBoundsException" ∧ Q (some (.int 1)) M')) (I_i2l (I_las (I_ic 0 (I_ir Q)))))))))) (Wh l G F Y_L_doubtsBy hh_doubtsBy Q 0 0 0) := by
    refine h_aload_n (pc := 0) ?_ dL_doubtsBy_0 rfl
    refine h_iconst (pc := 1) ?_ dL_doubtsBy_1 (by decide)
    refine h_aload_n (pc := 2) ?_ dL_doubtsBy_2 rfl
    refine h_iload_n (pc := 3) ?_ dL_doubtsBy_3 rfl
    refine h_iload_n (pc := 4) ?_ dL_doubtsBy_4 rfl
    refine h_cvX (pc := 5) ?_ ?_ rfl dL_doubtsBy_5 ok_X9_doubtsBy rfl wd_5_89 ⟨Nat.le_of_ble_eq_true rfl, Nat.le_of_ble_eq_true rfl⟩ ⟨Nat.le_of_ble_eq_true rfl, Nat.le_of_ble_eq_true rfl⟩
    · refine h_i2l (pc := 8) ?_ dL_doubtsBy_8
      refine h_las (pc := 9) ?_ dL_doubtsBy_9
      refine h_goto (pc := 10) (t := 17) ?_ dL_doubtsBy_10 (by decide)
      refine h_iconst (pc := 17) ?_ dL_doubtsBy_17 (by decide)
      exact h_ir dL_doubtsBy_18 rfl (Nat.le_of_ble_eq_true rfl) (Nat.le_of_ble_eq_true rfl)
    · intro E M' h
      obtain ⟨rfl, hq⟩ := h
      exact ⟨_, hd_doubtsBy_0, hq⟩
  refine hw _ _ _ ?_
  refine (show Tr true l G Y_X9_doubtsBy [.ref 0, .int v, .int w] M _ _ → _ from fun t => ?_) h
  clear h hw
  have z8 : (List.map Value.category [.int 0, .ref 1105]).sum ≤ 8 := by decide
  refine ⟨k_F, z8, t.mono (fun r M' h => ?_) fun _ _ h => h⟩
  obtain ⟨x, rfl, hq⟩ := h
  exact ⟨k_O, k_O0, hq⟩
abbrev Y_L_nextRelease : YT := (yL_nextRelease, cL_nextRelease, 5, (some .int), 8, 124, 2, 12)
abbrev hh_nextRelease : List (Nat × Nat × Nat × Nat) := [(0,10,13,24), (0,10,17,13)]
theorem hd_nextRelease_0 : Hand Y_L_nextRelease hh_nextRelease 5 "java/lang/IndexOutOfBoundsException" 1 :=
  ⟨[], ⟨0, 10, 13, 24⟩, [⟨0, 10, 17, 13⟩], 4, 2, 1, rfl, (fun z hz => by cases hz), by decide, by decide, wd_4_171, List.mem_cons_self .., Or.inl ⟨rfl, dL_nextRelease_13⟩, (Nat.le_of_ble_eq_true rfl), dL_nextRelease_15, by decide, dL_nextRelease_16⟩
theorem hd_nextRelease_1 : Hand Y_L_nextRelease hh_nextRelease 5 "java/lang/IllegalArgumentException" 2 :=
  ⟨[⟨0, 10, 13, 24⟩], ⟨0, 10, 17, 13⟩, [], 4, 2, 2, rfl, (fun z hz => by
      rcases List.mem_cons.mp hz with rfl | hz
      · exact ⟨by decide, _, wd_4_171, List.mem_cons_self ..⟩
      cases hz), by decide, by decide, wd_4_52, List.mem_cons_of_mem _ (List.mem_cons_self ..), Or.inl ⟨rfl, dL_nextRelease_17⟩, (Nat.le_of_ble_eq_true rfl), dL_nextRelease_19, by decide, dL_nextRelease_20⟩
theorem hp_nextRelease (h : Tr true l G Y_X9_nextRelease [.ref 0, .int v, .int w] M (fun r M' => ∃ x : Int32, r = some (.int x) ∧ Q (some (.int 0)) (sL M' 1105 0 x.toInt64)) (fun E M' => (E = "java/lang/IndexOutOfBoundsException" ∧ Q (some (.int 1)) M') ∨ (E = "java/lang/IllegalArgumentException" ∧ Q (some (.int 2)) M'))) : TrH l G Y_L_nextRelease hh_nextRelease [.ref 0, .int v, .int w, .ref 1105] M Q := by
  refine trh_of (L0 := [.ref 0, .int v, .int w, .ref 1105, xx]) (by decide) (Nat.le_of_ble_eq_true rfl) rfl fun F => ?_
  have hw : Le (I_al 3 (I_ic 0 (I_al 0 (I_il 1 (I_il 2 (I_cvX (Tr true l G Y_X9_nextRelease) 7 3 2 (fun E M' => (E = "java/lang/IndexOutOfBoundsException" ∧ Q (some (.int 1)) M') ∨ (E = "java/lang/IllegalArgumentException" ∧ Q (some (.int 2)) M')) (I_i2l (I_las (I_ic 0 (I_ir Q)))))))))) (Wh l G F Y_L_nextRelease hh_nextRelease Q 0 0 0) := by
    refine h_aload_n (pc := 0) ?_ dL_nextRelease_0 rfl
    refine h_iconst (pc := 1) ?_ dL_nextRelease_1 (by decide)
    refine h_aload_n (pc := 2) ?_ dL_nextRelease_2 rfl
    refine h_iload_n (pc := 3) ?_ dL_nextRelease_3 rfl
    refine h_iload_n (pc := 4) ?_ dL_nextRelease_4 rfl
    refine h_cvX (pc := 5) ?_ ?_ rfl dL_nextRelease_5 ok_X9_nextRelease rfl wd_5_105 ⟨Nat.le_of_ble_eq_true rfl, Nat.le_of_ble_eq_true rfl⟩ ⟨Nat.le_of_ble_eq_true rfl, Nat.le_of_ble_eq_true rfl⟩
    · refine h_i2l (pc := 8) ?_ dL_nextRelease_8
      refine h_las (pc := 9) ?_ dL_nextRelease_9
      refine h_goto (pc := 10) (t := 21) ?_ dL_nextRelease_10 (by decide)
      refine h_iconst (pc := 21) ?_ dL_nextRelease_21 (by decide)
      exact h_ir dL_nextRelease_22 rfl (Nat.le_of_ble_eq_true rfl) (Nat.le_of_ble_eq_true rfl)
    · intro E M' h
      rcases h with ⟨rfl, hq⟩ | ⟨rfl, hq⟩
      · exact ⟨_, hd_nextRelease_0, hq⟩
      · exact ⟨_, hd_nextRelease_1, hq⟩
  refine hw _ _ _ ?_
  refine (show Tr true l G Y_X9_nextRelease [.ref 0, .int v, .int w] M _ _ → _ from fun t => ?_) h
  clear h hw
  have z8 : (List.map Value.category [.int 0, .ref 1105]).sum ≤ 8 := by decide
  refine ⟨k_F, z8, t.mono (fun r M' h => ?_) fun _ _ h => h⟩
  obtain ⟨x, rfl, hq⟩ := h
  exact ⟨k_O, k_O0, hq⟩
abbrev Y_L_type : YT := (yL_type, cL_type, 4, (some .int), 8, 123, 2, 12)
abbrev hh_type : List (Nat × Nat × Nat × Nat) := [(0,9,12,13), (0,9,15,15)]
theorem hd_type_0 : Hand Y_L_type hh_type 4 "java/lang/IllegalArgumentException" 1 :=
  ⟨[], ⟨0, 9, 12, 13⟩, [⟨0, 9, 15, 15⟩], 3, 1, 1, rfl, (fun z hz => by cases hz), by decide, by decide, wd_4_52, List.mem_cons_of_mem _ (List.mem_cons_self ..), Or.inr ⟨rfl, 3, rfl, dL_type_12⟩, (Nat.le_of_ble_eq_true rfl), dL_type_13, by decide, dL_type_14⟩
theorem hd_type_1 : Hand Y_L_type hh_type 4 "java/lang/IllegalStateException" 2 :=
  ⟨[⟨0, 9, 12, 13⟩], ⟨0, 9, 15, 15⟩, [], 3, 1, 2, rfl, (fun z hz => by
      rcases List.mem_cons.mp hz with rfl | hz
      · exact ⟨by decide, _, wd_4_52, List.mem_cons_of_mem _ (List.mem_cons_of_mem _ (List.mem_cons_self ..))⟩
      cases hz), by decide, by decide, wd_4_53, List.mem_cons_of_mem _ (List.mem_cons_of_mem _ (List.mem_cons_self ..)), Or.inr ⟨rfl, 3, rfl, dL_type_15⟩, (Nat.le_of_ble_eq_true rfl), dL_type_16, by decide, dL_type_17⟩
theorem hp_type (h : Tr true l G Y_X9_type [.ref 0, .int v] M (fun r M' => ∃ x : Int32, r = some (.int x) ∧ Q (some (.int 0)) (sL M' 1105 0 x.toInt64)) (fun E M' => (E = "java/lang/IllegalArgumentException" ∧ Q (some (.int 1)) M') ∨ (E = "java/lang/IllegalStateException" ∧ Q (some (.int 2)) M'))) : TrH l G Y_L_type hh_type [.ref 0, .int v, .ref 1105] M Q := by
  refine trh_of (L0 := [.ref 0, .int v, .ref 1105, xx]) (by decide) (Nat.le_of_ble_eq_true rfl) rfl fun F => ?_
  have hw : Le (I_al 2 (I_ic 0 (I_al 0 (I_il 1 (I_cvX (Tr true l G Y_X9_type) 7 3 1 (fun E M' => (E = "java/lang/IllegalArgumentException" ∧ Q (some (.int 1)) M') ∨ (E = "java/lang/IllegalStateException" ∧ Q (some (.int 2)) M')) (I_i2l (I_las (I_ic 0 (I_ir Q))))))))) (Wh l G F Y_L_type hh_type Q 0 0 0) := by
    refine h_aload_n (pc := 0) ?_ dL_type_0 rfl
    refine h_iconst (pc := 1) ?_ dL_type_1 (by decide)
    refine h_aload_n (pc := 2) ?_ dL_type_2 rfl
    refine h_iload_n (pc := 3) ?_ dL_type_3 rfl
    refine h_cvX (pc := 4) ?_ ?_ rfl dL_type_4 ok_X9_type rfl wd_5_112 ⟨Nat.le_of_ble_eq_true rfl, Nat.le_of_ble_eq_true rfl⟩ ⟨Nat.le_of_ble_eq_true rfl, Nat.le_of_ble_eq_true rfl⟩
    · refine h_i2l (pc := 7) ?_ dL_type_7
      refine h_las (pc := 8) ?_ dL_type_8
      refine h_goto (pc := 9) (t := 18) ?_ dL_type_9 (by decide)
      refine h_iconst (pc := 18) ?_ dL_type_18 (by decide)
      exact h_ir dL_type_19 rfl (Nat.le_of_ble_eq_true rfl) (Nat.le_of_ble_eq_true rfl)
    · intro E M' h
      rcases h with ⟨rfl, hq⟩ | ⟨rfl, hq⟩
      · exact ⟨_, hd_type_0, hq⟩
      · exact ⟨_, hd_type_1, hq⟩
  refine hw _ _ _ ?_
  refine (show Tr true l G Y_X9_type [.ref 0, .int v] M _ _ → _ from fun t => ?_) h
  clear h hw
  have z8 : (List.map Value.category [.int 0, .ref 1105]).sum ≤ 8 := by decide
  refine ⟨k_F, z8, t.mono (fun r M' h => ?_) fun _ _ h => h⟩
  obtain ⟨x, rfl, hq⟩ := h
  exact ⟨k_O, k_O0, hq⟩
abbrev Y_L_undo : YT := (yL_undo, cL_undo, 3, (some .int), 8, 145, 1, 6)
abbrev hh_undo : List (Nat × Nat × Nat × Nat) := [(0,8,11,15)]
theorem hd_undo_0 : Hand Y_L_undo hh_undo 3 "java/lang/IllegalStateException" 1 :=
  ⟨[], ⟨0, 8, 11, 15⟩, [], 2, 1, 1, rfl, (fun z hz => by cases hz), by decide, by decide, wd_4_53, List.mem_cons_of_mem _ (List.mem_cons_of_mem _ (List.mem_cons_self ..)), Or.inr ⟨rfl, 2, rfl, dL_undo_11⟩, (Nat.le_of_ble_eq_true rfl), dL_undo_12, by decide, dL_undo_13⟩
theorem hp_undo (h : Tr true l G Y_X9_undo [.ref 0] M (fun r M' => ∃ x : Int32, r = some (.int x) ∧ Q (some (.int 0)) (sL M' 1105 0 x.toInt64)) (fun E M' => (E = "java/lang/IllegalStateException" ∧ Q (some (.int 1)) M'))) : TrH l G Y_L_undo hh_undo [.ref 0, .ref 1105] M Q := by
  refine trh_of (L0 := [.ref 0, .ref 1105, xx]) (by decide) (Nat.le_of_ble_eq_true rfl) rfl fun F => ?_
  have hw : Le (I_al 1 (I_ic 0 (I_al 0 (I_cvX (Tr true l G Y_X9_undo) 7 3 0 (fun E M' => (E = "java/lang/IllegalStateException" ∧ Q (some (.int 1)) M')) (I_i2l (I_las (I_ic 0 (I_ir Q)))))))) (Wh l G F Y_L_undo hh_undo Q 0 0 0) := by
    refine h_aload_n (pc := 0) ?_ dL_undo_0 rfl
    refine h_iconst (pc := 1) ?_ dL_undo_1 (by decide)
    refine h_aload_n (pc := 2) ?_ dL_undo_2 rfl
    refine h_cvX (pc := 3) ?_ ?_ rfl dL_undo_3 ok_X9_undo rfl wd_5_123 ⟨Nat.le_of_ble_eq_true rfl, Nat.le_of_ble_eq_true rfl⟩ ⟨Nat.le_of_ble_eq_true rfl, Nat.le_of_ble_eq_true rfl⟩
    · refine h_i2l (pc := 6) ?_ dL_undo_6
      refine h_las (pc := 7) ?_ dL_undo_7
      refine h_goto (pc := 8) (t := 14) ?_ dL_undo_8 (by decide)
      refine h_iconst (pc := 14) ?_ dL_undo_14 (by decide)
      exact h_ir dL_undo_15 rfl (Nat.le_of_ble_eq_true rfl) (Nat.le_of_ble_eq_true rfl)
    · intro E M' h
      obtain ⟨rfl, hq⟩ := h
      exact ⟨_, hd_undo_0, hq⟩
  refine hw _ _ _ ?_
  refine (show Tr true l G Y_X9_undo [.ref 0] M _ _ → _ from fun t => ?_) h
  clear h hw
  have z8 : (List.map Value.category [.int 0, .ref 1105]).sum ≤ 8 := by decide
  refine ⟨k_F, z8, t.mono (fun r M' h => ?_) fun _ _ h => h⟩
  obtain ⟨x, rfl, hq⟩ := h
  exact ⟨k_O, k_O0, hq⟩
end LAB
