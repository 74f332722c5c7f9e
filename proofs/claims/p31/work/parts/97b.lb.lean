/-! ===== the small methods of the property's own ===== -/
section LAB
variable {l : Launch} {G : GT} {M : Mm} {Q : PQ} {v w u b : Int32}
abbrev hh_trade : List (Nat × Nat × Nat × Nat) := [(0,7,8,15), (0,7,13,18)]
abbrev Y_L_trade : YT := (yL_trade, cL_trade, 5, (some .int), 8, 148, 1, 6)
theorem hd_trade_0 : Hand Y_L_trade hh_trade 4 "java/lang/IllegalArgumentException" (-900000001) :=
  ⟨[], ⟨0, 7, 8, 15⟩, [⟨0, 7, 13, 18⟩], 4, 2, 17, rfl, (fun z hz => by cases hz), by decide, by decide, wd_2_6, List.mem_cons_of_mem _ (List.mem_cons_self ..), (Or.inl ⟨rfl, dL_trade_8⟩), (Nat.le_of_ble_eq_true rfl), dL_trade_10, wd_2_156, dL_trade_12⟩
theorem hd_trade_1 : Hand Y_L_trade hh_trade 4 "java/lang/IllegalStateException" (-900000002) :=
  ⟨[⟨0, 7, 8, 15⟩], ⟨0, 7, 13, 18⟩, [], 4, 2, 20, rfl, (fun z hz => by
      rcases List.mem_cons.mp hz with rfl | hz
      · exact ⟨by decide, _, wd_2_6, List.mem_cons_of_mem _ (List.mem_cons_of_mem _ (List.mem_cons_self ..))⟩
      cases hz), by decide, by decide, wd_2_7, List.mem_cons_of_mem _ (List.mem_cons_of_mem _ (List.mem_cons_self ..)), (Or.inl ⟨rfl, dL_trade_13⟩), (Nat.le_of_ble_eq_true rfl), dL_trade_15, wd_2_157, dL_trade_17⟩
theorem hp_trade (h : Tr true l G Y_X9_addTrade [.ref 0, .int v, .int w, .int u] M (fun r M' => ∃ x : Int32, r = some (.int x) ∧ Q (some (.int x)) M') (fun E M' => (E = "java/lang/IllegalArgumentException" ∧ Q (some (.int (-900000001))) M') ∨ (E = "java/lang/IllegalStateException" ∧ Q (some (.int (-900000002))) M'))) : TrH l G Y_L_trade hh_trade [.ref 0, .int v, .int w, .int u] M Q := by
  refine trh_of (L0 := [.ref 0, .int v, .int w, .int u, xx]) (by decide) (Nat.le_of_ble_eq_true rfl) rfl fun F => ?_
  have hw : Le (I_al 0 (I_il 1 (I_il 2 (I_il 3 (I_cvX (Tr true l G Y_X9_addTrade) 7 3 3 (fun E M' => (E = "java/lang/IllegalArgumentException" ∧ Q (some (.int (-900000001))) M') ∨ (E = "java/lang/IllegalStateException" ∧ Q (some (.int (-900000002))) M')) (I_ir Q)))))) (Wh l G F Y_L_trade hh_trade Q 0 0 0) := by
    refine h_aload_n (pc := 0) ?_ dL_trade_0 rfl
    refine h_iload_n (pc := 1) ?_ dL_trade_1 rfl
    refine h_iload_n (pc := 2) ?_ dL_trade_2 rfl
    refine h_iload_n (pc := 3) ?_ dL_trade_3 rfl
    refine h_cvX (pc := 4) ?_ ?_ rfl dL_trade_4 ok_X9_addTrade rfl wd_2_8 ⟨Nat.le_of_ble_eq_true rfl, Nat.le_of_ble_eq_true rfl⟩ ⟨Nat.le_of_ble_eq_true rfl, Nat.le_of_ble_eq_true rfl⟩
    · exact h_ir dL_trade_7 rfl (Nat.le_of_ble_eq_true rfl) (Nat.le_of_ble_eq_true rfl)
    · intro E M' h
      rcases h with ⟨rfl, hq⟩ | ⟨rfl, hq⟩
      · exact ⟨_, hd_trade_0, hq⟩
      · exact ⟨_, hd_trade_1, hq⟩
  refine hw _ _ _ ?_
  refine (show Tr true l G Y_X9_addTrade [.ref 0, .int v, .int w, .int u] M _ _ → _ from fun t => ?_) h
  clear h hw
  have z8 : (List.map Value.category []).sum ≤ 8 := by decide
  refine ⟨k_F, z8, t.mono (fun r M' h => ?_) fun _ _ h => h⟩
  obtain ⟨x, rfl, hq⟩ := h
  exact hq
abbrev hh_ends : List (Nat × Nat × Nat × Nat) := [(0,4,5,18)]
abbrev Y_L_ends : YT := (yL_ends, cL_ends, 2, (some .int), 8, 150, 1, 6)
theorem hd_ends_0 : Hand Y_L_ends hh_ends 1 "java/lang/IllegalStateException" (-900000002) :=
  ⟨[], ⟨0, 4, 5, 18⟩, [], 1, 1, 20, rfl, (fun z hz => by cases hz), by decide, by decide, wd_2_7, List.mem_cons_of_mem _ (List.mem_cons_of_mem _ (List.mem_cons_self ..)), (Or.inr ⟨rfl, 1, rfl, dL_ends_5⟩), (Nat.le_of_ble_eq_true rfl), dL_ends_6, wd_2_157, dL_ends_8⟩
theorem hp_ends (h : Tr true l G Y_X9_endDay [.ref 0] M (fun r M' => ∃ x : Int32, r = some (.int x) ∧ Q (some (.int x)) M') (fun E M' => (E = "java/lang/IllegalStateException" ∧ Q (some (.int (-900000002))) M'))) : TrH l G Y_L_ends hh_ends [.ref 0] M Q := by
  refine trh_of (L0 := [.ref 0, xx]) (by decide) (Nat.le_of_ble_eq_true rfl) rfl fun F => ?_
  have hw : Le (I_al 0 (I_cvX (Tr true l G Y_X9_endDay) 7 3 0 (fun E M' => (E = "java/lang/IllegalStateException" ∧ Q (some (.int (-900000002))) M')) (I_ir Q))) (Wh l G F Y_L_ends hh_ends Q 0 0 0) := by
    refine h_aload_n (pc := 0) ?_ dL_ends_0 rfl
    refine h_cvX (pc := 1) ?_ ?_ rfl dL_ends_1 ok_X9_endDay rfl wd_2_161 ⟨Nat.le_of_ble_eq_true rfl, Nat.le_of_ble_eq_true rfl⟩ ⟨Nat.le_of_ble_eq_true rfl, Nat.le_of_ble_eq_true rfl⟩
    · exact h_ir dL_ends_4 rfl (Nat.le_of_ble_eq_true rfl) (Nat.le_of_ble_eq_true rfl)
    · intro E M' h
      obtain ⟨rfl, hq⟩ := h
      exact ⟨_, hd_ends_0, hq⟩
  refine hw _ _ _ ?_
  refine (show Tr true l G Y_X9_endDay [.ref 0] M _ _ → _ from fun t => ?_) h
  clear h hw
  have z8 : (List.map Value.category []).sum ≤ 8 := by decide
  refine ⟨k_F, z8, t.mono (fun r M' h => ?_) fun _ _ h => h⟩
  obtain ⟨x, rfl, hq⟩ := h
  exact hq
abbrev hh_back : List (Nat × Nat × Nat × Nat) := [(0,4,5,18)]
abbrev Y_L_back : YT := (yL_back, cL_back, 2, (some .int), 8, 145, 1, 6)
theorem hd_back_0 : Hand Y_L_back hh_back 1 "java/lang/IllegalStateException" (-900000002) :=
  ⟨[], ⟨0, 4, 5, 18⟩, [], 1, 1, 20, rfl, (fun z hz => by cases hz), by decide, by decide, wd_2_7, List.mem_cons_of_mem _ (List.mem_cons_of_mem _ (List.mem_cons_self ..)), (Or.inr ⟨rfl, 1, rfl, dL_back_5⟩), (Nat.le_of_ble_eq_true rfl), dL_back_6, wd_2_157, dL_back_8⟩
theorem hp_back (h : Tr true l G Y_X9_undo [.ref 0] M (fun r M' => ∃ x : Int32, r = some (.int x) ∧ Q (some (.int x)) M') (fun E M' => (E = "java/lang/IllegalStateException" ∧ Q (some (.int (-900000002))) M'))) : TrH l G Y_L_back hh_back [.ref 0] M Q := by
  refine trh_of (L0 := [.ref 0, xx]) (by decide) (Nat.le_of_ble_eq_true rfl) rfl fun F => ?_
  have hw : Le (I_al 0 (I_cvX (Tr true l G Y_X9_undo) 7 3 0 (fun E M' => (E = "java/lang/IllegalStateException" ∧ Q (some (.int (-900000002))) M')) (I_ir Q))) (Wh l G F Y_L_back hh_back Q 0 0 0) := by
    refine h_aload_n (pc := 0) ?_ dL_back_0 rfl
    refine h_cvX (pc := 1) ?_ ?_ rfl dL_back_1 ok_X9_undo rfl wd_2_196 ⟨Nat.le_of_ble_eq_true rfl, Nat.le_of_ble_eq_true rfl⟩ ⟨Nat.le_of_ble_eq_true rfl, Nat.le_of_ble_eq_true rfl⟩
    · exact h_ir dL_back_4 rfl (Nat.le_of_ble_eq_true rfl) (Nat.le_of_ble_eq_true rfl)
    · intro E M' h
      obtain ⟨rfl, hq⟩ := h
      exact ⟨_, hd_back_0, hq⟩
  refine hw _ _ _ ?_
  refine (show Tr true l G Y_X9_undo [.ref 0] M _ _ → _ from fun t => ?_) h
  clear h hw
  have z8 : (List.map Value.category []).sum ≤ 8 := by decide
  refine ⟨k_F, z8, t.mono (fun r M' h => ?_) fun _ _ h => h⟩
  obtain ⟨x, rfl, hq⟩ := h
  exact hq
abbrev hh_whole : List (Nat × Nat × Nat × Nat) := [(0,5,6,15)]
abbrev Y_L_whole : YT := (yL_whole, cL_whole, 3, (some .int), 8, 154, 1, 6)
theorem hd_whole_0 : Hand Y_L_whole hh_whole 2 "java/lang/IllegalArgumentException" (-900000001) :=
  ⟨[], ⟨0, 5, 6, 15⟩, [], 2, 1, 17, rfl, (fun z hz => by cases hz), by decide, by decide, wd_2_6, List.mem_cons_of_mem _ (List.mem_cons_self ..), (Or.inr ⟨rfl, 2, rfl, dL_whole_6⟩), (Nat.le_of_ble_eq_true rfl), dL_whole_7, wd_2_156, dL_whole_9⟩
theorem hp_whole (h : Tr true l G Y_X9_whole [.ref 0, .int v] M (fun r M' => ∃ x : Int32, r = some (.int x) ∧ Q (some (.int x)) M') (fun E M' => (E = "java/lang/IllegalArgumentException" ∧ Q (some (.int (-900000001))) M'))) : TrH l G Y_L_whole hh_whole [.ref 0, .int v] M Q := by
  refine trh_of (L0 := [.ref 0, .int v, xx]) (by decide) (Nat.le_of_ble_eq_true rfl) rfl fun F => ?_
  have hw : Le (I_al 0 (I_il 1 (I_cvX (Tr true l G Y_X9_whole) 7 3 1 (fun E M' => (E = "java/lang/IllegalArgumentException" ∧ Q (some (.int (-900000001))) M')) (I_ir Q)))) (Wh l G F Y_L_whole hh_whole Q 0 0 0) := by
    refine h_aload_n (pc := 0) ?_ dL_whole_0 rfl
    refine h_iload_n (pc := 1) ?_ dL_whole_1 rfl
    refine h_cvX (pc := 2) ?_ ?_ rfl dL_whole_2 ok_X9_whole rfl wd_2_212 ⟨Nat.le_of_ble_eq_true rfl, Nat.le_of_ble_eq_true rfl⟩ ⟨Nat.le_of_ble_eq_true rfl, Nat.le_of_ble_eq_true rfl⟩
    · exact h_ir dL_whole_5 rfl (Nat.le_of_ble_eq_true rfl) (Nat.le_of_ble_eq_true rfl)
    · intro E M' h
      obtain ⟨rfl, hq⟩ := h
      exact ⟨_, hd_whole_0, hq⟩
  refine hw _ _ _ ?_
  refine (show Tr true l G Y_X9_whole [.ref 0, .int v] M _ _ → _ from fun t => ?_) h
  clear h hw
  have z8 : (List.map Value.category []).sum ≤ 8 := by decide
  refine ⟨k_F, z8, t.mono (fun r M' h => ?_) fun _ _ h => h⟩
  obtain ⟨x, rfl, hq⟩ := h
  exact hq
abbrev Y_L_whole0 : YT := (yL_whole, cL_whole, 3, (some .int), 8, 154, 0, 0)
theorem hp_whole0 (h : Tr true l G Y_Z9_whole [.ref 0, .int v] M (fun r M' => ∃ x : Int32, r = some (.int x) ∧ Q (some (.int x)) M') NX) : TrH l G Y_L_whole0 hh_whole [.ref 0, .int v] M Q := by
  refine trh_of (L0 := [.ref 0, .int v, xx]) (by decide) (Nat.le_of_ble_eq_true rfl) rfl fun F => ?_
  have hw : Le (I_al 0 (I_il 1 (I_cvX (Tr true l G Y_Z9_whole) 7 3 1 NX (I_ir Q)))) (Wh l G F Y_L_whole0 hh_whole Q 0 0 0) := by
    refine h_aload_n (pc := 0) ?_ dL_whole_0 rfl
    refine h_iload_n (pc := 1) ?_ dL_whole_1 rfl
    refine h_cvX (pc := 2) ?_ ?_ rfl dL_whole_2 ok_Z9_whole rfl wd_2_212 ⟨Nat.le_of_ble_eq_true rfl, Nat.le_of_ble_eq_true rfl⟩ ⟨Nat.le_of_ble_eq_true rfl, Nat.le_of_ble_eq_true rfl⟩
    · exact h_ir dL_whole_5 rfl (Nat.le_of_ble_eq_true rfl) (Nat.le_of_ble_eq_true rfl)
    · exact fun E M' h => h.elim
  refine hw _ _ _ ?_
  refine (show Tr true l G Y_Z9_whole [.ref 0, .int v] M _ _ → _ from fun t => ?_) h
  clear h hw
  have z8 : (List.map Value.category []).sum ≤ 8 := by decide
  refine ⟨k_F, z8, t.mono (fun r M' h => ?_) fun _ _ h => h⟩
  obtain ⟨x, rfl, hq⟩ := h
  exact hq
abbrev hh_mentor : List (Nat × Nat × Nat × Nat) := [(0,6,7,28), (0,6,11,15)]
abbrev Y_L_mentor : YT := (yL_mentor, cL_mentor, 4, (some .int), 8, 124, 2, 12)
theorem hd_mentor_0 : Hand Y_L_mentor hh_mentor 3 "java/lang/IndexOutOfBoundsException" (-900000003) :=
  ⟨[], ⟨0, 6, 7, 28⟩, [⟨0, 6, 11, 15⟩], 3, 1, 30, rfl, (fun z hz => by cases hz), by decide, by decide, wd_3_14, List.mem_cons_self .., (Or.inr ⟨rfl, 3, rfl, dL_mentor_7⟩), (Nat.le_of_ble_eq_true rfl), dL_mentor_8, wd_3_41, dL_mentor_10⟩
theorem hd_mentor_1 : Hand Y_L_mentor hh_mentor 3 "java/lang/IllegalArgumentException" (-900000001) :=
  ⟨[⟨0, 6, 7, 28⟩], ⟨0, 6, 11, 15⟩, [], 3, 1, 17, rfl, (fun z hz => by
      rcases List.mem_cons.mp hz with rfl | hz
      · exact ⟨by decide, _, wd_3_14, List.mem_cons_self ..⟩
      cases hz), by decide, by decide, wd_2_6, List.mem_cons_of_mem _ (List.mem_cons_self ..), (Or.inr ⟨rfl, 3, rfl, dL_mentor_11⟩), (Nat.le_of_ble_eq_true rfl), dL_mentor_12, wd_2_156, dL_mentor_14⟩
theorem hp_mentor (h : Tr true l G Y_X9_mentor [.ref 0, .int v, .int w] M (fun r M' => ∃ x : Int32, r = some (.int x) ∧ Q (some (.int x)) M') (fun E M' => (E = "java/lang/IndexOutOfBoundsException" ∧ Q (some (.int (-900000003))) M') ∨ (E = "java/lang/IllegalArgumentException" ∧ Q (some (.int (-900000001))) M'))) : TrH l G Y_L_mentor hh_mentor [.ref 0, .int v, .int w] M Q := by
  refine trh_of (L0 := [.ref 0, .int v, .int w, xx]) (by decide) (Nat.le_of_ble_eq_true rfl) rfl fun F => ?_
  have hw : Le (I_al 0 (I_il 1 (I_il 2 (I_cvX (Tr true l G Y_X9_mentor) 7 3 2 (fun E M' => (E = "java/lang/IndexOutOfBoundsException" ∧ Q (some (.int (-900000003))) M') ∨ (E = "java/lang/IllegalArgumentException" ∧ Q (some (.int (-900000001))) M')) (I_ir Q))))) (Wh l G F Y_L_mentor hh_mentor Q 0 0 0) := by
    refine h_aload_n (pc := 0) ?_ dL_mentor_0 rfl
    refine h_iload_n (pc := 1) ?_ dL_mentor_1 rfl
    refine h_iload_n (pc := 2) ?_ dL_mentor_2 rfl
    refine h_cvX (pc := 3) ?_ ?_ rfl dL_mentor_3 ok_X9_mentor rfl wd_3_15 ⟨Nat.le_of_ble_eq_true rfl, Nat.le_of_ble_eq_true rfl⟩ ⟨Nat.le_of_ble_eq_true rfl, Nat.le_of_ble_eq_true rfl⟩
    · exact h_ir dL_mentor_6 rfl (Nat.le_of_ble_eq_true rfl) (Nat.le_of_ble_eq_true rfl)
    · intro E M' h
      rcases h with ⟨rfl, hq⟩ | ⟨rfl, hq⟩
      · exact ⟨_, hd_mentor_0, hq⟩
      · exact ⟨_, hd_mentor_1, hq⟩
  refine hw _ _ _ ?_
  refine (show Tr true l G Y_X9_mentor [.ref 0, .int v, .int w] M _ _ → _ from fun t => ?_) h
  clear h hw
  have z8 : (List.map Value.category []).sum ≤ 8 := by decide
  refine ⟨k_F, z8, t.mono (fun r M' h => ?_) fun _ _ h => h⟩
  obtain ⟨x, rfl, hq⟩ := h
  exact hq
abbrev Y_L_mentor0 : YT := (yL_mentor, cL_mentor, 4, (some .int), 8, 124, 0, 0)
theorem hp_mentor0 (h : Tr true l G Y_Z9_mentor [.ref 0, .int v, .int w] M (fun r M' => ∃ x : Int32, r = some (.int x) ∧ Q (some (.int x)) M') NX) : TrH l G Y_L_mentor0 hh_mentor [.ref 0, .int v, .int w] M Q := by
  refine trh_of (L0 := [.ref 0, .int v, .int w, xx]) (by decide) (Nat.le_of_ble_eq_true rfl) rfl fun F => ?_
  have hw : Le (I_al 0 (I_il 1 (I_il 2 (I_cvX (Tr true l G Y_Z9_mentor) 7 3 2 NX (I_ir Q))))) (Wh l G F Y_L_mentor0 hh_mentor Q 0 0 0) := by
    refine h_aload_n (pc := 0) ?_ dL_mentor_0 rfl
    refine h_iload_n (pc := 1) ?_ dL_mentor_1 rfl
    refine h_iload_n (pc := 2) ?_ dL_mentor_2 rfl
    refine h_cvX (pc := 3) ?_ ?_ rfl dL_mentor_3 ok_Z9_mentor rfl wd_3_15 ⟨Nat.le_of_ble_eq_true rfl, Nat.le_of_ble_eq_true rfl⟩ ⟨Nat.le_of_ble_eq_true rfl, Nat.le_of_ble_eq_true rfl⟩
    · exact h_ir dL_mentor_6 rfl (Nat.le_of_ble_eq_true rfl) (Nat.le_of_ble_eq_true rfl)
    · exact fun E M' h => h.elim
  refine hw _ _ _ ?_
  refine (show Tr true l G Y_Z9_mentor [.ref 0, .int v, .int w] M _ _ → _ from fun t => ?_) h
  clear h hw
  have z8 : (List.map Value.category []).sum ≤ 8 := by decide
  refine ⟨k_F, z8, t.mono (fun r M' h => ?_) fun _ _ h => h⟩
  obtain ⟨x, rfl, hq⟩ := h
  exact hq
abbrev hh_one : List (Nat × Nat × Nat × Nat) := [(0,6,7,28), (0,6,11,15)]
abbrev Y_L_one : YT := (yL_one, cL_one, 4, (some .int), 8, 124, 2, 12)
theorem hd_one_0 : Hand Y_L_one hh_one 3 "java/lang/IndexOutOfBoundsException" (-900000003) :=
  ⟨[], ⟨0, 6, 7, 28⟩, [⟨0, 6, 11, 15⟩], 3, 1, 30, rfl, (fun z hz => by cases hz), by decide, by decide, wd_3_14, List.mem_cons_self .., (Or.inr ⟨rfl, 3, rfl, dL_one_7⟩), (Nat.le_of_ble_eq_true rfl), dL_one_8, wd_3_41, dL_one_10⟩
theorem hd_one_1 : Hand Y_L_one hh_one 3 "java/lang/IllegalArgumentException" (-900000001) :=
  ⟨[⟨0, 6, 7, 28⟩], ⟨0, 6, 11, 15⟩, [], 3, 1, 17, rfl, (fun z hz => by
      rcases List.mem_cons.mp hz with rfl | hz
      · exact ⟨by decide, _, wd_3_14, List.mem_cons_self ..⟩
      cases hz), by decide, by decide, wd_2_6, List.mem_cons_of_mem _ (List.mem_cons_self ..), (Or.inr ⟨rfl, 3, rfl, dL_one_11⟩), (Nat.le_of_ble_eq_true rfl), dL_one_12, wd_2_156, dL_one_14⟩
theorem hp_one (h : Tr true l G Y_X9_apprentice [.ref 0, .int v, .int w] M (fun r M' => ∃ x : Int32, r = some (.int x) ∧ Q (some (.int x)) M') (fun E M' => (E = "java/lang/IndexOutOfBoundsException" ∧ Q (some (.int (-900000003))) M') ∨ (E = "java/lang/IllegalArgumentException" ∧ Q (some (.int (-900000001))) M'))) : TrH l G Y_L_one hh_one [.ref 0, .int v, .int w] M Q := by
  refine trh_of (L0 := [.ref 0, .int v, .int w, xx]) (by decide) (Nat.le_of_ble_eq_true rfl) rfl fun F => ?_
  have hw : Le (I_al 0 (I_il 1 (I_il 2 (I_cvX (Tr true l G Y_X9_apprentice) 7 3 2 (fun E M' => (E = "java/lang/IndexOutOfBoundsException" ∧ Q (some (.int (-900000003))) M') ∨ (E = "java/lang/IllegalArgumentException" ∧ Q (some (.int (-900000001))) M')) (I_ir Q))))) (Wh l G F Y_L_one hh_one Q 0 0 0) := by
    refine h_aload_n (pc := 0) ?_ dL_one_0 rfl
    refine h_iload_n (pc := 1) ?_ dL_one_1 rfl
    refine h_iload_n (pc := 2) ?_ dL_one_2 rfl
    refine h_cvX (pc := 3) ?_ ?_ rfl dL_one_3 ok_X9_apprentice rfl wd_3_45 ⟨Nat.le_of_ble_eq_true rfl, Nat.le_of_ble_eq_true rfl⟩ ⟨Nat.le_of_ble_eq_true rfl, Nat.le_of_ble_eq_true rfl⟩
    · exact h_ir dL_one_6 rfl (Nat.le_of_ble_eq_true rfl) (Nat.le_of_ble_eq_true rfl)
    · intro E M' h
      rcases h with ⟨rfl, hq⟩ | ⟨rfl, hq⟩
      · exact ⟨_, hd_one_0, hq⟩
      · exact ⟨_, hd_one_1, hq⟩
  refine hw _ _ _ ?_
  refine (show Tr true l G Y_X9_apprentice [.ref 0, .int v, .int w] M _ _ → _ from fun t => ?_) h
  clear h hw
  have z8 : (List.map Value.category []).sum ≤ 8 := by decide
  refine ⟨k_F, z8, t.mono (fun r M' h => ?_) fun _ _ h => h⟩
  obtain ⟨x, rfl, hq⟩ := h
  exact hq
abbrev Y_L_one0 : YT := (yL_one, cL_one, 4, (some .int), 8, 124, 0, 0)
theorem hp_one0 (h : Tr true l G Y_Z9_apprentice [.ref 0, .int v, .int w] M (fun r M' => ∃ x : Int32, r = some (.int x) ∧ Q (some (.int x)) M') NX) : TrH l G Y_L_one0 hh_one [.ref 0, .int v, .int w] M Q := by
  refine trh_of (L0 := [.ref 0, .int v, .int w, xx]) (by decide) (Nat.le_of_ble_eq_true rfl) rfl fun F => ?_
  have hw : Le (I_al 0 (I_il 1 (I_il 2 (I_cvX (Tr true l G Y_Z9_apprentice) 7 3 2 NX (I_ir Q))))) (Wh l G F Y_L_one0 hh_one Q 0 0 0) := by
    refine h_aload_n (pc := 0) ?_ dL_one_0 rfl
    refine h_iload_n (pc := 1) ?_ dL_one_1 rfl
    refine h_iload_n (pc := 2) ?_ dL_one_2 rfl
    refine h_cvX (pc := 3) ?_ ?_ rfl dL_one_3 ok_Z9_apprentice rfl wd_3_45 ⟨Nat.le_of_ble_eq_true rfl, Nat.le_of_ble_eq_true rfl⟩ ⟨Nat.le_of_ble_eq_true rfl, Nat.le_of_ble_eq_true rfl⟩
    · exact h_ir dL_one_6 rfl (Nat.le_of_ble_eq_true rfl) (Nat.le_of_ble_eq_true rfl)
    · exact fun E M' h => h.elim
  refine hw _ _ _ ?_
  refine (show Tr true l G Y_Z9_apprentice [.ref 0, .int v, .int w] M _ _ → _ from fun t => ?_) h
  clear h hw
  have z8 : (List.map Value.category []).sum ≤ 8 := by decide
  refine ⟨k_F, z8, t.mono (fun r M' h => ?_) fun _ _ h => h⟩
  obtain ⟨x, rfl, hq⟩ := h
  exact hq
abbrev hh_part : List (Nat × Nat × Nat × Nat) := [(0,7,8,28), (0,7,13,15)]
abbrev Y_L_part : YT := (yL_part, cL_part, 5, (some .int), 8, 125, 2, 12)
theorem hd_part_0 : Hand Y_L_part hh_part 4 "java/lang/IndexOutOfBoundsException" (-900000003) :=
  ⟨[], ⟨0, 7, 8, 28⟩, [⟨0, 7, 13, 15⟩], 4, 2, 30, rfl, (fun z hz => by cases hz), by decide, by decide, wd_3_14, List.mem_cons_self .., (Or.inl ⟨rfl, dL_part_8⟩), (Nat.le_of_ble_eq_true rfl), dL_part_10, wd_3_41, dL_part_12⟩
theorem hd_part_1 : Hand Y_L_part hh_part 4 "java/lang/IllegalArgumentException" (-900000001) :=
  ⟨[⟨0, 7, 8, 28⟩], ⟨0, 7, 13, 15⟩, [], 4, 2, 17, rfl, (fun z hz => by
      rcases List.mem_cons.mp hz with rfl | hz
      · exact ⟨by decide, _, wd_3_14, List.mem_cons_self ..⟩
      cases hz), by decide, by decide, wd_2_6, List.mem_cons_of_mem _ (List.mem_cons_self ..), (Or.inl ⟨rfl, dL_part_13⟩), (Nat.le_of_ble_eq_true rfl), dL_part_15, wd_2_156, dL_part_17⟩
theorem hp_part (h : Tr true l G Y_X9_part [.ref 0, .int v, .int w, .int u] M (fun r M' => ∃ x : Int32, r = some (.int x) ∧ Q (some (.int x)) M') (fun E M' => (E = "java/lang/IndexOutOfBoundsException" ∧ Q (some (.int (-900000003))) M') ∨ (E = "java/lang/IllegalArgumentException" ∧ Q (some (.int (-900000001))) M'))) : TrH l G Y_L_part hh_part [.ref 0, .int v, .int w, .int u] M Q := by
  refine trh_of (L0 := [.ref 0, .int v, .int w, .int u, xx]) (by decide) (Nat.le_of_ble_eq_true rfl) rfl fun F => ?_
  have hw : Le (I_al 0 (I_il 1 (I_il 2 (I_il 3 (I_cvX (Tr true l G Y_X9_part) 7 3 3 (fun E M' => (E = "java/lang/IndexOutOfBoundsException" ∧ Q (some (.int (-900000003))) M') ∨ (E = "java/lang/IllegalArgumentException" ∧ Q (some (.int (-900000001))) M')) (I_ir Q)))))) (Wh l G F Y_L_part hh_part Q 0 0 0) := by
    refine h_aload_n (pc := 0) ?_ dL_part_0 rfl
    refine h_iload_n (pc := 1) ?_ dL_part_1 rfl
    refine h_iload_n (pc := 2) ?_ dL_part_2 rfl
    refine h_iload_n (pc := 3) ?_ dL_part_3 rfl
    refine h_cvX (pc := 4) ?_ ?_ rfl dL_part_4 ok_X9_part rfl wd_3_69 ⟨Nat.le_of_ble_eq_true rfl, Nat.le_of_ble_eq_true rfl⟩ ⟨Nat.le_of_ble_eq_true rfl, Nat.le_of_ble_eq_true rfl⟩
    · exact h_ir dL_part_7 rfl (Nat.le_of_ble_eq_true rfl) (Nat.le_of_ble_eq_true rfl)
    · intro E M' h
      rcases h with ⟨rfl, hq⟩ | ⟨rfl, hq⟩
      · exact ⟨_, hd_part_0, hq⟩
      · exact ⟨_, hd_part_1, hq⟩
  refine hw _ _ _ ?_
  refine (show Tr true l G Y_X9_part [.ref 0, .int v, .int w, .int u] M _ _ → _ from fun t => ?_) h
  clear h hw
  have z8 : (List.map Value.category []).sum ≤ 8 := by decide
  refine ⟨k_F, z8, t.mono (fun r M' h => ?_) fun _ _ h => h⟩
  obtain ⟨x, rfl, hq⟩ := h
  exact hq
abbrev Y_L_part0 : YT := (yL_part, cL_part, 5, (some .int), 8, 125, 0, 0)
theorem hp_part0 (h : Tr true l G Y_Z9_part [.ref 0, .int v, .int w, .int u] M (fun r M' => ∃ x : Int32, r = some (.int x) ∧ Q (some (.int x)) M') NX) : TrH l G Y_L_part0 hh_part [.ref 0, .int v, .int w, .int u] M Q := by
  refine trh_of (L0 := [.ref 0, .int v, .int w, .int u, xx]) (by decide) (Nat.le_of_ble_eq_true rfl) rfl fun F => ?_
  have hw : Le (I_al 0 (I_il 1 (I_il 2 (I_il 3 (I_cvX (Tr true l G Y_Z9_part) 7 3 3 NX (I_ir Q)))))) (Wh l G F Y_L_part0 hh_part Q 0 0 0) := by
    refine h_aload_n (pc := 0) ?_ dL_part_0 rfl
    refine h_iload_n (pc := 1) ?_ dL_part_1 rfl
    refine h_iload_n (pc := 2) ?_ dL_part_2 rfl
    refine h_iload_n (pc := 3) ?_ dL_part_3 rfl
    refine h_cvX (pc := 4) ?_ ?_ rfl dL_part_4 ok_Z9_part rfl wd_3_69 ⟨Nat.le_of_ble_eq_true rfl, Nat.le_of_ble_eq_true rfl⟩ ⟨Nat.le_of_ble_eq_true rfl, Nat.le_of_ble_eq_true rfl⟩
    · exact h_ir dL_part_7 rfl (Nat.le_of_ble_eq_true rfl) (Nat.le_of_ble_eq_true rfl)
    · exact fun E M' h => h.elim
  refine hw _ _ _ ?_
  refine (show Tr true l G Y_Z9_part [.ref 0, .int v, .int w, .int u] M _ _ → _ from fun t => ?_) h
  clear h hw
  have z8 : (List.map Value.category []).sum ≤ 8 := by decide
  refine ⟨k_F, z8, t.mono (fun r M' h => ?_) fun _ _ h => h⟩
  obtain ⟨x, rfl, hq⟩ := h
  exact hq
abbrev hh_entry : List (Nat × Nat × Nat × Nat) := [(0,9,10,28), (0,9,15,15)]
abbrev Y_L_entry : YT := (yL_entry, cL_entry, 6, (some .int), 8, 126, 2, 12)
theorem hd_entry_0 : Hand Y_L_entry hh_entry 6 "java/lang/IndexOutOfBoundsException" (-900000003) :=
  ⟨[], ⟨0, 9, 10, 28⟩, [⟨0, 9, 15, 15⟩], 5, 2, 30, rfl, (fun z hz => by cases hz), by decide, by decide, wd_3_14, List.mem_cons_self .., (Or.inl ⟨rfl, dL_entry_10⟩), (Nat.le_of_ble_eq_true rfl), dL_entry_12, wd_3_41, dL_entry_14⟩
theorem hd_entry_1 : Hand Y_L_entry hh_entry 6 "java/lang/IllegalArgumentException" (-900000001) :=
  ⟨[⟨0, 9, 10, 28⟩], ⟨0, 9, 15, 15⟩, [], 5, 2, 17, rfl, (fun z hz => by
      rcases List.mem_cons.mp hz with rfl | hz
      · exact ⟨by decide, _, wd_3_14, List.mem_cons_self ..⟩
      cases hz), by decide, by decide, wd_2_6, List.mem_cons_of_mem _ (List.mem_cons_self ..), (Or.inl ⟨rfl, dL_entry_15⟩), (Nat.le_of_ble_eq_true rfl), dL_entry_17, wd_2_156, dL_entry_19⟩
theorem hp_entry (h : Tr true l G Y_X9_entry [.ref 0, .int v, .int w, .int u, .int b] M (fun r M' => ∃ x : Int32, r = some (.int x) ∧ Q (some (.int x)) M') (fun E M' => (E = "java/lang/IndexOutOfBoundsException" ∧ Q (some (.int (-900000003))) M') ∨ (E = "java/lang/IllegalArgumentException" ∧ Q (some (.int (-900000001))) M'))) : TrH l G Y_L_entry hh_entry [.ref 0, .int v, .int w, .int u, .int b] M Q := by
  refine trh_of (L0 := [.ref 0, .int v, .int w, .int u, .int b, xx]) (by decide) (Nat.le_of_ble_eq_true rfl) rfl fun F => ?_
  have hw : Le (I_al 0 (I_il 1 (I_il 2 (I_il 3 (I_il 4 (I_cvX (Tr true l G Y_X9_entry) 7 3 4 (fun E M' => (E = "java/lang/IndexOutOfBoundsException" ∧ Q (some (.int (-900000003))) M') ∨ (E = "java/lang/IllegalArgumentException" ∧ Q (some (.int (-900000001))) M')) (I_ir Q))))))) (Wh l G F Y_L_entry hh_entry Q 0 0 0) := by
    refine h_aload_n (pc := 0) ?_ dL_entry_0 rfl
    refine h_iload_n (pc := 1) ?_ dL_entry_1 rfl
    refine h_iload_n (pc := 2) ?_ dL_entry_2 rfl
    refine h_iload_n (pc := 3) ?_ dL_entry_3 rfl
    refine h_iload (pc := 4) ?_ dL_entry_4
    refine h_cvX (pc := 6) ?_ ?_ rfl dL_entry_6 ok_X9_entry rfl wd_3_87 ⟨Nat.le_of_ble_eq_true rfl, Nat.le_of_ble_eq_true rfl⟩ ⟨Nat.le_of_ble_eq_true rfl, Nat.le_of_ble_eq_true rfl⟩
    · exact h_ir dL_entry_9 rfl (Nat.le_of_ble_eq_true rfl) (Nat.le_of_ble_eq_true rfl)
    · intro E M' h
      rcases h with ⟨rfl, hq⟩ | ⟨rfl, hq⟩
      · exact ⟨_, hd_entry_0, hq⟩
      · exact ⟨_, hd_entry_1, hq⟩
  refine hw _ _ _ ?_
  refine (show Tr true l G Y_X9_entry [.ref 0, .int v, .int w, .int u, .int b] M _ _ → _ from fun t => ?_) h
  clear h hw
  have z8 : (List.map Value.category []).sum ≤ 8 := by decide
  refine ⟨k_F, z8, t.mono (fun r M' h => ?_) fun _ _ h => h⟩
  obtain ⟨x, rfl, hq⟩ := h
  exact hq
abbrev Y_L_entry0 : YT := (yL_entry, cL_entry, 6, (some .int), 8, 126, 0, 0)
theorem hp_entry0 (h : Tr true l G Y_Z9_entry [.ref 0, .int v, .int w, .int u, .int b] M (fun r M' => ∃ x : Int32, r = some (.int x) ∧ Q (some (.int x)) M') NX) : TrH l G Y_L_entry0 hh_entry [.ref 0, .int v, .int w, .int u, .int b] M Q := by
  refine trh_of (L0 := [.ref 0, .int v, .int w, .int u, .int b, xx]) (by decide) (Nat.le_of_ble_eq_true rfl) rfl fun F => ?_
  have hw : Le (I_al 0 (I_il 1 (I_il 2 (I_il 3 (I_il 4 (I_cvX (Tr true l G Y_Z9_entry) 7 3 4 NX (I_ir Q))))))) (Wh l G F Y_L_entry0 hh_entry Q 0 0 0) := by
    refine h_aload_n (pc := 0) ?_ dL_entry_0 rfl
    refine h_iload_n (pc := 1) ?_ dL_entry_1 rfl
    refine h_iload_n (pc := 2) ?_ dL_entry_2 rfl
    refine h_iload_n (pc := 3) ?_ dL_entry_3 rfl
    refine h_iload (pc := 4) ?_ dL_entry_4
    refine h_cvX (pc := 6) ?_ ?_ rfl dL_entry_6 ok_Z9_entry rfl wd_3_87 ⟨Nat.le_of_ble_eq_true rfl, Nat.le_of_ble_eq_true rfl⟩ ⟨Nat.le_of_ble_eq_true rfl, Nat.le_of_ble_eq_true rfl⟩
    · exact h_ir dL_entry_9 rfl (Nat.le_of_ble_eq_true rfl) (Nat.le_of_ble_eq_true rfl)
    · exact fun E M' h => h.elim
  refine hw _ _ _ ?_
  refine (show Tr true l G Y_Z9_entry [.ref 0, .int v, .int w, .int u, .int b] M _ _ → _ from fun t => ?_) h
  clear h hw
  have z8 : (List.map Value.category []).sum ≤ 8 := by decide
  refine ⟨k_F, z8, t.mono (fun r M' h => ?_) fun _ _ h => h⟩
  obtain ⟨x, rfl, hq⟩ := h
  exact hq
abbrev hh_next : List (Nat × Nat × Nat × Nat) := [(0,6,7,28), (0,6,11,15)]
abbrev Y_L_next : YT := (yL_next, cL_next, 4, (some .int), 8, 124, 2, 12)
theorem hd_next_0 : Hand Y_L_next hh_next 3 "java/lang/IndexOutOfBoundsException" (-900000003) :=
  ⟨[], ⟨0, 6, 7, 28⟩, [⟨0, 6, 11, 15⟩], 3, 1, 30, rfl, (fun z hz => by cases hz), by decide, by decide, wd_3_14, List.mem_cons_self .., (Or.inr ⟨rfl, 3, rfl, dL_next_7⟩), (Nat.le_of_ble_eq_true rfl), dL_next_8, wd_3_41, dL_next_10⟩
theorem hd_next_1 : Hand Y_L_next hh_next 3 "java/lang/IllegalArgumentException" (-900000001) :=
  ⟨[⟨0, 6, 7, 28⟩], ⟨0, 6, 11, 15⟩, [], 3, 1, 17, rfl, (fun z hz => by
      rcases List.mem_cons.mp hz with rfl | hz
      · exact ⟨by decide, _, wd_3_14, List.mem_cons_self ..⟩
      cases hz), by decide, by decide, wd_2_6, List.mem_cons_of_mem _ (List.mem_cons_self ..), (Or.inr ⟨rfl, 3, rfl, dL_next_11⟩), (Nat.le_of_ble_eq_true rfl), dL_next_12, wd_2_156, dL_next_14⟩
theorem hp_next (h : Tr true l G Y_X9_nextRelease [.ref 0, .int v, .int w] M (fun r M' => ∃ x : Int32, r = some (.int x) ∧ Q (some (.int x)) M') (fun E M' => (E = "java/lang/IndexOutOfBoundsException" ∧ Q (some (.int (-900000003))) M') ∨ (E = "java/lang/IllegalArgumentException" ∧ Q (some (.int (-900000001))) M'))) : TrH l G Y_L_next hh_next [.ref 0, .int v, .int w] M Q := by
  refine trh_of (L0 := [.ref 0, .int v, .int w, xx]) (by decide) (Nat.le_of_ble_eq_true rfl) rfl fun F => ?_
  have hw : Le (I_al 0 (I_il 1 (I_il 2 (I_cvX (Tr true l G Y_X9_nextRelease) 7 3 2 (fun E M' => (E = "java/lang/IndexOutOfBoundsException" ∧ Q (some (.int (-900000003))) M') ∨ (E = "java/lang/IllegalArgumentException" ∧ Q (some (.int (-900000001))) M')) (I_ir Q))))) (Wh l G F Y_L_next hh_next Q 0 0 0) := by
    refine h_aload_n (pc := 0) ?_ dL_next_0 rfl
    refine h_iload_n (pc := 1) ?_ dL_next_1 rfl
    refine h_iload_n (pc := 2) ?_ dL_next_2 rfl
    refine h_cvX (pc := 3) ?_ ?_ rfl dL_next_3 ok_X9_nextRelease rfl wd_3_99 ⟨Nat.le_of_ble_eq_true rfl, Nat.le_of_ble_eq_true rfl⟩ ⟨Nat.le_of_ble_eq_true rfl, Nat.le_of_ble_eq_true rfl⟩
    · exact h_ir dL_next_6 rfl (Nat.le_of_ble_eq_true rfl) (Nat.le_of_ble_eq_true rfl)
    · intro E M' h
      rcases h with ⟨rfl, hq⟩ | ⟨rfl, hq⟩
      · exact ⟨_, hd_next_0, hq⟩
      · exact ⟨_, hd_next_1, hq⟩
  refine hw _ _ _ ?_
  refine (show Tr true l G Y_X9_nextRelease [.ref 0, .int v, .int w] M _ _ → _ from fun t => ?_) h
  clear h hw
  have z8 : (List.map Value.category []).sum ≤ 8 := by decide
  refine ⟨k_F, z8, t.mono (fun r M' h => ?_) fun _ _ h => h⟩
  obtain ⟨x, rfl, hq⟩ := h
  exact hq
abbrev Y_L_next0 : YT := (yL_next, cL_next, 4, (some .int), 8, 124, 0, 0)
theorem hp_next0 (h : Tr true l G Y_Z9_nextRelease [.ref 0, .int v, .int w] M (fun r M' => ∃ x : Int32, r = some (.int x) ∧ Q (some (.int x)) M') NX) : TrH l G Y_L_next0 hh_next [.ref 0, .int v, .int w] M Q := by
  refine trh_of (L0 := [.ref 0, .int v, .int w, xx]) (by decide) (Nat.le_of_ble_eq_true rfl) rfl fun F => ?_
  have hw : Le (I_al 0 (I_il 1 (I_il 2 (I_cvX (Tr true l G Y_Z9_nextRelease) 7 3 2 NX (I_ir Q))))) (Wh l G F Y_L_next0 hh_next Q 0 0 0) := by
    refine h_aload_n (pc := 0) ?_ dL_next_0 rfl
    refine h_iload_n (pc := 1) ?_ dL_next_1 rfl
    refine h_iload_n (pc := 2) ?_ dL_next_2 rfl
    refine h_cvX (pc := 3) ?_ ?_ rfl dL_next_3 ok_Z9_nextRelease rfl wd_3_99 ⟨Nat.le_of_ble_eq_true rfl, Nat.le_of_ble_eq_true rfl⟩ ⟨Nat.le_of_ble_eq_true rfl, Nat.le_of_ble_eq_true rfl⟩
    · exact h_ir dL_next_6 rfl (Nat.le_of_ble_eq_true rfl) (Nat.le_of_ble_eq_true rfl)
    · exact fun E M' h => h.elim
  refine hw _ _ _ ?_
  refine (show Tr true l G Y_Z9_nextRelease [.ref 0, .int v, .int w] M _ _ → _ from fun t => ?_) h
  clear h hw
  have z8 : (List.map Value.category []).sum ≤ 8 := by decide
  refine ⟨k_F, z8, t.mono (fun r M' h => ?_) fun _ _ h => h⟩
  obtain ⟨x, rfl, hq⟩ := h
  exact hq
abbrev hh_mentors : List (Nat × Nat × Nat × Nat) := [(0,6,7,15), (0,6,11,18)]
abbrev Y_L_mentors : YT := (yL_mentors, cL_mentors, 4, (some .int), 8, 147, 1, 6)
theorem hd_mentors_0 : Hand Y_L_mentors hh_mentors 3 "java/lang/IllegalArgumentException" (-900000001) :=
  ⟨[], ⟨0, 6, 7, 15⟩, [⟨0, 6, 11, 18⟩], 3, 1, 17, rfl, (fun z hz => by cases hz), by decide, by decide, wd_2_6, List.mem_cons_of_mem _ (List.mem_cons_self ..), (Or.inr ⟨rfl, 3, rfl, dL_mentors_7⟩), (Nat.le_of_ble_eq_true rfl), dL_mentors_8, wd_2_156, dL_mentors_10⟩
theorem hd_mentors_1 : Hand Y_L_mentors hh_mentors 3 "java/lang/IllegalStateException" (-900000002) :=
  ⟨[⟨0, 6, 7, 15⟩], ⟨0, 6, 11, 18⟩, [], 3, 1, 20, rfl, (fun z hz => by
      rcases List.mem_cons.mp hz with rfl | hz
      · exact ⟨by decide, _, wd_2_6, List.mem_cons_of_mem _ (List.mem_cons_of_mem _ (List.mem_cons_self ..))⟩
      cases hz), by decide, by decide, wd_2_7, List.mem_cons_of_mem _ (List.mem_cons_of_mem _ (List.mem_cons_self ..)), (Or.inr ⟨rfl, 3, rfl, dL_mentors_11⟩), (Nat.le_of_ble_eq_true rfl), dL_mentors_12, wd_2_157, dL_mentors_14⟩
theorem hp_mentors (h : Tr true l G Y_X9_addMentor [.ref 0, .int v, .int w] M (fun r M' => ∃ x : Int32, r = some (.int x) ∧ Q (some (.int x)) M') (fun E M' => (E = "java/lang/IllegalArgumentException" ∧ Q (some (.int (-900000001))) M') ∨ (E = "java/lang/IllegalStateException" ∧ Q (some (.int (-900000002))) M'))) : TrH l G Y_L_mentors hh_mentors [.ref 0, .int v, .int w] M Q := by
  refine trh_of (L0 := [.ref 0, .int v, .int w, xx]) (by decide) (Nat.le_of_ble_eq_true rfl) rfl fun F => ?_
  have hw : Le (I_al 0 (I_il 1 (I_il 2 (I_cvX (Tr true l G Y_X9_addMentor) 7 3 2 (fun E M' => (E = "java/lang/IllegalArgumentException" ∧ Q (some (.int (-900000001))) M') ∨ (E = "java/lang/IllegalStateException" ∧ Q (some (.int (-900000002))) M')) (I_ir Q))))) (Wh l G F Y_L_mentors hh_mentors Q 0 0 0) := by
    refine h_aload_n (pc := 0) ?_ dL_mentors_0 rfl
    refine h_iload_n (pc := 1) ?_ dL_mentors_1 rfl
    refine h_iload_n (pc := 2) ?_ dL_mentors_2 rfl
    refine h_cvX (pc := 3) ?_ ?_ rfl dL_mentors_3 ok_X9_addMentor rfl wd_3_122 ⟨Nat.le_of_ble_eq_true rfl, Nat.le_of_ble_eq_true rfl⟩ ⟨Nat.le_of_ble_eq_true rfl, Nat.le_of_ble_eq_true rfl⟩
    · exact h_ir dL_mentors_6 rfl (Nat.le_of_ble_eq_true rfl) (Nat.le_of_ble_eq_true rfl)
    · intro E M' h
      rcases h with ⟨rfl, hq⟩ | ⟨rfl, hq⟩
      · exact ⟨_, hd_mentors_0, hq⟩
      · exact ⟨_, hd_mentors_1, hq⟩
  refine hw _ _ _ ?_
  refine (show Tr true l G Y_X9_addMentor [.ref 0, .int v, .int w] M _ _ → _ from fun t => ?_) h
  clear h hw
  have z8 : (List.map Value.category []).sum ≤ 8 := by decide
  refine ⟨k_F, z8, t.mono (fun r M' h => ?_) fun _ _ h => h⟩
  obtain ⟨x, rfl, hq⟩ := h
  exact hq
abbrev hh_pupil : List (Nat × Nat × Nat × Nat) := [(0,6,7,28), (0,6,11,18)]
abbrev Y_L_pupil : YT := (yL_pupil, cL_pupil, 4, (some .int), 8, 147, 1, 6)
theorem hd_pupil_0 : Hand Y_L_pupil hh_pupil 3 "java/lang/IndexOutOfBoundsException" (-900000003) :=
  ⟨[], ⟨0, 6, 7, 28⟩, [⟨0, 6, 11, 18⟩], 3, 1, 30, rfl, (fun z hz => by cases hz), by decide, by decide, wd_3_14, List.mem_cons_self .., (Or.inr ⟨rfl, 3, rfl, dL_pupil_7⟩), (Nat.le_of_ble_eq_true rfl), dL_pupil_8, wd_3_41, dL_pupil_10⟩
theorem hd_pupil_1 : Hand Y_L_pupil hh_pupil 3 "java/lang/IllegalStateException" (-900000002) :=
  ⟨[⟨0, 6, 7, 28⟩], ⟨0, 6, 11, 18⟩, [], 3, 1, 20, rfl, (fun z hz => by
      rcases List.mem_cons.mp hz with rfl | hz
      · exact ⟨by decide, _, wd_3_14, List.mem_cons_of_mem _ (List.mem_cons_self ..)⟩
      cases hz), by decide, by decide, wd_2_7, List.mem_cons_of_mem _ (List.mem_cons_of_mem _ (List.mem_cons_self ..)), (Or.inr ⟨rfl, 3, rfl, dL_pupil_11⟩), (Nat.le_of_ble_eq_true rfl), dL_pupil_12, wd_2_157, dL_pupil_14⟩
theorem hp_pupil (h : Tr true l G Y_X9_addApprentice [.ref 0, .int v, .int w] M (fun r M' => ∃ x : Int32, r = some (.int x) ∧ Q (some (.int x)) M') (fun E M' => (E = "java/lang/IndexOutOfBoundsException" ∧ Q (some (.int (-900000003))) M') ∨ (E = "java/lang/IllegalStateException" ∧ Q (some (.int (-900000002))) M'))) : TrH l G Y_L_pupil hh_pupil [.ref 0, .int v, .int w] M Q := by
  refine trh_of (L0 := [.ref 0, .int v, .int w, xx]) (by decide) (Nat.le_of_ble_eq_true rfl) rfl fun F => ?_
  have hw : Le (I_al 0 (I_il 1 (I_il 2 (I_cvX (Tr true l G Y_X9_addApprentice) 7 3 2 (fun E M' => (E = "java/lang/IndexOutOfBoundsException" ∧ Q (some (.int (-900000003))) M') ∨ (E = "java/lang/IllegalStateException" ∧ Q (some (.int (-900000002))) M')) (I_ir Q))))) (Wh l G F Y_L_pupil hh_pupil Q 0 0 0) := by
    refine h_aload_n (pc := 0) ?_ dL_pupil_0 rfl
    refine h_iload_n (pc := 1) ?_ dL_pupil_1 rfl
    refine h_iload_n (pc := 2) ?_ dL_pupil_2 rfl
    refine h_cvX (pc := 3) ?_ ?_ rfl dL_pupil_3 ok_X9_addApprentice rfl wd_3_141 ⟨Nat.le_of_ble_eq_true rfl, Nat.le_of_ble_eq_true rfl⟩ ⟨Nat.le_of_ble_eq_true rfl, Nat.le_of_ble_eq_true rfl⟩
    · exact h_ir dL_pupil_6 rfl (Nat.le_of_ble_eq_true rfl) (Nat.le_of_ble_eq_true rfl)
    · intro E M' h
      rcases h with ⟨rfl, hq⟩ | ⟨rfl, hq⟩
      · exact ⟨_, hd_pupil_0, hq⟩
      · exact ⟨_, hd_pupil_1, hq⟩
  refine hw _ _ _ ?_
  refine (show Tr true l G Y_X9_addApprentice [.ref 0, .int v, .int w] M _ _ → _ from fun t => ?_) h
  clear h hw
  have z8 : (List.map Value.category []).sum ≤ 8 := by decide
  refine ⟨k_F, z8, t.mono (fun r M' h => ?_) fun _ _ h => h⟩
  obtain ⟨x, rfl, hq⟩ := h
  exact hq
abbrev hh_frees : List (Nat × Nat × Nat × Nat) := [(0,6,7,28), (0,6,11,15), (0,6,15,18)]
abbrev Y_L_frees : YT := (yL_frees, cL_frees, 4, (some .int), 8, 147, 1, 6)
theorem hd_frees_0 : Hand Y_L_frees hh_frees 3 "java/lang/IndexOutOfBoundsException" (-900000003) :=
  ⟨[], ⟨0, 6, 7, 28⟩, [⟨0, 6, 11, 15⟩, ⟨0, 6, 15, 18⟩], 3, 1, 30, rfl, (fun z hz => by cases hz), by decide, by decide, wd_3_14, List.mem_cons_self .., (Or.inr ⟨rfl, 3, rfl, dL_frees_7⟩), (Nat.le_of_ble_eq_true rfl), dL_frees_8, wd_3_41, dL_frees_10⟩
theorem hd_frees_1 : Hand Y_L_frees hh_frees 3 "java/lang/IllegalArgumentException" (-900000001) :=
  ⟨[⟨0, 6, 7, 28⟩], ⟨0, 6, 11, 15⟩, [⟨0, 6, 15, 18⟩], 3, 1, 17, rfl, (fun z hz => by
      rcases List.mem_cons.mp hz with rfl | hz
      · exact ⟨by decide, _, wd_3_14, List.mem_cons_self ..⟩
      cases hz), by decide, by decide, wd_2_6, List.mem_cons_of_mem _ (List.mem_cons_self ..), (Or.inr ⟨rfl, 3, rfl, dL_frees_11⟩), (Nat.le_of_ble_eq_true rfl), dL_frees_12, wd_2_156, dL_frees_14⟩
theorem hd_frees_2 : Hand Y_L_frees hh_frees 3 "java/lang/IllegalStateException" (-900000002) :=
  ⟨[⟨0, 6, 7, 28⟩, ⟨0, 6, 11, 15⟩], ⟨0, 6, 15, 18⟩, [], 3, 1, 20, rfl, (fun z hz => by
      rcases List.mem_cons.mp hz with rfl | hz
      · exact ⟨by decide, _, wd_3_14, List.mem_cons_of_mem _ (List.mem_cons_self ..)⟩
      rcases List.mem_cons.mp hz with rfl | hz
      · exact ⟨by decide, _, wd_2_6, List.mem_cons_of_mem _ (List.mem_cons_of_mem _ (List.mem_cons_self ..))⟩
      cases hz), by decide, by decide, wd_2_7, List.mem_cons_of_mem _ (List.mem_cons_of_mem _ (List.mem_cons_self ..)), (Or.inr ⟨rfl, 3, rfl, dL_frees_15⟩), (Nat.le_of_ble_eq_true rfl), dL_frees_16, wd_2_157, dL_frees_18⟩
theorem hp_frees (h : Tr true l G Y_X9_release [.ref 0, .int v, .int w] M (fun r M' => ∃ x : Int32, r = some (.int x) ∧ Q (some (.int x)) M') (fun E M' => (E = "java/lang/IndexOutOfBoundsException" ∧ Q (some (.int (-900000003))) M') ∨ (E = "java/lang/IllegalArgumentException" ∧ Q (some (.int (-900000001))) M') ∨ (E = "java/lang/IllegalStateException" ∧ Q (some (.int (-900000002))) M'))) : TrH l G Y_L_frees hh_frees [.ref 0, .int v, .int w] M Q := by
  refine trh_of (L0 := [.ref 0, .int v, .int w, xx]) (by decide) (Nat.le_of_ble_eq_true rfl) rfl fun F => ?_
  have hw : Le (I_al 0 (I_il 1 (I_il 2 (I_cvX (Tr true l G Y_X9_release) 7 3 2 (fun E M' => (E = "java/lang/IndexOutOfBoundsException" ∧ Q (some (.int (-900000003))) M') ∨ (E = "java/lang/IllegalArgumentException" ∧ Q (some (.int (-900000001))) M') ∨ (E = "java/lang/IllegalStateException" ∧ Q (some (.int (-900000002))) M')) (I_ir Q))))) (Wh l G F Y_L_frees hh_frees Q 0 0 0) := by
    refine h_aload_n (pc := 0) ?_ dL_frees_0 rfl
    refine h_iload_n (pc := 1) ?_ dL_frees_1 rfl
    refine h_iload_n (pc := 2) ?_ dL_frees_2 rfl
    refine h_cvX (pc := 3) ?_ ?_ rfl dL_frees_3 ok_X9_release rfl wd_3_176 ⟨Nat.le_of_ble_eq_true rfl, Nat.le_of_ble_eq_true rfl⟩ ⟨Nat.le_of_ble_eq_true rfl, Nat.le_of_ble_eq_true rfl⟩
    · exact h_ir dL_frees_6 rfl (Nat.le_of_ble_eq_true rfl) (Nat.le_of_ble_eq_true rfl)
    · intro E M' h
      rcases h with ⟨rfl, hq⟩ | ⟨rfl, hq⟩ | ⟨rfl, hq⟩
      · exact ⟨_, hd_frees_0, hq⟩
      · exact ⟨_, hd_frees_1, hq⟩
      · exact ⟨_, hd_frees_2, hq⟩
  refine hw _ _ _ ?_
  refine (show Tr true l G Y_X9_release [.ref 0, .int v, .int w] M _ _ → _ from fun t => ?_) h
  clear h hw
  have z8 : (List.map Value.category []).sum ≤ 8 := by decide
  refine ⟨k_F, z8, t.mono (fun r M' h => ?_) fun _ _ h => h⟩
  obtain ⟨x, rfl, hq⟩ := h
  exact hq
abbrev hh_logs : List (Nat × Nat × Nat × Nat) := [(0,7,8,28), (0,7,13,15), (0,7,18,18)]
abbrev Y_L_logs : YT := (yL_logs, cL_logs, 5, (some .int), 8, 148, 1, 6)
theorem hd_logs_0 : Hand Y_L_logs hh_logs 4 "java/lang/IndexOutOfBoundsException" (-900000003) :=
  ⟨[], ⟨0, 7, 8, 28⟩, [⟨0, 7, 13, 15⟩, ⟨0, 7, 18, 18⟩], 4, 2, 30, rfl, (fun z hz => by cases hz), by decide, by decide, wd_3_14, List.mem_cons_self .., (Or.inl ⟨rfl, dL_logs_8⟩), (Nat.le_of_ble_eq_true rfl), dL_logs_10, wd_3_41, dL_logs_12⟩
theorem hd_logs_1 : Hand Y_L_logs hh_logs 4 "java/lang/IllegalArgumentException" (-900000001) :=
  ⟨[⟨0, 7, 8, 28⟩], ⟨0, 7, 13, 15⟩, [⟨0, 7, 18, 18⟩], 4, 2, 17, rfl, (fun z hz => by
      rcases List.mem_cons.mp hz with rfl | hz
      · exact ⟨by decide, _, wd_3_14, List.mem_cons_self ..⟩
      cases hz), by decide, by decide, wd_2_6, List.mem_cons_of_mem _ (List.mem_cons_self ..), (Or.inl ⟨rfl, dL_logs_13⟩), (Nat.le_of_ble_eq_true rfl), dL_logs_15, wd_2_156, dL_logs_17⟩
theorem hd_logs_2 : Hand Y_L_logs hh_logs 4 "java/lang/IllegalStateException" (-900000002) :=
  ⟨[⟨0, 7, 8, 28⟩, ⟨0, 7, 13, 15⟩], ⟨0, 7, 18, 18⟩, [], 4, 2, 20, rfl, (fun z hz => by
      rcases List.mem_cons.mp hz with rfl | hz
      · exact ⟨by decide, _, wd_3_14, List.mem_cons_of_mem _ (List.mem_cons_self ..)⟩
      rcases List.mem_cons.mp hz with rfl | hz
      · exact ⟨by decide, _, wd_2_6, List.mem_cons_of_mem _ (List.mem_cons_of_mem _ (List.mem_cons_self ..))⟩
      cases hz), by decide, by decide, wd_2_7, List.mem_cons_of_mem _ (List.mem_cons_of_mem _ (List.mem_cons_self ..)), (Or.inl ⟨rfl, dL_logs_18⟩), (Nat.le_of_ble_eq_true rfl), dL_logs_20, wd_2_157, dL_logs_22⟩
theorem hp_logs (h : Tr true l G Y_X9_log [.ref 0, .int v, .int w, .int u] M (fun r M' => ∃ x : Int32, r = some (.int x) ∧ Q (some (.int x)) M') (fun E M' => (E = "java/lang/IndexOutOfBoundsException" ∧ Q (some (.int (-900000003))) M') ∨ (E = "java/lang/IllegalArgumentException" ∧ Q (some (.int (-900000001))) M') ∨ (E = "java/lang/IllegalStateException" ∧ Q (some (.int (-900000002))) M'))) : TrH l G Y_L_logs hh_logs [.ref 0, .int v, .int w, .int u] M Q := by
  refine trh_of (L0 := [.ref 0, .int v, .int w, .int u, xx]) (by decide) (Nat.le_of_ble_eq_true rfl) rfl fun F => ?_
  have hw : Le (I_al 0 (I_il 1 (I_il 2 (I_il 3 (I_cvX (Tr true l G Y_X9_log) 7 3 3 (fun E M' => (E = "java/lang/IndexOutOfBoundsException" ∧ Q (some (.int (-900000003))) M') ∨ (E = "java/lang/IllegalArgumentException" ∧ Q (some (.int (-900000001))) M') ∨ (E = "java/lang/IllegalStateException" ∧ Q (some (.int (-900000002))) M')) (I_ir Q)))))) (Wh l G F Y_L_logs hh_logs Q 0 0 0) := by
    refine h_aload_n (pc := 0) ?_ dL_logs_0 rfl
    refine h_iload_n (pc := 1) ?_ dL_logs_1 rfl
    refine h_iload_n (pc := 2) ?_ dL_logs_2 rfl
    refine h_iload_n (pc := 3) ?_ dL_logs_3 rfl
    refine h_cvX (pc := 4) ?_ ?_ rfl dL_logs_4 ok_X9_log rfl wd_3_200 ⟨Nat.le_of_ble_eq_true rfl, Nat.le_of_ble_eq_true rfl⟩ ⟨Nat.le_of_ble_eq_true rfl, Nat.le_of_ble_eq_true rfl⟩
    · exact h_ir dL_logs_7 rfl (Nat.le_of_ble_eq_true rfl) (Nat.le_of_ble_eq_true rfl)
    · intro E M' h
      rcases h with ⟨rfl, hq⟩ | ⟨rfl, hq⟩ | ⟨rfl, hq⟩
      · exact ⟨_, hd_logs_0, hq⟩
      · exact ⟨_, hd_logs_1, hq⟩
      · exact ⟨_, hd_logs_2, hq⟩
  refine hw _ _ _ ?_
  refine (show Tr true l G Y_X9_log [.ref 0, .int v, .int w, .int u] M _ _ → _ from fun t => ?_) h
  clear h hw
  have z8 : (List.map Value.category []).sum ≤ 8 := by decide
  refine ⟨k_F, z8, t.mono (fun r M' h => ?_) fun _ _ h => h⟩
  obtain ⟨x, rfl, hq⟩ := h
  exact hq
abbrev hh_confirms : List (Nat × Nat × Nat × Nat) := [(0,6,7,28), (0,6,11,15), (0,6,15,18)]
abbrev Y_L_confirms : YT := (yL_confirms, cL_confirms, 4, (some .int), 8, 147, 1, 6)
theorem hd_confirms_0 : Hand Y_L_confirms hh_confirms 3 "java/lang/IndexOutOfBoundsException" (-900000003) :=
  ⟨[], ⟨0, 6, 7, 28⟩, [⟨0, 6, 11, 15⟩, ⟨0, 6, 15, 18⟩], 3, 1, 30, rfl, (fun z hz => by cases hz), by decide, by decide, wd_3_14, List.mem_cons_self .., (Or.inr ⟨rfl, 3, rfl, dL_confirms_7⟩), (Nat.le_of_ble_eq_true rfl), dL_confirms_8, wd_3_41, dL_confirms_10⟩
theorem hd_confirms_1 : Hand Y_L_confirms hh_confirms 3 "java/lang/IllegalArgumentException" (-900000001) :=
  ⟨[⟨0, 6, 7, 28⟩], ⟨0, 6, 11, 15⟩, [⟨0, 6, 15, 18⟩], 3, 1, 17, rfl, (fun z hz => by
      rcases List.mem_cons.mp hz with rfl | hz
      · exact ⟨by decide, _, wd_3_14, List.mem_cons_self ..⟩
      cases hz), by decide, by decide, wd_2_6, List.mem_cons_of_mem _ (List.mem_cons_self ..), (Or.inr ⟨rfl, 3, rfl, dL_confirms_11⟩), (Nat.le_of_ble_eq_true rfl), dL_confirms_12, wd_2_156, dL_confirms_14⟩
theorem hd_confirms_2 : Hand Y_L_confirms hh_confirms 3 "java/lang/IllegalStateException" (-900000002) :=
  ⟨[⟨0, 6, 7, 28⟩, ⟨0, 6, 11, 15⟩], ⟨0, 6, 15, 18⟩, [], 3, 1, 20, rfl, (fun z hz => by
      rcases List.mem_cons.mp hz with rfl | hz
      · exact ⟨by decide, _, wd_3_14, List.mem_cons_of_mem _ (List.mem_cons_self ..)⟩
      rcases List.mem_cons.mp hz with rfl | hz
      · exact ⟨by decide, _, wd_2_6, List.mem_cons_of_mem _ (List.mem_cons_of_mem _ (List.mem_cons_self ..))⟩
      cases hz), by decide, by decide, wd_2_7, List.mem_cons_of_mem _ (List.mem_cons_of_mem _ (List.mem_cons_self ..)), (Or.inr ⟨rfl, 3, rfl, dL_confirms_15⟩), (Nat.le_of_ble_eq_true rfl), dL_confirms_16, wd_2_157, dL_confirms_18⟩
theorem hp_confirms (h : Tr true l G Y_X9_confirm [.ref 0, .int v, .int w] M (fun r M' => ∃ x : Int32, r = some (.int x) ∧ Q (some (.int x)) M') (fun E M' => (E = "java/lang/IndexOutOfBoundsException" ∧ Q (some (.int (-900000003))) M') ∨ (E = "java/lang/IllegalArgumentException" ∧ Q (some (.int (-900000001))) M') ∨ (E = "java/lang/IllegalStateException" ∧ Q (some (.int (-900000002))) M'))) : TrH l G Y_L_confirms hh_confirms [.ref 0, .int v, .int w] M Q := by
  refine trh_of (L0 := [.ref 0, .int v, .int w, xx]) (by decide) (Nat.le_of_ble_eq_true rfl) rfl fun F => ?_
  have hw : Le (I_al 0 (I_il 1 (I_il 2 (I_cvX (Tr true l G Y_X9_confirm) 7 3 2 (fun E M' => (E = "java/lang/IndexOutOfBoundsException" ∧ Q (some (.int (-900000003))) M') ∨ (E = "java/lang/IllegalArgumentException" ∧ Q (some (.int (-900000001))) M') ∨ (E = "java/lang/IllegalStateException" ∧ Q (some (.int (-900000002))) M')) (I_ir Q))))) (Wh l G F Y_L_confirms hh_confirms Q 0 0 0) := by
    refine h_aload_n (pc := 0) ?_ dL_confirms_0 rfl
    refine h_iload_n (pc := 1) ?_ dL_confirms_1 rfl
    refine h_iload_n (pc := 2) ?_ dL_confirms_2 rfl
    refine h_cvX (pc := 3) ?_ ?_ rfl dL_confirms_3 ok_X9_confirm rfl wd_3_229 ⟨Nat.le_of_ble_eq_true rfl, Nat.le_of_ble_eq_true rfl⟩ ⟨Nat.le_of_ble_eq_true rfl, Nat.le_of_ble_eq_true rfl⟩
    · exact h_ir dL_confirms_6 rfl (Nat.le_of_ble_eq_true rfl) (Nat.le_of_ble_eq_true rfl)
    · intro E M' h
      rcases h with ⟨rfl, hq⟩ | ⟨rfl, hq⟩ | ⟨rfl, hq⟩
      · exact ⟨_, hd_confirms_0, hq⟩
      · exact ⟨_, hd_confirms_1, hq⟩
      · exact ⟨_, hd_confirms_2, hq⟩
  refine hw _ _ _ ?_
  refine (show Tr true l G Y_X9_confirm [.ref 0, .int v, .int w] M _ _ → _ from fun t => ?_) h
  clear h hw
  have z8 : (List.map Value.category []).sum ≤ 8 := by decide
  refine ⟨k_F, z8, t.mono (fun r M' h => ?_) fun _ _ h => h⟩
  obtain ⟨x, rfl, hq⟩ := h
  exact hq
abbrev hh_doubts : List (Nat × Nat × Nat × Nat) := [(0,5,6,28), (0,5,10,18)]
abbrev Y_L_doubts : YT := (yL_doubts, cL_doubts, 3, (some .int), 8, 146, 1, 6)
theorem hd_doubts_0 : Hand Y_L_doubts hh_doubts 2 "java/lang/IndexOutOfBoundsException" (-900000003) :=
  ⟨[], ⟨0, 5, 6, 28⟩, [⟨0, 5, 10, 18⟩], 2, 1, 30, rfl, (fun z hz => by cases hz), by decide, by decide, wd_3_14, List.mem_cons_self .., (Or.inr ⟨rfl, 2, rfl, dL_doubts_6⟩), (Nat.le_of_ble_eq_true rfl), dL_doubts_7, wd_3_41, dL_doubts_9⟩
theorem hd_doubts_1 : Hand Y_L_doubts hh_doubts 2 "java/lang/IllegalStateException" (-900000002) :=
  ⟨[⟨0, 5, 6, 28⟩], ⟨0, 5, 10, 18⟩, [], 2, 1, 20, rfl, (fun z hz => by
      rcases List.mem_cons.mp hz with rfl | hz
      · exact ⟨by decide, _, wd_3_14, List.mem_cons_of_mem _ (List.mem_cons_self ..)⟩
      cases hz), by decide, by decide, wd_2_7, List.mem_cons_of_mem _ (List.mem_cons_of_mem _ (List.mem_cons_self ..)), (Or.inr ⟨rfl, 2, rfl, dL_doubts_10⟩), (Nat.le_of_ble_eq_true rfl), dL_doubts_11, wd_2_157, dL_doubts_13⟩
theorem hp_doubts (h : Tr true l G Y_X9_doubt [.ref 0, .int v] M (fun r M' => ∃ x : Int32, r = some (.int x) ∧ Q (some (.int x)) M') (fun E M' => (E = "java/lang/IndexOutOfBoundsException" ∧ Q (some (.int (-900000003))) M') ∨ (E = "java/lang/IllegalStateException" ∧ Q (some (.int (-900000002))) M'))) : TrH l G Y_L_doubts hh_doubts [.ref 0, .int v] M Q := by
  refine trh_of (L0 := [.ref 0, .int v, xx]) (by decide) (Nat.le_of_ble_eq_true rfl) rfl fun F => ?_
  have hw : Le (I_al 0 (I_il 1 (I_cvX (Tr true l G Y_X9_doubt) 7 3 1 (fun E M' => (E = "java/lang/IndexOutOfBoundsException" ∧ Q (some (.int (-900000003))) M') ∨ (E = "java/lang/IllegalStateException" ∧ Q (some (.int (-900000002))) M')) (I_ir Q)))) (Wh l G F Y_L_doubts hh_doubts Q 0 0 0) := by
    refine h_aload_n (pc := 0) ?_ dL_doubts_0 rfl
    refine h_iload_n (pc := 1) ?_ dL_doubts_1 rfl
    refine h_cvX (pc := 2) ?_ ?_ rfl dL_doubts_2 ok_X9_doubt rfl wd_4_33 ⟨Nat.le_of_ble_eq_true rfl, Nat.le_of_ble_eq_true rfl⟩ ⟨Nat.le_of_ble_eq_true rfl, Nat.le_of_ble_eq_true rfl⟩
    · exact h_ir dL_doubts_5 rfl (Nat.le_of_ble_eq_true rfl) (Nat.le_of_ble_eq_true rfl)
    · intro E M' h
      rcases h with ⟨rfl, hq⟩ | ⟨rfl, hq⟩
      · exact ⟨_, hd_doubts_0, hq⟩
      · exact ⟨_, hd_doubts_1, hq⟩
  refine hw _ _ _ ?_
  refine (show Tr true l G Y_X9_doubt [.ref 0, .int v] M _ _ → _ from fun t => ?_) h
  clear h hw
  have z8 : (List.map Value.category []).sum ≤ 8 := by decide
  refine ⟨k_F, z8, t.mono (fun r M' h => ?_) fun _ _ h => h⟩
  obtain ⟨x, rfl, hq⟩ := h
  exact hq
abbrev hh_settles : List (Nat × Nat × Nat × Nat) := [(0,6,7,28), (0,6,11,18)]
abbrev Y_L_settles : YT := (yL_settles, cL_settles, 4, (some .int), 8, 147, 1, 6)
theorem hd_settles_0 : Hand Y_L_settles hh_settles 3 "java/lang/IndexOutOfBoundsException" (-900000003) :=
  ⟨[], ⟨0, 6, 7, 28⟩, [⟨0, 6, 11, 18⟩], 3, 1, 30, rfl, (fun z hz => by cases hz), by decide, by decide, wd_3_14, List.mem_cons_self .., (Or.inr ⟨rfl, 3, rfl, dL_settles_7⟩), (Nat.le_of_ble_eq_true rfl), dL_settles_8, wd_3_41, dL_settles_10⟩
theorem hd_settles_1 : Hand Y_L_settles hh_settles 3 "java/lang/IllegalStateException" (-900000002) :=
  ⟨[⟨0, 6, 7, 28⟩], ⟨0, 6, 11, 18⟩, [], 3, 1, 20, rfl, (fun z hz => by
      rcases List.mem_cons.mp hz with rfl | hz
      · exact ⟨by decide, _, wd_3_14, List.mem_cons_of_mem _ (List.mem_cons_self ..)⟩
      cases hz), by decide, by decide, wd_2_7, List.mem_cons_of_mem _ (List.mem_cons_of_mem _ (List.mem_cons_self ..)), (Or.inr ⟨rfl, 3, rfl, dL_settles_11⟩), (Nat.le_of_ble_eq_true rfl), dL_settles_12, wd_2_157, dL_settles_14⟩
theorem hp_settles (h : Tr true l G Y_X9_settle [.ref 0, .int v, .int w] M (fun r M' => ∃ x : Int32, r = some (.int x) ∧ Q (some (.int x)) M') (fun E M' => (E = "java/lang/IndexOutOfBoundsException" ∧ Q (some (.int (-900000003))) M') ∨ (E = "java/lang/IllegalStateException" ∧ Q (some (.int (-900000002))) M'))) : TrH l G Y_L_settles hh_settles [.ref 0, .int v, .int w] M Q := by
  refine trh_of (L0 := [.ref 0, .int v, .int w, xx]) (by decide) (Nat.le_of_ble_eq_true rfl) rfl fun F => ?_
  have hw : Le (I_al 0 (I_il 1 (I_il 2 (I_cvX (Tr true l G Y_X9_settle) 7 3 2 (fun E M' => (E = "java/lang/IndexOutOfBoundsException" ∧ Q (some (.int (-900000003))) M') ∨ (E = "java/lang/IllegalStateException" ∧ Q (some (.int (-900000002))) M')) (I_ir Q))))) (Wh l G F Y_L_settles hh_settles Q 0 0 0) := by
    refine h_aload_n (pc := 0) ?_ dL_settles_0 rfl
    refine h_iload_n (pc := 1) ?_ dL_settles_1 rfl
    refine h_iload_n (pc := 2) ?_ dL_settles_2 rfl
    refine h_cvX (pc := 3) ?_ ?_ rfl dL_settles_3 ok_X9_settle rfl wd_4_57 ⟨Nat.le_of_ble_eq_true rfl, Nat.le_of_ble_eq_true rfl⟩ ⟨Nat.le_of_ble_eq_true rfl, Nat.le_of_ble_eq_true rfl⟩
    · exact h_ir dL_settles_6 rfl (Nat.le_of_ble_eq_true rfl) (Nat.le_of_ble_eq_true rfl)
    · intro E M' h
      rcases h with ⟨rfl, hq⟩ | ⟨rfl, hq⟩
      · exact ⟨_, hd_settles_0, hq⟩
      · exact ⟨_, hd_settles_1, hq⟩
  refine hw _ _ _ ?_
  refine (show Tr true l G Y_X9_settle [.ref 0, .int v, .int w] M _ _ → _ from fun t => ?_) h
  clear h hw
  have z8 : (List.map Value.category []).sum ≤ 8 := by decide
  refine ⟨k_F, z8, t.mono (fun r M' h => ?_) fun _ _ h => h⟩
  obtain ⟨x, rfl, hq⟩ := h
  exact hq
abbrev hh_credits : List (Nat × Nat × Nat × Nat) := [(0,7,8,28), (0,7,13,15), (0,7,18,18)]
abbrev Y_L_credits : YT := (yL_credits, cL_credits, 5, (some .int), 8, 148, 1, 6)
theorem hd_credits_0 : Hand Y_L_credits hh_credits 4 "java/lang/IndexOutOfBoundsException" (-900000003) :=
  ⟨[], ⟨0, 7, 8, 28⟩, [⟨0, 7, 13, 15⟩, ⟨0, 7, 18, 18⟩], 4, 2, 30, rfl, (fun z hz => by cases hz), by decide, by decide, wd_3_14, List.mem_cons_self .., (Or.inl ⟨rfl, dL_credits_8⟩), (Nat.le_of_ble_eq_true rfl), dL_credits_10, wd_3_41, dL_credits_12⟩
theorem hd_credits_1 : Hand Y_L_credits hh_credits 4 "java/lang/IllegalArgumentException" (-900000001) :=
  ⟨[⟨0, 7, 8, 28⟩], ⟨0, 7, 13, 15⟩, [⟨0, 7, 18, 18⟩], 4, 2, 17, rfl, (fun z hz => by
      rcases List.mem_cons.mp hz with rfl | hz
      · exact ⟨by decide, _, wd_3_14, List.mem_cons_self ..⟩
      cases hz), by decide, by decide, wd_2_6, List.mem_cons_of_mem _ (List.mem_cons_self ..), (Or.inl ⟨rfl, dL_credits_13⟩), (Nat.le_of_ble_eq_true rfl), dL_credits_15, wd_2_156, dL_credits_17⟩
theorem hd_credits_2 : Hand Y_L_credits hh_credits 4 "java/lang/IllegalStateException" (-900000002) :=
  ⟨[⟨0, 7, 8, 28⟩, ⟨0, 7, 13, 15⟩], ⟨0, 7, 18, 18⟩, [], 4, 2, 20, rfl, (fun z hz => by
      rcases List.mem_cons.mp hz with rfl | hz
      · exact ⟨by decide, _, wd_3_14, List.mem_cons_of_mem _ (List.mem_cons_self ..)⟩
      rcases List.mem_cons.mp hz with rfl | hz
      · exact ⟨by decide, _, wd_2_6, List.mem_cons_of_mem _ (List.mem_cons_of_mem _ (List.mem_cons_self ..))⟩
      cases hz), by decide, by decide, wd_2_7, List.mem_cons_of_mem _ (List.mem_cons_of_mem _ (List.mem_cons_self ..)), (Or.inl ⟨rfl, dL_credits_18⟩), (Nat.le_of_ble_eq_true rfl), dL_credits_20, wd_2_157, dL_credits_22⟩
theorem hp_credits (h : Tr true l G Y_X9_credit [.ref 0, .int v, .int w, .int u] M (fun r M' => ∃ x : Int32, r = some (.int x) ∧ Q (some (.int x)) M') (fun E M' => (E = "java/lang/IndexOutOfBoundsException" ∧ Q (some (.int (-900000003))) M') ∨ (E = "java/lang/IllegalArgumentException" ∧ Q (some (.int (-900000001))) M') ∨ (E = "java/lang/IllegalStateException" ∧ Q (some (.int (-900000002))) M'))) : TrH l G Y_L_credits hh_credits [.ref 0, .int v, .int w, .int u] M Q := by
  refine trh_of (L0 := [.ref 0, .int v, .int w, .int u, xx]) (by decide) (Nat.le_of_ble_eq_true rfl) rfl fun F => ?_
  have hw : Le (I_al 0 (I_il 1 (I_il 2 (I_il 3 (I_cvX (Tr true l G Y_X9_credit) 7 3 3 (fun E M' => (E = "java/lang/IndexOutOfBoundsException" ∧ Q (some (.int (-900000003))) M') ∨ (E = "java/lang/IllegalArgumentException" ∧ Q (some (.int (-900000001))) M') ∨ (E = "java/lang/IllegalStateException" ∧ Q (some (.int (-900000002))) M')) (I_ir Q)))))) (Wh l G F Y_L_credits hh_credits Q 0 0 0) := by
    refine h_aload_n (pc := 0) ?_ dL_credits_0 rfl
    refine h_iload_n (pc := 1) ?_ dL_credits_1 rfl
    refine h_iload_n (pc := 2) ?_ dL_credits_2 rfl
    refine h_iload_n (pc := 3) ?_ dL_credits_3 rfl
    refine h_cvX (pc := 4) ?_ ?_ rfl dL_credits_4 ok_X9_credit rfl wd_4_79 ⟨Nat.le_of_ble_eq_true rfl, Nat.le_of_ble_eq_true rfl⟩ ⟨Nat.le_of_ble_eq_true rfl, Nat.le_of_ble_eq_true rfl⟩
    · exact h_ir dL_credits_7 rfl (Nat.le_of_ble_eq_true rfl) (Nat.le_of_ble_eq_true rfl)
    · intro E M' h
      rcases h with ⟨rfl, hq⟩ | ⟨rfl, hq⟩ | ⟨rfl, hq⟩
      · exact ⟨_, hd_credits_0, hq⟩
      · exact ⟨_, hd_credits_1, hq⟩
      · exact ⟨_, hd_credits_2, hq⟩
  refine hw _ _ _ ?_
  refine (show Tr true l G Y_X9_credit [.ref 0, .int v, .int w, .int u] M _ _ → _ from fun t => ?_) h
  clear h hw
  have z8 : (List.map Value.category []).sum ≤ 8 := by decide
  refine ⟨k_F, z8, t.mono (fun r M' h => ?_) fun _ _ h => h⟩
  obtain ⟨x, rfl, hq⟩ := h
  exact hq
abbrev hh_moves : List (Nat × Nat × Nat × Nat) := [(0,6,7,28), (0,6,11,18)]
abbrev Y_L_moves : YT := (yL_moves, cL_moves, 4, (some .int), 8, 150, 1, 6)
theorem hd_moves_0 : Hand Y_L_moves hh_moves 3 "java/lang/IndexOutOfBoundsException" (-900000003) :=
  ⟨[], ⟨0, 6, 7, 28⟩, [⟨0, 6, 11, 18⟩], 3, 1, 30, rfl, (fun z hz => by cases hz), by decide, by decide, wd_3_14, List.mem_cons_self .., (Or.inr ⟨rfl, 3, rfl, dL_moves_7⟩), (Nat.le_of_ble_eq_true rfl), dL_moves_8, wd_3_41, dL_moves_10⟩
theorem hd_moves_1 : Hand Y_L_moves hh_moves 3 "java/lang/IllegalStateException" (-900000002) :=
  ⟨[⟨0, 6, 7, 28⟩], ⟨0, 6, 11, 18⟩, [], 3, 1, 20, rfl, (fun z hz => by
      rcases List.mem_cons.mp hz with rfl | hz
      · exact ⟨by decide, _, wd_3_14, List.mem_cons_of_mem _ (List.mem_cons_self ..)⟩
      cases hz), by decide, by decide, wd_2_7, List.mem_cons_of_mem _ (List.mem_cons_of_mem _ (List.mem_cons_self ..)), (Or.inr ⟨rfl, 3, rfl, dL_moves_11⟩), (Nat.le_of_ble_eq_true rfl), dL_moves_12, wd_2_157, dL_moves_14⟩
theorem hp_moves (h : Tr true l G Y_X9_move [.ref 0, .int v, .int w] M (fun r M' => ∃ x : Int32, r = some (.int x) ∧ Q (some (.int x)) M') (fun E M' => (E = "java/lang/IndexOutOfBoundsException" ∧ Q (some (.int (-900000003))) M') ∨ (E = "java/lang/IllegalStateException" ∧ Q (some (.int (-900000002))) M'))) : TrH l G Y_L_moves hh_moves [.ref 0, .int v, .int w] M Q := by
  refine trh_of (L0 := [.ref 0, .int v, .int w, xx]) (by decide) (Nat.le_of_ble_eq_true rfl) rfl fun F => ?_
  have hw : Le (I_al 0 (I_il 1 (I_il 2 (I_cvX (Tr true l G Y_X9_move) 7 3 2 (fun E M' => (E = "java/lang/IndexOutOfBoundsException" ∧ Q (some (.int (-900000003))) M') ∨ (E = "java/lang/IllegalStateException" ∧ Q (some (.int (-900000002))) M')) (I_ir Q))))) (Wh l G F Y_L_moves hh_moves Q 0 0 0) := by
    refine h_aload_n (pc := 0) ?_ dL_moves_0 rfl
    refine h_iload_n (pc := 1) ?_ dL_moves_1 rfl
    refine h_iload_n (pc := 2) ?_ dL_moves_2 rfl
    refine h_cvX (pc := 3) ?_ ?_ rfl dL_moves_3 ok_X9_move rfl wd_4_98 ⟨Nat.le_of_ble_eq_true rfl, Nat.le_of_ble_eq_true rfl⟩ ⟨Nat.le_of_ble_eq_true rfl, Nat.le_of_ble_eq_true rfl⟩
    · exact h_ir dL_moves_6 rfl (Nat.le_of_ble_eq_true rfl) (Nat.le_of_ble_eq_true rfl)
    · intro E M' h
      rcases h with ⟨rfl, hq⟩ | ⟨rfl, hq⟩
      · exact ⟨_, hd_moves_0, hq⟩
      · exact ⟨_, hd_moves_1, hq⟩
  refine hw _ _ _ ?_
  refine (show Tr true l G Y_X9_move [.ref 0, .int v, .int w] M _ _ → _ from fun t => ?_) h
  clear h hw
  have z8 : (List.map Value.category []).sum ≤ 8 := by decide
  refine ⟨k_F, z8, t.mono (fun r M' h => ?_) fun _ _ h => h⟩
  obtain ⟨x, rfl, hq⟩ := h
  exact hq
abbrev hh_leaves : List (Nat × Nat × Nat × Nat) := [(0,5,6,28), (0,5,10,18)]
abbrev Y_L_leaves : YT := (yL_leaves, cL_leaves, 3, (some .int), 8, 146, 1, 6)
theorem hd_leaves_0 : Hand Y_L_leaves hh_leaves 2 "java/lang/IndexOutOfBoundsException" (-900000003) :=
  ⟨[], ⟨0, 5, 6, 28⟩, [⟨0, 5, 10, 18⟩], 2, 1, 30, rfl, (fun z hz => by cases hz), by decide, by decide, wd_3_14, List.mem_cons_self .., (Or.inr ⟨rfl, 2, rfl, dL_leaves_6⟩), (Nat.le_of_ble_eq_true rfl), dL_leaves_7, wd_3_41, dL_leaves_9⟩
theorem hd_leaves_1 : Hand Y_L_leaves hh_leaves 2 "java/lang/IllegalStateException" (-900000002) :=
  ⟨[⟨0, 5, 6, 28⟩], ⟨0, 5, 10, 18⟩, [], 2, 1, 20, rfl, (fun z hz => by
      rcases List.mem_cons.mp hz with rfl | hz
      · exact ⟨by decide, _, wd_3_14, List.mem_cons_of_mem _ (List.mem_cons_self ..)⟩
      cases hz), by decide, by decide, wd_2_7, List.mem_cons_of_mem _ (List.mem_cons_of_mem _ (List.mem_cons_self ..)), (Or.inr ⟨rfl, 2, rfl, dL_leaves_10⟩), (Nat.le_of_ble_eq_true rfl), dL_leaves_11, wd_2_157, dL_leaves_13⟩
theorem hp_leaves (h : Tr true l G Y_X9_leave [.ref 0, .int v] M (fun r M' => ∃ x : Int32, r = some (.int x) ∧ Q (some (.int x)) M') (fun E M' => (E = "java/lang/IndexOutOfBoundsException" ∧ Q (some (.int (-900000003))) M') ∨ (E = "java/lang/IllegalStateException" ∧ Q (some (.int (-900000002))) M'))) : TrH l G Y_L_leaves hh_leaves [.ref 0, .int v] M Q := by
  refine trh_of (L0 := [.ref 0, .int v, xx]) (by decide) (Nat.le_of_ble_eq_true rfl) rfl fun F => ?_
  have hw : Le (I_al 0 (I_il 1 (I_cvX (Tr true l G Y_X9_leave) 7 3 1 (fun E M' => (E = "java/lang/IndexOutOfBoundsException" ∧ Q (some (.int (-900000003))) M') ∨ (E = "java/lang/IllegalStateException" ∧ Q (some (.int (-900000002))) M')) (I_ir Q)))) (Wh l G F Y_L_leaves hh_leaves Q 0 0 0) := by
    refine h_aload_n (pc := 0) ?_ dL_leaves_0 rfl
    refine h_iload_n (pc := 1) ?_ dL_leaves_1 rfl
    refine h_cvX (pc := 2) ?_ ?_ rfl dL_leaves_2 ok_X9_leave rfl wd_4_127 ⟨Nat.le_of_ble_eq_true rfl, Nat.le_of_ble_eq_true rfl⟩ ⟨Nat.le_of_ble_eq_true rfl, Nat.le_of_ble_eq_true rfl⟩
    · exact h_ir dL_leaves_5 rfl (Nat.le_of_ble_eq_true rfl) (Nat.le_of_ble_eq_true rfl)
    · intro E M' h
      rcases h with ⟨rfl, hq⟩ | ⟨rfl, hq⟩
      · exact ⟨_, hd_leaves_0, hq⟩
      · exact ⟨_, hd_leaves_1, hq⟩
  refine hw _ _ _ ?_
  refine (show Tr true l G Y_X9_leave [.ref 0, .int v] M _ _ → _ from fun t => ?_) h
  clear h hw
  have z8 : (List.map Value.category []).sum ≤ 8 := by decide
  refine ⟨k_F, z8, t.mono (fun r M' h => ?_) fun _ _ h => h⟩
  obtain ⟨x, rfl, hq⟩ := h
  exact hq
abbrev hh_swaps : List (Nat × Nat × Nat × Nat) := [(0,6,7,28), (0,6,11,15), (0,6,15,18)]
abbrev Y_L_swaps : YT := (yL_swaps, cL_swaps, 4, (some .int), 8, 152, 1, 6)
theorem hd_swaps_0 : Hand Y_L_swaps hh_swaps 3 "java/lang/IndexOutOfBoundsException" (-900000003) :=
  ⟨[], ⟨0, 6, 7, 28⟩, [⟨0, 6, 11, 15⟩, ⟨0, 6, 15, 18⟩], 3, 1, 30, rfl, (fun z hz => by cases hz), by decide, by decide, wd_3_14, List.mem_cons_self .., (Or.inr ⟨rfl, 3, rfl, dL_swaps_7⟩), (Nat.le_of_ble_eq_true rfl), dL_swaps_8, wd_3_41, dL_swaps_10⟩
theorem hd_swaps_1 : Hand Y_L_swaps hh_swaps 3 "java/lang/IllegalArgumentException" (-900000001) :=
  ⟨[⟨0, 6, 7, 28⟩], ⟨0, 6, 11, 15⟩, [⟨0, 6, 15, 18⟩], 3, 1, 17, rfl, (fun z hz => by
      rcases List.mem_cons.mp hz with rfl | hz
      · exact ⟨by decide, _, wd_3_14, List.mem_cons_self ..⟩
      cases hz), by decide, by decide, wd_2_6, List.mem_cons_of_mem _ (List.mem_cons_self ..), (Or.inr ⟨rfl, 3, rfl, dL_swaps_11⟩), (Nat.le_of_ble_eq_true rfl), dL_swaps_12, wd_2_156, dL_swaps_14⟩
theorem hd_swaps_2 : Hand Y_L_swaps hh_swaps 3 "java/lang/IllegalStateException" (-900000002) :=
  ⟨[⟨0, 6, 7, 28⟩, ⟨0, 6, 11, 15⟩], ⟨0, 6, 15, 18⟩, [], 3, 1, 20, rfl, (fun z hz => by
      rcases List.mem_cons.mp hz with rfl | hz
      · exact ⟨by decide, _, wd_3_14, List.mem_cons_of_mem _ (List.mem_cons_self ..)⟩
      rcases List.mem_cons.mp hz with rfl | hz
      · exact ⟨by decide, _, wd_2_6, List.mem_cons_of_mem _ (List.mem_cons_of_mem _ (List.mem_cons_self ..))⟩
      cases hz), by decide, by decide, wd_2_7, List.mem_cons_of_mem _ (List.mem_cons_of_mem _ (List.mem_cons_self ..)), (Or.inr ⟨rfl, 3, rfl, dL_swaps_15⟩), (Nat.le_of_ble_eq_true rfl), dL_swaps_16, wd_2_157, dL_swaps_18⟩
theorem hp_swaps (h : Tr true l G Y_X9_exchange [.ref 0, .int v, .int w] M (fun r M' => ∃ x : Int32, r = some (.int x) ∧ Q (some (.int x)) M') (fun E M' => (E = "java/lang/IndexOutOfBoundsException" ∧ Q (some (.int (-900000003))) M') ∨ (E = "java/lang/IllegalArgumentException" ∧ Q (some (.int (-900000001))) M') ∨ (E = "java/lang/IllegalStateException" ∧ Q (some (.int (-900000002))) M'))) : TrH l G Y_L_swaps hh_swaps [.ref 0, .int v, .int w] M Q := by
  refine trh_of (L0 := [.ref 0, .int v, .int w, xx]) (by decide) (Nat.le_of_ble_eq_true rfl) rfl fun F => ?_
  have hw : Le (I_al 0 (I_il 1 (I_il 2 (I_cvX (Tr true l G Y_X9_exchange) 7 3 2 (fun E M' => (E = "java/lang/IndexOutOfBoundsException" ∧ Q (some (.int (-900000003))) M') ∨ (E = "java/lang/IllegalArgumentException" ∧ Q (some (.int (-900000001))) M') ∨ (E = "java/lang/IllegalStateException" ∧ Q (some (.int (-900000002))) M')) (I_ir Q))))) (Wh l G F Y_L_swaps hh_swaps Q 0 0 0) := by
    refine h_aload_n (pc := 0) ?_ dL_swaps_0 rfl
    refine h_iload_n (pc := 1) ?_ dL_swaps_1 rfl
    refine h_iload_n (pc := 2) ?_ dL_swaps_2 rfl
    refine h_cvX (pc := 3) ?_ ?_ rfl dL_swaps_3 ok_X9_exchange rfl wd_4_142 ⟨Nat.le_of_ble_eq_true rfl, Nat.le_of_ble_eq_true rfl⟩ ⟨Nat.le_of_ble_eq_true rfl, Nat.le_of_ble_eq_true rfl⟩
    · exact h_ir dL_swaps_6 rfl (Nat.le_of_ble_eq_true rfl) (Nat.le_of_ble_eq_true rfl)
    · intro E M' h
      rcases h with ⟨rfl, hq⟩ | ⟨rfl, hq⟩ | ⟨rfl, hq⟩
      · exact ⟨_, hd_swaps_0, hq⟩
      · exact ⟨_, hd_swaps_1, hq⟩
      · exact ⟨_, hd_swaps_2, hq⟩
  refine hw _ _ _ ?_
  refine (show Tr true l G Y_X9_exchange [.ref 0, .int v, .int w] M _ _ → _ from fun t => ?_) h
  clear h hw
  have z8 : (List.map Value.category []).sum ≤ 8 := by decide
  refine ⟨k_F, z8, t.mono (fun r M' h => ?_) fun _ _ h => h⟩
  obtain ⟨x, rfl, hq⟩ := h
  exact hq
abbrev hh_why : List (Nat × Nat × Nat × Nat) := [(0,6,7,28)]
abbrev Y_L_why : YT := (yL_why, cL_why, 4, (some .int), 8, 124, 1, 6)
theorem hd_why_0 : Hand Y_L_why hh_why 3 "java/lang/IndexOutOfBoundsException" (-900000003) :=
  ⟨[], ⟨0, 6, 7, 28⟩, [], 3, 1, 30, rfl, (fun z hz => by cases hz), by decide, by decide, wd_3_14, List.mem_cons_self .., (Or.inr ⟨rfl, 3, rfl, dL_why_7⟩), (Nat.le_of_ble_eq_true rfl), dL_why_8, wd_3_41, dL_why_10⟩
theorem hp_why (h : Tr true l G Y_X9_reason [.ref 0, .int v, .int w] M (fun r M' => ∃ x : Int32, r = some (.int x) ∧ Q (some (.int x)) M') (fun E M' => (E = "java/lang/IndexOutOfBoundsException" ∧ Q (some (.int (-900000003))) M'))) : TrH l G Y_L_why hh_why [.ref 0, .int v, .int w] M Q := by
  refine trh_of (L0 := [.ref 0, .int v, .int w, xx]) (by decide) (Nat.le_of_ble_eq_true rfl) rfl fun F => ?_
  have hw : Le (I_al 0 (I_il 1 (I_il 2 (I_cvX (Tr true l G Y_X9_reason) 7 3 2 (fun E M' => (E = "java/lang/IndexOutOfBoundsException" ∧ Q (some (.int (-900000003))) M')) (I_ir Q))))) (Wh l G F Y_L_why hh_why Q 0 0 0) := by
    refine h_aload_n (pc := 0) ?_ dL_why_0 rfl
    refine h_iload_n (pc := 1) ?_ dL_why_1 rfl
    refine h_iload_n (pc := 2) ?_ dL_why_2 rfl
    refine h_cvX (pc := 3) ?_ ?_ rfl dL_why_3 ok_X9_reason rfl wd_4_161 ⟨Nat.le_of_ble_eq_true rfl, Nat.le_of_ble_eq_true rfl⟩ ⟨Nat.le_of_ble_eq_true rfl, Nat.le_of_ble_eq_true rfl⟩
    · exact h_ir dL_why_6 rfl (Nat.le_of_ble_eq_true rfl) (Nat.le_of_ble_eq_true rfl)
    · intro E M' h
      obtain ⟨rfl, hq⟩ := h
      exact ⟨_, hd_why_0, hq⟩
  refine hw _ _ _ ?_
  refine (show Tr true l G Y_X9_reason [.ref 0, .int v, .int w] M _ _ → _ from fun t => ?_) h
  clear h hw
  have z8 : (List.map Value.category []).sum ≤ 8 := by decide
  refine ⟨k_F, z8, t.mono (fun r M' h => ?_) fun _ _ h => h⟩
  obtain ⟨x, rfl, hq⟩ := h
  exact hq
abbrev Y_L_why0 : YT := (yL_why, cL_why, 4, (some .int), 8, 124, 0, 0)
theorem hp_why0 (h : Tr true l G Y_Z9_reason [.ref 0, .int v, .int w] M (fun r M' => ∃ x : Int32, r = some (.int x) ∧ Q (some (.int x)) M') NX) : TrH l G Y_L_why0 hh_why [.ref 0, .int v, .int w] M Q := by
  refine trh_of (L0 := [.ref 0, .int v, .int w, xx]) (by decide) (Nat.le_of_ble_eq_true rfl) rfl fun F => ?_
  have hw : Le (I_al 0 (I_il 1 (I_il 2 (I_cvX (Tr true l G Y_Z9_reason) 7 3 2 NX (I_ir Q))))) (Wh l G F Y_L_why0 hh_why Q 0 0 0) := by
    refine h_aload_n (pc := 0) ?_ dL_why_0 rfl
    refine h_iload_n (pc := 1) ?_ dL_why_1 rfl
    refine h_iload_n (pc := 2) ?_ dL_why_2 rfl
    refine h_cvX (pc := 3) ?_ ?_ rfl dL_why_3 ok_Z9_reason rfl wd_4_161 ⟨Nat.le_of_ble_eq_true rfl, Nat.le_of_ble_eq_true rfl⟩ ⟨Nat.le_of_ble_eq_true rfl, Nat.le_of_ble_eq_true rfl⟩
    · exact h_ir dL_why_6 rfl (Nat.le_of_ble_eq_true rfl) (Nat.le_of_ble_eq_true rfl)
    · exact fun E M' h => h.elim
  refine hw _ _ _ ?_
  refine (show Tr true l G Y_Z9_reason [.ref 0, .int v, .int w] M _ _ → _ from fun t => ?_) h
  clear h hw
  have z8 : (List.map Value.category []).sum ≤ 8 := by decide
  refine ⟨k_F, z8, t.mono (fun r M' h => ?_) fun _ _ h => h⟩
  obtain ⟨x, rfl, hq⟩ := h
  exact hq
abbrev hh_best : List (Nat × Nat × Nat × Nat) := [(0,5,6,28)]
abbrev Y_L_best : YT := (yL_best, cL_best, 3, (some .int), 8, 131, 1, 6)
theorem hd_best_0 : Hand Y_L_best hh_best 2 "java/lang/IndexOutOfBoundsException" (-900000003) :=
  ⟨[], ⟨0, 5, 6, 28⟩, [], 2, 1, 30, rfl, (fun z hz => by cases hz), by decide, by decide, wd_3_14, List.mem_cons_self .., (Or.inr ⟨rfl, 2, rfl, dL_best_6⟩), (Nat.le_of_ble_eq_true rfl), dL_best_7, wd_3_41, dL_best_9⟩
theorem hp_best (h : Tr true l G Y_X9_bestMentor [.ref 0, .int v] M (fun r M' => ∃ x : Int32, r = some (.int x) ∧ Q (some (.int x)) M') (fun E M' => (E = "java/lang/IndexOutOfBoundsException" ∧ Q (some (.int (-900000003))) M'))) : TrH l G Y_L_best hh_best [.ref 0, .int v] M Q := by
  refine trh_of (L0 := [.ref 0, .int v, xx]) (by decide) (Nat.le_of_ble_eq_true rfl) rfl fun F => ?_
  have hw : Le (I_al 0 (I_il 1 (I_cvX (Tr true l G Y_X9_bestMentor) 7 3 1 (fun E M' => (E = "java/lang/IndexOutOfBoundsException" ∧ Q (some (.int (-900000003))) M')) (I_ir Q)))) (Wh l G F Y_L_best hh_best Q 0 0 0) := by
    refine h_aload_n (pc := 0) ?_ dL_best_0 rfl
    refine h_iload_n (pc := 1) ?_ dL_best_1 rfl
    refine h_cvX (pc := 2) ?_ ?_ rfl dL_best_2 ok_X9_bestMentor rfl wd_4_168 ⟨Nat.le_of_ble_eq_true rfl, Nat.le_of_ble_eq_true rfl⟩ ⟨Nat.le_of_ble_eq_true rfl, Nat.le_of_ble_eq_true rfl⟩
    · exact h_ir dL_best_5 rfl (Nat.le_of_ble_eq_true rfl) (Nat.le_of_ble_eq_true rfl)
    · intro E M' h
      obtain ⟨rfl, hq⟩ := h
      exact ⟨_, hd_best_0, hq⟩
  refine hw _ _ _ ?_
  refine (show Tr true l G Y_X9_bestMentor [.ref 0, .int v] M _ _ → _ from fun t => ?_) h
  clear h hw
  have z8 : (List.map Value.category []).sum ≤ 8 := by decide
  refine ⟨k_F, z8, t.mono (fun r M' h => ?_) fun _ _ h => h⟩
  obtain ⟨x, rfl, hq⟩ := h
  exact hq
abbrev Y_L_best0 : YT := (yL_best, cL_best, 3, (some .int), 8, 131, 0, 0)
theorem hp_best0 (h : Tr true l G Y_Z9_bestMentor [.ref 0, .int v] M (fun r M' => ∃ x : Int32, r = some (.int x) ∧ Q (some (.int x)) M') NX) : TrH l G Y_L_best0 hh_best [.ref 0, .int v] M Q := by
  refine trh_of (L0 := [.ref 0, .int v, xx]) (by decide) (Nat.le_of_ble_eq_true rfl) rfl fun F => ?_
  have hw : Le (I_al 0 (I_il 1 (I_cvX (Tr true l G Y_Z9_bestMentor) 7 3 1 NX (I_ir Q)))) (Wh l G F Y_L_best0 hh_best Q 0 0 0) := by
    refine h_aload_n (pc := 0) ?_ dL_best_0 rfl
    refine h_iload_n (pc := 1) ?_ dL_best_1 rfl
    refine h_cvX (pc := 2) ?_ ?_ rfl dL_best_2 ok_Z9_bestMentor rfl wd_4_168 ⟨Nat.le_of_ble_eq_true rfl, Nat.le_of_ble_eq_true rfl⟩ ⟨Nat.le_of_ble_eq_true rfl, Nat.le_of_ble_eq_true rfl⟩
    · exact h_ir dL_best_5 rfl (Nat.le_of_ble_eq_true rfl) (Nat.le_of_ble_eq_true rfl)
    · exact fun E M' h => h.elim
  refine hw _ _ _ ?_
  refine (show Tr true l G Y_Z9_bestMentor [.ref 0, .int v] M _ _ → _ from fun t => ?_) h
  clear h hw
  have z8 : (List.map Value.category []).sum ≤ 8 := by decide
  refine ⟨k_F, z8, t.mono (fun r M' h => ?_) fun _ _ h => h⟩
  obtain ⟨x, rfl, hq⟩ := h
  exact hq
abbrev hh_doubted : List (Nat × Nat × Nat × Nat) := [(0,6,7,28)]
abbrev Y_L_doubted : YT := (yL_doubted, cL_doubted, 4, (some .int), 8, 124, 1, 6)
theorem hd_doubted_0 : Hand Y_L_doubted hh_doubted 3 "java/lang/IndexOutOfBoundsException" (-900000003) :=
  ⟨[], ⟨0, 6, 7, 28⟩, [], 3, 1, 30, rfl, (fun z hz => by cases hz), by decide, by decide, wd_3_14, List.mem_cons_self .., (Or.inr ⟨rfl, 3, rfl, dL_doubted_7⟩), (Nat.le_of_ble_eq_true rfl), dL_doubted_8, wd_3_41, dL_doubted_10⟩
theorem hp_doubted (h : Tr true l G Y_X9_doubtsBy [.ref 0, .int v, .int w] M (fun r M' => ∃ x : Int32, r = some (.int x) ∧ Q (some (.int x)) M') (fun E M' => (E = "java/lang/IndexOutOfBoundsException" ∧ Q (some (.int (-900000003))) M'))) : TrH l G Y_L_doubted hh_doubted [.ref 0, .int v, .int w] M Q := by
  refine trh_of (L0 := [.ref 0, .int v, .int w, xx]) (by decide) (Nat.le_of_ble_eq_true rfl) rfl fun F => ?_
  have hw : Le (I_al 0 (I_il 1 (I_il 2 (I_cvX (Tr true l G Y_X9_doubtsBy) 7 3 2 (fun E M' => (E = "java/lang/IndexOutOfBoundsException" ∧ Q (some (.int (-900000003))) M')) (I_ir Q))))) (Wh l G F Y_L_doubted hh_doubted Q 0 0 0) := by
    refine h_aload_n (pc := 0) ?_ dL_doubted_0 rfl
    refine h_iload_n (pc := 1) ?_ dL_doubted_1 rfl
    refine h_iload_n (pc := 2) ?_ dL_doubted_2 rfl
    refine h_cvX (pc := 3) ?_ ?_ rfl dL_doubted_3 ok_X9_doubtsBy rfl wd_4_184 ⟨Nat.le_of_ble_eq_true rfl, Nat.le_of_ble_eq_true rfl⟩ ⟨Nat.le_of_ble_eq_true rfl, Nat.le_of_ble_eq_true rfl⟩
    · exact h_ir dL_doubted_6 rfl (Nat.le_of_ble_eq_true rfl) (Nat.le_of_ble_eq_true rfl)
    · intro E M' h
      obtain ⟨rfl, hq⟩ := h
      exact ⟨_, hd_doubted_0, hq⟩
  refine hw _ _ _ ?_
  refine (show Tr true l G Y_X9_doubtsBy [.ref 0, .int v, .int w] M _ _ → _ from fun t => ?_) h
  clear h hw
  have z8 : (List.map Value.category []).sum ≤ 8 := by decide
  refine ⟨k_F, z8, t.mono (fun r M' h => ?_) fun _ _ h => h⟩
  obtain ⟨x, rfl, hq⟩ := h
  exact hq
abbrev Y_L_doubted0 : YT := (yL_doubted, cL_doubted, 4, (some .int), 8, 124, 0, 0)
theorem hp_doubted0 (h : Tr true l G Y_Z9_doubtsBy [.ref 0, .int v, .int w] M (fun r M' => ∃ x : Int32, r = some (.int x) ∧ Q (some (.int x)) M') NX) : TrH l G Y_L_doubted0 hh_doubted [.ref 0, .int v, .int w] M Q := by
  refine trh_of (L0 := [.ref 0, .int v, .int w, xx]) (by decide) (Nat.le_of_ble_eq_true rfl) rfl fun F => ?_
  have hw : Le (I_al 0 (I_il 1 (I_il 2 (I_cvX (Tr true l G Y_Z9_doubtsBy) 7 3 2 NX (I_ir Q))))) (Wh l G F Y_L_doubted0 hh_doubted Q 0 0 0) := by
    refine h_aload_n (pc := 0) ?_ dL_doubted_0 rfl
    refine h_iload_n (pc := 1) ?_ dL_doubted_1 rfl
    refine h_iload_n (pc := 2) ?_ dL_doubted_2 rfl
    refine h_cvX (pc := 3) ?_ ?_ rfl dL_doubted_3 ok_Z9_doubtsBy rfl wd_4_184 ⟨Nat.le_of_ble_eq_true rfl, Nat.le_of_ble_eq_true rfl⟩ ⟨Nat.le_of_ble_eq_true rfl, Nat.le_of_ble_eq_true rfl⟩
    · exact h_ir dL_doubted_6 rfl (Nat.le_of_ble_eq_true rfl) (Nat.le_of_ble_eq_true rfl)
    · exact fun E M' h => h.elim
  refine hw _ _ _ ?_
  refine (show Tr true l G Y_Z9_doubtsBy [.ref 0, .int v, .int w] M _ _ → _ from fun t => ?_) h
  clear h hw
  have z8 : (List.map Value.category []).sum ≤ 8 := by decide
  refine ⟨k_F, z8, t.mono (fun r M' h => ?_) fun _ _ h => h⟩
  obtain ⟨x, rfl, hq⟩ := h
  exact hq
abbrev hh_types : List (Nat × Nat × Nat × Nat) := [(0,5,6,15), (0,5,10,18)]
abbrev Y_L_types : YT := (yL_types, cL_types, 3, (some .int), 8, 123, 2, 12)
theorem hd_types_0 : Hand Y_L_types hh_types 2 "java/lang/IllegalArgumentException" (-900000001) :=
  ⟨[], ⟨0, 5, 6, 15⟩, [⟨0, 5, 10, 18⟩], 2, 1, 17, rfl, (fun z hz => by cases hz), by decide, by decide, wd_2_6, List.mem_cons_of_mem _ (List.mem_cons_self ..), (Or.inr ⟨rfl, 2, rfl, dL_types_6⟩), (Nat.le_of_ble_eq_true rfl), dL_types_7, wd_2_156, dL_types_9⟩
theorem hd_types_1 : Hand Y_L_types hh_types 2 "java/lang/IllegalStateException" (-900000002) :=
  ⟨[⟨0, 5, 6, 15⟩], ⟨0, 5, 10, 18⟩, [], 2, 1, 20, rfl, (fun z hz => by
      rcases List.mem_cons.mp hz with rfl | hz
      · exact ⟨by decide, _, wd_2_6, List.mem_cons_of_mem _ (List.mem_cons_of_mem _ (List.mem_cons_self ..))⟩
      cases hz), by decide, by decide, wd_2_7, List.mem_cons_of_mem _ (List.mem_cons_of_mem _ (List.mem_cons_self ..)), (Or.inr ⟨rfl, 2, rfl, dL_types_10⟩), (Nat.le_of_ble_eq_true rfl), dL_types_11, wd_2_157, dL_types_13⟩
theorem hp_types (h : Tr true l G Y_X9_type [.ref 0, .int v] M (fun r M' => ∃ x : Int32, r = some (.int x) ∧ Q (some (.int x)) M') (fun E M' => (E = "java/lang/IllegalArgumentException" ∧ Q (some (.int (-900000001))) M') ∨ (E = "java/lang/IllegalStateException" ∧ Q (some (.int (-900000002))) M'))) : TrH l G Y_L_types hh_types [.ref 0, .int v] M Q := by
  refine trh_of (L0 := [.ref 0, .int v, xx]) (by decide) (Nat.le_of_ble_eq_true rfl) rfl fun F => ?_
  have hw : Le (I_al 0 (I_il 1 (I_cvX (Tr true l G Y_X9_type) 7 3 1 (fun E M' => (E = "java/lang/IllegalArgumentException" ∧ Q (some (.int (-900000001))) M') ∨ (E = "java/lang/IllegalStateException" ∧ Q (some (.int (-900000002))) M')) (I_ir Q)))) (Wh l G F Y_L_types hh_types Q 0 0 0) := by
    refine h_aload_n (pc := 0) ?_ dL_types_0 rfl
    refine h_iload_n (pc := 1) ?_ dL_types_1 rfl
    refine h_cvX (pc := 2) ?_ ?_ rfl dL_types_2 ok_X9_type rfl wd_4_200 ⟨Nat.le_of_ble_eq_true rfl, Nat.le_of_ble_eq_true rfl⟩ ⟨Nat.le_of_ble_eq_true rfl, Nat.le_of_ble_eq_true rfl⟩
    · exact h_ir dL_types_5 rfl (Nat.le_of_ble_eq_true rfl) (Nat.le_of_ble_eq_true rfl)
    · intro E M' h
      rcases h with ⟨rfl, hq⟩ | ⟨rfl, hq⟩
      · exact ⟨_, hd_types_0, hq⟩
      · exact ⟨_, hd_types_1, hq⟩
  refine hw _ _ _ ?_
  refine (show Tr true l G Y_X9_type [.ref 0, .int v] M _ _ → _ from fun t => ?_) h
  clear h hw
  have z8 : (List.map Value.category []).sum ≤ 8 := by decide
  refine ⟨k_F, z8, t.mono (fun r M' h => ?_) fun _ _ h => h⟩
  obtain ⟨x, rfl, hq⟩ := h
  exact hq
abbrev hh_full : List (Nat × Nat × Nat × Nat) := [(0,6,7,28), (0,6,11,15)]
abbrev Y_L_full : YT := (yL_full, cL_full, 4, (some .int), 8, 124, 2, 12)
theorem hd_full_0 : Hand Y_L_full hh_full 3 "java/lang/IndexOutOfBoundsException" (-900000003) :=
  ⟨[], ⟨0, 6, 7, 28⟩, [⟨0, 6, 11, 15⟩], 3, 1, 30, rfl, (fun z hz => by cases hz), by decide, by decide, wd_3_14, List.mem_cons_self .., (Or.inr ⟨rfl, 3, rfl, dL_full_7⟩), (Nat.le_of_ble_eq_true rfl), dL_full_8, wd_3_41, dL_full_10⟩
theorem hd_full_1 : Hand Y_L_full hh_full 3 "java/lang/IllegalArgumentException" (-900000001) :=
  ⟨[⟨0, 6, 7, 28⟩], ⟨0, 6, 11, 15⟩, [], 3, 1, 17, rfl, (fun z hz => by
      rcases List.mem_cons.mp hz with rfl | hz
      · exact ⟨by decide, _, wd_3_14, List.mem_cons_self ..⟩
      cases hz), by decide, by decide, wd_2_6, List.mem_cons_of_mem _ (List.mem_cons_self ..), (Or.inr ⟨rfl, 3, rfl, dL_full_11⟩), (Nat.le_of_ble_eq_true rfl), dL_full_12, wd_2_156, dL_full_14⟩
theorem hp_full (h : Tr true l G Y_X9_completeOn [.ref 0, .int v, .int w] M (fun r M' => ∃ x : Int32, r = some (.int x) ∧ Q (some (.int x)) M') (fun E M' => (E = "java/lang/IndexOutOfBoundsException" ∧ Q (some (.int (-900000003))) M') ∨ (E = "java/lang/IllegalArgumentException" ∧ Q (some (.int (-900000001))) M'))) : TrH l G Y_L_full hh_full [.ref 0, .int v, .int w] M Q := by
  refine trh_of (L0 := [.ref 0, .int v, .int w, xx]) (by decide) (Nat.le_of_ble_eq_true rfl) rfl fun F => ?_
  have hw : Le (I_al 0 (I_il 1 (I_il 2 (I_cvX (Tr true l G Y_X9_completeOn) 7 3 2 (fun E M' => (E = "java/lang/IndexOutOfBoundsException" ∧ Q (some (.int (-900000003))) M') ∨ (E = "java/lang/IllegalArgumentException" ∧ Q (some (.int (-900000001))) M')) (I_ir Q))))) (Wh l G F Y_L_full hh_full Q 0 0 0) := by
    refine h_aload_n (pc := 0) ?_ dL_full_0 rfl
    refine h_iload_n (pc := 1) ?_ dL_full_1 rfl
    refine h_iload_n (pc := 2) ?_ dL_full_2 rfl
    refine h_cvX (pc := 3) ?_ ?_ rfl dL_full_3 ok_X9_completeOn rfl wd_4_220 ⟨Nat.le_of_ble_eq_true rfl, Nat.le_of_ble_eq_true rfl⟩ ⟨Nat.le_of_ble_eq_true rfl, Nat.le_of_ble_eq_true rfl⟩
    · exact h_ir dL_full_6 rfl (Nat.le_of_ble_eq_true rfl) (Nat.le_of_ble_eq_true rfl)
    · intro E M' h
      rcases h with ⟨rfl, hq⟩ | ⟨rfl, hq⟩
      · exact ⟨_, hd_full_0, hq⟩
      · exact ⟨_, hd_full_1, hq⟩
  refine hw _ _ _ ?_
  refine (show Tr true l G Y_X9_completeOn [.ref 0, .int v, .int w] M _ _ → _ from fun t => ?_) h
  clear h hw
  have z8 : (List.map Value.category []).sum ≤ 8 := by decide
  refine ⟨k_F, z8, t.mono (fun r M' h => ?_) fun _ _ h => h⟩
  obtain ⟨x, rfl, hq⟩ := h
  exact hq
abbrev Y_L_full0 : YT := (yL_full, cL_full, 4, (some .int), 8, 124, 0, 0)
theorem hp_full0 (h : Tr true l G Y_Z9_completeOn [.ref 0, .int v, .int w] M (fun r M' => ∃ x : Int32, r = some (.int x) ∧ Q (some (.int x)) M') NX) : TrH l G Y_L_full0 hh_full [.ref 0, .int v, .int w] M Q := by
  refine trh_of (L0 := [.ref 0, .int v, .int w, xx]) (by decide) (Nat.le_of_ble_eq_true rfl) rfl fun F => ?_
  have hw : Le (I_al 0 (I_il 1 (I_il 2 (I_cvX (Tr true l G Y_Z9_completeOn) 7 3 2 NX (I_ir Q))))) (Wh l G F Y_L_full0 hh_full Q 0 0 0) := by
    refine h_aload_n (pc := 0) ?_ dL_full_0 rfl
    refine h_iload_n (pc := 1) ?_ dL_full_1 rfl
    refine h_iload_n (pc := 2) ?_ dL_full_2 rfl
    refine h_cvX (pc := 3) ?_ ?_ rfl dL_full_3 ok_Z9_completeOn rfl wd_4_220 ⟨Nat.le_of_ble_eq_true rfl, Nat.le_of_ble_eq_true rfl⟩ ⟨Nat.le_of_ble_eq_true rfl, Nat.le_of_ble_eq_true rfl⟩
    · exact h_ir dL_full_6 rfl (Nat.le_of_ble_eq_true rfl) (Nat.le_of_ble_eq_true rfl)
    · exact fun E M' h => h.elim
  refine hw _ _ _ ?_
  refine (show Tr true l G Y_Z9_completeOn [.ref 0, .int v, .int w] M _ _ → _ from fun t => ?_) h
  clear h hw
  have z8 : (List.map Value.category []).sum ≤ 8 := by decide
  refine ⟨k_F, z8, t.mono (fun r M' h => ?_) fun _ _ h => h⟩
  obtain ⟨x, rfl, hq⟩ := h
  exact hq
end LAB
