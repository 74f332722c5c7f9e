/-! ===== the questions once more, where nothing is thrown: they make nothing ===== -/
abbrev Y_Z9_refuse : YT := (yX9_refuse, cX9_refuse, 1, none, 6, 82, 0, 0)
theorem ok_Z9_refuse : okS Y_Z9_refuse 1 := ⟨⟨wd_2_21, wd_1_1, by decide, by decide, by decide +kernel⟩, wd_2_20⟩
abbrev Y_Z9_reason : YT := (yX9_reason, cX9_reason, 3, (some .int), 7, 102, 0, 0)
theorem ok_Z9_reason : okV Y_Z9_reason 2 := ⟨⟨wd_4_164, wd_1_1, by decide, by decide, by decide +kernel⟩, wd_4_162, wd_4_163⟩
def R_Z9_reason_0 (l : Launch) (G : GT) (F : FX) (Q : PQ) (QX : PX) : KT := (I_al 0 (I_il 1 (I_il 2 (I_cv (Tr true l G Y_X9_faultOfPair) 7 3 2 QX (I_cs (Tr true l G Y_Z9_refuse) 1 QX (I_al 0 (I_gp 7 3 1 (I_il 1 (I_il 2 (I_cv (Tr true l G Y_X7_obstacle) 5 9 2 QX (I_ir Q)))))))))))
set_option maxRecDepth 100000 in
theorem g_Z9_reason_0 {l : Launch} {G : GT} {F : FX} {Q : PQ} {QX : PX} : Le (R_Z9_reason_0 l G F Q QX) (Wj true l G F Y_Z9_reason Q QX 0 0 0) := by
  unfold R_Z9_reason_0
  refine r_aload_n (pc := 0) ?_ dX9_reason_0 rfl
  refine r_iload_n (pc := 1) ?_ dX9_reason_1 rfl
  refine r_iload_n (pc := 2) ?_ dX9_reason_2 rfl
  refine r_cv0 (pc := 3) ?_ dX9_reason_3 cl_X9 ok_X9_faultOfPair rfl wd_4_106 ⟨Nat.le_of_ble_eq_true rfl, Nat.le_of_ble_eq_true rfl⟩ ⟨Nat.le_of_ble_eq_true rfl, Nat.le_of_ble_eq_true rfl⟩ rfl rfl
  refine r_cs0 (pc := 6) ?_ dX9_reason_6 ok_Z9_refuse wd_2_19 ⟨Nat.le_of_ble_eq_true rfl, Nat.le_of_ble_eq_true rfl⟩ ⟨Nat.le_of_ble_eq_true rfl, Nat.le_of_ble_eq_true rfl⟩ rfl rfl
  refine r_aload_n (pc := 9) ?_ dX9_reason_9 rfl
  refine r_gp (pc := 10) (kf := 0) ?_ dX9_reason_10 cl_X9 (Nat.le_of_ble_eq_true rfl) rfl wd_1_225 pv_X9_0
  refine r_iload_n (pc := 13) ?_ dX9_reason_13 rfl
  refine r_iload_n (pc := 14) ?_ dX9_reason_14 rfl
  refine r_cv0 (pc := 15) ?_ dX9_reason_15 cl_X7 ok_X7_obstacle rfl wd_4_110 ⟨Nat.le_of_ble_eq_true rfl, Nat.le_of_ble_eq_true rfl⟩ ⟨Nat.le_of_ble_eq_true rfl, Nat.le_of_ble_eq_true rfl⟩ rfl rfl
  exact r_ir dX9_reason_18 rfl (Nat.le_of_ble_eq_true rfl) (Nat.le_of_ble_eq_true rfl)
abbrev Y_Z9_mentor : YT := (yX9_mentor, cX9_mentor, 3, (some .int), 7, 102, 0, 0)
theorem ok_Z9_mentor : okV Y_Z9_mentor 2 := ⟨⟨wd_3_18, wd_1_1, by decide, by decide, by decide +kernel⟩, wd_3_16, wd_3_17⟩
def R_Z9_mentor_0 (l : Launch) (G : GT) (F : FX) (Q : PQ) (QX : PX) : KT := (I_al 0 (I_gp 7 3 1 (I_il 1 (I_cv (Tr true l G Y_X7_hasMentor) 5 9 1 QX (I_ifeq (I_ic 1 (Wj true l G F Y_Z9_mentor Q QX 0 0 16)) (I_ic 0 (Wj true l G F Y_Z9_mentor Q QX 0 0 16)))))))
set_option maxRecDepth 100000 in
theorem g_Z9_mentor_0 {l : Launch} {G : GT} {F : FX} {Q : PQ} {QX : PX} : Le (R_Z9_mentor_0 l G F Q QX) (Wj true l G F Y_Z9_mentor Q QX 0 0 0) := by
  unfold R_Z9_mentor_0
  refine r_aload_n (pc := 0) ?_ dX9_mentor_0 rfl
  refine r_gp (pc := 1) (kf := 0) ?_ dX9_mentor_1 cl_X9 (Nat.le_of_ble_eq_true rfl) rfl wd_1_225 pv_X9_0
  refine r_iload_n (pc := 4) ?_ dX9_mentor_4 rfl
  refine r_cv0 (pc := 5) ?_ dX9_mentor_5 cl_X7 ok_X7_hasMentor rfl wd_3_19 ⟨Nat.le_of_ble_eq_true rfl, Nat.le_of_ble_eq_true rfl⟩ ⟨Nat.le_of_ble_eq_true rfl, Nat.le_of_ble_eq_true rfl⟩ rfl rfl
  refine r_ifeq (pc := 8) (t := 15) ?_ ?_ dX9_mentor_8 (by decide)
  · refine r_iconst (pc := 15) ?_ dX9_mentor_15 (by decide)
    exact Le.rf
  · refine r_iconst (pc := 11) ?_ dX9_mentor_11 (by decide)
    refine r_goto (pc := 12) (t := 16) ?_ dX9_mentor_12 (by decide)
    exact Le.rf
def R_Z9_mentor_16 (l : Launch) (G : GT) (F : FX) (Q : PQ) (QX : PX) : KT := (I_cs (Tr true l G Y_Z9_refuse) 1 QX (I_il 2 (I_ic 0 (I_ic 4 (I_cs (Tr true l G Y_X9_isWithin) 3 QX (I_ifeq (I_ic 2 (I_cs (Tr true l G Y_Z9_refuse) 1 QX (I_al 0 (I_gp 7 3 1 (I_il 1 (I_il 2 (I_cv (Tr true l G Y_X7_mentorValue) 5 9 2 QX (I_ir Q)))))))) (I_ic 0 (I_cs (Tr true l G Y_Z9_refuse) 1 QX (I_al 0 (I_gp 7 3 1 (I_il 1 (I_il 2 (I_cv (Tr true l G Y_X7_mentorValue) 5 9 2 QX (I_ir Q))))))))))))))
set_option maxRecDepth 100000 in
theorem g_Z9_mentor_16 {l : Launch} {G : GT} {F : FX} {Q : PQ} {QX : PX} : Le (R_Z9_mentor_16 l G F Q QX) (Wj true l G F Y_Z9_mentor Q QX 0 0 16) := by
  unfold R_Z9_mentor_16
  refine r_cs0 (pc := 16) ?_ dX9_mentor_16 ok_Z9_refuse wd_2_19 ⟨Nat.le_of_ble_eq_true rfl, Nat.le_of_ble_eq_true rfl⟩ ⟨Nat.le_of_ble_eq_true rfl, Nat.le_of_ble_eq_true rfl⟩ rfl rfl
  refine r_iload_n (pc := 19) ?_ dX9_mentor_19 rfl
  refine r_iconst (pc := 20) ?_ dX9_mentor_20 (by decide)
  refine r_iconst (pc := 21) ?_ dX9_mentor_21 (by decide)
  refine r_cs0 (pc := 22) ?_ dX9_mentor_22 ok_X9_isWithin wd_2_16 ⟨Nat.le_of_ble_eq_true rfl, Nat.le_of_ble_eq_true rfl⟩ ⟨Nat.le_of_ble_eq_true rfl, Nat.le_of_ble_eq_true rfl⟩ rfl rfl
  refine r_ifeq (pc := 25) (t := 32) ?_ ?_ dX9_mentor_25 (by decide)
  · refine r_iconst (pc := 32) ?_ dX9_mentor_32 (by decide)
    refine r_cs0 (pc := 33) ?_ dX9_mentor_33 ok_Z9_refuse wd_2_19 ⟨Nat.le_of_ble_eq_true rfl, Nat.le_of_ble_eq_true rfl⟩ ⟨Nat.le_of_ble_eq_true rfl, Nat.le_of_ble_eq_true rfl⟩ rfl rfl
    refine r_aload_n (pc := 36) ?_ dX9_mentor_36 rfl
    refine r_gp (pc := 37) (kf := 0) ?_ dX9_mentor_37 cl_X9 (Nat.le_of_ble_eq_true rfl) rfl wd_1_225 pv_X9_0
    refine r_iload_n (pc := 40) ?_ dX9_mentor_40 rfl
    refine r_iload_n (pc := 41) ?_ dX9_mentor_41 rfl
    refine r_cv0 (pc := 42) ?_ dX9_mentor_42 cl_X7 ok_X7_mentorValue rfl wd_3_23 ⟨Nat.le_of_ble_eq_true rfl, Nat.le_of_ble_eq_true rfl⟩ ⟨Nat.le_of_ble_eq_true rfl, Nat.le_of_ble_eq_true rfl⟩ rfl rfl
    exact r_ir dX9_mentor_45 rfl (Nat.le_of_ble_eq_true rfl) (Nat.le_of_ble_eq_true rfl)
  · refine r_iconst (pc := 28) ?_ dX9_mentor_28 (by decide)
    refine r_goto (pc := 29) (t := 33) ?_ dX9_mentor_29 (by decide)
    refine r_cs0 (pc := 33) ?_ dX9_mentor_33 ok_Z9_refuse wd_2_19 ⟨Nat.le_of_ble_eq_true rfl, Nat.le_of_ble_eq_true rfl⟩ ⟨Nat.le_of_ble_eq_true rfl, Nat.le_of_ble_eq_true rfl⟩ rfl rfl
    refine r_aload_n (pc := 36) ?_ dX9_mentor_36 rfl
    refine r_gp (pc := 37) (kf := 0) ?_ dX9_mentor_37 cl_X9 (Nat.le_of_ble_eq_true rfl) rfl wd_1_225 pv_X9_0
    refine r_iload_n (pc := 40) ?_ dX9_mentor_40 rfl
    refine r_iload_n (pc := 41) ?_ dX9_mentor_41 rfl
    refine r_cv0 (pc := 42) ?_ dX9_mentor_42 cl_X7 ok_X7_mentorValue rfl wd_3_23 ⟨Nat.le_of_ble_eq_true rfl, Nat.le_of_ble_eq_true rfl⟩ ⟨Nat.le_of_ble_eq_true rfl, Nat.le_of_ble_eq_true rfl⟩ rfl rfl
    exact r_ir dX9_mentor_45 rfl (Nat.le_of_ble_eq_true rfl) (Nat.le_of_ble_eq_true rfl)
abbrev Y_Z9_apprentice : YT := (yX9_apprentice, cX9_apprentice, 3, (some .int), 7, 102, 0, 0)
theorem ok_Z9_apprentice : okV Y_Z9_apprentice 2 := ⟨⟨wd_3_48, wd_1_1, by decide, by decide, by decide +kernel⟩, wd_3_46, wd_3_47⟩
def R_Z9_apprentice_0 (l : Launch) (G : GT) (F : FX) (Q : PQ) (QX : PX) : KT := (I_al 0 (I_gp 7 3 1 (I_il 1 (I_cv (Tr true l G Y_X7_hasApprentice) 5 9 1 QX (I_ifeq (I_ic 1 (Wj true l G F Y_Z9_apprentice Q QX 0 0 16)) (I_ic 0 (Wj true l G F Y_Z9_apprentice Q QX 0 0 16)))))))
set_option maxRecDepth 100000 in
theorem g_Z9_apprentice_0 {l : Launch} {G : GT} {F : FX} {Q : PQ} {QX : PX} : Le (R_Z9_apprentice_0 l G F Q QX) (Wj true l G F Y_Z9_apprentice Q QX 0 0 0) := by
  unfold R_Z9_apprentice_0
  refine r_aload_n (pc := 0) ?_ dX9_apprentice_0 rfl
  refine r_gp (pc := 1) (kf := 0) ?_ dX9_apprentice_1 cl_X9 (Nat.le_of_ble_eq_true rfl) rfl wd_1_225 pv_X9_0
  refine r_iload_n (pc := 4) ?_ dX9_apprentice_4 rfl
  refine r_cv0 (pc := 5) ?_ dX9_apprentice_5 cl_X7 ok_X7_hasApprentice rfl wd_3_49 ⟨Nat.le_of_ble_eq_true rfl, Nat.le_of_ble_eq_true rfl⟩ ⟨Nat.le_of_ble_eq_true rfl, Nat.le_of_ble_eq_true rfl⟩ rfl rfl
  refine r_ifeq (pc := 8) (t := 15) ?_ ?_ dX9_apprentice_8 (by decide)
  · refine r_iconst (pc := 15) ?_ dX9_apprentice_15 (by decide)
    exact Le.rf
  · refine r_iconst (pc := 11) ?_ dX9_apprentice_11 (by decide)
    refine r_goto (pc := 12) (t := 16) ?_ dX9_apprentice_12 (by decide)
    exact Le.rf
def R_Z9_apprentice_16 (l : Launch) (G : GT) (F : FX) (Q : PQ) (QX : PX) : KT := (I_cs (Tr true l G Y_Z9_refuse) 1 QX (I_il 2 (I_ic 0 (I_ic 11 (I_cs (Tr true l G Y_X9_isWithin) 3 QX (I_ifeq (I_ic 2 (I_cs (Tr true l G Y_Z9_refuse) 1 QX (I_al 0 (I_gp 7 3 1 (I_il 1 (I_il 2 (I_cv (Tr true l G Y_X7_apprenticeValue) 5 9 2 QX (I_ir Q)))))))) (I_ic 0 (I_cs (Tr true l G Y_Z9_refuse) 1 QX (I_al 0 (I_gp 7 3 1 (I_il 1 (I_il 2 (I_cv (Tr true l G Y_X7_apprenticeValue) 5 9 2 QX (I_ir Q))))))))))))))
set_option maxRecDepth 100000 in
theorem g_Z9_apprentice_16 {l : Launch} {G : GT} {F : FX} {Q : PQ} {QX : PX} : Le (R_Z9_apprentice_16 l G F Q QX) (Wj true l G F Y_Z9_apprentice Q QX 0 0 16) := by
  unfold R_Z9_apprentice_16
  refine r_cs0 (pc := 16) ?_ dX9_apprentice_16 ok_Z9_refuse wd_2_19 ⟨Nat.le_of_ble_eq_true rfl, Nat.le_of_ble_eq_true rfl⟩ ⟨Nat.le_of_ble_eq_true rfl, Nat.le_of_ble_eq_true rfl⟩ rfl rfl
  refine r_iload_n (pc := 19) ?_ dX9_apprentice_19 rfl
  refine r_iconst (pc := 20) ?_ dX9_apprentice_20 (by decide)
  refine r_bipush (pc := 21) ?_ dX9_apprentice_21 (by decide)
  refine r_cs0 (pc := 23) ?_ dX9_apprentice_23 ok_X9_isWithin wd_2_16 ⟨Nat.le_of_ble_eq_true rfl, Nat.le_of_ble_eq_true rfl⟩ ⟨Nat.le_of_ble_eq_true rfl, Nat.le_of_ble_eq_true rfl⟩ rfl rfl
  refine r_ifeq (pc := 26) (t := 33) ?_ ?_ dX9_apprentice_26 (by decide)
  · refine r_iconst (pc := 33) ?_ dX9_apprentice_33 (by decide)
    refine r_cs0 (pc := 34) ?_ dX9_apprentice_34 ok_Z9_refuse wd_2_19 ⟨Nat.le_of_ble_eq_true rfl, Nat.le_of_ble_eq_true rfl⟩ ⟨Nat.le_of_ble_eq_true rfl, Nat.le_of_ble_eq_true rfl⟩ rfl rfl
    refine r_aload_n (pc := 37) ?_ dX9_apprentice_37 rfl
    refine r_gp (pc := 38) (kf := 0) ?_ dX9_apprentice_38 cl_X9 (Nat.le_of_ble_eq_true rfl) rfl wd_1_225 pv_X9_0
    refine r_iload_n (pc := 41) ?_ dX9_apprentice_41 rfl
    refine r_iload_n (pc := 42) ?_ dX9_apprentice_42 rfl
    refine r_cv0 (pc := 43) ?_ dX9_apprentice_43 cl_X7 ok_X7_apprenticeValue rfl wd_3_53 ⟨Nat.le_of_ble_eq_true rfl, Nat.le_of_ble_eq_true rfl⟩ ⟨Nat.le_of_ble_eq_true rfl, Nat.le_of_ble_eq_true rfl⟩ rfl rfl
    exact r_ir dX9_apprentice_46 rfl (Nat.le_of_ble_eq_true rfl) (Nat.le_of_ble_eq_true rfl)
  · refine r_iconst (pc := 29) ?_ dX9_apprentice_29 (by decide)
    refine r_goto (pc := 30) (t := 34) ?_ dX9_apprentice_30 (by decide)
    refine r_cs0 (pc := 34) ?_ dX9_apprentice_34 ok_Z9_refuse wd_2_19 ⟨Nat.le_of_ble_eq_true rfl, Nat.le_of_ble_eq_true rfl⟩ ⟨Nat.le_of_ble_eq_true rfl, Nat.le_of_ble_eq_true rfl⟩ rfl rfl
    refine r_aload_n (pc := 37) ?_ dX9_apprentice_37 rfl
    refine r_gp (pc := 38) (kf := 0) ?_ dX9_apprentice_38 cl_X9 (Nat.le_of_ble_eq_true rfl) rfl wd_1_225 pv_X9_0
    refine r_iload_n (pc := 41) ?_ dX9_apprentice_41 rfl
    refine r_iload_n (pc := 42) ?_ dX9_apprentice_42 rfl
    refine r_cv0 (pc := 43) ?_ dX9_apprentice_43 cl_X7 ok_X7_apprenticeValue rfl wd_3_53 ⟨Nat.le_of_ble_eq_true rfl, Nat.le_of_ble_eq_true rfl⟩ ⟨Nat.le_of_ble_eq_true rfl, Nat.le_of_ble_eq_true rfl⟩ rfl rfl
    exact r_ir dX9_apprentice_46 rfl (Nat.le_of_ble_eq_true rfl) (Nat.le_of_ble_eq_true rfl)
abbrev Y_Z9_part : YT := (yX9_part, cX9_part, 4, (some .int), 7, 102, 0, 0)
theorem ok_Z9_part : okV Y_Z9_part 3 := ⟨⟨wd_3_72, wd_1_1, by decide, by decide, by decide +kernel⟩, wd_3_70, wd_3_71⟩
def R_Z9_part_0 (l : Launch) (G : GT) (F : FX) (Q : PQ) (QX : PX) : KT := (I_al 0 (I_gp 7 3 1 (I_il 1 (I_cv (Tr true l G Y_X7_hasApprentice) 5 9 1 QX (I_ifeq (I_ic 1 (Wj true l G F Y_Z9_part Q QX 0 0 16)) (I_ic 0 (Wj true l G F Y_Z9_part Q QX 0 0 16)))))))
set_option maxRecDepth 100000 in
theorem g_Z9_part_0 {l : Launch} {G : GT} {F : FX} {Q : PQ} {QX : PX} : Le (R_Z9_part_0 l G F Q QX) (Wj true l G F Y_Z9_part Q QX 0 0 0) := by
  unfold R_Z9_part_0
  refine r_aload_n (pc := 0) ?_ dX9_part_0 rfl
  refine r_gp (pc := 1) (kf := 0) ?_ dX9_part_1 cl_X9 (Nat.le_of_ble_eq_true rfl) rfl wd_1_225 pv_X9_0
  refine r_iload_n (pc := 4) ?_ dX9_part_4 rfl
  refine r_cv0 (pc := 5) ?_ dX9_part_5 cl_X7 ok_X7_hasApprentice rfl wd_3_49 ⟨Nat.le_of_ble_eq_true rfl, Nat.le_of_ble_eq_true rfl⟩ ⟨Nat.le_of_ble_eq_true rfl, Nat.le_of_ble_eq_true rfl⟩ rfl rfl
  refine r_ifeq (pc := 8) (t := 15) ?_ ?_ dX9_part_8 (by decide)
  · refine r_iconst (pc := 15) ?_ dX9_part_15 (by decide)
    exact Le.rf
  · refine r_iconst (pc := 11) ?_ dX9_part_11 (by decide)
    refine r_goto (pc := 12) (t := 16) ?_ dX9_part_12 (by decide)
    exact Le.rf
def R_Z9_part_16 (l : Launch) (G : GT) (F : FX) (Q : PQ) (QX : PX) : KT := (I_cs (Tr true l G Y_Z9_refuse) 1 QX (I_il 2 (I_cs (Tr true l G Y_X9_isPart) 1 QX (I_ifeq (I_ic 2 (I_cs (Tr true l G Y_Z9_refuse) 1 QX (I_al 0 (I_gp 7 3 1 (I_il 1 (I_il 2 (I_il 3 (I_cv (Tr true l G Y_X7_partValue) 5 9 3 QX (I_ir Q))))))))) (I_il 3 (I_ic 0 (I_ic 4 (I_cs (Tr true l G Y_X9_isWithin) 3 QX (I_ifeq (I_ic 2 (I_cs (Tr true l G Y_Z9_refuse) 1 QX (I_al 0 (I_gp 7 3 1 (I_il 1 (I_il 2 (I_il 3 (I_cv (Tr true l G Y_X7_partValue) 5 9 3 QX (I_ir Q))))))))) (I_ic 0 (I_cs (Tr true l G Y_Z9_refuse) 1 QX (I_al 0 (I_gp 7 3 1 (I_il 1 (I_il 2 (I_il 3 (I_cv (Tr true l G Y_X7_partValue) 5 9 3 QX (I_ir Q))))))))))))))))))
set_option maxRecDepth 100000 in
theorem g_Z9_part_16 {l : Launch} {G : GT} {F : FX} {Q : PQ} {QX : PX} : Le (R_Z9_part_16 l G F Q QX) (Wj true l G F Y_Z9_part Q QX 0 0 16) := by
  unfold R_Z9_part_16
  refine r_cs0 (pc := 16) ?_ dX9_part_16 ok_Z9_refuse wd_2_19 ⟨Nat.le_of_ble_eq_true rfl, Nat.le_of_ble_eq_true rfl⟩ ⟨Nat.le_of_ble_eq_true rfl, Nat.le_of_ble_eq_true rfl⟩ rfl rfl
  refine r_iload_n (pc := 19) ?_ dX9_part_19 rfl
  refine r_cs0 (pc := 20) ?_ dX9_part_20 ok_X9_isPart wd_3_73 ⟨Nat.le_of_ble_eq_true rfl, Nat.le_of_ble_eq_true rfl⟩ ⟨Nat.le_of_ble_eq_true rfl, Nat.le_of_ble_eq_true rfl⟩ rfl rfl
  refine r_ifeq (pc := 23) (t := 39) ?_ ?_ dX9_part_23 (by decide)
  · refine r_iconst (pc := 39) ?_ dX9_part_39 (by decide)
    refine r_cs0 (pc := 40) ?_ dX9_part_40 ok_Z9_refuse wd_2_19 ⟨Nat.le_of_ble_eq_true rfl, Nat.le_of_ble_eq_true rfl⟩ ⟨Nat.le_of_ble_eq_true rfl, Nat.le_of_ble_eq_true rfl⟩ rfl rfl
    refine r_aload_n (pc := 43) ?_ dX9_part_43 rfl
    refine r_gp (pc := 44) (kf := 0) ?_ dX9_part_44 cl_X9 (Nat.le_of_ble_eq_true rfl) rfl wd_1_225 pv_X9_0
    refine r_iload_n (pc := 47) ?_ dX9_part_47 rfl
    refine r_iload_n (pc := 48) ?_ dX9_part_48 rfl
    refine r_iload_n (pc := 49) ?_ dX9_part_49 rfl
    refine r_cv0 (pc := 50) ?_ dX9_part_50 cl_X7 ok_X7_partValue rfl wd_3_76 ⟨Nat.le_of_ble_eq_true rfl, Nat.le_of_ble_eq_true rfl⟩ ⟨Nat.le_of_ble_eq_true rfl, Nat.le_of_ble_eq_true rfl⟩ rfl rfl
    exact r_ir dX9_part_53 rfl (Nat.le_of_ble_eq_true rfl) (Nat.le_of_ble_eq_true rfl)
  · refine r_iload_n (pc := 26) ?_ dX9_part_26 rfl
    refine r_iconst (pc := 27) ?_ dX9_part_27 (by decide)
    refine r_iconst (pc := 28) ?_ dX9_part_28 (by decide)
    refine r_cs0 (pc := 29) ?_ dX9_part_29 ok_X9_isWithin wd_2_16 ⟨Nat.le_of_ble_eq_true rfl, Nat.le_of_ble_eq_true rfl⟩ ⟨Nat.le_of_ble_eq_true rfl, Nat.le_of_ble_eq_true rfl⟩ rfl rfl
    refine r_ifeq (pc := 32) (t := 39) ?_ ?_ dX9_part_32 (by decide)
    · refine r_iconst (pc := 39) ?_ dX9_part_39 (by decide)
      refine r_cs0 (pc := 40) ?_ dX9_part_40 ok_Z9_refuse wd_2_19 ⟨Nat.le_of_ble_eq_true rfl, Nat.le_of_ble_eq_true rfl⟩ ⟨Nat.le_of_ble_eq_true rfl, Nat.le_of_ble_eq_true rfl⟩ rfl rfl
      refine r_aload_n (pc := 43) ?_ dX9_part_43 rfl
      refine r_gp (pc := 44) (kf := 0) ?_ dX9_part_44 cl_X9 (Nat.le_of_ble_eq_true rfl) rfl wd_1_225 pv_X9_0
      refine r_iload_n (pc := 47) ?_ dX9_part_47 rfl
      refine r_iload_n (pc := 48) ?_ dX9_part_48 rfl
      refine r_iload_n (pc := 49) ?_ dX9_part_49 rfl
      refine r_cv0 (pc := 50) ?_ dX9_part_50 cl_X7 ok_X7_partValue rfl wd_3_76 ⟨Nat.le_of_ble_eq_true rfl, Nat.le_of_ble_eq_true rfl⟩ ⟨Nat.le_of_ble_eq_true rfl, Nat.le_of_ble_eq_true rfl⟩ rfl rfl
      exact r_ir dX9_part_53 rfl (Nat.le_of_ble_eq_true rfl) (Nat.le_of_ble_eq_true rfl)
    · refine r_iconst (pc := 35) ?_ dX9_part_35 (by decide)
      refine r_goto (pc := 36) (t := 40) ?_ dX9_part_36 (by decide)
      refine r_cs0 (pc := 40) ?_ dX9_part_40 ok_Z9_refuse wd_2_19 ⟨Nat.le_of_ble_eq_true rfl, Nat.le_of_ble_eq_true rfl⟩ ⟨Nat.le_of_ble_eq_true rfl, Nat.le_of_ble_eq_true rfl⟩ rfl rfl
      refine r_aload_n (pc := 43) ?_ dX9_part_43 rfl
      refine r_gp (pc := 44) (kf := 0) ?_ dX9_part_44 cl_X9 (Nat.le_of_ble_eq_true rfl) rfl wd_1_225 pv_X9_0
      refine r_iload_n (pc := 47) ?_ dX9_part_47 rfl
      refine r_iload_n (pc := 48) ?_ dX9_part_48 rfl
      refine r_iload_n (pc := 49) ?_ dX9_part_49 rfl
      refine r_cv0 (pc := 50) ?_ dX9_part_50 cl_X7 ok_X7_partValue rfl wd_3_76 ⟨Nat.le_of_ble_eq_true rfl, Nat.le_of_ble_eq_true rfl⟩ ⟨Nat.le_of_ble_eq_true rfl, Nat.le_of_ble_eq_true rfl⟩ rfl rfl
      exact r_ir dX9_part_53 rfl (Nat.le_of_ble_eq_true rfl) (Nat.le_of_ble_eq_true rfl)
abbrev Y_Z9_entry : YT := (yX9_entry, cX9_entry, 5, (some .int), 7, 102, 0, 0)
theorem ok_Z9_entry : okV Y_Z9_entry 4 := ⟨⟨wd_3_90, wd_1_1, by decide, by decide, by decide +kernel⟩, wd_3_88, wd_3_89⟩
def R_Z9_entry_0 (l : Launch) (G : GT) (F : FX) (Q : PQ) (QX : PX) : KT := (I_al 0 (I_gp 7 3 1 (I_il 1 (I_cv (Tr true l G Y_X7_hasApprentice) 5 9 1 QX (I_ifeq (I_ic 1 (Wj true l G F Y_Z9_entry Q QX 0 0 16)) (I_ic 0 (Wj true l G F Y_Z9_entry Q QX 0 0 16)))))))
set_option maxRecDepth 100000 in
theorem g_Z9_entry_0 {l : Launch} {G : GT} {F : FX} {Q : PQ} {QX : PX} : Le (R_Z9_entry_0 l G F Q QX) (Wj true l G F Y_Z9_entry Q QX 0 0 0) := by
  unfold R_Z9_entry_0
  refine r_aload_n (pc := 0) ?_ dX9_entry_0 rfl
  refine r_gp (pc := 1) (kf := 0) ?_ dX9_entry_1 cl_X9 (Nat.le_of_ble_eq_true rfl) rfl wd_1_225 pv_X9_0
  refine r_iload_n (pc := 4) ?_ dX9_entry_4 rfl
  refine r_cv0 (pc := 5) ?_ dX9_entry_5 cl_X7 ok_X7_hasApprentice rfl wd_3_49 ⟨Nat.le_of_ble_eq_true rfl, Nat.le_of_ble_eq_true rfl⟩ ⟨Nat.le_of_ble_eq_true rfl, Nat.le_of_ble_eq_true rfl⟩ rfl rfl
  refine r_ifeq (pc := 8) (t := 15) ?_ ?_ dX9_entry_8 (by decide)
  · refine r_iconst (pc := 15) ?_ dX9_entry_15 (by decide)
    exact Le.rf
  · refine r_iconst (pc := 11) ?_ dX9_entry_11 (by decide)
    refine r_goto (pc := 12) (t := 16) ?_ dX9_entry_12 (by decide)
    exact Le.rf
def R_Z9_entry_16 (l : Launch) (G : GT) (F : FX) (Q : PQ) (QX : PX) : KT := (I_cs (Tr true l G Y_Z9_refuse) 1 QX (I_il 3 (I_iflt (I_ic 2 (I_cs (Tr true l G Y_Z9_refuse) 1 QX (I_al 0 (I_gp 7 3 1 (I_il 1 (I_il 2 (I_il 3 (I_il 4 (I_cv (Tr true l G Y_X7_entryValue) 5 9 4 QX (I_ir Q)))))))))) (I_il 4 (I_ic 0 (I_ic 3 (I_cs (Tr true l G Y_X9_isWithin) 3 QX (I_ifeq (I_ic 2 (I_cs (Tr true l G Y_Z9_refuse) 1 QX (I_al 0 (I_gp 7 3 1 (I_il 1 (I_il 2 (I_il 3 (I_il 4 (I_cv (Tr true l G Y_X7_entryValue) 5 9 4 QX (I_ir Q)))))))))) (I_ic 0 (I_cs (Tr true l G Y_Z9_refuse) 1 QX (I_al 0 (I_gp 7 3 1 (I_il 1 (I_il 2 (I_il 3 (I_il 4 (I_cv (Tr true l G Y_X7_entryValue) 5 9 4 QX (I_ir Q))))))))))))))))))
set_option maxRecDepth 100000 in
theorem g_Z9_entry_16 {l : Launch} {G : GT} {F : FX} {Q : PQ} {QX : PX} : Le (R_Z9_entry_16 l G F Q QX) (Wj true l G F Y_Z9_entry Q QX 0 0 16) := by
  unfold R_Z9_entry_16
  refine r_cs0 (pc := 16) ?_ dX9_entry_16 ok_Z9_refuse wd_2_19 ⟨Nat.le_of_ble_eq_true rfl, Nat.le_of_ble_eq_true rfl⟩ ⟨Nat.le_of_ble_eq_true rfl, Nat.le_of_ble_eq_true rfl⟩ rfl rfl
  refine r_iload_n (pc := 19) ?_ dX9_entry_19 rfl
  refine r_iflt (pc := 20) (t := 37) ?_ ?_ dX9_entry_20 (by decide)
  · refine r_iconst (pc := 37) ?_ dX9_entry_37 (by decide)
    refine r_cs0 (pc := 38) ?_ dX9_entry_38 ok_Z9_refuse wd_2_19 ⟨Nat.le_of_ble_eq_true rfl, Nat.le_of_ble_eq_true rfl⟩ ⟨Nat.le_of_ble_eq_true rfl, Nat.le_of_ble_eq_true rfl⟩ rfl rfl
    refine r_aload_n (pc := 41) ?_ dX9_entry_41 rfl
    refine r_gp (pc := 42) (kf := 0) ?_ dX9_entry_42 cl_X9 (Nat.le_of_ble_eq_true rfl) rfl wd_1_225 pv_X9_0
    refine r_iload_n (pc := 45) ?_ dX9_entry_45 rfl
    refine r_iload_n (pc := 46) ?_ dX9_entry_46 rfl
    refine r_iload_n (pc := 47) ?_ dX9_entry_47 rfl
    refine r_iload (pc := 48) ?_ dX9_entry_48
    refine r_cv0 (pc := 50) ?_ dX9_entry_50 cl_X7 ok_X7_entryValue rfl wd_3_91 ⟨Nat.le_of_ble_eq_true rfl, Nat.le_of_ble_eq_true rfl⟩ ⟨Nat.le_of_ble_eq_true rfl, Nat.le_of_ble_eq_true rfl⟩ rfl rfl
    exact r_ir dX9_entry_53 rfl (Nat.le_of_ble_eq_true rfl) (Nat.le_of_ble_eq_true rfl)
  · refine r_iload (pc := 23) ?_ dX9_entry_23
    refine r_iconst (pc := 25) ?_ dX9_entry_25 (by decide)
    refine r_iconst (pc := 26) ?_ dX9_entry_26 (by decide)
    refine r_cs0 (pc := 27) ?_ dX9_entry_27 ok_X9_isWithin wd_2_16 ⟨Nat.le_of_ble_eq_true rfl, Nat.le_of_ble_eq_true rfl⟩ ⟨Nat.le_of_ble_eq_true rfl, Nat.le_of_ble_eq_true rfl⟩ rfl rfl
    refine r_ifeq (pc := 30) (t := 37) ?_ ?_ dX9_entry_30 (by decide)
    · refine r_iconst (pc := 37) ?_ dX9_entry_37 (by decide)
      refine r_cs0 (pc := 38) ?_ dX9_entry_38 ok_Z9_refuse wd_2_19 ⟨Nat.le_of_ble_eq_true rfl, Nat.le_of_ble_eq_true rfl⟩ ⟨Nat.le_of_ble_eq_true rfl, Nat.le_of_ble_eq_true rfl⟩ rfl rfl
      refine r_aload_n (pc := 41) ?_ dX9_entry_41 rfl
      refine r_gp (pc := 42) (kf := 0) ?_ dX9_entry_42 cl_X9 (Nat.le_of_ble_eq_true rfl) rfl wd_1_225 pv_X9_0
      refine r_iload_n (pc := 45) ?_ dX9_entry_45 rfl
      refine r_iload_n (pc := 46) ?_ dX9_entry_46 rfl
      refine r_iload_n (pc := 47) ?_ dX9_entry_47 rfl
      refine r_iload (pc := 48) ?_ dX9_entry_48
      refine r_cv0 (pc := 50) ?_ dX9_entry_50 cl_X7 ok_X7_entryValue rfl wd_3_91 ⟨Nat.le_of_ble_eq_true rfl, Nat.le_of_ble_eq_true rfl⟩ ⟨Nat.le_of_ble_eq_true rfl, Nat.le_of_ble_eq_true rfl⟩ rfl rfl
      exact r_ir dX9_entry_53 rfl (Nat.le_of_ble_eq_true rfl) (Nat.le_of_ble_eq_true rfl)
    · refine r_iconst (pc := 33) ?_ dX9_entry_33 (by decide)
      refine r_goto (pc := 34) (t := 38) ?_ dX9_entry_34 (by decide)
      refine r_cs0 (pc := 38) ?_ dX9_entry_38 ok_Z9_refuse wd_2_19 ⟨Nat.le_of_ble_eq_true rfl, Nat.le_of_ble_eq_true rfl⟩ ⟨Nat.le_of_ble_eq_true rfl, Nat.le_of_ble_eq_true rfl⟩ rfl rfl
      refine r_aload_n (pc := 41) ?_ dX9_entry_41 rfl
      refine r_gp (pc := 42) (kf := 0) ?_ dX9_entry_42 cl_X9 (Nat.le_of_ble_eq_true rfl) rfl wd_1_225 pv_X9_0
      refine r_iload_n (pc := 45) ?_ dX9_entry_45 rfl
      refine r_iload_n (pc := 46) ?_ dX9_entry_46 rfl
      refine r_iload_n (pc := 47) ?_ dX9_entry_47 rfl
      refine r_iload (pc := 48) ?_ dX9_entry_48
      refine r_cv0 (pc := 50) ?_ dX9_entry_50 cl_X7 ok_X7_entryValue rfl wd_3_91 ⟨Nat.le_of_ble_eq_true rfl, Nat.le_of_ble_eq_true rfl⟩ ⟨Nat.le_of_ble_eq_true rfl, Nat.le_of_ble_eq_true rfl⟩ rfl rfl
      exact r_ir dX9_entry_53 rfl (Nat.le_of_ble_eq_true rfl) (Nat.le_of_ble_eq_true rfl)
abbrev Y_Z9_whole : YT := (yX9_whole, cX9_whole, 2, (some .int), 7, 133, 0, 0)
theorem ok_Z9_whole : okV Y_Z9_whole 1 := ⟨⟨wd_2_215, wd_1_1, by decide, by decide, by decide +kernel⟩, wd_2_213, wd_2_214⟩
def R_Z9_whole_0 (l : Launch) (G : GT) (F : FX) (Q : PQ) (QX : PX) : KT := (I_il 1 (I_ic 0 (I_ic 9 (I_cs (Tr true l G Y_X9_isWithin) 3 QX (I_ifeq (I_ic 2 (I_cs (Tr true l G Y_Z9_refuse) 1 QX (I_al 0 (I_il 1 (I_cv (Tr true l G Y_X9_valueOfWhole) 7 3 1 QX (I_ir Q)))))) (I_ic 0 (I_cs (Tr true l G Y_Z9_refuse) 1 QX (I_al 0 (I_il 1 (I_cv (Tr true l G Y_X9_valueOfWhole) 7 3 1 QX (I_ir Q)))))))))))
set_option maxRecDepth 100000 in
theorem g_Z9_whole_0 {l : Launch} {G : GT} {F : FX} {Q : PQ} {QX : PX} : Le (R_Z9_whole_0 l G F Q QX) (Wj true l G F Y_Z9_whole Q QX 0 0 0) := by
  unfold R_Z9_whole_0
  refine r_iload_n (pc := 0) ?_ dX9_whole_0 rfl
  refine r_iconst (pc := 1) ?_ dX9_whole_1 (by decide)
  refine r_bipush (pc := 2) ?_ dX9_whole_2 (by decide)
  refine r_cs0 (pc := 4) ?_ dX9_whole_4 ok_X9_isWithin wd_2_16 ⟨Nat.le_of_ble_eq_true rfl, Nat.le_of_ble_eq_true rfl⟩ ⟨Nat.le_of_ble_eq_true rfl, Nat.le_of_ble_eq_true rfl⟩ rfl rfl
  refine r_ifeq (pc := 7) (t := 14) ?_ ?_ dX9_whole_7 (by decide)
  · refine r_iconst (pc := 14) ?_ dX9_whole_14 (by decide)
    refine r_cs0 (pc := 15) ?_ dX9_whole_15 ok_Z9_refuse wd_2_19 ⟨Nat.le_of_ble_eq_true rfl, Nat.le_of_ble_eq_true rfl⟩ ⟨Nat.le_of_ble_eq_true rfl, Nat.le_of_ble_eq_true rfl⟩ rfl rfl
    refine r_aload_n (pc := 18) ?_ dX9_whole_18 rfl
    refine r_iload_n (pc := 19) ?_ dX9_whole_19 rfl
    refine r_cv0 (pc := 20) ?_ dX9_whole_20 cl_X9 ok_X9_valueOfWhole rfl wd_2_216 ⟨Nat.le_of_ble_eq_true rfl, Nat.le_of_ble_eq_true rfl⟩ ⟨Nat.le_of_ble_eq_true rfl, Nat.le_of_ble_eq_true rfl⟩ rfl rfl
    exact r_ir dX9_whole_23 rfl (Nat.le_of_ble_eq_true rfl) (Nat.le_of_ble_eq_true rfl)
  · refine r_iconst (pc := 10) ?_ dX9_whole_10 (by decide)
    refine r_goto (pc := 11) (t := 15) ?_ dX9_whole_11 (by decide)
    refine r_cs0 (pc := 15) ?_ dX9_whole_15 ok_Z9_refuse wd_2_19 ⟨Nat.le_of_ble_eq_true rfl, Nat.le_of_ble_eq_true rfl⟩ ⟨Nat.le_of_ble_eq_true rfl, Nat.le_of_ble_eq_true rfl⟩ rfl rfl
    refine r_aload_n (pc := 18) ?_ dX9_whole_18 rfl
    refine r_iload_n (pc := 19) ?_ dX9_whole_19 rfl
    refine r_cv0 (pc := 20) ?_ dX9_whole_20 cl_X9 ok_X9_valueOfWhole rfl wd_2_216 ⟨Nat.le_of_ble_eq_true rfl, Nat.le_of_ble_eq_true rfl⟩ ⟨Nat.le_of_ble_eq_true rfl, Nat.le_of_ble_eq_true rfl⟩ rfl rfl
    exact r_ir dX9_whole_23 rfl (Nat.le_of_ble_eq_true rfl) (Nat.le_of_ble_eq_true rfl)
abbrev Y_Z9_completeOn : YT := (yX9_completeOn, cX9_completeOn, 3, (some .int), 7, 102, 0, 0)
theorem ok_Z9_completeOn : okV Y_Z9_completeOn 2 := ⟨⟨wd_4_223, wd_1_1, by decide, by decide, by decide +kernel⟩, wd_4_221, wd_4_222⟩
def R_Z9_completeOn_0 (l : Launch) (G : GT) (F : FX) (Q : PQ) (QX : PX) : KT := (I_al 0 (I_gp 7 3 1 (I_il 1 (I_cv (Tr true l G Y_X7_hasApprentice) 5 9 1 QX (I_ifeq (I_ic 1 (Wj true l G F Y_Z9_completeOn Q QX 0 0 16)) (I_ic 0 (Wj true l G F Y_Z9_completeOn Q QX 0 0 16)))))))
set_option maxRecDepth 100000 in
theorem g_Z9_completeOn_0 {l : Launch} {G : GT} {F : FX} {Q : PQ} {QX : PX} : Le (R_Z9_completeOn_0 l G F Q QX) (Wj true l G F Y_Z9_completeOn Q QX 0 0 0) := by
  unfold R_Z9_completeOn_0
  refine r_aload_n (pc := 0) ?_ dX9_completeOn_0 rfl
  refine r_gp (pc := 1) (kf := 0) ?_ dX9_completeOn_1 cl_X9 (Nat.le_of_ble_eq_true rfl) rfl wd_1_225 pv_X9_0
  refine r_iload_n (pc := 4) ?_ dX9_completeOn_4 rfl
  refine r_cv0 (pc := 5) ?_ dX9_completeOn_5 cl_X7 ok_X7_hasApprentice rfl wd_3_49 ⟨Nat.le_of_ble_eq_true rfl, Nat.le_of_ble_eq_true rfl⟩ ⟨Nat.le_of_ble_eq_true rfl, Nat.le_of_ble_eq_true rfl⟩ rfl rfl
  refine r_ifeq (pc := 8) (t := 15) ?_ ?_ dX9_completeOn_8 (by decide)
  · refine r_iconst (pc := 15) ?_ dX9_completeOn_15 (by decide)
    exact Le.rf
  · refine r_iconst (pc := 11) ?_ dX9_completeOn_11 (by decide)
    refine r_goto (pc := 12) (t := 16) ?_ dX9_completeOn_12 (by decide)
    exact Le.rf
def R_Z9_completeOn_16 (l : Launch) (G : GT) (F : FX) (Q : PQ) (QX : PX) : KT := (I_cs (Tr true l G Y_Z9_refuse) 1 QX (I_il 2 (I_ic 1 (I_ic 12 (I_cs (Tr true l G Y_X9_isWithin) 3 QX (I_ifeq (I_ic 2 (I_cs (Tr true l G Y_Z9_refuse) 1 QX (I_al 0 (I_gp 7 3 1 (I_il 1 (I_il 2 (I_cv (Tr true l G Y_X7_completionDay) 5 9 2 QX (I_ir Q)))))))) (I_ic 0 (I_cs (Tr true l G Y_Z9_refuse) 1 QX (I_al 0 (I_gp 7 3 1 (I_il 1 (I_il 2 (I_cv (Tr true l G Y_X7_completionDay) 5 9 2 QX (I_ir Q))))))))))))))
set_option maxRecDepth 100000 in
theorem g_Z9_completeOn_16 {l : Launch} {G : GT} {F : FX} {Q : PQ} {QX : PX} : Le (R_Z9_completeOn_16 l G F Q QX) (Wj true l G F Y_Z9_completeOn Q QX 0 0 16) := by
  unfold R_Z9_completeOn_16
  refine r_cs0 (pc := 16) ?_ dX9_completeOn_16 ok_Z9_refuse wd_2_19 ⟨Nat.le_of_ble_eq_true rfl, Nat.le_of_ble_eq_true rfl⟩ ⟨Nat.le_of_ble_eq_true rfl, Nat.le_of_ble_eq_true rfl⟩ rfl rfl
  refine r_iload_n (pc := 19) ?_ dX9_completeOn_19 rfl
  refine r_iconst (pc := 20) ?_ dX9_completeOn_20 (by decide)
  refine r_bipush (pc := 21) ?_ dX9_completeOn_21 (by decide)
  refine r_cs0 (pc := 23) ?_ dX9_completeOn_23 ok_X9_isWithin wd_2_16 ⟨Nat.le_of_ble_eq_true rfl, Nat.le_of_ble_eq_true rfl⟩ ⟨Nat.le_of_ble_eq_true rfl, Nat.le_of_ble_eq_true rfl⟩ rfl rfl
  refine r_ifeq (pc := 26) (t := 33) ?_ ?_ dX9_completeOn_26 (by decide)
  · refine r_iconst (pc := 33) ?_ dX9_completeOn_33 (by decide)
    refine r_cs0 (pc := 34) ?_ dX9_completeOn_34 ok_Z9_refuse wd_2_19 ⟨Nat.le_of_ble_eq_true rfl, Nat.le_of_ble_eq_true rfl⟩ ⟨Nat.le_of_ble_eq_true rfl, Nat.le_of_ble_eq_true rfl⟩ rfl rfl
    refine r_aload_n (pc := 37) ?_ dX9_completeOn_37 rfl
    refine r_gp (pc := 38) (kf := 0) ?_ dX9_completeOn_38 cl_X9 (Nat.le_of_ble_eq_true rfl) rfl wd_1_225 pv_X9_0
    refine r_iload_n (pc := 41) ?_ dX9_completeOn_41 rfl
    refine r_iload_n (pc := 42) ?_ dX9_completeOn_42 rfl
    refine r_cv0 (pc := 43) ?_ dX9_completeOn_43 cl_X7 ok_X7_completionDay rfl wd_4_224 ⟨Nat.le_of_ble_eq_true rfl, Nat.le_of_ble_eq_true rfl⟩ ⟨Nat.le_of_ble_eq_true rfl, Nat.le_of_ble_eq_true rfl⟩ rfl rfl
    exact r_ir dX9_completeOn_46 rfl (Nat.le_of_ble_eq_true rfl) (Nat.le_of_ble_eq_true rfl)
  · refine r_iconst (pc := 29) ?_ dX9_completeOn_29 (by decide)
    refine r_goto (pc := 30) (t := 34) ?_ dX9_completeOn_30 (by decide)
    refine r_cs0 (pc := 34) ?_ dX9_completeOn_34 ok_Z9_refuse wd_2_19 ⟨Nat.le_of_ble_eq_true rfl, Nat.le_of_ble_eq_true rfl⟩ ⟨Nat.le_of_ble_eq_true rfl, Nat.le_of_ble_eq_true rfl⟩ rfl rfl
    refine r_aload_n (pc := 37) ?_ dX9_completeOn_37 rfl
    refine r_gp (pc := 38) (kf := 0) ?_ dX9_completeOn_38 cl_X9 (Nat.le_of_ble_eq_true rfl) rfl wd_1_225 pv_X9_0
    refine r_iload_n (pc := 41) ?_ dX9_completeOn_41 rfl
    refine r_iload_n (pc := 42) ?_ dX9_completeOn_42 rfl
    refine r_cv0 (pc := 43) ?_ dX9_completeOn_43 cl_X7 ok_X7_completionDay rfl wd_4_224 ⟨Nat.le_of_ble_eq_true rfl, Nat.le_of_ble_eq_true rfl⟩ ⟨Nat.le_of_ble_eq_true rfl, Nat.le_of_ble_eq_true rfl⟩ rfl rfl
    exact r_ir dX9_completeOn_46 rfl (Nat.le_of_ble_eq_true rfl) (Nat.le_of_ble_eq_true rfl)
abbrev Y_Z9_bestMentor : YT := (yX9_bestMentor, cX9_bestMentor, 2, (some .int), 7, 110, 0, 0)
theorem ok_Z9_bestMentor : okV Y_Z9_bestMentor 1 := ⟨⟨wd_4_171, wd_1_1, by decide, by decide, by decide +kernel⟩, wd_4_169, wd_4_170⟩
def R_Z9_bestMentor_0 (l : Launch) (G : GT) (F : FX) (Q : PQ) (QX : PX) : KT := (I_al 0 (I_gp 7 3 1 (I_il 1 (I_cv (Tr true l G Y_X7_hasApprentice) 5 9 1 QX (I_ifeq (I_ic 1 (I_cs (Tr true l G Y_Z9_refuse) 1 QX (I_al 0 (I_gp 7 3 1 (I_il 1 (I_cv (Tr true l G Y_X7_leastBusyMentor) 5 9 1 QX (I_ir Q))))))) (I_ic 0 (I_cs (Tr true l G Y_Z9_refuse) 1 QX (I_al 0 (I_gp 7 3 1 (I_il 1 (I_cv (Tr true l G Y_X7_leastBusyMentor) 5 9 1 QX (I_ir Q))))))))))))
set_option maxRecDepth 100000 in
theorem g_Z9_bestMentor_0 {l : Launch} {G : GT} {F : FX} {Q : PQ} {QX : PX} : Le (R_Z9_bestMentor_0 l G F Q QX) (Wj true l G F Y_Z9_bestMentor Q QX 0 0 0) := by
  unfold R_Z9_bestMentor_0
  refine r_aload_n (pc := 0) ?_ dX9_bestMentor_0 rfl
  refine r_gp (pc := 1) (kf := 0) ?_ dX9_bestMentor_1 cl_X9 (Nat.le_of_ble_eq_true rfl) rfl wd_1_225 pv_X9_0
  refine r_iload_n (pc := 4) ?_ dX9_bestMentor_4 rfl
  refine r_cv0 (pc := 5) ?_ dX9_bestMentor_5 cl_X7 ok_X7_hasApprentice rfl wd_3_49 ⟨Nat.le_of_ble_eq_true rfl, Nat.le_of_ble_eq_true rfl⟩ ⟨Nat.le_of_ble_eq_true rfl, Nat.le_of_ble_eq_true rfl⟩ rfl rfl
  refine r_ifeq (pc := 8) (t := 15) ?_ ?_ dX9_bestMentor_8 (by decide)
  · refine r_iconst (pc := 15) ?_ dX9_bestMentor_15 (by decide)
    refine r_cs0 (pc := 16) ?_ dX9_bestMentor_16 ok_Z9_refuse wd_2_19 ⟨Nat.le_of_ble_eq_true rfl, Nat.le_of_ble_eq_true rfl⟩ ⟨Nat.le_of_ble_eq_true rfl, Nat.le_of_ble_eq_true rfl⟩ rfl rfl
    refine r_aload_n (pc := 19) ?_ dX9_bestMentor_19 rfl
    refine r_gp (pc := 20) (kf := 0) ?_ dX9_bestMentor_20 cl_X9 (Nat.le_of_ble_eq_true rfl) rfl wd_1_225 pv_X9_0
    refine r_iload_n (pc := 23) ?_ dX9_bestMentor_23 rfl
    refine r_cv0 (pc := 24) ?_ dX9_bestMentor_24 cl_X7 ok_X7_leastBusyMentor rfl wd_4_172 ⟨Nat.le_of_ble_eq_true rfl, Nat.le_of_ble_eq_true rfl⟩ ⟨Nat.le_of_ble_eq_true rfl, Nat.le_of_ble_eq_true rfl⟩ rfl rfl
    exact r_ir dX9_bestMentor_27 rfl (Nat.le_of_ble_eq_true rfl) (Nat.le_of_ble_eq_true rfl)
  · refine r_iconst (pc := 11) ?_ dX9_bestMentor_11 (by decide)
    refine r_goto (pc := 12) (t := 16) ?_ dX9_bestMentor_12 (by decide)
    refine r_cs0 (pc := 16) ?_ dX9_bestMentor_16 ok_Z9_refuse wd_2_19 ⟨Nat.le_of_ble_eq_true rfl, Nat.le_of_ble_eq_true rfl⟩ ⟨Nat.le_of_ble_eq_true rfl, Nat.le_of_ble_eq_true rfl⟩ rfl rfl
    refine r_aload_n (pc := 19) ?_ dX9_bestMentor_19 rfl
    refine r_gp (pc := 20) (kf := 0) ?_ dX9_bestMentor_20 cl_X9 (Nat.le_of_ble_eq_true rfl) rfl wd_1_225 pv_X9_0
    refine r_iload_n (pc := 23) ?_ dX9_bestMentor_23 rfl
    refine r_cv0 (pc := 24) ?_ dX9_bestMentor_24 cl_X7 ok_X7_leastBusyMentor rfl wd_4_172 ⟨Nat.le_of_ble_eq_true rfl, Nat.le_of_ble_eq_true rfl⟩ ⟨Nat.le_of_ble_eq_true rfl, Nat.le_of_ble_eq_true rfl⟩ rfl rfl
    exact r_ir dX9_bestMentor_27 rfl (Nat.le_of_ble_eq_true rfl) (Nat.le_of_ble_eq_true rfl)
abbrev Y_Z9_doubtsBy : YT := (yX9_doubtsBy, cX9_doubtsBy, 3, (some .int), 7, 102, 0, 0)
theorem ok_Z9_doubtsBy : okV Y_Z9_doubtsBy 2 := ⟨⟨wd_4_187, wd_1_1, by decide, by decide, by decide +kernel⟩, wd_4_185, wd_4_186⟩
def R_Z9_doubtsBy_0 (l : Launch) (G : GT) (F : FX) (Q : PQ) (QX : PX) : KT := (I_al 0 (I_gp 7 3 1 (I_il 1 (I_cv (Tr true l G Y_X7_hasApprentice) 5 9 1 QX (I_ifeq (I_ic 1 (Wj true l G F Y_Z9_doubtsBy Q QX 0 0 27)) (I_al 0 (I_gp 7 3 1 (I_il 2 (I_cv (Tr true l G Y_X7_hasApprentice) 5 9 1 QX (I_ifeq (I_ic 1 (Wj true l G F Y_Z9_doubtsBy Q QX 0 0 27)) (I_ic 0 (Wj true l G F Y_Z9_doubtsBy Q QX 0 0 27))))))))))))
set_option maxRecDepth 100000 in
theorem g_Z9_doubtsBy_0 {l : Launch} {G : GT} {F : FX} {Q : PQ} {QX : PX} : Le (R_Z9_doubtsBy_0 l G F Q QX) (Wj true l G F Y_Z9_doubtsBy Q QX 0 0 0) := by
  unfold R_Z9_doubtsBy_0
  refine r_aload_n (pc := 0) ?_ dX9_doubtsBy_0 rfl
  refine r_gp (pc := 1) (kf := 0) ?_ dX9_doubtsBy_1 cl_X9 (Nat.le_of_ble_eq_true rfl) rfl wd_1_225 pv_X9_0
  refine r_iload_n (pc := 4) ?_ dX9_doubtsBy_4 rfl
  refine r_cv0 (pc := 5) ?_ dX9_doubtsBy_5 cl_X7 ok_X7_hasApprentice rfl wd_3_49 ⟨Nat.le_of_ble_eq_true rfl, Nat.le_of_ble_eq_true rfl⟩ ⟨Nat.le_of_ble_eq_true rfl, Nat.le_of_ble_eq_true rfl⟩ rfl rfl
  refine r_ifeq (pc := 8) (t := 26) ?_ ?_ dX9_doubtsBy_8 (by decide)
  · refine r_iconst (pc := 26) ?_ dX9_doubtsBy_26 (by decide)
    exact Le.rf
  · refine r_aload_n (pc := 11) ?_ dX9_doubtsBy_11 rfl
    refine r_gp (pc := 12) (kf := 0) ?_ dX9_doubtsBy_12 cl_X9 (Nat.le_of_ble_eq_true rfl) rfl wd_1_225 pv_X9_0
    refine r_iload_n (pc := 15) ?_ dX9_doubtsBy_15 rfl
    refine r_cv0 (pc := 16) ?_ dX9_doubtsBy_16 cl_X7 ok_X7_hasApprentice rfl wd_3_49 ⟨Nat.le_of_ble_eq_true rfl, Nat.le_of_ble_eq_true rfl⟩ ⟨Nat.le_of_ble_eq_true rfl, Nat.le_of_ble_eq_true rfl⟩ rfl rfl
    refine r_ifeq (pc := 19) (t := 26) ?_ ?_ dX9_doubtsBy_19 (by decide)
    · refine r_iconst (pc := 26) ?_ dX9_doubtsBy_26 (by decide)
      exact Le.rf
    · refine r_iconst (pc := 22) ?_ dX9_doubtsBy_22 (by decide)
      refine r_goto (pc := 23) (t := 27) ?_ dX9_doubtsBy_23 (by decide)
      exact Le.rf
def R_Z9_doubtsBy_27 (l : Launch) (G : GT) (F : FX) (Q : PQ) (QX : PX) : KT := (I_cs (Tr true l G Y_Z9_refuse) 1 QX (I_al 0 (I_gp 7 3 1 (I_il 1 (I_il 2 (I_cv (Tr true l G Y_X7_canExchange) 5 9 2 QX (I_ifeq (I_ic (-1) (I_ir Q)) (I_al 0 (I_gp 7 3 1 (I_il 1 (I_il 2 (I_cv (Tr true l G Y_X7_doubtsOfExchange) 5 9 2 QX (I_ir Q)))))))))))))
set_option maxRecDepth 100000 in
theorem g_Z9_doubtsBy_27 {l : Launch} {G : GT} {F : FX} {Q : PQ} {QX : PX} : Le (R_Z9_doubtsBy_27 l G F Q QX) (Wj true l G F Y_Z9_doubtsBy Q QX 0 0 27) := by
  unfold R_Z9_doubtsBy_27
  refine r_cs0 (pc := 27) ?_ dX9_doubtsBy_27 ok_Z9_refuse wd_2_19 ⟨Nat.le_of_ble_eq_true rfl, Nat.le_of_ble_eq_true rfl⟩ ⟨Nat.le_of_ble_eq_true rfl, Nat.le_of_ble_eq_true rfl⟩ rfl rfl
  refine r_aload_n (pc := 30) ?_ dX9_doubtsBy_30 rfl
  refine r_gp (pc := 31) (kf := 0) ?_ dX9_doubtsBy_31 cl_X9 (Nat.le_of_ble_eq_true rfl) rfl wd_1_225 pv_X9_0
  refine r_iload_n (pc := 34) ?_ dX9_doubtsBy_34 rfl
  refine r_iload_n (pc := 35) ?_ dX9_doubtsBy_35 rfl
  refine r_cv0 (pc := 36) ?_ dX9_doubtsBy_36 cl_X7 ok_X7_canExchange rfl wd_4_150 ⟨Nat.le_of_ble_eq_true rfl, Nat.le_of_ble_eq_true rfl⟩ ⟨Nat.le_of_ble_eq_true rfl, Nat.le_of_ble_eq_true rfl⟩ rfl rfl
  refine r_ifeq (pc := 39) (t := 54) ?_ ?_ dX9_doubtsBy_39 (by decide)
  · refine r_iconst (pc := 54) ?_ dX9_doubtsBy_54 (by decide)
    exact r_ir dX9_doubtsBy_55 rfl (Nat.le_of_ble_eq_true rfl) (Nat.le_of_ble_eq_true rfl)
  · refine r_aload_n (pc := 42) ?_ dX9_doubtsBy_42 rfl
    refine r_gp (pc := 43) (kf := 0) ?_ dX9_doubtsBy_43 cl_X9 (Nat.le_of_ble_eq_true rfl) rfl wd_1_225 pv_X9_0
    refine r_iload_n (pc := 46) ?_ dX9_doubtsBy_46 rfl
    refine r_iload_n (pc := 47) ?_ dX9_doubtsBy_47 rfl
    refine r_cv0 (pc := 48) ?_ dX9_doubtsBy_48 cl_X7 ok_X7_doubtsOfExchange rfl wd_4_188 ⟨Nat.le_of_ble_eq_true rfl, Nat.le_of_ble_eq_true rfl⟩ ⟨Nat.le_of_ble_eq_true rfl, Nat.le_of_ble_eq_true rfl⟩ rfl rfl
    refine r_goto (pc := 51) (t := 55) ?_ dX9_doubtsBy_51 (by decide)
    exact r_ir dX9_doubtsBy_55 rfl (Nat.le_of_ble_eq_true rfl) (Nat.le_of_ble_eq_true rfl)
abbrev Y_Z9_nextRelease : YT := (yX9_nextRelease, cX9_nextRelease, 3, (some .int), 7, 102, 0, 0)
theorem ok_Z9_nextRelease : okV Y_Z9_nextRelease 2 := ⟨⟨wd_3_102, wd_1_1, by decide, by decide, by decide +kernel⟩, wd_3_100, wd_3_101⟩
def R_Z9_nextRelease_0 (l : Launch) (G : GT) (F : FX) (Q : PQ) (QX : PX) : KT := (I_al 0 (I_gp 7 3 1 (I_il 1 (I_cv (Tr true l G Y_X7_hasApprentice) 5 9 1 QX (I_ifeq (I_ic 1 (Wj true l G F Y_Z9_nextRelease Q QX 0 0 16)) (I_ic 0 (Wj true l G F Y_Z9_nextRelease Q QX 0 0 16)))))))
set_option maxRecDepth 100000 in
theorem g_Z9_nextRelease_0 {l : Launch} {G : GT} {F : FX} {Q : PQ} {QX : PX} : Le (R_Z9_nextRelease_0 l G F Q QX) (Wj true l G F Y_Z9_nextRelease Q QX 0 0 0) := by
  unfold R_Z9_nextRelease_0
  refine r_aload_n (pc := 0) ?_ dX9_nextRelease_0 rfl
  refine r_gp (pc := 1) (kf := 0) ?_ dX9_nextRelease_1 cl_X9 (Nat.le_of_ble_eq_true rfl) rfl wd_1_225 pv_X9_0
  refine r_iload_n (pc := 4) ?_ dX9_nextRelease_4 rfl
  refine r_cv0 (pc := 5) ?_ dX9_nextRelease_5 cl_X7 ok_X7_hasApprentice rfl wd_3_49 ⟨Nat.le_of_ble_eq_true rfl, Nat.le_of_ble_eq_true rfl⟩ ⟨Nat.le_of_ble_eq_true rfl, Nat.le_of_ble_eq_true rfl⟩ rfl rfl
  refine r_ifeq (pc := 8) (t := 15) ?_ ?_ dX9_nextRelease_8 (by decide)
  · refine r_iconst (pc := 15) ?_ dX9_nextRelease_15 (by decide)
    exact Le.rf
  · refine r_iconst (pc := 11) ?_ dX9_nextRelease_11 (by decide)
    refine r_goto (pc := 12) (t := 16) ?_ dX9_nextRelease_12 (by decide)
    exact Le.rf
def R_Z9_nextRelease_16 (l : Launch) (G : GT) (F : FX) (Q : PQ) (QX : PX) : KT := (I_cs (Tr true l G Y_Z9_refuse) 1 QX (I_il 2 (I_ic 0 (I_ic 9999 (I_cs (Tr true l G Y_X9_isWithin) 3 QX (I_ifeq (I_ic 2 (I_cs (Tr true l G Y_Z9_refuse) 1 QX (I_al 0 (I_gp 7 3 1 (I_il 1 (I_il 2 (I_cv (Tr true l G Y_X7_firstRelease) 5 9 2 QX (I_ir Q)))))))) (I_ic 0 (I_cs (Tr true l G Y_Z9_refuse) 1 QX (I_al 0 (I_gp 7 3 1 (I_il 1 (I_il 2 (I_cv (Tr true l G Y_X7_firstRelease) 5 9 2 QX (I_ir Q))))))))))))))
set_option maxRecDepth 100000 in
theorem g_Z9_nextRelease_16 {l : Launch} {G : GT} {F : FX} {Q : PQ} {QX : PX} : Le (R_Z9_nextRelease_16 l G F Q QX) (Wj true l G F Y_Z9_nextRelease Q QX 0 0 16) := by
  unfold R_Z9_nextRelease_16
  refine r_cs0 (pc := 16) ?_ dX9_nextRelease_16 ok_Z9_refuse wd_2_19 ⟨Nat.le_of_ble_eq_true rfl, Nat.le_of_ble_eq_true rfl⟩ ⟨Nat.le_of_ble_eq_true rfl, Nat.le_of_ble_eq_true rfl⟩ rfl rfl
  refine r_iload_n (pc := 19) ?_ dX9_nextRelease_19 rfl
  refine r_iconst (pc := 20) ?_ dX9_nextRelease_20 (by decide)
  refine r_sipush (pc := 21) ?_ dX9_nextRelease_21 (by decide)
  refine r_cs0 (pc := 24) ?_ dX9_nextRelease_24 ok_X9_isWithin wd_2_16 ⟨Nat.le_of_ble_eq_true rfl, Nat.le_of_ble_eq_true rfl⟩ ⟨Nat.le_of_ble_eq_true rfl, Nat.le_of_ble_eq_true rfl⟩ rfl rfl
  refine r_ifeq (pc := 27) (t := 34) ?_ ?_ dX9_nextRelease_27 (by decide)
  · refine r_iconst (pc := 34) ?_ dX9_nextRelease_34 (by decide)
    refine r_cs0 (pc := 35) ?_ dX9_nextRelease_35 ok_Z9_refuse wd_2_19 ⟨Nat.le_of_ble_eq_true rfl, Nat.le_of_ble_eq_true rfl⟩ ⟨Nat.le_of_ble_eq_true rfl, Nat.le_of_ble_eq_true rfl⟩ rfl rfl
    refine r_aload_n (pc := 38) ?_ dX9_nextRelease_38 rfl
    refine r_gp (pc := 39) (kf := 0) ?_ dX9_nextRelease_39 cl_X9 (Nat.le_of_ble_eq_true rfl) rfl wd_1_225 pv_X9_0
    refine r_iload_n (pc := 42) ?_ dX9_nextRelease_42 rfl
    refine r_iload_n (pc := 43) ?_ dX9_nextRelease_43 rfl
    refine r_cv0 (pc := 44) ?_ dX9_nextRelease_44 cl_X7 ok_X7_firstRelease rfl wd_3_103 ⟨Nat.le_of_ble_eq_true rfl, Nat.le_of_ble_eq_true rfl⟩ ⟨Nat.le_of_ble_eq_true rfl, Nat.le_of_ble_eq_true rfl⟩ rfl rfl
    exact r_ir dX9_nextRelease_47 rfl (Nat.le_of_ble_eq_true rfl) (Nat.le_of_ble_eq_true rfl)
  · refine r_iconst (pc := 30) ?_ dX9_nextRelease_30 (by decide)
    refine r_goto (pc := 31) (t := 35) ?_ dX9_nextRelease_31 (by decide)
    refine r_cs0 (pc := 35) ?_ dX9_nextRelease_35 ok_Z9_refuse wd_2_19 ⟨Nat.le_of_ble_eq_true rfl, Nat.le_of_ble_eq_true rfl⟩ ⟨Nat.le_of_ble_eq_true rfl, Nat.le_of_ble_eq_true rfl⟩ rfl rfl
    refine r_aload_n (pc := 38) ?_ dX9_nextRelease_38 rfl
    refine r_gp (pc := 39) (kf := 0) ?_ dX9_nextRelease_39 cl_X9 (Nat.le_of_ble_eq_true rfl) rfl wd_1_225 pv_X9_0
    refine r_iload_n (pc := 42) ?_ dX9_nextRelease_42 rfl
    refine r_iload_n (pc := 43) ?_ dX9_nextRelease_43 rfl
    refine r_cv0 (pc := 44) ?_ dX9_nextRelease_44 cl_X7 ok_X7_firstRelease rfl wd_3_103 ⟨Nat.le_of_ble_eq_true rfl, Nat.le_of_ble_eq_true rfl⟩ ⟨Nat.le_of_ble_eq_true rfl, Nat.le_of_ble_eq_true rfl⟩ rfl rfl
    exact r_ir dX9_nextRelease_47 rfl (Nat.le_of_ble_eq_true rfl) (Nat.le_of_ble_eq_true rfl)
section EN
variable {l : Launch} {G : GT} {Q : PQ} {QX : PX} {M : Mm}
theorem en_Z9_reason {o : Nat} {a0 : Int32} {a1 : Int32} (body : ∀ F, R_Z9_reason_0 l G F Q QX [.ref o, .int a0, .int a1] [] M) : Tr true l G Y_Z9_reason [.ref o, .int a0, .int a1] M Q QX := tr_of (by decide) (Nat.le_of_ble_eq_true rfl) rfl fun F => g_Z9_reason_0 _ _ _ (body F)
theorem en_Z9_mentor {o : Nat} {a0 : Int32} {a1 : Int32} (body : ∀ F, R_Z9_mentor_0 l G F Q QX [.ref o, .int a0, .int a1] [] M) : Tr true l G Y_Z9_mentor [.ref o, .int a0, .int a1] M Q QX := tr_of (by decide) (Nat.le_of_ble_eq_true rfl) rfl fun F => g_Z9_mentor_0 _ _ _ (body F)
theorem en_Z9_apprentice {o : Nat} {a0 : Int32} {a1 : Int32} (body : ∀ F, R_Z9_apprentice_0 l G F Q QX [.ref o, .int a0, .int a1] [] M) : Tr true l G Y_Z9_apprentice [.ref o, .int a0, .int a1] M Q QX := tr_of (by decide) (Nat.le_of_ble_eq_true rfl) rfl fun F => g_Z9_apprentice_0 _ _ _ (body F)
theorem en_Z9_part {o : Nat} {a0 : Int32} {a1 : Int32} {a2 : Int32} (body : ∀ F, R_Z9_part_0 l G F Q QX [.ref o, .int a0, .int a1, .int a2] [] M) : Tr true l G Y_Z9_part [.ref o, .int a0, .int a1, .int a2] M Q QX := tr_of (by decide) (Nat.le_of_ble_eq_true rfl) rfl fun F => g_Z9_part_0 _ _ _ (body F)
theorem en_Z9_entry {o : Nat} {a0 : Int32} {a1 : Int32} {a2 : Int32} {a3 : Int32} (body : ∀ F, R_Z9_entry_0 l G F Q QX [.ref o, .int a0, .int a1, .int a2, .int a3] [] M) : Tr true l G Y_Z9_entry [.ref o, .int a0, .int a1, .int a2, .int a3] M Q QX := tr_of (by decide) (Nat.le_of_ble_eq_true rfl) rfl fun F => g_Z9_entry_0 _ _ _ (body F)
theorem en_Z9_whole {o : Nat} {a0 : Int32} (body : ∀ F, R_Z9_whole_0 l G F Q QX [.ref o, .int a0] [] M) : Tr true l G Y_Z9_whole [.ref o, .int a0] M Q QX := tr_of (by decide) (Nat.le_of_ble_eq_true rfl) rfl fun F => g_Z9_whole_0 _ _ _ (body F)
theorem en_Z9_completeOn {o : Nat} {a0 : Int32} {a1 : Int32} (body : ∀ F, R_Z9_completeOn_0 l G F Q QX [.ref o, .int a0, .int a1] [] M) : Tr true l G Y_Z9_completeOn [.ref o, .int a0, .int a1] M Q QX := tr_of (by decide) (Nat.le_of_ble_eq_true rfl) rfl fun F => g_Z9_completeOn_0 _ _ _ (body F)
theorem en_Z9_bestMentor {o : Nat} {a0 : Int32} (body : ∀ F, R_Z9_bestMentor_0 l G F Q QX [.ref o, .int a0] [] M) : Tr true l G Y_Z9_bestMentor [.ref o, .int a0] M Q QX := tr_of (by decide) (Nat.le_of_ble_eq_true rfl) rfl fun F => g_Z9_bestMentor_0 _ _ _ (body F)
theorem en_Z9_doubtsBy {o : Nat} {a0 : Int32} {a1 : Int32} (body : ∀ F, R_Z9_doubtsBy_0 l G F Q QX [.ref o, .int a0, .int a1] [] M) : Tr true l G Y_Z9_doubtsBy [.ref o, .int a0, .int a1] M Q QX := tr_of (by decide) (Nat.le_of_ble_eq_true rfl) rfl fun F => g_Z9_doubtsBy_0 _ _ _ (body F)
theorem en_Z9_nextRelease {o : Nat} {a0 : Int32} {a1 : Int32} (body : ∀ F, R_Z9_nextRelease_0 l G F Q QX [.ref o, .int a0, .int a1] [] M) : Tr true l G Y_Z9_nextRelease [.ref o, .int a0, .int a1] M Q QX := tr_of (by decide) (Nat.le_of_ble_eq_true rfl) rfl fun F => g_Z9_nextRelease_0 _ _ _ (body F)
end EN
