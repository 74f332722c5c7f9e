/-! ===== methods that touch static cells: their regions ===== -/
def R_X3_commandAt_0 (l : Launch) (G : GT) (F : FX) (Q : PQ) (QX : PX) : KT := (I_il 1 (I_iflt (I_nul (I_ar Q)) (I_il 1 (I_al 0 (I_gi 1 4 11 (I_icge (I_nul (I_ar Q)) (I_il 1 (I_ic 21 (I_icge (I_nul (I_ar Q)) (I_al 0 (I_gp 1 11 2 (I_il 1 (I_cal (I_ar Q))))))))))))))
set_option maxRecDepth 100000 in
theorem g_X3_commandAt_0 {l : Launch} {G : GT} {F : FX} {Q : PQ} {QX : PX} : Le (R_X3_commandAt_0 l G F Q QX) (Wj true l G F Y_X3_commandAt Q QX 0 0 0) := by
  unfold R_X3_commandAt_0
  refine r_iload_n (pc := 0) ?_ dX3_commandAt_0 rfl
  refine r_iflt (pc := 1) (t := 27) ?_ ?_ dX3_commandAt_1 (by decide)
  · refine r_null (pc := 27) ?_ dX3_commandAt_27
    exact r_ar (nm := "TradeLogs$Command") dX3_commandAt_28 rfl (Nat.le_of_ble_eq_true rfl) (Nat.le_of_ble_eq_true rfl)
  · refine r_iload_n (pc := 4) ?_ dX3_commandAt_4 rfl
    refine r_aload_n (pc := 5) ?_ dX3_commandAt_5 rfl
    refine r_gi (pc := 6) ?_ dX3_commandAt_6 cl_X3 (Nat.le_of_ble_eq_true rfl) rfl wd_1_208
    refine r_icge (pc := 9) (t := 27) ?_ ?_ dX3_commandAt_9 (by decide)
    · refine r_null (pc := 27) ?_ dX3_commandAt_27
      exact r_ar (nm := "TradeLogs$Command") dX3_commandAt_28 rfl (Nat.le_of_ble_eq_true rfl) (Nat.le_of_ble_eq_true rfl)
    · refine r_iload_n (pc := 12) ?_ dX3_commandAt_12 rfl
      refine r_bipush (pc := 13) ?_ dX3_commandAt_13 (by decide)
      refine r_icge (pc := 15) (t := 27) ?_ ?_ dX3_commandAt_15 (by decide)
      · refine r_null (pc := 27) ?_ dX3_commandAt_27
        exact r_ar (nm := "TradeLogs$Command") dX3_commandAt_28 rfl (Nat.le_of_ble_eq_true rfl) (Nat.le_of_ble_eq_true rfl)
      · refine r_aload_n (pc := 18) ?_ dX3_commandAt_18 rfl
        refine r_gp (pc := 19) (kf := 1) ?_ dX3_commandAt_19 cl_X3 (Nat.le_of_ble_eq_true rfl) rfl wd_1_204 pv_X3_1
        refine r_iload_n (pc := 22) ?_ dX3_commandAt_22 rfl
        refine r_cal (pc := 23) ?_ dX3_commandAt_23
        refine r_goto (pc := 24) (t := 28) ?_ dX3_commandAt_24 (by decide)
        exact r_ar (nm := "TradeLogs$Command") dX3_commandAt_28 rfl (Nat.le_of_ble_eq_true rfl) (Nat.le_of_ble_eq_true rfl)
def R_X3_beginCommand_0 (l : Launch) (G : GT) (F : FX) (Q : PQ) (QX : PX) : KT := (I_al 0 (I_gi 1 4 11 (I_ic 21 (I_icge (I_al 0 (I_al 1 (I_sgf "TradeLogs$Command" "numbers" "I" (I_pi 1 7 11 (I_al 0 (I_ic 0 (I_pi 1 8 11 (I_vr Q)))))))) (I_al 0 (I_gp 1 11 2 (I_al 0 (I_gi 1 4 11 (I_al 1 (I_cas (I_al 0 (I_al 1 (I_sgf "TradeLogs$Command" "numbers" "I" (I_pi 1 7 11 (I_al 0 (I_ic 0 (I_pi 1 8 11 (I_vr Q))))))))))))))))))
set_option maxRecDepth 100000 in
theorem g_X3_beginCommand_0 {l : Launch} {G : GT} {F : FX} {Q : PQ} {QX : PX} : Le (R_X3_beginCommand_0 l G F Q QX) (Wj true l G F Y_X3_beginCommand Q QX 0 0 0) := by
  unfold R_X3_beginCommand_0
  refine r_aload_n (pc := 0) ?_ dX3_beginCommand_0 rfl
  refine r_gi (pc := 1) ?_ dX3_beginCommand_1 cl_X3 (Nat.le_of_ble_eq_true rfl) rfl wd_1_208
  refine r_bipush (pc := 4) ?_ dX3_beginCommand_4 (by decide)
  refine r_icge (pc := 6) (t := 19) ?_ ?_ dX3_beginCommand_6 (by decide)
  · refine r_aload_n (pc := 19) ?_ dX3_beginCommand_19 rfl
    refine r_aload_n (pc := 20) ?_ dX3_beginCommand_20 rfl
    refine r_sgf (pc := 21) ?_ dX3_beginCommand_21 wd_7_93
    refine r_pi (pc := 24) ?_ dX3_beginCommand_24 cl_X3 (Nat.le_of_ble_eq_true rfl) rfl wd_1_212 rfl pd_X3_7
    refine r_aload_n (pc := 27) ?_ dX3_beginCommand_27 rfl
    refine r_iconst (pc := 28) ?_ dX3_beginCommand_28 (by decide)
    refine r_pi (pc := 29) ?_ dX3_beginCommand_29 cl_X3 (Nat.le_of_ble_eq_true rfl) rfl wd_1_213 rfl pd_X3_8
    exact r_vr dX3_beginCommand_32 rfl (Nat.le_of_ble_eq_true rfl) (Nat.le_of_ble_eq_true rfl)
  · refine r_aload_n (pc := 9) ?_ dX3_beginCommand_9 rfl
    refine r_gp (pc := 10) (kf := 1) ?_ dX3_beginCommand_10 cl_X3 (Nat.le_of_ble_eq_true rfl) rfl wd_1_204 pv_X3_1
    refine r_aload_n (pc := 13) ?_ dX3_beginCommand_13 rfl
    refine r_gi (pc := 14) ?_ dX3_beginCommand_14 cl_X3 (Nat.le_of_ble_eq_true rfl) rfl wd_1_208
    refine r_aload_n (pc := 17) ?_ dX3_beginCommand_17 rfl
    refine r_cas (pc := 18) ?_ dX3_beginCommand_18
    refine r_aload_n (pc := 19) ?_ dX3_beginCommand_19 rfl
    refine r_aload_n (pc := 20) ?_ dX3_beginCommand_20 rfl
    refine r_sgf (pc := 21) ?_ dX3_beginCommand_21 wd_7_93
    refine r_pi (pc := 24) ?_ dX3_beginCommand_24 cl_X3 (Nat.le_of_ble_eq_true rfl) rfl wd_1_212 rfl pd_X3_7
    refine r_aload_n (pc := 27) ?_ dX3_beginCommand_27 rfl
    refine r_iconst (pc := 28) ?_ dX3_beginCommand_28 (by decide)
    refine r_pi (pc := 29) ?_ dX3_beginCommand_29 cl_X3 (Nat.le_of_ble_eq_true rfl) rfl wd_1_213 rfl pd_X3_8
    exact r_vr dX3_beginCommand_32 rfl (Nat.le_of_ble_eq_true rfl) (Nat.le_of_ble_eq_true rfl)
def R_X3_isWord_0 (l : Launch) (G : GT) (F : FX) (Q : PQ) (QX : PX) : KT := (I_il 2 (I_iflt (I_ic 0 (I_zr Q)) (I_il 3 (I_ic 150 (I_icgt (I_ic 0 (I_zr Q)) (I_al 1 (I_cvS (Tr true l G Y_J0_length_8abf5) "java/lang/String" 0 QX (I_il 3 (I_il 2 (I_isub (I_iceq (I_ic 0 (I_is 4 (I_kl 3 (Wj true l G F Y_X3_isWord Q QX 0 0 26)))) (I_ic 0 (I_zr Q)))))))))))))
set_option maxRecDepth 100000 in
theorem g_X3_isWord_0 {l : Launch} {G : GT} {F : FX} {Q : PQ} {QX : PX} : Le (R_X3_isWord_0 l G F Q QX) (Wj true l G F Y_X3_isWord Q QX 0 0 0) := by
  unfold R_X3_isWord_0
  refine r_iload_n (pc := 0) ?_ dX3_isWord_0 rfl
  refine r_iflt (pc := 1) (t := 21) ?_ ?_ dX3_isWord_1 (by decide)
  · refine r_iconst (pc := 21) ?_ dX3_isWord_21 (by decide)
    exact r_zr dX3_isWord_22 rfl (Nat.le_of_ble_eq_true rfl) (Nat.le_of_ble_eq_true rfl)
  · refine r_iload_n (pc := 4) ?_ dX3_isWord_4 rfl
    refine r_sipush (pc := 5) ?_ dX3_isWord_5 (by decide)
    refine r_icgt (pc := 8) (t := 21) ?_ ?_ dX3_isWord_8 (by decide)
    · refine r_iconst (pc := 21) ?_ dX3_isWord_21 (by decide)
      exact r_zr dX3_isWord_22 rfl (Nat.le_of_ble_eq_true rfl) (Nat.le_of_ble_eq_true rfl)
    · refine r_aload_n (pc := 11) ?_ dX3_isWord_11 rfl
      refine r_cvS (pc := 12) ?_ dX3_isWord_12 okU_J0_length_8abf5 wd_2_50 ⟨Nat.le_of_ble_eq_true rfl, Nat.le_of_ble_eq_true rfl⟩ ⟨Nat.le_of_ble_eq_true rfl, Nat.le_of_ble_eq_true rfl⟩ rfl rfl
      refine r_iload_n (pc := 15) ?_ dX3_isWord_15 rfl
      refine r_iload_n (pc := 16) ?_ dX3_isWord_16 rfl
      refine r_isub (pc := 17) ?_ dX3_isWord_17
      refine r_iceq (pc := 18) (t := 23) ?_ ?_ dX3_isWord_18 (by decide)
      · refine r_iconst (pc := 23) ?_ dX3_isWord_23 (by decide)
        refine r_istore (pc := 24) ?_ dX3_isWord_24 (Nat.le_of_ble_eq_true rfl)
        refine r_kl ?_
        exact Le.rf
      · refine r_iconst (pc := 21) ?_ dX3_isWord_21 (by decide)
        exact r_zr dX3_isWord_22 rfl (Nat.le_of_ble_eq_true rfl) (Nat.le_of_ble_eq_true rfl)
def R_X3_isWord_26 (l : Launch) (G : GT) (F : FX) (Q : PQ) (QX : PX) : KT := (I_il 4 (I_al 1 (I_cvS (Tr true l G Y_J0_length_8abf5) "java/lang/String" 0 QX (I_icge (I_ic 1 (I_zr Q)) (I_al 0 (I_gp 1 11 1 (I_il 2 (I_il 4 (I_iadd (I_ial (I_al 1 (I_il 4 (I_cvS (Tr true l G Y_J0_charAt_5068e) "java/lang/String" 1 QX (I_iceq (I_inc 4 1 (Wj true l G F Y_X3_isWord Q QX 0 0 26)) (I_ic 0 (I_zr Q))))))))))))))))
set_option maxRecDepth 100000 in
theorem g_X3_isWord_26 {l : Launch} {G : GT} {F : FX} {Q : PQ} {QX : PX} : Le (R_X3_isWord_26 l G F Q QX) (Wj true l G F Y_X3_isWord Q QX 0 0 26) := by
  unfold R_X3_isWord_26
  refine r_iload (pc := 26) ?_ dX3_isWord_26
  refine r_aload_n (pc := 28) ?_ dX3_isWord_28 rfl
  refine r_cvS (pc := 29) ?_ dX3_isWord_29 okU_J0_length_8abf5 wd_2_50 ⟨Nat.le_of_ble_eq_true rfl, Nat.le_of_ble_eq_true rfl⟩ ⟨Nat.le_of_ble_eq_true rfl, Nat.le_of_ble_eq_true rfl⟩ rfl rfl
  refine r_icge (pc := 32) (t := 61) ?_ ?_ dX3_isWord_32 (by decide)
  · refine r_iconst (pc := 61) ?_ dX3_isWord_61 (by decide)
    exact r_zr dX3_isWord_62 rfl (Nat.le_of_ble_eq_true rfl) (Nat.le_of_ble_eq_true rfl)
  · refine r_aload_n (pc := 35) ?_ dX3_isWord_35 rfl
    refine r_gp (pc := 36) (kf := 0) ?_ dX3_isWord_36 cl_X3 (Nat.le_of_ble_eq_true rfl) rfl wd_1_203 pv_X3_0
    refine r_iload_n (pc := 39) ?_ dX3_isWord_39 rfl
    refine r_iload (pc := 40) ?_ dX3_isWord_40
    refine r_iadd (pc := 42) ?_ dX3_isWord_42
    refine r_ial (pc := 43) ?_ dX3_isWord_43
    refine r_aload_n (pc := 44) ?_ dX3_isWord_44 rfl
    refine r_iload (pc := 45) ?_ dX3_isWord_45
    refine r_cvS (pc := 47) ?_ dX3_isWord_47 okU_J0_charAt_5068e wd_2_60 ⟨Nat.le_of_ble_eq_true rfl, Nat.le_of_ble_eq_true rfl⟩ ⟨Nat.le_of_ble_eq_true rfl, Nat.le_of_ble_eq_true rfl⟩ rfl rfl
    refine r_iceq (pc := 50) (t := 55) ?_ ?_ dX3_isWord_50 (by decide)
    · refine r_iinc (pc := 55) ?_ dX3_isWord_55 (by decide) (Nat.le_of_ble_eq_true rfl)
      refine r_goto (pc := 58) (t := 26) ?_ dX3_isWord_58 (by decide)
      exact Le.rf
    · refine r_iconst (pc := 53) ?_ dX3_isWord_53 (by decide)
      exact r_zr dX3_isWord_54 rfl (Nat.le_of_ble_eq_true rfl) (Nat.le_of_ble_eq_true rfl)
def R_X3_commandOf_0 (l : Launch) (G : GT) (F : FX) (Q : PQ) (QX : PX) : KT := (I_ic 0 (I_is 3 (Wj true l G F Y_X3_commandOf Q QX 0 0 2)))
set_option maxRecDepth 100000 in
theorem g_X3_commandOf_0 {l : Launch} {G : GT} {F : FX} {Q : PQ} {QX : PX} : Le (R_X3_commandOf_0 l G F Q QX) (Wj true l G F Y_X3_commandOf Q QX 0 0 0) := by
  unfold R_X3_commandOf_0
  refine r_iconst (pc := 0) ?_ dX3_commandOf_0 (by decide)
  refine r_istore_n (pc := 1) ?_ dX3_commandOf_1 rfl (Nat.le_of_ble_eq_true rfl)
  exact Le.rf
def R_X3_commandOf_2 (l : Launch) (G : GT) (F : FX) (Q : PQ) (QX : PX) : KT := (I_il 3 (I_gs (.ref 1000000) (I_sln (I_icge (I_nul (I_ar Q)) (I_al 0 (I_gs (.ref 1000000) (I_il 3 (I_saa (I_sgf "TradeLogs$Command" "word" "Ljava/lang/String;" (I_il 1 (I_il 2 (I_cv (Tr true l G Y_X3_isWord) 1 11 3 QX (I_ifeq (I_inc 3 1 (Wj true l G F Y_X3_commandOf Q QX 0 0 2)) (I_gs (.ref 1000000) (I_il 3 (I_saa (I_ar Q)))))))))))))))))
set_option maxRecDepth 100000 in
theorem g_X3_commandOf_2 {l : Launch} {G : GT} {F : FX} {Q : PQ} {QX : PX} : Le (R_X3_commandOf_2 l G F Q QX) (Wj true l G F Y_X3_commandOf Q QX 0 0 2) := by
  unfold R_X3_commandOf_2
  refine r_iload_n (pc := 2) ?_ dX3_commandOf_2 rfl
  refine r_gs (pc := 3) (q := ("TradeLogs$CommandText", "COMMANDS", "[LTradeLogs$Command;", .ref 1000000)) ?_ dX3_commandOf_3 (by unfold SZt; simp) wd_2_44
  refine r_sln (pc := 6) ?_ dX3_commandOf_6
  refine r_icge (pc := 7) (t := 39) ?_ ?_ dX3_commandOf_7 (by decide)
  · refine r_null (pc := 39) ?_ dX3_commandOf_39
    exact r_ar (nm := "TradeLogs$Command") dX3_commandOf_40 rfl (Nat.le_of_ble_eq_true rfl) (Nat.le_of_ble_eq_true rfl)
  · refine r_aload_n (pc := 10) ?_ dX3_commandOf_10 rfl
    refine r_gs (pc := 11) (q := ("TradeLogs$CommandText", "COMMANDS", "[LTradeLogs$Command;", .ref 1000000)) ?_ dX3_commandOf_11 (by unfold SZt; simp) wd_2_44
    refine r_iload_n (pc := 14) ?_ dX3_commandOf_14 rfl
    refine r_saa (pc := 15) ?_ dX3_commandOf_15
    refine r_sgf (pc := 16) ?_ dX3_commandOf_16 wd_7_90
    refine r_iload_n (pc := 19) ?_ dX3_commandOf_19 rfl
    refine r_iload_n (pc := 20) ?_ dX3_commandOf_20 rfl
    refine r_cv0 (pc := 21) ?_ dX3_commandOf_21 cl_X3 ok_X3_isWord rfl wd_2_46 ⟨Nat.le_of_ble_eq_true rfl, Nat.le_of_ble_eq_true rfl⟩ ⟨Nat.le_of_ble_eq_true rfl, Nat.le_of_ble_eq_true rfl⟩ rfl rfl
    refine r_ifeq (pc := 24) (t := 33) ?_ ?_ dX3_commandOf_24 (by decide)
    · refine r_iinc (pc := 33) ?_ dX3_commandOf_33 (by decide) (Nat.le_of_ble_eq_true rfl)
      refine r_goto (pc := 36) (t := 2) ?_ dX3_commandOf_36 (by decide)
      exact Le.rf
    · refine r_gs (pc := 27) (q := ("TradeLogs$CommandText", "COMMANDS", "[LTradeLogs$Command;", .ref 1000000)) ?_ dX3_commandOf_27 (by unfold SZt; simp) wd_2_44
      refine r_iload_n (pc := 30) ?_ dX3_commandOf_30 rfl
      refine r_saa (pc := 31) ?_ dX3_commandOf_31
      exact r_ar (nm := "TradeLogs$Command") dX3_commandOf_32 rfl (Nat.le_of_ble_eq_true rfl) (Nat.le_of_ble_eq_true rfl)
def R_X9_faultOfCommand_0 (l : Launch) (G : GT) (F : FX) (Q : PQ) (QX : PX) : KT := (I_al 0 (I_gp 7 3 1073 (I_il 1 (I_cv (Tr true l G Y_X3_commandAt) 1 11 1 QX (I_as 2 (I_al 2 (I_ifnonnull (I_al 0 (I_gp 7 3 1073 (I_il 1 (I_ic 0 (I_cv (Tr true l G Y_X3_numberAt) 1 11 2 QX (I_is 3 (I_al 0 (I_gp 7 3 1073 (I_il 1 (I_ic 1 (I_cv (Tr true l G Y_X3_numberAt) 1 11 2 QX (I_is 4 (I_al 0 (I_gp 7 3 1073 (I_il 1 (I_ic 2 (I_cv (Tr true l G Y_X3_numberAt) 1 11 2 QX (I_is 5 (I_gs (.ref 1000060) (I_al 2 (I_ord (I_sil (I_sw 1 [(I_al 0 (I_il 3 (I_il 4 (I_il 5 (I_cv (Tr true l G Y_X9_faultOfTrade) 7 3 3 QX (I_ir Q)))))), (I_al 0 (I_il 3 (I_il 4 (I_cv (Tr true l G Y_X9_faultOfMentor) 7 3 2 QX (I_ir Q))))), (I_al 0 (I_il 3 (I_il 4 (I_cv (Tr true l G Y_X9_faultOfApprentice) 7 3 2 QX (I_ir Q))))), (I_al 0 (I_il 3 (I_il 4 (I_il 5 (I_cv (Tr true l G Y_X9_faultOfLog) 7 3 3 QX (I_ir Q)))))), (I_al 0 (I_il 3 (I_ic 99 (I_cv (Tr true l G Y_X9_faultOfConfirm) 7 3 2 QX (I_ir Q))))), (I_al 0 (I_il 3 (I_cv (Tr true l G Y_X9_faultOfDoubt) 7 3 1 QX (I_ir Q)))), (I_al 0 (I_il 3 (I_ic 1 (I_cv (Tr true l G Y_X9_faultOfSettle) 7 3 2 QX (I_ir Q))))), (I_al 0 (I_il 3 (I_ic 0 (I_cv (Tr true l G Y_X9_faultOfSettle) 7 3 2 QX (I_ir Q))))), (I_al 0 (I_il 3 (I_il 4 (I_cv (Tr true l G Y_X9_faultOfMove) 7 3 2 QX (I_ir Q))))), (I_al 0 (I_il 3 (I_il 4 (I_cv (Tr true l G Y_X9_faultOfExchange) 7 3 2 QX (I_ir Q))))), (I_al 0 (I_il 3 (I_il 4 (I_cv (Tr true l G Y_X9_faultOfRelease) 7 3 2 QX (I_ir Q)))))] (I_al 0 (I_il 3 (I_cv (Tr true l G Y_X9_faultOfDays) 7 3 1 QX (I_ir Q))))))))))))))))))))))))))) (I_ic 3 (I_ir Q)))))))))
set_option maxRecDepth 100000 in
theorem g_X9_faultOfCommand_0 {l : Launch} {G : GT} {F : FX} {Q : PQ} {QX : PX} : Le (R_X9_faultOfCommand_0 l G F Q QX) (Wj true l G F Y_X9_faultOfCommand Q QX 0 0 0) := by
  unfold R_X9_faultOfCommand_0
  refine r_aload_n (pc := 0) ?_ dX9_faultOfCommand_0 rfl
  refine r_gp (pc := 1) (kf := 2) ?_ dX9_faultOfCommand_1 cl_X9 (Nat.le_of_ble_eq_true rfl) rfl wd_2_1 pv_X9_2
  refine r_iload_n (pc := 4) ?_ dX9_faultOfCommand_4 rfl
  refine r_cv0 (pc := 5) ?_ dX9_faultOfCommand_5 cl_X3 ok_X3_commandAt rfl wd_2_159 ⟨Nat.le_of_ble_eq_true rfl, Nat.le_of_ble_eq_true rfl⟩ ⟨Nat.le_of_ble_eq_true rfl, Nat.le_of_ble_eq_true rfl⟩ rfl rfl
  refine r_astore_n (pc := 8) ?_ dX9_faultOfCommand_8 rfl (Nat.le_of_ble_eq_true rfl)
  refine r_aload_n (pc := 9) ?_ dX9_faultOfCommand_9 rfl
  refine r_ifnonnull (pc := 10) (t := 15) ?_ ?_ dX9_faultOfCommand_10 (by decide)
  · refine r_aload_n (pc := 15) ?_ dX9_faultOfCommand_15 rfl
    refine r_gp (pc := 16) (kf := 2) ?_ dX9_faultOfCommand_16 cl_X9 (Nat.le_of_ble_eq_true rfl) rfl wd_2_1 pv_X9_2
    refine r_iload_n (pc := 19) ?_ dX9_faultOfCommand_19 rfl
    refine r_iconst (pc := 20) ?_ dX9_faultOfCommand_20 (by decide)
    refine r_cv0 (pc := 21) ?_ dX9_faultOfCommand_21 cl_X3 ok_X3_numberAt rfl wd_2_163 ⟨Nat.le_of_ble_eq_true rfl, Nat.le_of_ble_eq_true rfl⟩ ⟨Nat.le_of_ble_eq_true rfl, Nat.le_of_ble_eq_true rfl⟩ rfl rfl
    refine r_istore_n (pc := 24) ?_ dX9_faultOfCommand_24 rfl (Nat.le_of_ble_eq_true rfl)
    refine r_aload_n (pc := 25) ?_ dX9_faultOfCommand_25 rfl
    refine r_gp (pc := 26) (kf := 2) ?_ dX9_faultOfCommand_26 cl_X9 (Nat.le_of_ble_eq_true rfl) rfl wd_2_1 pv_X9_2
    refine r_iload_n (pc := 29) ?_ dX9_faultOfCommand_29 rfl
    refine r_iconst (pc := 30) ?_ dX9_faultOfCommand_30 (by decide)
    refine r_cv0 (pc := 31) ?_ dX9_faultOfCommand_31 cl_X3 ok_X3_numberAt rfl wd_2_163 ⟨Nat.le_of_ble_eq_true rfl, Nat.le_of_ble_eq_true rfl⟩ ⟨Nat.le_of_ble_eq_true rfl, Nat.le_of_ble_eq_true rfl⟩ rfl rfl
    refine r_istore (pc := 34) ?_ dX9_faultOfCommand_34 (Nat.le_of_ble_eq_true rfl)
    refine r_aload_n (pc := 36) ?_ dX9_faultOfCommand_36 rfl
    refine r_gp (pc := 37) (kf := 2) ?_ dX9_faultOfCommand_37 cl_X9 (Nat.le_of_ble_eq_true rfl) rfl wd_2_1 pv_X9_2
    refine r_iload_n (pc := 40) ?_ dX9_faultOfCommand_40 rfl
    refine r_iconst (pc := 41) ?_ dX9_faultOfCommand_41 (by decide)
    refine r_cv0 (pc := 42) ?_ dX9_faultOfCommand_42 cl_X3 ok_X3_numberAt rfl wd_2_163 ⟨Nat.le_of_ble_eq_true rfl, Nat.le_of_ble_eq_true rfl⟩ ⟨Nat.le_of_ble_eq_true rfl, Nat.le_of_ble_eq_true rfl⟩ rfl rfl
    refine r_istore (pc := 45) ?_ dX9_faultOfCommand_45 (Nat.le_of_ble_eq_true rfl)
    refine r_gs (pc := 47) (q := ("TradeLogs$1", "$SwitchMap$TradeLogs$Command", "[I", .ref 1000060)) ?_ dX9_faultOfCommand_47 (by unfold SZt; simp) wd_2_167
    refine r_aload_n (pc := 50) ?_ dX9_faultOfCommand_50 rfl
    refine r_ord (pc := 51) ?_ dX9_faultOfCommand_51 wd_2_169 ⟨Nat.le_of_ble_eq_true rfl, Nat.le_of_ble_eq_true rfl⟩ ⟨Nat.le_of_ble_eq_true rfl, Nat.le_of_ble_eq_true rfl⟩
    refine r_sil (pc := 54) ?_ dX9_faultOfCommand_54
    refine r_sw (pc := 55) (t := 200) (os := [57, 67, 75, 83, 93, 101, 107, 114, 121, 129, 137]) ?_ ⟨⟨112, by decide, ?_⟩, ⟨⟨122, by decide, ?_⟩, ⟨⟨130, by decide, ?_⟩, ⟨⟨138, by decide, ?_⟩, ⟨⟨148, by decide, ?_⟩, ⟨⟨156, by decide, ?_⟩, ⟨⟨162, by decide, ?_⟩, ⟨⟨169, by decide, ?_⟩, ⟨⟨176, by decide, ?_⟩, ⟨⟨184, by decide, ?_⟩, ⟨⟨192, by decide, ?_⟩, trivial⟩⟩⟩⟩⟩⟩⟩⟩⟩⟩⟩ dX9_faultOfCommand_55 rfl rfl (by decide)
    · refine r_aload_n (pc := 200) ?_ dX9_faultOfCommand_200 rfl
      refine r_iload_n (pc := 201) ?_ dX9_faultOfCommand_201 rfl
      refine r_cv0 (pc := 202) ?_ dX9_faultOfCommand_202 cl_X9 ok_X9_faultOfDays rfl wd_3_92 ⟨Nat.le_of_ble_eq_true rfl, Nat.le_of_ble_eq_true rfl⟩ ⟨Nat.le_of_ble_eq_true rfl, Nat.le_of_ble_eq_true rfl⟩ rfl rfl
      exact r_ir dX9_faultOfCommand_205 rfl (Nat.le_of_ble_eq_true rfl) (Nat.le_of_ble_eq_true rfl)
    · refine r_aload_n (pc := 112) ?_ dX9_faultOfCommand_112 rfl
      refine r_iload_n (pc := 113) ?_ dX9_faultOfCommand_113 rfl
      refine r_iload (pc := 114) ?_ dX9_faultOfCommand_114
      refine r_iload (pc := 116) ?_ dX9_faultOfCommand_116
      refine r_cv0 (pc := 118) ?_ dX9_faultOfCommand_118 cl_X9 ok_X9_faultOfTrade rfl wd_2_175 ⟨Nat.le_of_ble_eq_true rfl, Nat.le_of_ble_eq_true rfl⟩ ⟨Nat.le_of_ble_eq_true rfl, Nat.le_of_ble_eq_true rfl⟩ rfl rfl
      exact r_ir dX9_faultOfCommand_121 rfl (Nat.le_of_ble_eq_true rfl) (Nat.le_of_ble_eq_true rfl)
    · refine r_aload_n (pc := 122) ?_ dX9_faultOfCommand_122 rfl
      refine r_iload_n (pc := 123) ?_ dX9_faultOfCommand_123 rfl
      refine r_iload (pc := 124) ?_ dX9_faultOfCommand_124
      refine r_cv0 (pc := 126) ?_ dX9_faultOfCommand_126 cl_X9 ok_X9_faultOfMentor rfl wd_2_182 ⟨Nat.le_of_ble_eq_true rfl, Nat.le_of_ble_eq_true rfl⟩ ⟨Nat.le_of_ble_eq_true rfl, Nat.le_of_ble_eq_true rfl⟩ rfl rfl
      exact r_ir dX9_faultOfCommand_129 rfl (Nat.le_of_ble_eq_true rfl) (Nat.le_of_ble_eq_true rfl)
    · refine r_aload_n (pc := 130) ?_ dX9_faultOfCommand_130 rfl
      refine r_iload_n (pc := 131) ?_ dX9_faultOfCommand_131 rfl
      refine r_iload (pc := 132) ?_ dX9_faultOfCommand_132
      refine r_cv0 (pc := 134) ?_ dX9_faultOfCommand_134 cl_X9 ok_X9_faultOfApprentice rfl wd_2_186 ⟨Nat.le_of_ble_eq_true rfl, Nat.le_of_ble_eq_true rfl⟩ ⟨Nat.le_of_ble_eq_true rfl, Nat.le_of_ble_eq_true rfl⟩ rfl rfl
      exact r_ir dX9_faultOfCommand_137 rfl (Nat.le_of_ble_eq_true rfl) (Nat.le_of_ble_eq_true rfl)
    · refine r_aload_n (pc := 138) ?_ dX9_faultOfCommand_138 rfl
      refine r_iload_n (pc := 139) ?_ dX9_faultOfCommand_139 rfl
      refine r_iload (pc := 140) ?_ dX9_faultOfCommand_140
      refine r_iload (pc := 142) ?_ dX9_faultOfCommand_142
      refine r_cv0 (pc := 144) ?_ dX9_faultOfCommand_144 cl_X9 ok_X9_faultOfLog rfl wd_2_215 ⟨Nat.le_of_ble_eq_true rfl, Nat.le_of_ble_eq_true rfl⟩ ⟨Nat.le_of_ble_eq_true rfl, Nat.le_of_ble_eq_true rfl⟩ rfl rfl
      exact r_ir dX9_faultOfCommand_147 rfl (Nat.le_of_ble_eq_true rfl) (Nat.le_of_ble_eq_true rfl)
    · refine r_aload_n (pc := 148) ?_ dX9_faultOfCommand_148 rfl
      refine r_iload_n (pc := 149) ?_ dX9_faultOfCommand_149 rfl
      refine r_bipush (pc := 150) ?_ dX9_faultOfCommand_150 (by decide)
      refine r_cv0 (pc := 152) ?_ dX9_faultOfCommand_152 cl_X9 ok_X9_faultOfConfirm rfl wd_3_3 ⟨Nat.le_of_ble_eq_true rfl, Nat.le_of_ble_eq_true rfl⟩ ⟨Nat.le_of_ble_eq_true rfl, Nat.le_of_ble_eq_true rfl⟩ rfl rfl
      exact r_ir dX9_faultOfCommand_155 rfl (Nat.le_of_ble_eq_true rfl) (Nat.le_of_ble_eq_true rfl)
    · refine r_aload_n (pc := 156) ?_ dX9_faultOfCommand_156 rfl
      refine r_iload_n (pc := 157) ?_ dX9_faultOfCommand_157 rfl
      refine r_cv0 (pc := 158) ?_ dX9_faultOfCommand_158 cl_X9 ok_X9_faultOfDoubt rfl wd_3_39 ⟨Nat.le_of_ble_eq_true rfl, Nat.le_of_ble_eq_true rfl⟩ ⟨Nat.le_of_ble_eq_true rfl, Nat.le_of_ble_eq_true rfl⟩ rfl rfl
      exact r_ir dX9_faultOfCommand_161 rfl (Nat.le_of_ble_eq_true rfl) (Nat.le_of_ble_eq_true rfl)
    · refine r_aload_n (pc := 162) ?_ dX9_faultOfCommand_162 rfl
      refine r_iload_n (pc := 163) ?_ dX9_faultOfCommand_163 rfl
      refine r_iconst (pc := 164) ?_ dX9_faultOfCommand_164 (by decide)
      refine r_cv0 (pc := 165) ?_ dX9_faultOfCommand_165 cl_X9 ok_X9_faultOfSettle rfl wd_3_51 ⟨Nat.le_of_ble_eq_true rfl, Nat.le_of_ble_eq_true rfl⟩ ⟨Nat.le_of_ble_eq_true rfl, Nat.le_of_ble_eq_true rfl⟩ rfl rfl
      exact r_ir dX9_faultOfCommand_168 rfl (Nat.le_of_ble_eq_true rfl) (Nat.le_of_ble_eq_true rfl)
    · refine r_aload_n (pc := 169) ?_ dX9_faultOfCommand_169 rfl
      refine r_iload_n (pc := 170) ?_ dX9_faultOfCommand_170 rfl
      refine r_iconst (pc := 171) ?_ dX9_faultOfCommand_171 (by decide)
      refine r_cv0 (pc := 172) ?_ dX9_faultOfCommand_172 cl_X9 ok_X9_faultOfSettle rfl wd_3_51 ⟨Nat.le_of_ble_eq_true rfl, Nat.le_of_ble_eq_true rfl⟩ ⟨Nat.le_of_ble_eq_true rfl, Nat.le_of_ble_eq_true rfl⟩ rfl rfl
      exact r_ir dX9_faultOfCommand_175 rfl (Nat.le_of_ble_eq_true rfl) (Nat.le_of_ble_eq_true rfl)
    · refine r_aload_n (pc := 176) ?_ dX9_faultOfCommand_176 rfl
      refine r_iload_n (pc := 177) ?_ dX9_faultOfCommand_177 rfl
      refine r_iload (pc := 178) ?_ dX9_faultOfCommand_178
      refine r_cv0 (pc := 180) ?_ dX9_faultOfCommand_180 cl_X9 ok_X9_faultOfMove rfl wd_3_61 ⟨Nat.le_of_ble_eq_true rfl, Nat.le_of_ble_eq_true rfl⟩ ⟨Nat.le_of_ble_eq_true rfl, Nat.le_of_ble_eq_true rfl⟩ rfl rfl
      exact r_ir dX9_faultOfCommand_183 rfl (Nat.le_of_ble_eq_true rfl) (Nat.le_of_ble_eq_true rfl)
    · refine r_aload_n (pc := 184) ?_ dX9_faultOfCommand_184 rfl
      refine r_iload_n (pc := 185) ?_ dX9_faultOfCommand_185 rfl
      refine r_iload (pc := 186) ?_ dX9_faultOfCommand_186
      refine r_cv0 (pc := 188) ?_ dX9_faultOfCommand_188 cl_X9 ok_X9_faultOfExchange rfl wd_3_75 ⟨Nat.le_of_ble_eq_true rfl, Nat.le_of_ble_eq_true rfl⟩ ⟨Nat.le_of_ble_eq_true rfl, Nat.le_of_ble_eq_true rfl⟩ rfl rfl
      exact r_ir dX9_faultOfCommand_191 rfl (Nat.le_of_ble_eq_true rfl) (Nat.le_of_ble_eq_true rfl)
    · refine r_aload_n (pc := 192) ?_ dX9_faultOfCommand_192 rfl
      refine r_iload_n (pc := 193) ?_ dX9_faultOfCommand_193 rfl
      refine r_iload (pc := 194) ?_ dX9_faultOfCommand_194
      refine r_cv0 (pc := 196) ?_ dX9_faultOfCommand_196 cl_X9 ok_X9_faultOfRelease rfl wd_3_83 ⟨Nat.le_of_ble_eq_true rfl, Nat.le_of_ble_eq_true rfl⟩ ⟨Nat.le_of_ble_eq_true rfl, Nat.le_of_ble_eq_true rfl⟩ rfl rfl
      exact r_ir dX9_faultOfCommand_199 rfl (Nat.le_of_ble_eq_true rfl) (Nat.le_of_ble_eq_true rfl)
  · refine r_iconst (pc := 13) ?_ dX9_faultOfCommand_13 (by decide)
    exact r_ir dX9_faultOfCommand_14 rfl (Nat.le_of_ble_eq_true rfl) (Nat.le_of_ble_eq_true rfl)
def R_X9_obey_0 (l : Launch) (G : GT) (F : FX) (Q : PQ) (QX : PX) : KT := (I_al 0 (I_gp 7 3 1073 (I_il 1 (I_cv (Tr true l G Y_X3_commandAt) 1 11 1 QX (I_as 2 (I_al 2 (I_ifnonnull (I_al 0 (I_gp 7 3 1073 (I_il 1 (I_ic 0 (I_cv (Tr true l G Y_X3_numberAt) 1 11 2 QX (I_is 3 (I_al 0 (I_gp 7 3 1073 (I_il 1 (I_ic 1 (I_cv (Tr true l G Y_X3_numberAt) 1 11 2 QX (I_is 4 (I_al 0 (I_gp 7 3 1073 (I_il 1 (I_ic 2 (I_cv (Tr true l G Y_X3_numberAt) 1 11 2 QX (I_is 5 (I_gs (.ref 1000060) (I_al 2 (I_ord (I_sil (I_sw 1 [(I_al 0 (I_gp 7 3 1 (I_il 3 (I_il 4 (I_il 5 (I_cv (Tr true l G Y_X7_putTrade) 5 9 3 QX (I_pop (I_vr Q)))))))), (I_al 0 (I_gp 7 3 1 (I_il 3 (I_il 4 (I_cv (Tr true l G Y_X7_putMentor) 5 9 2 QX (I_pop (I_vr Q))))))), (I_al 0 (I_gp 7 3 1 (I_il 3 (I_il 4 (I_cv (Tr true l G Y_X7_putApprentice) 5 9 2 QX (I_pop (I_vr Q))))))), (I_al 0 (I_gp 7 3 1 (I_il 3 (I_il 4 (I_il 5 (I_cv (Tr true l G Y_X7_putWork) 5 9 3 QX (I_pop (I_vr Q)))))))), (I_al 0 (I_gp 7 3 1 (I_il 3 (I_ic 99 (I_cv (Tr true l G Y_X7_confirmPending) 5 9 2 QX (I_pop (I_vr Q))))))), (I_al 0 (I_gp 7 3 1 (I_il 3 (I_cv (Tr true l G Y_X7_doubtOldest) 5 9 1 QX (I_pop (I_vr Q)))))), (I_al 0 (I_gp 7 3 1 (I_il 3 (I_ic 1 (I_cv (Tr true l G Y_X7_settleOldest) 5 9 2 QX (I_pop (I_vr Q))))))), (I_al 0 (I_gp 7 3 1 (I_il 3 (I_ic 0 (I_cv (Tr true l G Y_X7_settleOldest) 5 9 2 QX (I_pop (I_vr Q))))))), (I_al 0 (I_gp 7 3 1 (I_il 3 (I_il 4 (I_cv (Tr true l G Y_X7_moveTo) 5 9 2 QX (I_pop (I_vr Q))))))), (I_al 0 (I_gp 7 3 1 (I_il 3 (I_il 4 (I_cv (Tr true l G Y_X7_exchangeBoth) 5 9 2 QX (I_pop (I_vr Q))))))), (I_al 0 (I_gp 7 3 1 (I_il 3 (I_il 4 (I_cv (Tr true l G Y_X7_putRelease) 5 9 2 QX (I_pop (I_vr Q)))))))] (I_al 0 (I_gp 7 3 1 (I_il 3 (I_cv (Tr true l G Y_X7_passDays) 5 9 1 QX (I_pop (I_vr Q))))))))))))))))))))))))))))) (I_vr Q))))))))
set_option maxRecDepth 100000 in
theorem g_X9_obey_0 {l : Launch} {G : GT} {F : FX} {Q : PQ} {QX : PX} : Le (R_X9_obey_0 l G F Q QX) (Wj true l G F Y_X9_obey Q QX 0 0 0) := by
  unfold R_X9_obey_0
  refine r_aload_n (pc := 0) ?_ dX9_obey_0 rfl
  refine r_gp (pc := 1) (kf := 2) ?_ dX9_obey_1 cl_X9 (Nat.le_of_ble_eq_true rfl) rfl wd_2_1 pv_X9_2
  refine r_iload_n (pc := 4) ?_ dX9_obey_4 rfl
  refine r_cv0 (pc := 5) ?_ dX9_obey_5 cl_X3 ok_X3_commandAt rfl wd_2_159 ⟨Nat.le_of_ble_eq_true rfl, Nat.le_of_ble_eq_true rfl⟩ ⟨Nat.le_of_ble_eq_true rfl, Nat.le_of_ble_eq_true rfl⟩ rfl rfl
  refine r_astore_n (pc := 8) ?_ dX9_obey_8 rfl (Nat.le_of_ble_eq_true rfl)
  refine r_aload_n (pc := 9) ?_ dX9_obey_9 rfl
  refine r_ifnonnull (pc := 10) (t := 14) ?_ ?_ dX9_obey_10 (by decide)
  · refine r_aload_n (pc := 14) ?_ dX9_obey_14 rfl
    refine r_gp (pc := 15) (kf := 2) ?_ dX9_obey_15 cl_X9 (Nat.le_of_ble_eq_true rfl) rfl wd_2_1 pv_X9_2
    refine r_iload_n (pc := 18) ?_ dX9_obey_18 rfl
    refine r_iconst (pc := 19) ?_ dX9_obey_19 (by decide)
    refine r_cv0 (pc := 20) ?_ dX9_obey_20 cl_X3 ok_X3_numberAt rfl wd_2_163 ⟨Nat.le_of_ble_eq_true rfl, Nat.le_of_ble_eq_true rfl⟩ ⟨Nat.le_of_ble_eq_true rfl, Nat.le_of_ble_eq_true rfl⟩ rfl rfl
    refine r_istore_n (pc := 23) ?_ dX9_obey_23 rfl (Nat.le_of_ble_eq_true rfl)
    refine r_aload_n (pc := 24) ?_ dX9_obey_24 rfl
    refine r_gp (pc := 25) (kf := 2) ?_ dX9_obey_25 cl_X9 (Nat.le_of_ble_eq_true rfl) rfl wd_2_1 pv_X9_2
    refine r_iload_n (pc := 28) ?_ dX9_obey_28 rfl
    refine r_iconst (pc := 29) ?_ dX9_obey_29 (by decide)
    refine r_cv0 (pc := 30) ?_ dX9_obey_30 cl_X3 ok_X3_numberAt rfl wd_2_163 ⟨Nat.le_of_ble_eq_true rfl, Nat.le_of_ble_eq_true rfl⟩ ⟨Nat.le_of_ble_eq_true rfl, Nat.le_of_ble_eq_true rfl⟩ rfl rfl
    refine r_istore (pc := 33) ?_ dX9_obey_33 (Nat.le_of_ble_eq_true rfl)
    refine r_aload_n (pc := 35) ?_ dX9_obey_35 rfl
    refine r_gp (pc := 36) (kf := 2) ?_ dX9_obey_36 cl_X9 (Nat.le_of_ble_eq_true rfl) rfl wd_2_1 pv_X9_2
    refine r_iload_n (pc := 39) ?_ dX9_obey_39 rfl
    refine r_iconst (pc := 40) ?_ dX9_obey_40 (by decide)
    refine r_cv0 (pc := 41) ?_ dX9_obey_41 cl_X3 ok_X3_numberAt rfl wd_2_163 ⟨Nat.le_of_ble_eq_true rfl, Nat.le_of_ble_eq_true rfl⟩ ⟨Nat.le_of_ble_eq_true rfl, Nat.le_of_ble_eq_true rfl⟩ rfl rfl
    refine r_istore (pc := 44) ?_ dX9_obey_44 (Nat.le_of_ble_eq_true rfl)
    refine r_gs (pc := 46) (q := ("TradeLogs$1", "$SwitchMap$TradeLogs$Command", "[I", .ref 1000060)) ?_ dX9_obey_46 (by unfold SZt; simp) wd_2_167
    refine r_aload_n (pc := 49) ?_ dX9_obey_49 rfl
    refine r_ord (pc := 50) ?_ dX9_obey_50 wd_2_169 ⟨Nat.le_of_ble_eq_true rfl, Nat.le_of_ble_eq_true rfl⟩ ⟨Nat.le_of_ble_eq_true rfl, Nat.le_of_ble_eq_true rfl⟩
    refine r_sil (pc := 53) ?_ dX9_obey_53
    refine r_sw (pc := 54) (t := 266) (os := [58, 74, 88, 102, 118, 132, 144, 157, 170, 184, 198]) ?_ ⟨⟨112, by decide, ?_⟩, ⟨⟨128, by decide, ?_⟩, ⟨⟨142, by decide, ?_⟩, ⟨⟨156, by decide, ?_⟩, ⟨⟨172, by decide, ?_⟩, ⟨⟨186, by decide, ?_⟩, ⟨⟨198, by decide, ?_⟩, ⟨⟨211, by decide, ?_⟩, ⟨⟨224, by decide, ?_⟩, ⟨⟨238, by decide, ?_⟩, ⟨⟨252, by decide, ?_⟩, trivial⟩⟩⟩⟩⟩⟩⟩⟩⟩⟩⟩ dX9_obey_54 rfl rfl (by decide)
    · refine r_aload_n (pc := 266) ?_ dX9_obey_266 rfl
      refine r_gp (pc := 267) (kf := 0) ?_ dX9_obey_267 cl_X9 (Nat.le_of_ble_eq_true rfl) rfl wd_1_239 pv_X9_0
      refine r_iload_n (pc := 270) ?_ dX9_obey_270 rfl
      refine r_cv0 (pc := 271) ?_ dX9_obey_271 cl_X7 ok_X7_passDays rfl wd_3_190 ⟨Nat.le_of_ble_eq_true rfl, Nat.le_of_ble_eq_true rfl⟩ ⟨Nat.le_of_ble_eq_true rfl, Nat.le_of_ble_eq_true rfl⟩ rfl rfl
      refine r_pop (pc := 274) ?_ dX9_obey_274
      exact r_vr dX9_obey_275 rfl (Nat.le_of_ble_eq_true rfl) (Nat.le_of_ble_eq_true rfl)
    · refine r_aload_n (pc := 112) ?_ dX9_obey_112 rfl
      refine r_gp (pc := 113) (kf := 0) ?_ dX9_obey_113 cl_X9 (Nat.le_of_ble_eq_true rfl) rfl wd_1_239 pv_X9_0
      refine r_iload_n (pc := 116) ?_ dX9_obey_116 rfl
      refine r_iload (pc := 117) ?_ dX9_obey_117
      refine r_iload (pc := 119) ?_ dX9_obey_119
      refine r_cv0 (pc := 121) ?_ dX9_obey_121 cl_X7 ok_X7_putTrade rfl wd_3_100 ⟨Nat.le_of_ble_eq_true rfl, Nat.le_of_ble_eq_true rfl⟩ ⟨Nat.le_of_ble_eq_true rfl, Nat.le_of_ble_eq_true rfl⟩ rfl rfl
      refine r_pop (pc := 124) ?_ dX9_obey_124
      refine r_goto (pc := 125) (t := 275) ?_ dX9_obey_125 (by decide)
      exact r_vr dX9_obey_275 rfl (Nat.le_of_ble_eq_true rfl) (Nat.le_of_ble_eq_true rfl)
    · refine r_aload_n (pc := 128) ?_ dX9_obey_128 rfl
      refine r_gp (pc := 129) (kf := 0) ?_ dX9_obey_129 cl_X9 (Nat.le_of_ble_eq_true rfl) rfl wd_1_239 pv_X9_0
      refine r_iload_n (pc := 132) ?_ dX9_obey_132 rfl
      refine r_iload (pc := 133) ?_ dX9_obey_133
      refine r_cv0 (pc := 135) ?_ dX9_obey_135 cl_X7 ok_X7_putMentor rfl wd_3_104 ⟨Nat.le_of_ble_eq_true rfl, Nat.le_of_ble_eq_true rfl⟩ ⟨Nat.le_of_ble_eq_true rfl, Nat.le_of_ble_eq_true rfl⟩ rfl rfl
      refine r_pop (pc := 138) ?_ dX9_obey_138
      refine r_goto (pc := 139) (t := 275) ?_ dX9_obey_139 (by decide)
      exact r_vr dX9_obey_275 rfl (Nat.le_of_ble_eq_true rfl) (Nat.le_of_ble_eq_true rfl)
    · refine r_aload_n (pc := 142) ?_ dX9_obey_142 rfl
      refine r_gp (pc := 143) (kf := 0) ?_ dX9_obey_143 cl_X9 (Nat.le_of_ble_eq_true rfl) rfl wd_1_239 pv_X9_0
      refine r_iload_n (pc := 146) ?_ dX9_obey_146 rfl
      refine r_iload (pc := 147) ?_ dX9_obey_147
      refine r_cv0 (pc := 149) ?_ dX9_obey_149 cl_X7 ok_X7_putApprentice rfl wd_3_112 ⟨Nat.le_of_ble_eq_true rfl, Nat.le_of_ble_eq_true rfl⟩ ⟨Nat.le_of_ble_eq_true rfl, Nat.le_of_ble_eq_true rfl⟩ rfl rfl
      refine r_pop (pc := 152) ?_ dX9_obey_152
      refine r_goto (pc := 153) (t := 275) ?_ dX9_obey_153 (by decide)
      exact r_vr dX9_obey_275 rfl (Nat.le_of_ble_eq_true rfl) (Nat.le_of_ble_eq_true rfl)
    · refine r_aload_n (pc := 156) ?_ dX9_obey_156 rfl
      refine r_gp (pc := 157) (kf := 0) ?_ dX9_obey_157 cl_X9 (Nat.le_of_ble_eq_true rfl) rfl wd_1_239 pv_X9_0
      refine r_iload_n (pc := 160) ?_ dX9_obey_160 rfl
      refine r_iload (pc := 161) ?_ dX9_obey_161
      refine r_iload (pc := 163) ?_ dX9_obey_163
      refine r_cv0 (pc := 165) ?_ dX9_obey_165 cl_X7 ok_X7_putWork rfl wd_3_124 ⟨Nat.le_of_ble_eq_true rfl, Nat.le_of_ble_eq_true rfl⟩ ⟨Nat.le_of_ble_eq_true rfl, Nat.le_of_ble_eq_true rfl⟩ rfl rfl
      refine r_pop (pc := 168) ?_ dX9_obey_168
      refine r_goto (pc := 169) (t := 275) ?_ dX9_obey_169 (by decide)
      exact r_vr dX9_obey_275 rfl (Nat.le_of_ble_eq_true rfl) (Nat.le_of_ble_eq_true rfl)
    · refine r_aload_n (pc := 172) ?_ dX9_obey_172 rfl
      refine r_gp (pc := 173) (kf := 0) ?_ dX9_obey_173 cl_X9 (Nat.le_of_ble_eq_true rfl) rfl wd_1_239 pv_X9_0
      refine r_iload_n (pc := 176) ?_ dX9_obey_176 rfl
      refine r_bipush (pc := 177) ?_ dX9_obey_177 (by decide)
      refine r_cv0 (pc := 179) ?_ dX9_obey_179 cl_X7 ok_X7_confirmPending rfl wd_3_141 ⟨Nat.le_of_ble_eq_true rfl, Nat.le_of_ble_eq_true rfl⟩ ⟨Nat.le_of_ble_eq_true rfl, Nat.le_of_ble_eq_true rfl⟩ rfl rfl
      refine r_pop (pc := 182) ?_ dX9_obey_182
      refine r_goto (pc := 183) (t := 275) ?_ dX9_obey_183 (by decide)
      exact r_vr dX9_obey_275 rfl (Nat.le_of_ble_eq_true rfl) (Nat.le_of_ble_eq_true rfl)
    · refine r_aload_n (pc := 186) ?_ dX9_obey_186 rfl
      refine r_gp (pc := 187) (kf := 0) ?_ dX9_obey_187 cl_X9 (Nat.le_of_ble_eq_true rfl) rfl wd_1_239 pv_X9_0
      refine r_iload_n (pc := 190) ?_ dX9_obey_190 rfl
      refine r_cv0 (pc := 191) ?_ dX9_obey_191 cl_X7 ok_X7_doubtOldest rfl wd_3_158 ⟨Nat.le_of_ble_eq_true rfl, Nat.le_of_ble_eq_true rfl⟩ ⟨Nat.le_of_ble_eq_true rfl, Nat.le_of_ble_eq_true rfl⟩ rfl rfl
      refine r_pop (pc := 194) ?_ dX9_obey_194
      refine r_goto (pc := 195) (t := 275) ?_ dX9_obey_195 (by decide)
      exact r_vr dX9_obey_275 rfl (Nat.le_of_ble_eq_true rfl) (Nat.le_of_ble_eq_true rfl)
    · refine r_aload_n (pc := 198) ?_ dX9_obey_198 rfl
      refine r_gp (pc := 199) (kf := 0) ?_ dX9_obey_199 cl_X9 (Nat.le_of_ble_eq_true rfl) rfl wd_1_239 pv_X9_0
      refine r_iload_n (pc := 202) ?_ dX9_obey_202 rfl
      refine r_iconst (pc := 203) ?_ dX9_obey_203 (by decide)
      refine r_cv0 (pc := 204) ?_ dX9_obey_204 cl_X7 ok_X7_settleOldest rfl wd_3_166 ⟨Nat.le_of_ble_eq_true rfl, Nat.le_of_ble_eq_true rfl⟩ ⟨Nat.le_of_ble_eq_true rfl, Nat.le_of_ble_eq_true rfl⟩ rfl rfl
      refine r_pop (pc := 207) ?_ dX9_obey_207
      refine r_goto (pc := 208) (t := 275) ?_ dX9_obey_208 (by decide)
      exact r_vr dX9_obey_275 rfl (Nat.le_of_ble_eq_true rfl) (Nat.le_of_ble_eq_true rfl)
    · refine r_aload_n (pc := 211) ?_ dX9_obey_211 rfl
      refine r_gp (pc := 212) (kf := 0) ?_ dX9_obey_212 cl_X9 (Nat.le_of_ble_eq_true rfl) rfl wd_1_239 pv_X9_0
      refine r_iload_n (pc := 215) ?_ dX9_obey_215 rfl
      refine r_iconst (pc := 216) ?_ dX9_obey_216 (by decide)
      refine r_cv0 (pc := 217) ?_ dX9_obey_217 cl_X7 ok_X7_settleOldest rfl wd_3_166 ⟨Nat.le_of_ble_eq_true rfl, Nat.le_of_ble_eq_true rfl⟩ ⟨Nat.le_of_ble_eq_true rfl, Nat.le_of_ble_eq_true rfl⟩ rfl rfl
      refine r_pop (pc := 220) ?_ dX9_obey_220
      refine r_goto (pc := 221) (t := 275) ?_ dX9_obey_221 (by decide)
      exact r_vr dX9_obey_275 rfl (Nat.le_of_ble_eq_true rfl) (Nat.le_of_ble_eq_true rfl)
    · refine r_aload_n (pc := 224) ?_ dX9_obey_224 rfl
      refine r_gp (pc := 225) (kf := 0) ?_ dX9_obey_225 cl_X9 (Nat.le_of_ble_eq_true rfl) rfl wd_1_239 pv_X9_0
      refine r_iload_n (pc := 228) ?_ dX9_obey_228 rfl
      refine r_iload (pc := 229) ?_ dX9_obey_229
      refine r_cv0 (pc := 231) ?_ dX9_obey_231 cl_X7 ok_X7_moveTo rfl wd_3_172 ⟨Nat.le_of_ble_eq_true rfl, Nat.le_of_ble_eq_true rfl⟩ ⟨Nat.le_of_ble_eq_true rfl, Nat.le_of_ble_eq_true rfl⟩ rfl rfl
      refine r_pop (pc := 234) ?_ dX9_obey_234
      refine r_goto (pc := 235) (t := 275) ?_ dX9_obey_235 (by decide)
      exact r_vr dX9_obey_275 rfl (Nat.le_of_ble_eq_true rfl) (Nat.le_of_ble_eq_true rfl)
    · refine r_aload_n (pc := 238) ?_ dX9_obey_238 rfl
      refine r_gp (pc := 239) (kf := 0) ?_ dX9_obey_239 cl_X9 (Nat.le_of_ble_eq_true rfl) rfl wd_1_239 pv_X9_0
      refine r_iload_n (pc := 242) ?_ dX9_obey_242 rfl
      refine r_iload (pc := 243) ?_ dX9_obey_243
      refine r_cv0 (pc := 245) ?_ dX9_obey_245 cl_X7 ok_X7_exchangeBoth rfl wd_3_181 ⟨Nat.le_of_ble_eq_true rfl, Nat.le_of_ble_eq_true rfl⟩ ⟨Nat.le_of_ble_eq_true rfl, Nat.le_of_ble_eq_true rfl⟩ rfl rfl
      refine r_pop (pc := 248) ?_ dX9_obey_248
      refine r_goto (pc := 249) (t := 275) ?_ dX9_obey_249 (by decide)
      exact r_vr dX9_obey_275 rfl (Nat.le_of_ble_eq_true rfl) (Nat.le_of_ble_eq_true rfl)
    · refine r_aload_n (pc := 252) ?_ dX9_obey_252 rfl
      refine r_gp (pc := 253) (kf := 0) ?_ dX9_obey_253 cl_X9 (Nat.le_of_ble_eq_true rfl) rfl wd_1_239 pv_X9_0
      refine r_iload_n (pc := 256) ?_ dX9_obey_256 rfl
      refine r_iload (pc := 257) ?_ dX9_obey_257
      refine r_cv0 (pc := 259) ?_ dX9_obey_259 cl_X7 ok_X7_putRelease rfl wd_3_185 ⟨Nat.le_of_ble_eq_true rfl, Nat.le_of_ble_eq_true rfl⟩ ⟨Nat.le_of_ble_eq_true rfl, Nat.le_of_ble_eq_true rfl⟩ rfl rfl
      refine r_pop (pc := 262) ?_ dX9_obey_262
      refine r_goto (pc := 263) (t := 275) ?_ dX9_obey_263 (by decide)
      exact r_vr dX9_obey_275 rfl (Nat.le_of_ble_eq_true rfl) (Nat.le_of_ble_eq_true rfl)
  · exact r_vr dX9_obey_13 rfl (Nat.le_of_ble_eq_true rfl) (Nat.le_of_ble_eq_true rfl)
section EN
variable {l : Launch} {G : GT} {Q : PQ} {QX : PX} {M : Mm}
theorem en_X3_commandAt {o : Nat} {a0 : Int32} (body : ∀ F, R_X3_commandAt_0 l G F Q QX [.ref o, .int a0] [] M) : Tr true l G Y_X3_commandAt [.ref o, .int a0] M Q QX := tr_of (by decide) (Nat.le_of_ble_eq_true rfl) rfl fun F => g_X3_commandAt_0 _ _ _ (body F)
theorem en_X3_beginCommand {o : Nat} {a0 : Nat} (body : ∀ F, R_X3_beginCommand_0 l G F Q QX [.ref o, .ref a0] [] M) : Tr true l G Y_X3_beginCommand [.ref o, .ref a0] M Q QX := tr_of (by decide) (Nat.le_of_ble_eq_true rfl) rfl fun F => g_X3_beginCommand_0 _ _ _ (body F)
theorem en_X3_isWord {o : Nat} {a0 : Nat} {a1 : Int32} {a2 : Int32} (body : ∀ F, R_X3_isWord_0 l G F Q QX [.ref o, .ref a0, .int a1, .int a2, xx] [] M) : Tr true l G Y_X3_isWord [.ref o, .ref a0, .int a1, .int a2] M Q QX := tr_of (by decide) (Nat.le_of_ble_eq_true rfl) rfl fun F => g_X3_isWord_0 _ _ _ (body F)
theorem en_X3_commandOf {o : Nat} {a0 : Int32} {a1 : Int32} (body : ∀ F, R_X3_commandOf_0 l G F Q QX [.ref o, .int a0, .int a1, xx] [] M) : Tr true l G Y_X3_commandOf [.ref o, .int a0, .int a1] M Q QX := tr_of (by decide) (Nat.le_of_ble_eq_true rfl) rfl fun F => g_X3_commandOf_0 _ _ _ (body F)
theorem en_X9_faultOfCommand {o : Nat} {a0 : Int32} (body : ∀ F, R_X9_faultOfCommand_0 l G F Q QX [.ref o, .int a0, xx, xx, xx, xx] [] M) : Tr true l G Y_X9_faultOfCommand [.ref o, .int a0] M Q QX := tr_of (by decide) (Nat.le_of_ble_eq_true rfl) rfl fun F => g_X9_faultOfCommand_0 _ _ _ (body F)
theorem en_X9_obey {o : Nat} {a0 : Int32} (body : ∀ F, R_X9_obey_0 l G F Q QX [.ref o, .int a0, xx, xx, xx, xx] [] M) : Tr true l G Y_X9_obey [.ref o, .int a0] M Q QX := tr_of (by decide) (Nat.le_of_ble_eq_true rfl) rfl fun F => g_X9_obey_0 _ _ _ (body F)
end EN
