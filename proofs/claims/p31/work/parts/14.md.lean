/-! ===== the methods: what they are, their regions ===== -/
abbrev Y_X9_faultOfTrade : YT := (yX9_faultOfTrade, cX9_faultOfTrade, 4, (some .int), 1, 22, 0, 0)
theorem ok_X9_faultOfTrade : okV Y_X9_faultOfTrade 3 := ⟨⟨wd_2_15, wd_1_1, by decide, by decide, by decide +kernel⟩, wd_2_14, wp_0⟩
def R_X9_faultOfTrade_0 (l : Launch) (G : GT) (F : FX) (Q : PQ) (QX : PX) : KT := (I_il 1 (I_ic 0 (I_ic 2000 (I_cs (Tr true l G Y_X9_isWithin) 3 QX (I_ifeq (I_ic 2 (I_ir Q)) (I_il 2 (I_ic 0 (I_ic 2000 (I_cs (Tr true l G Y_X9_isWithin) 3 QX (I_ifeq (I_ic 2 (I_ir Q)) (I_il 3 (I_ic 0 (I_ic 2000 (I_cs (Tr true l G Y_X9_isWithin) 3 QX (I_ifne (I_al 0 (I_gp 7 3 1 (I_gi 5 5 9 (I_ic 5 (I_icge (I_ic 3 (I_ir Q)) (I_ic 0 (I_ir Q))))))) (I_ic 2 (I_ir Q)))))))))))))))))
set_option maxRecDepth 100000 in
theorem g_X9_faultOfTrade_0 {l : Launch} {G : GT} {F : FX} {Q : PQ} {QX : PX} : Le (R_X9_faultOfTrade_0 l G F Q QX) (Wj true l G F Y_X9_faultOfTrade Q QX 0 0 0) := by
  unfold R_X9_faultOfTrade_0
  refine r_iload_n (pc := 0) ?_ dX9_faultOfTrade_0 rfl
  refine r_iconst (pc := 1) ?_ dX9_faultOfTrade_1 (by decide)
  refine r_sipush (pc := 2) ?_ dX9_faultOfTrade_2 (by decide)
  refine r_cs0 (pc := 5) ?_ dX9_faultOfTrade_5 ok_X9_isWithin wd_2_16 ⟨Nat.le_of_ble_eq_true rfl, Nat.le_of_ble_eq_true rfl⟩ ⟨Nat.le_of_ble_eq_true rfl, Nat.le_of_ble_eq_true rfl⟩ rfl rfl
  refine r_ifeq (pc := 8) (t := 33) ?_ ?_ dX9_faultOfTrade_8 (by decide)
  · refine r_iconst (pc := 33) ?_ dX9_faultOfTrade_33 (by decide)
    exact r_ir dX9_faultOfTrade_34 rfl (Nat.le_of_ble_eq_true rfl) (Nat.le_of_ble_eq_true rfl)
  · refine r_iload_n (pc := 11) ?_ dX9_faultOfTrade_11 rfl
    refine r_iconst (pc := 12) ?_ dX9_faultOfTrade_12 (by decide)
    refine r_sipush (pc := 13) ?_ dX9_faultOfTrade_13 (by decide)
    refine r_cs0 (pc := 16) ?_ dX9_faultOfTrade_16 ok_X9_isWithin wd_2_16 ⟨Nat.le_of_ble_eq_true rfl, Nat.le_of_ble_eq_true rfl⟩ ⟨Nat.le_of_ble_eq_true rfl, Nat.le_of_ble_eq_true rfl⟩ rfl rfl
    refine r_ifeq (pc := 19) (t := 33) ?_ ?_ dX9_faultOfTrade_19 (by decide)
    · refine r_iconst (pc := 33) ?_ dX9_faultOfTrade_33 (by decide)
      exact r_ir dX9_faultOfTrade_34 rfl (Nat.le_of_ble_eq_true rfl) (Nat.le_of_ble_eq_true rfl)
    · refine r_iload_n (pc := 22) ?_ dX9_faultOfTrade_22 rfl
      refine r_iconst (pc := 23) ?_ dX9_faultOfTrade_23 (by decide)
      refine r_sipush (pc := 24) ?_ dX9_faultOfTrade_24 (by decide)
      refine r_cs0 (pc := 27) ?_ dX9_faultOfTrade_27 ok_X9_isWithin wd_2_16 ⟨Nat.le_of_ble_eq_true rfl, Nat.le_of_ble_eq_true rfl⟩ ⟨Nat.le_of_ble_eq_true rfl, Nat.le_of_ble_eq_true rfl⟩ rfl rfl
      refine r_ifne (pc := 30) (t := 35) ?_ ?_ dX9_faultOfTrade_30 (by decide)
      · refine r_aload_n (pc := 35) ?_ dX9_faultOfTrade_35 rfl
        refine r_gp (pc := 36) (kf := 0) ?_ dX9_faultOfTrade_36 cl_X9 (Nat.le_of_ble_eq_true rfl) rfl wd_1_225 pv_X9_0
        refine r_gi (pc := 39) ?_ dX9_faultOfTrade_39 cl_X7 (Nat.le_of_ble_eq_true rfl) rfl wd_1_142
        refine r_iconst (pc := 42) ?_ dX9_faultOfTrade_42 (by decide)
        refine r_icge (pc := 43) (t := 50) ?_ ?_ dX9_faultOfTrade_43 (by decide)
        · refine r_iconst (pc := 50) ?_ dX9_faultOfTrade_50 (by decide)
          exact r_ir dX9_faultOfTrade_51 rfl (Nat.le_of_ble_eq_true rfl) (Nat.le_of_ble_eq_true rfl)
        · refine r_iconst (pc := 46) ?_ dX9_faultOfTrade_46 (by decide)
          refine r_goto (pc := 47) (t := 51) ?_ dX9_faultOfTrade_47 (by decide)
          exact r_ir dX9_faultOfTrade_51 rfl (Nat.le_of_ble_eq_true rfl) (Nat.le_of_ble_eq_true rfl)
      · refine r_iconst (pc := 33) ?_ dX9_faultOfTrade_33 (by decide)
        exact r_ir dX9_faultOfTrade_34 rfl (Nat.le_of_ble_eq_true rfl) (Nat.le_of_ble_eq_true rfl)
abbrev Y_X9_refuse : YT := (yX9_refuse, cX9_refuse, 1, none, 6, 82, 1, 6)
theorem ok_X9_refuse : okS Y_X9_refuse 1 := ⟨⟨wd_2_21, wd_1_1, by decide, by decide, by decide +kernel⟩, wd_2_20⟩
abbrev Y_X9_addTrade : YT := (yX9_addTrade, cX9_addTrade, 4, (some .int), 7, 125, 1, 6)
theorem ok_X9_addTrade : okV Y_X9_addTrade 3 := ⟨⟨wd_2_11, wd_1_1, by decide, by decide, by decide +kernel⟩, wd_2_9, wd_2_10⟩
def R_X9_addTrade_0 (l : Launch) (G : GT) (F : FX) (Q : PQ) (QX : PX) : KT := (I_al 0 (I_il 1 (I_il 2 (I_il 3 (I_cv (Tr true l G Y_X9_faultOfTrade) 7 3 3 QX (I_cs (Tr true l G Y_X9_refuse) 1 QX (I_al 0 (I_gp 7 3 215 (I_al 0 (I_gp 7 3 1 (I_cv (Tr true l G Y_X8_save) 6 3 1 QX (I_al 0 (I_gp 7 3 1 (I_il 1 (I_il 2 (I_il 3 (I_cv (Tr true l G Y_X7_putTrade) 5 9 3 QX (I_ir Q))))))))))))))))))
set_option maxRecDepth 100000 in
theorem g_X9_addTrade_0 {l : Launch} {G : GT} {F : FX} {Q : PQ} {QX : PX} : Le (R_X9_addTrade_0 l G F Q QX) (Wj true l G F Y_X9_addTrade Q QX 0 0 0) := by
  unfold R_X9_addTrade_0
  refine r_aload_n (pc := 0) ?_ dX9_addTrade_0 rfl
  refine r_iload_n (pc := 1) ?_ dX9_addTrade_1 rfl
  refine r_iload_n (pc := 2) ?_ dX9_addTrade_2 rfl
  refine r_iload_n (pc := 3) ?_ dX9_addTrade_3 rfl
  refine r_cv0 (pc := 4) ?_ dX9_addTrade_4 cl_X9 ok_X9_faultOfTrade rfl wd_2_12 ⟨Nat.le_of_ble_eq_true rfl, Nat.le_of_ble_eq_true rfl⟩ ⟨Nat.le_of_ble_eq_true rfl, Nat.le_of_ble_eq_true rfl⟩ rfl rfl
  refine r_cs (pc := 7) ?_ dX9_addTrade_7 ok_X9_refuse wd_2_19 ⟨Nat.le_of_ble_eq_true rfl, Nat.le_of_ble_eq_true rfl⟩ ⟨Nat.le_of_ble_eq_true rfl, Nat.le_of_ble_eq_true rfl⟩
  refine r_aload_n (pc := 10) ?_ dX9_addTrade_10 rfl
  refine r_gp (pc := 11) (kf := 1) ?_ dX9_addTrade_11 cl_X9 (Nat.le_of_ble_eq_true rfl) rfl wd_1_226 pv_X9_1
  refine r_aload_n (pc := 14) ?_ dX9_addTrade_14 rfl
  refine r_gp (pc := 15) (kf := 0) ?_ dX9_addTrade_15 cl_X9 (Nat.le_of_ble_eq_true rfl) rfl wd_1_225 pv_X9_0
  refine r_cv0 (pc := 18) ?_ dX9_addTrade_18 cl_X8 ok_X8_save rfl wd_2_122 ⟨Nat.le_of_ble_eq_true rfl, Nat.le_of_ble_eq_true rfl⟩ ⟨Nat.le_of_ble_eq_true rfl, Nat.le_of_ble_eq_true rfl⟩ rfl rfl
  refine r_aload_n (pc := 21) ?_ dX9_addTrade_21 rfl
  refine r_gp (pc := 22) (kf := 0) ?_ dX9_addTrade_22 cl_X9 (Nat.le_of_ble_eq_true rfl) rfl wd_1_225 pv_X9_0
  refine r_iload_n (pc := 25) ?_ dX9_addTrade_25 rfl
  refine r_iload_n (pc := 26) ?_ dX9_addTrade_26 rfl
  refine r_iload_n (pc := 27) ?_ dX9_addTrade_27 rfl
  refine r_cv0 (pc := 28) ?_ dX9_addTrade_28 cl_X7 ok_X7_putTrade rfl wd_2_152 ⟨Nat.le_of_ble_eq_true rfl, Nat.le_of_ble_eq_true rfl⟩ ⟨Nat.le_of_ble_eq_true rfl, Nat.le_of_ble_eq_true rfl⟩ rfl rfl
  exact r_ir dX9_addTrade_31 rfl (Nat.le_of_ble_eq_true rfl) (Nat.le_of_ble_eq_true rfl)
abbrev Y_X9_faultOfMentor : YT := (yX9_faultOfMentor, cX9_faultOfMentor, 3, (some .int), 1, 22, 0, 0)
theorem ok_X9_faultOfMentor : okV Y_X9_faultOfMentor 2 := ⟨⟨wd_3_129, wd_1_1, by decide, by decide, by decide +kernel⟩, wd_3_128, wp_11⟩
def R_X9_faultOfMentor_0 (l : Launch) (G : GT) (F : FX) (Q : PQ) (QX : PX) : KT := (I_il 1 (I_ic 1 (I_ic 6 (I_cs (Tr true l G Y_X9_isWithin) 3 QX (I_ifeq (I_ic 2 (I_ir Q)) (I_il 2 (I_ic 0 (I_ic 31 (I_cs (Tr true l G Y_X9_isWithin) 3 QX (I_ifne (I_al 0 (I_gp 7 3 1 (I_gi 5 6 9 (I_ic 6 (I_icge (I_ic 3 (I_ir Q)) (I_ic 0 (I_ir Q))))))) (I_ic 2 (I_ir Q))))))))))))
set_option maxRecDepth 100000 in
theorem g_X9_faultOfMentor_0 {l : Launch} {G : GT} {F : FX} {Q : PQ} {QX : PX} : Le (R_X9_faultOfMentor_0 l G F Q QX) (Wj true l G F Y_X9_faultOfMentor Q QX 0 0 0) := by
  unfold R_X9_faultOfMentor_0
  refine r_iload_n (pc := 0) ?_ dX9_faultOfMentor_0 rfl
  refine r_iconst (pc := 1) ?_ dX9_faultOfMentor_1 (by decide)
  refine r_bipush (pc := 2) ?_ dX9_faultOfMentor_2 (by decide)
  refine r_cs0 (pc := 4) ?_ dX9_faultOfMentor_4 ok_X9_isWithin wd_2_16 ⟨Nat.le_of_ble_eq_true rfl, Nat.le_of_ble_eq_true rfl⟩ ⟨Nat.le_of_ble_eq_true rfl, Nat.le_of_ble_eq_true rfl⟩ rfl rfl
  refine r_ifeq (pc := 7) (t := 20) ?_ ?_ dX9_faultOfMentor_7 (by decide)
  · refine r_iconst (pc := 20) ?_ dX9_faultOfMentor_20 (by decide)
    exact r_ir dX9_faultOfMentor_21 rfl (Nat.le_of_ble_eq_true rfl) (Nat.le_of_ble_eq_true rfl)
  · refine r_iload_n (pc := 10) ?_ dX9_faultOfMentor_10 rfl
    refine r_iconst (pc := 11) ?_ dX9_faultOfMentor_11 (by decide)
    refine r_bipush (pc := 12) ?_ dX9_faultOfMentor_12 (by decide)
    refine r_cs0 (pc := 14) ?_ dX9_faultOfMentor_14 ok_X9_isWithin wd_2_16 ⟨Nat.le_of_ble_eq_true rfl, Nat.le_of_ble_eq_true rfl⟩ ⟨Nat.le_of_ble_eq_true rfl, Nat.le_of_ble_eq_true rfl⟩ rfl rfl
    refine r_ifne (pc := 17) (t := 22) ?_ ?_ dX9_faultOfMentor_17 (by decide)
    · refine r_aload_n (pc := 22) ?_ dX9_faultOfMentor_22 rfl
      refine r_gp (pc := 23) (kf := 0) ?_ dX9_faultOfMentor_23 cl_X9 (Nat.le_of_ble_eq_true rfl) rfl wd_1_225 pv_X9_0
      refine r_gi (pc := 26) ?_ dX9_faultOfMentor_26 cl_X7 (Nat.le_of_ble_eq_true rfl) rfl wd_1_144
      refine r_bipush (pc := 29) ?_ dX9_faultOfMentor_29 (by decide)
      refine r_icge (pc := 31) (t := 38) ?_ ?_ dX9_faultOfMentor_31 (by decide)
      · refine r_iconst (pc := 38) ?_ dX9_faultOfMentor_38 (by decide)
        exact r_ir dX9_faultOfMentor_39 rfl (Nat.le_of_ble_eq_true rfl) (Nat.le_of_ble_eq_true rfl)
      · refine r_iconst (pc := 34) ?_ dX9_faultOfMentor_34 (by decide)
        refine r_goto (pc := 35) (t := 39) ?_ dX9_faultOfMentor_35 (by decide)
        exact r_ir dX9_faultOfMentor_39 rfl (Nat.le_of_ble_eq_true rfl) (Nat.le_of_ble_eq_true rfl)
    · refine r_iconst (pc := 20) ?_ dX9_faultOfMentor_20 (by decide)
      exact r_ir dX9_faultOfMentor_21 rfl (Nat.le_of_ble_eq_true rfl) (Nat.le_of_ble_eq_true rfl)
abbrev Y_X9_addMentor : YT := (yX9_addMentor, cX9_addMentor, 3, (some .int), 7, 125, 1, 6)
theorem ok_X9_addMentor : okV Y_X9_addMentor 2 := ⟨⟨wd_3_125, wd_1_1, by decide, by decide, by decide +kernel⟩, wd_3_123, wd_3_124⟩
def R_X9_addMentor_0 (l : Launch) (G : GT) (F : FX) (Q : PQ) (QX : PX) : KT := (I_al 0 (I_il 1 (I_il 2 (I_cv (Tr true l G Y_X9_faultOfMentor) 7 3 2 QX (I_cs (Tr true l G Y_X9_refuse) 1 QX (I_al 0 (I_gp 7 3 215 (I_al 0 (I_gp 7 3 1 (I_cv (Tr true l G Y_X8_save) 6 3 1 QX (I_al 0 (I_gp 7 3 1 (I_il 1 (I_il 2 (I_cv (Tr true l G Y_X7_putMentor) 5 9 2 QX (I_ir Q))))))))))))))))
set_option maxRecDepth 100000 in
theorem g_X9_addMentor_0 {l : Launch} {G : GT} {F : FX} {Q : PQ} {QX : PX} : Le (R_X9_addMentor_0 l G F Q QX) (Wj true l G F Y_X9_addMentor Q QX 0 0 0) := by
  unfold R_X9_addMentor_0
  refine r_aload_n (pc := 0) ?_ dX9_addMentor_0 rfl
  refine r_iload_n (pc := 1) ?_ dX9_addMentor_1 rfl
  refine r_iload_n (pc := 2) ?_ dX9_addMentor_2 rfl
  refine r_cv0 (pc := 3) ?_ dX9_addMentor_3 cl_X9 ok_X9_faultOfMentor rfl wd_3_126 ⟨Nat.le_of_ble_eq_true rfl, Nat.le_of_ble_eq_true rfl⟩ ⟨Nat.le_of_ble_eq_true rfl, Nat.le_of_ble_eq_true rfl⟩ rfl rfl
  refine r_cs (pc := 6) ?_ dX9_addMentor_6 ok_X9_refuse wd_2_19 ⟨Nat.le_of_ble_eq_true rfl, Nat.le_of_ble_eq_true rfl⟩ ⟨Nat.le_of_ble_eq_true rfl, Nat.le_of_ble_eq_true rfl⟩
  refine r_aload_n (pc := 9) ?_ dX9_addMentor_9 rfl
  refine r_gp (pc := 10) (kf := 1) ?_ dX9_addMentor_10 cl_X9 (Nat.le_of_ble_eq_true rfl) rfl wd_1_226 pv_X9_1
  refine r_aload_n (pc := 13) ?_ dX9_addMentor_13 rfl
  refine r_gp (pc := 14) (kf := 0) ?_ dX9_addMentor_14 cl_X9 (Nat.le_of_ble_eq_true rfl) rfl wd_1_225 pv_X9_0
  refine r_cv0 (pc := 17) ?_ dX9_addMentor_17 cl_X8 ok_X8_save rfl wd_2_122 ⟨Nat.le_of_ble_eq_true rfl, Nat.le_of_ble_eq_true rfl⟩ ⟨Nat.le_of_ble_eq_true rfl, Nat.le_of_ble_eq_true rfl⟩ rfl rfl
  refine r_aload_n (pc := 20) ?_ dX9_addMentor_20 rfl
  refine r_gp (pc := 21) (kf := 0) ?_ dX9_addMentor_21 cl_X9 (Nat.le_of_ble_eq_true rfl) rfl wd_1_225 pv_X9_0
  refine r_iload_n (pc := 24) ?_ dX9_addMentor_24 rfl
  refine r_iload_n (pc := 25) ?_ dX9_addMentor_25 rfl
  refine r_cv0 (pc := 26) ?_ dX9_addMentor_26 cl_X7 ok_X7_putMentor rfl wd_3_130 ⟨Nat.le_of_ble_eq_true rfl, Nat.le_of_ble_eq_true rfl⟩ ⟨Nat.le_of_ble_eq_true rfl, Nat.le_of_ble_eq_true rfl⟩ rfl rfl
  exact r_ir dX9_addMentor_29 rfl (Nat.le_of_ble_eq_true rfl) (Nat.le_of_ble_eq_true rfl)
abbrev Y_X9_faultOfApprentice : YT := (yX9_faultOfApprentice, cX9_faultOfApprentice, 3, (some .int), 3, 64, 0, 0)
theorem ok_X9_faultOfApprentice : okV Y_X9_faultOfApprentice 2 := ⟨⟨wd_3_148, wd_1_1, by decide, by decide, by decide +kernel⟩, wd_3_147, wp_12⟩
def R_X9_faultOfApprentice_0 (l : Launch) (G : GT) (F : FX) (Q : PQ) (QX : PX) : KT := (I_al 0 (I_gp 7 3 1 (I_il 1 (I_cv (Tr true l G Y_X7_hasTrade) 5 9 1 QX (I_ifeq (I_ic 1 (I_ir Q)) (I_il 2 (I_ic (-1) (I_iceq (Wj true l G F Y_X9_faultOfApprentice Q QX 0 0 29) (I_al 0 (I_gp 7 3 1 (I_il 2 (I_cv (Tr true l G Y_X7_hasMentor) 5 9 1 QX (I_ifne (Wj true l G F Y_X9_faultOfApprentice Q QX 0 0 29) (I_ic 1 (I_ir Q)))))))))))))))
set_option maxRecDepth 100000 in
theorem g_X9_faultOfApprentice_0 {l : Launch} {G : GT} {F : FX} {Q : PQ} {QX : PX} : Le (R_X9_faultOfApprentice_0 l G F Q QX) (Wj true l G F Y_X9_faultOfApprentice Q QX 0 0 0) := by
  unfold R_X9_faultOfApprentice_0
  refine r_aload_n (pc := 0) ?_ dX9_faultOfApprentice_0 rfl
  refine r_gp (pc := 1) (kf := 0) ?_ dX9_faultOfApprentice_1 cl_X9 (Nat.le_of_ble_eq_true rfl) rfl wd_1_225 pv_X9_0
  refine r_iload_n (pc := 4) ?_ dX9_faultOfApprentice_4 rfl
  refine r_cv0 (pc := 5) ?_ dX9_faultOfApprentice_5 cl_X7 ok_X7_hasTrade rfl wd_3_149 ⟨Nat.le_of_ble_eq_true rfl, Nat.le_of_ble_eq_true rfl⟩ ⟨Nat.le_of_ble_eq_true rfl, Nat.le_of_ble_eq_true rfl⟩ rfl rfl
  refine r_ifeq (pc := 8) (t := 27) ?_ ?_ dX9_faultOfApprentice_8 (by decide)
  · refine r_iconst (pc := 27) ?_ dX9_faultOfApprentice_27 (by decide)
    exact r_ir dX9_faultOfApprentice_28 rfl (Nat.le_of_ble_eq_true rfl) (Nat.le_of_ble_eq_true rfl)
  · refine r_iload_n (pc := 11) ?_ dX9_faultOfApprentice_11 rfl
    refine r_iconst (pc := 12) ?_ dX9_faultOfApprentice_12 (by decide)
    refine r_iceq (pc := 13) (t := 29) ?_ ?_ dX9_faultOfApprentice_13 (by decide)
    · exact Le.rf
    · refine r_aload_n (pc := 16) ?_ dX9_faultOfApprentice_16 rfl
      refine r_gp (pc := 17) (kf := 0) ?_ dX9_faultOfApprentice_17 cl_X9 (Nat.le_of_ble_eq_true rfl) rfl wd_1_225 pv_X9_0
      refine r_iload_n (pc := 20) ?_ dX9_faultOfApprentice_20 rfl
      refine r_cv0 (pc := 21) ?_ dX9_faultOfApprentice_21 cl_X7 ok_X7_hasMentor rfl wd_3_19 ⟨Nat.le_of_ble_eq_true rfl, Nat.le_of_ble_eq_true rfl⟩ ⟨Nat.le_of_ble_eq_true rfl, Nat.le_of_ble_eq_true rfl⟩ rfl rfl
      refine r_ifne (pc := 24) (t := 29) ?_ ?_ dX9_faultOfApprentice_24 (by decide)
      · exact Le.rf
      · refine r_iconst (pc := 27) ?_ dX9_faultOfApprentice_27 (by decide)
        exact r_ir dX9_faultOfApprentice_28 rfl (Nat.le_of_ble_eq_true rfl) (Nat.le_of_ble_eq_true rfl)
def R_X9_faultOfApprentice_29 (l : Launch) (G : GT) (F : FX) (Q : PQ) (QX : PX) : KT := (I_al 0 (I_gp 7 3 1 (I_gi 5 7 9 (I_ic 10 (I_iclt (I_il 2 (I_ic (-1) (I_icne (I_al 0 (I_gp 7 3 1 (I_il 2 (I_il 1 (I_cv (Tr true l G Y_X7_teaches) 5 9 2 QX (I_ifeq (I_ic 3 (I_ir Q)) (I_al 0 (I_gp 7 3 1 (I_il 2 (I_cv (Tr true l G Y_X7_isFull) 5 9 1 QX (I_ifne (I_ic 3 (I_ir Q)) (I_ic 0 (I_ir Q))))))))))))) (I_ic 0 (I_ir Q))))) (I_ic 3 (I_ir Q)))))))
set_option maxRecDepth 100000 in
theorem g_X9_faultOfApprentice_29 {l : Launch} {G : GT} {F : FX} {Q : PQ} {QX : PX} : Le (R_X9_faultOfApprentice_29 l G F Q QX) (Wj true l G F Y_X9_faultOfApprentice Q QX 0 0 29) := by
  unfold R_X9_faultOfApprentice_29
  refine r_aload_n (pc := 29) ?_ dX9_faultOfApprentice_29 rfl
  refine r_gp (pc := 30) (kf := 0) ?_ dX9_faultOfApprentice_30 cl_X9 (Nat.le_of_ble_eq_true rfl) rfl wd_1_225 pv_X9_0
  refine r_gi (pc := 33) ?_ dX9_faultOfApprentice_33 cl_X7 (Nat.le_of_ble_eq_true rfl) rfl wd_1_146
  refine r_bipush (pc := 36) ?_ dX9_faultOfApprentice_36 (by decide)
  refine r_iclt (pc := 38) (t := 43) ?_ ?_ dX9_faultOfApprentice_38 (by decide)
  · refine r_iload_n (pc := 43) ?_ dX9_faultOfApprentice_43 rfl
    refine r_iconst (pc := 44) ?_ dX9_faultOfApprentice_44 (by decide)
    refine r_icne (pc := 45) (t := 50) ?_ ?_ dX9_faultOfApprentice_45 (by decide)
    · refine r_aload_n (pc := 50) ?_ dX9_faultOfApprentice_50 rfl
      refine r_gp (pc := 51) (kf := 0) ?_ dX9_faultOfApprentice_51 cl_X9 (Nat.le_of_ble_eq_true rfl) rfl wd_1_225 pv_X9_0
      refine r_iload_n (pc := 54) ?_ dX9_faultOfApprentice_54 rfl
      refine r_iload_n (pc := 55) ?_ dX9_faultOfApprentice_55 rfl
      refine r_cv0 (pc := 56) ?_ dX9_faultOfApprentice_56 cl_X7 ok_X7_teaches rfl wd_3_153 ⟨Nat.le_of_ble_eq_true rfl, Nat.le_of_ble_eq_true rfl⟩ ⟨Nat.le_of_ble_eq_true rfl, Nat.le_of_ble_eq_true rfl⟩ rfl rfl
      refine r_ifeq (pc := 59) (t := 77) ?_ ?_ dX9_faultOfApprentice_59 (by decide)
      · refine r_iconst (pc := 77) ?_ dX9_faultOfApprentice_77 (by decide)
        exact r_ir dX9_faultOfApprentice_78 rfl (Nat.le_of_ble_eq_true rfl) (Nat.le_of_ble_eq_true rfl)
      · refine r_aload_n (pc := 62) ?_ dX9_faultOfApprentice_62 rfl
        refine r_gp (pc := 63) (kf := 0) ?_ dX9_faultOfApprentice_63 cl_X9 (Nat.le_of_ble_eq_true rfl) rfl wd_1_225 pv_X9_0
        refine r_iload_n (pc := 66) ?_ dX9_faultOfApprentice_66 rfl
        refine r_cv0 (pc := 67) ?_ dX9_faultOfApprentice_67 cl_X7 ok_X7_isFull rfl wd_3_157 ⟨Nat.le_of_ble_eq_true rfl, Nat.le_of_ble_eq_true rfl⟩ ⟨Nat.le_of_ble_eq_true rfl, Nat.le_of_ble_eq_true rfl⟩ rfl rfl
        refine r_ifne (pc := 70) (t := 77) ?_ ?_ dX9_faultOfApprentice_70 (by decide)
        · refine r_iconst (pc := 77) ?_ dX9_faultOfApprentice_77 (by decide)
          exact r_ir dX9_faultOfApprentice_78 rfl (Nat.le_of_ble_eq_true rfl) (Nat.le_of_ble_eq_true rfl)
        · refine r_iconst (pc := 73) ?_ dX9_faultOfApprentice_73 (by decide)
          refine r_goto (pc := 74) (t := 78) ?_ dX9_faultOfApprentice_74 (by decide)
          exact r_ir dX9_faultOfApprentice_78 rfl (Nat.le_of_ble_eq_true rfl) (Nat.le_of_ble_eq_true rfl)
    · refine r_iconst (pc := 48) ?_ dX9_faultOfApprentice_48 (by decide)
      exact r_ir dX9_faultOfApprentice_49 rfl (Nat.le_of_ble_eq_true rfl) (Nat.le_of_ble_eq_true rfl)
  · refine r_iconst (pc := 41) ?_ dX9_faultOfApprentice_41 (by decide)
    exact r_ir dX9_faultOfApprentice_42 rfl (Nat.le_of_ble_eq_true rfl) (Nat.le_of_ble_eq_true rfl)
abbrev Y_X9_addApprentice : YT := (yX9_addApprentice, cX9_addApprentice, 3, (some .int), 7, 125, 1, 6)
theorem ok_X9_addApprentice : okV Y_X9_addApprentice 2 := ⟨⟨wd_3_144, wd_1_1, by decide, by decide, by decide +kernel⟩, wd_3_142, wd_3_143⟩
def R_X9_addApprentice_0 (l : Launch) (G : GT) (F : FX) (Q : PQ) (QX : PX) : KT := (I_al 0 (I_il 1 (I_il 2 (I_cv (Tr true l G Y_X9_faultOfApprentice) 7 3 2 QX (I_cs (Tr true l G Y_X9_refuse) 1 QX (I_al 0 (I_gp 7 3 215 (I_al 0 (I_gp 7 3 1 (I_cv (Tr true l G Y_X8_save) 6 3 1 QX (I_al 0 (I_gp 7 3 1 (I_il 1 (I_il 2 (I_cv (Tr true l G Y_X7_putApprentice) 5 9 2 QX (I_ir Q))))))))))))))))
set_option maxRecDepth 100000 in
theorem g_X9_addApprentice_0 {l : Launch} {G : GT} {F : FX} {Q : PQ} {QX : PX} : Le (R_X9_addApprentice_0 l G F Q QX) (Wj true l G F Y_X9_addApprentice Q QX 0 0 0) := by
  unfold R_X9_addApprentice_0
  refine r_aload_n (pc := 0) ?_ dX9_addApprentice_0 rfl
  refine r_iload_n (pc := 1) ?_ dX9_addApprentice_1 rfl
  refine r_iload_n (pc := 2) ?_ dX9_addApprentice_2 rfl
  refine r_cv0 (pc := 3) ?_ dX9_addApprentice_3 cl_X9 ok_X9_faultOfApprentice rfl wd_3_145 ⟨Nat.le_of_ble_eq_true rfl, Nat.le_of_ble_eq_true rfl⟩ ⟨Nat.le_of_ble_eq_true rfl, Nat.le_of_ble_eq_true rfl⟩ rfl rfl
  refine r_cs (pc := 6) ?_ dX9_addApprentice_6 ok_X9_refuse wd_2_19 ⟨Nat.le_of_ble_eq_true rfl, Nat.le_of_ble_eq_true rfl⟩ ⟨Nat.le_of_ble_eq_true rfl, Nat.le_of_ble_eq_true rfl⟩
  refine r_aload_n (pc := 9) ?_ dX9_addApprentice_9 rfl
  refine r_gp (pc := 10) (kf := 1) ?_ dX9_addApprentice_10 cl_X9 (Nat.le_of_ble_eq_true rfl) rfl wd_1_226 pv_X9_1
  refine r_aload_n (pc := 13) ?_ dX9_addApprentice_13 rfl
  refine r_gp (pc := 14) (kf := 0) ?_ dX9_addApprentice_14 cl_X9 (Nat.le_of_ble_eq_true rfl) rfl wd_1_225 pv_X9_0
  refine r_cv0 (pc := 17) ?_ dX9_addApprentice_17 cl_X8 ok_X8_save rfl wd_2_122 ⟨Nat.le_of_ble_eq_true rfl, Nat.le_of_ble_eq_true rfl⟩ ⟨Nat.le_of_ble_eq_true rfl, Nat.le_of_ble_eq_true rfl⟩ rfl rfl
  refine r_aload_n (pc := 20) ?_ dX9_addApprentice_20 rfl
  refine r_gp (pc := 21) (kf := 0) ?_ dX9_addApprentice_21 cl_X9 (Nat.le_of_ble_eq_true rfl) rfl wd_1_225 pv_X9_0
  refine r_iload_n (pc := 24) ?_ dX9_addApprentice_24 rfl
  refine r_iload_n (pc := 25) ?_ dX9_addApprentice_25 rfl
  refine r_cv0 (pc := 26) ?_ dX9_addApprentice_26 cl_X7 ok_X7_putApprentice rfl wd_3_161 ⟨Nat.le_of_ble_eq_true rfl, Nat.le_of_ble_eq_true rfl⟩ ⟨Nat.le_of_ble_eq_true rfl, Nat.le_of_ble_eq_true rfl⟩ rfl rfl
  exact r_ir dX9_addApprentice_29 rfl (Nat.le_of_ble_eq_true rfl) (Nat.le_of_ble_eq_true rfl)
abbrev Y_X9_faultOfRelease : YT := (yX9_faultOfRelease, cX9_faultOfRelease, 3, (some .int), 3, 64, 0, 0)
theorem ok_X9_faultOfRelease : okV Y_X9_faultOfRelease 2 := ⟨⟨wd_3_183, wd_1_1, by decide, by decide, by decide +kernel⟩, wd_3_182, wp_13⟩
def R_X9_faultOfRelease_0 (l : Launch) (G : GT) (F : FX) (Q : PQ) (QX : PX) : KT := (I_al 0 (I_gp 7 3 1 (I_il 1 (I_cv (Tr true l G Y_X7_hasApprentice) 5 9 1 QX (I_ifne (I_il 2 (I_ic 0 (I_ic 199 (I_cs (Tr true l G Y_X9_isWithin) 3 QX (I_ifne (I_al 0 (I_gp 7 3 1 (I_il 1 (I_il 2 (I_cv (Tr true l G Y_X7_hasWorked) 5 9 2 QX (I_ifeq (I_ic 0 (I_ir Q)) (I_ic 3 (I_ir Q)))))))) (I_ic 2 (I_ir Q))))))) (I_ic 1 (I_ir Q)))))))
set_option maxRecDepth 100000 in
theorem g_X9_faultOfRelease_0 {l : Launch} {G : GT} {F : FX} {Q : PQ} {QX : PX} : Le (R_X9_faultOfRelease_0 l G F Q QX) (Wj true l G F Y_X9_faultOfRelease Q QX 0 0 0) := by
  unfold R_X9_faultOfRelease_0
  refine r_aload_n (pc := 0) ?_ dX9_faultOfRelease_0 rfl
  refine r_gp (pc := 1) (kf := 0) ?_ dX9_faultOfRelease_1 cl_X9 (Nat.le_of_ble_eq_true rfl) rfl wd_1_225 pv_X9_0
  refine r_iload_n (pc := 4) ?_ dX9_faultOfRelease_4 rfl
  refine r_cv0 (pc := 5) ?_ dX9_faultOfRelease_5 cl_X7 ok_X7_hasApprentice rfl wd_3_49 ⟨Nat.le_of_ble_eq_true rfl, Nat.le_of_ble_eq_true rfl⟩ ⟨Nat.le_of_ble_eq_true rfl, Nat.le_of_ble_eq_true rfl⟩ rfl rfl
  refine r_ifne (pc := 8) (t := 13) ?_ ?_ dX9_faultOfRelease_8 (by decide)
  · refine r_iload_n (pc := 13) ?_ dX9_faultOfRelease_13 rfl
    refine r_iconst (pc := 14) ?_ dX9_faultOfRelease_14 (by decide)
    refine r_sipush (pc := 15) ?_ dX9_faultOfRelease_15 (by decide)
    refine r_cs0 (pc := 18) ?_ dX9_faultOfRelease_18 ok_X9_isWithin wd_2_16 ⟨Nat.le_of_ble_eq_true rfl, Nat.le_of_ble_eq_true rfl⟩ ⟨Nat.le_of_ble_eq_true rfl, Nat.le_of_ble_eq_true rfl⟩ rfl rfl
    refine r_ifne (pc := 21) (t := 26) ?_ ?_ dX9_faultOfRelease_21 (by decide)
    · refine r_aload_n (pc := 26) ?_ dX9_faultOfRelease_26 rfl
      refine r_gp (pc := 27) (kf := 0) ?_ dX9_faultOfRelease_27 cl_X9 (Nat.le_of_ble_eq_true rfl) rfl wd_1_225 pv_X9_0
      refine r_iload_n (pc := 30) ?_ dX9_faultOfRelease_30 rfl
      refine r_iload_n (pc := 31) ?_ dX9_faultOfRelease_31 rfl
      refine r_cv0 (pc := 32) ?_ dX9_faultOfRelease_32 cl_X7 ok_X7_hasWorked rfl wd_3_184 ⟨Nat.le_of_ble_eq_true rfl, Nat.le_of_ble_eq_true rfl⟩ ⟨Nat.le_of_ble_eq_true rfl, Nat.le_of_ble_eq_true rfl⟩ rfl rfl
      refine r_ifeq (pc := 35) (t := 42) ?_ ?_ dX9_faultOfRelease_35 (by decide)
      · refine r_iconst (pc := 42) ?_ dX9_faultOfRelease_42 (by decide)
        exact r_ir dX9_faultOfRelease_43 rfl (Nat.le_of_ble_eq_true rfl) (Nat.le_of_ble_eq_true rfl)
      · refine r_iconst (pc := 38) ?_ dX9_faultOfRelease_38 (by decide)
        refine r_goto (pc := 39) (t := 43) ?_ dX9_faultOfRelease_39 (by decide)
        exact r_ir dX9_faultOfRelease_43 rfl (Nat.le_of_ble_eq_true rfl) (Nat.le_of_ble_eq_true rfl)
    · refine r_iconst (pc := 24) ?_ dX9_faultOfRelease_24 (by decide)
      exact r_ir dX9_faultOfRelease_25 rfl (Nat.le_of_ble_eq_true rfl) (Nat.le_of_ble_eq_true rfl)
  · refine r_iconst (pc := 11) ?_ dX9_faultOfRelease_11 (by decide)
    exact r_ir dX9_faultOfRelease_12 rfl (Nat.le_of_ble_eq_true rfl) (Nat.le_of_ble_eq_true rfl)
abbrev Y_X9_release : YT := (yX9_release, cX9_release, 3, (some .int), 7, 125, 1, 6)
theorem ok_X9_release : okV Y_X9_release 2 := ⟨⟨wd_3_179, wd_1_1, by decide, by decide, by decide +kernel⟩, wd_3_177, wd_3_178⟩
def R_X9_release_0 (l : Launch) (G : GT) (F : FX) (Q : PQ) (QX : PX) : KT := (I_al 0 (I_il 1 (I_il 2 (I_cv (Tr true l G Y_X9_faultOfRelease) 7 3 2 QX (I_cs (Tr true l G Y_X9_refuse) 1 QX (I_al 0 (I_gp 7 3 215 (I_al 0 (I_gp 7 3 1 (I_cv (Tr true l G Y_X8_save) 6 3 1 QX (I_al 0 (I_gp 7 3 1 (I_il 1 (I_il 2 (I_cv (Tr true l G Y_X7_putRelease) 5 9 2 QX (I_ir Q))))))))))))))))
set_option maxRecDepth 100000 in
theorem g_X9_release_0 {l : Launch} {G : GT} {F : FX} {Q : PQ} {QX : PX} : Le (R_X9_release_0 l G F Q QX) (Wj true l G F Y_X9_release Q QX 0 0 0) := by
  unfold R_X9_release_0
  refine r_aload_n (pc := 0) ?_ dX9_release_0 rfl
  refine r_iload_n (pc := 1) ?_ dX9_release_1 rfl
  refine r_iload_n (pc := 2) ?_ dX9_release_2 rfl
  refine r_cv0 (pc := 3) ?_ dX9_release_3 cl_X9 ok_X9_faultOfRelease rfl wd_3_180 ⟨Nat.le_of_ble_eq_true rfl, Nat.le_of_ble_eq_true rfl⟩ ⟨Nat.le_of_ble_eq_true rfl, Nat.le_of_ble_eq_true rfl⟩ rfl rfl
  refine r_cs (pc := 6) ?_ dX9_release_6 ok_X9_refuse wd_2_19 ⟨Nat.le_of_ble_eq_true rfl, Nat.le_of_ble_eq_true rfl⟩ ⟨Nat.le_of_ble_eq_true rfl, Nat.le_of_ble_eq_true rfl⟩
  refine r_aload_n (pc := 9) ?_ dX9_release_9 rfl
  refine r_gp (pc := 10) (kf := 1) ?_ dX9_release_10 cl_X9 (Nat.le_of_ble_eq_true rfl) rfl wd_1_226 pv_X9_1
  refine r_aload_n (pc := 13) ?_ dX9_release_13 rfl
  refine r_gp (pc := 14) (kf := 0) ?_ dX9_release_14 cl_X9 (Nat.le_of_ble_eq_true rfl) rfl wd_1_225 pv_X9_0
  refine r_cv0 (pc := 17) ?_ dX9_release_17 cl_X8 ok_X8_save rfl wd_2_122 ⟨Nat.le_of_ble_eq_true rfl, Nat.le_of_ble_eq_true rfl⟩ ⟨Nat.le_of_ble_eq_true rfl, Nat.le_of_ble_eq_true rfl⟩ rfl rfl
  refine r_aload_n (pc := 20) ?_ dX9_release_20 rfl
  refine r_gp (pc := 21) (kf := 0) ?_ dX9_release_21 cl_X9 (Nat.le_of_ble_eq_true rfl) rfl wd_1_225 pv_X9_0
  refine r_iload_n (pc := 24) ?_ dX9_release_24 rfl
  refine r_iload_n (pc := 25) ?_ dX9_release_25 rfl
  refine r_cv0 (pc := 26) ?_ dX9_release_26 cl_X7 ok_X7_putRelease rfl wd_3_189 ⟨Nat.le_of_ble_eq_true rfl, Nat.le_of_ble_eq_true rfl⟩ ⟨Nat.le_of_ble_eq_true rfl, Nat.le_of_ble_eq_true rfl⟩ rfl rfl
  exact r_ir dX9_release_29 rfl (Nat.le_of_ble_eq_true rfl) (Nat.le_of_ble_eq_true rfl)
abbrev Y_X9_faultOfLog : YT := (yX9_faultOfLog, cX9_faultOfLog, 4, (some .int), 3, 65, 0, 0)
theorem ok_X9_faultOfLog : okV Y_X9_faultOfLog 3 := ⟨⟨wd_3_207, wd_1_1, by decide, by decide, by decide +kernel⟩, wd_3_206, wp_14⟩
def R_X9_faultOfLog_0 (l : Launch) (G : GT) (F : FX) (Q : PQ) (QX : PX) : KT := (I_al 0 (I_gp 7 3 1 (I_il 1 (I_cv (Tr true l G Y_X7_hasApprentice) 5 9 1 QX (I_ifne (I_il 2 (I_cs (Tr true l G Y_X9_isPart) 1 QX (I_ifeq (I_ic 2 (I_ir Q)) (I_il 3 (I_ic 1 (I_ic 12 (I_cs (Tr true l G Y_X9_isWithin) 3 QX (I_ifne (I_al 0 (I_gp 7 3 1 (I_il 1 (I_il 3 (I_cv (Tr true l G Y_X7_canWork) 5 9 2 QX (I_ifeq (I_ic 3 (I_ir Q)) (I_ic 0 (I_ir Q)))))))) (I_ic 2 (I_ir Q)))))))))) (I_ic 1 (I_ir Q)))))))
set_option maxRecDepth 100000 in
theorem g_X9_faultOfLog_0 {l : Launch} {G : GT} {F : FX} {Q : PQ} {QX : PX} : Le (R_X9_faultOfLog_0 l G F Q QX) (Wj true l G F Y_X9_faultOfLog Q QX 0 0 0) := by
  unfold R_X9_faultOfLog_0
  refine r_aload_n (pc := 0) ?_ dX9_faultOfLog_0 rfl
  refine r_gp (pc := 1) (kf := 0) ?_ dX9_faultOfLog_1 cl_X9 (Nat.le_of_ble_eq_true rfl) rfl wd_1_225 pv_X9_0
  refine r_iload_n (pc := 4) ?_ dX9_faultOfLog_4 rfl
  refine r_cv0 (pc := 5) ?_ dX9_faultOfLog_5 cl_X7 ok_X7_hasApprentice rfl wd_3_49 ⟨Nat.le_of_ble_eq_true rfl, Nat.le_of_ble_eq_true rfl⟩ ⟨Nat.le_of_ble_eq_true rfl, Nat.le_of_ble_eq_true rfl⟩ rfl rfl
  refine r_ifne (pc := 8) (t := 13) ?_ ?_ dX9_faultOfLog_8 (by decide)
  · refine r_iload_n (pc := 13) ?_ dX9_faultOfLog_13 rfl
    refine r_cs0 (pc := 14) ?_ dX9_faultOfLog_14 ok_X9_isPart wd_3_73 ⟨Nat.le_of_ble_eq_true rfl, Nat.le_of_ble_eq_true rfl⟩ ⟨Nat.le_of_ble_eq_true rfl, Nat.le_of_ble_eq_true rfl⟩ rfl rfl
    refine r_ifeq (pc := 17) (t := 30) ?_ ?_ dX9_faultOfLog_17 (by decide)
    · refine r_iconst (pc := 30) ?_ dX9_faultOfLog_30 (by decide)
      exact r_ir dX9_faultOfLog_31 rfl (Nat.le_of_ble_eq_true rfl) (Nat.le_of_ble_eq_true rfl)
    · refine r_iload_n (pc := 20) ?_ dX9_faultOfLog_20 rfl
      refine r_iconst (pc := 21) ?_ dX9_faultOfLog_21 (by decide)
      refine r_bipush (pc := 22) ?_ dX9_faultOfLog_22 (by decide)
      refine r_cs0 (pc := 24) ?_ dX9_faultOfLog_24 ok_X9_isWithin wd_2_16 ⟨Nat.le_of_ble_eq_true rfl, Nat.le_of_ble_eq_true rfl⟩ ⟨Nat.le_of_ble_eq_true rfl, Nat.le_of_ble_eq_true rfl⟩ rfl rfl
      refine r_ifne (pc := 27) (t := 32) ?_ ?_ dX9_faultOfLog_27 (by decide)
      · refine r_aload_n (pc := 32) ?_ dX9_faultOfLog_32 rfl
        refine r_gp (pc := 33) (kf := 0) ?_ dX9_faultOfLog_33 cl_X9 (Nat.le_of_ble_eq_true rfl) rfl wd_1_225 pv_X9_0
        refine r_iload_n (pc := 36) ?_ dX9_faultOfLog_36 rfl
        refine r_iload_n (pc := 37) ?_ dX9_faultOfLog_37 rfl
        refine r_cv0 (pc := 38) ?_ dX9_faultOfLog_38 cl_X7 ok_X7_canWork rfl wd_3_208 ⟨Nat.le_of_ble_eq_true rfl, Nat.le_of_ble_eq_true rfl⟩ ⟨Nat.le_of_ble_eq_true rfl, Nat.le_of_ble_eq_true rfl⟩ rfl rfl
        refine r_ifeq (pc := 41) (t := 48) ?_ ?_ dX9_faultOfLog_41 (by decide)
        · refine r_iconst (pc := 48) ?_ dX9_faultOfLog_48 (by decide)
          exact r_ir dX9_faultOfLog_49 rfl (Nat.le_of_ble_eq_true rfl) (Nat.le_of_ble_eq_true rfl)
        · refine r_iconst (pc := 44) ?_ dX9_faultOfLog_44 (by decide)
          refine r_goto (pc := 45) (t := 49) ?_ dX9_faultOfLog_45 (by decide)
          exact r_ir dX9_faultOfLog_49 rfl (Nat.le_of_ble_eq_true rfl) (Nat.le_of_ble_eq_true rfl)
      · refine r_iconst (pc := 30) ?_ dX9_faultOfLog_30 (by decide)
        exact r_ir dX9_faultOfLog_31 rfl (Nat.le_of_ble_eq_true rfl) (Nat.le_of_ble_eq_true rfl)
  · refine r_iconst (pc := 11) ?_ dX9_faultOfLog_11 (by decide)
    exact r_ir dX9_faultOfLog_12 rfl (Nat.le_of_ble_eq_true rfl) (Nat.le_of_ble_eq_true rfl)
abbrev Y_X9_log : YT := (yX9_log, cX9_log, 4, (some .int), 7, 125, 1, 6)
theorem ok_X9_log : okV Y_X9_log 3 := ⟨⟨wd_3_203, wd_1_1, by decide, by decide, by decide +kernel⟩, wd_3_201, wd_3_202⟩
def R_X9_log_0 (l : Launch) (G : GT) (F : FX) (Q : PQ) (QX : PX) : KT := (I_al 0 (I_il 1 (I_il 2 (I_il 3 (I_cv (Tr true l G Y_X9_faultOfLog) 7 3 3 QX (I_cs (Tr true l G Y_X9_refuse) 1 QX (I_al 0 (I_gp 7 3 215 (I_al 0 (I_gp 7 3 1 (I_cv (Tr true l G Y_X8_save) 6 3 1 QX (I_al 0 (I_gp 7 3 1 (I_il 1 (I_il 2 (I_il 3 (I_cv (Tr true l G Y_X7_putWork) 5 9 3 QX (I_ir Q))))))))))))))))))
set_option maxRecDepth 100000 in
theorem g_X9_log_0 {l : Launch} {G : GT} {F : FX} {Q : PQ} {QX : PX} : Le (R_X9_log_0 l G F Q QX) (Wj true l G F Y_X9_log Q QX 0 0 0) := by
  unfold R_X9_log_0
  refine r_aload_n (pc := 0) ?_ dX9_log_0 rfl
  refine r_iload_n (pc := 1) ?_ dX9_log_1 rfl
  refine r_iload_n (pc := 2) ?_ dX9_log_2 rfl
  refine r_iload_n (pc := 3) ?_ dX9_log_3 rfl
  refine r_cv0 (pc := 4) ?_ dX9_log_4 cl_X9 ok_X9_faultOfLog rfl wd_3_204 ⟨Nat.le_of_ble_eq_true rfl, Nat.le_of_ble_eq_true rfl⟩ ⟨Nat.le_of_ble_eq_true rfl, Nat.le_of_ble_eq_true rfl⟩ rfl rfl
  refine r_cs (pc := 7) ?_ dX9_log_7 ok_X9_refuse wd_2_19 ⟨Nat.le_of_ble_eq_true rfl, Nat.le_of_ble_eq_true rfl⟩ ⟨Nat.le_of_ble_eq_true rfl, Nat.le_of_ble_eq_true rfl⟩
  refine r_aload_n (pc := 10) ?_ dX9_log_10 rfl
  refine r_gp (pc := 11) (kf := 1) ?_ dX9_log_11 cl_X9 (Nat.le_of_ble_eq_true rfl) rfl wd_1_226 pv_X9_1
  refine r_aload_n (pc := 14) ?_ dX9_log_14 rfl
  refine r_gp (pc := 15) (kf := 0) ?_ dX9_log_15 cl_X9 (Nat.le_of_ble_eq_true rfl) rfl wd_1_225 pv_X9_0
  refine r_cv0 (pc := 18) ?_ dX9_log_18 cl_X8 ok_X8_save rfl wd_2_122 ⟨Nat.le_of_ble_eq_true rfl, Nat.le_of_ble_eq_true rfl⟩ ⟨Nat.le_of_ble_eq_true rfl, Nat.le_of_ble_eq_true rfl⟩ rfl rfl
  refine r_aload_n (pc := 21) ?_ dX9_log_21 rfl
  refine r_gp (pc := 22) (kf := 0) ?_ dX9_log_22 cl_X9 (Nat.le_of_ble_eq_true rfl) rfl wd_1_225 pv_X9_0
  refine r_iload_n (pc := 25) ?_ dX9_log_25 rfl
  refine r_iload_n (pc := 26) ?_ dX9_log_26 rfl
  refine r_iload_n (pc := 27) ?_ dX9_log_27 rfl
  refine r_cv0 (pc := 28) ?_ dX9_log_28 cl_X7 ok_X7_putWork rfl wd_3_217 ⟨Nat.le_of_ble_eq_true rfl, Nat.le_of_ble_eq_true rfl⟩ ⟨Nat.le_of_ble_eq_true rfl, Nat.le_of_ble_eq_true rfl⟩ rfl rfl
  exact r_ir dX9_log_31 rfl (Nat.le_of_ble_eq_true rfl) (Nat.le_of_ble_eq_true rfl)
abbrev Y_X9_faultOfConfirm : YT := (yX9_faultOfConfirm, cX9_faultOfConfirm, 3, (some .int), 4, 96, 0, 0)
theorem ok_X9_faultOfConfirm : okV Y_X9_faultOfConfirm 2 := ⟨⟨wd_3_236, wd_1_1, by decide, by decide, by decide +kernel⟩, wd_3_235, wp_15⟩
def R_X9_faultOfConfirm_0 (l : Launch) (G : GT) (F : FX) (Q : PQ) (QX : PX) : KT := (I_al 0 (I_gp 7 3 1 (I_il 1 (I_cv (Tr true l G Y_X7_hasMentor) 5 9 1 QX (I_ifne (I_il 2 (I_ic 1 (I_ic 99 (I_cs (Tr true l G Y_X9_isWithin) 3 QX (I_ifne (I_al 0 (I_gp 7 3 1 (I_il 1 (I_il 2 (I_cv (Tr true l G Y_X7_canConfirm) 5 9 2 QX (I_ifeq (I_ic 3 (I_ir Q)) (I_ic 0 (I_ir Q)))))))) (I_ic 2 (I_ir Q))))))) (I_ic 1 (I_ir Q)))))))
set_option maxRecDepth 100000 in
theorem g_X9_faultOfConfirm_0 {l : Launch} {G : GT} {F : FX} {Q : PQ} {QX : PX} : Le (R_X9_faultOfConfirm_0 l G F Q QX) (Wj true l G F Y_X9_faultOfConfirm Q QX 0 0 0) := by
  unfold R_X9_faultOfConfirm_0
  refine r_aload_n (pc := 0) ?_ dX9_faultOfConfirm_0 rfl
  refine r_gp (pc := 1) (kf := 0) ?_ dX9_faultOfConfirm_1 cl_X9 (Nat.le_of_ble_eq_true rfl) rfl wd_1_225 pv_X9_0
  refine r_iload_n (pc := 4) ?_ dX9_faultOfConfirm_4 rfl
  refine r_cv0 (pc := 5) ?_ dX9_faultOfConfirm_5 cl_X7 ok_X7_hasMentor rfl wd_3_19 ⟨Nat.le_of_ble_eq_true rfl, Nat.le_of_ble_eq_true rfl⟩ ⟨Nat.le_of_ble_eq_true rfl, Nat.le_of_ble_eq_true rfl⟩ rfl rfl
  refine r_ifne (pc := 8) (t := 13) ?_ ?_ dX9_faultOfConfirm_8 (by decide)
  · refine r_iload_n (pc := 13) ?_ dX9_faultOfConfirm_13 rfl
    refine r_iconst (pc := 14) ?_ dX9_faultOfConfirm_14 (by decide)
    refine r_bipush (pc := 15) ?_ dX9_faultOfConfirm_15 (by decide)
    refine r_cs0 (pc := 17) ?_ dX9_faultOfConfirm_17 ok_X9_isWithin wd_2_16 ⟨Nat.le_of_ble_eq_true rfl, Nat.le_of_ble_eq_true rfl⟩ ⟨Nat.le_of_ble_eq_true rfl, Nat.le_of_ble_eq_true rfl⟩ rfl rfl
    refine r_ifne (pc := 20) (t := 25) ?_ ?_ dX9_faultOfConfirm_20 (by decide)
    · refine r_aload_n (pc := 25) ?_ dX9_faultOfConfirm_25 rfl
      refine r_gp (pc := 26) (kf := 0) ?_ dX9_faultOfConfirm_26 cl_X9 (Nat.le_of_ble_eq_true rfl) rfl wd_1_225 pv_X9_0
      refine r_iload_n (pc := 29) ?_ dX9_faultOfConfirm_29 rfl
      refine r_iload_n (pc := 30) ?_ dX9_faultOfConfirm_30 rfl
      refine r_cv0 (pc := 31) ?_ dX9_faultOfConfirm_31 cl_X7 ok_X7_canConfirm rfl wd_3_237 ⟨Nat.le_of_ble_eq_true rfl, Nat.le_of_ble_eq_true rfl⟩ ⟨Nat.le_of_ble_eq_true rfl, Nat.le_of_ble_eq_true rfl⟩ rfl rfl
      refine r_ifeq (pc := 34) (t := 41) ?_ ?_ dX9_faultOfConfirm_34 (by decide)
      · refine r_iconst (pc := 41) ?_ dX9_faultOfConfirm_41 (by decide)
        exact r_ir dX9_faultOfConfirm_42 rfl (Nat.le_of_ble_eq_true rfl) (Nat.le_of_ble_eq_true rfl)
      · refine r_iconst (pc := 37) ?_ dX9_faultOfConfirm_37 (by decide)
        refine r_goto (pc := 38) (t := 42) ?_ dX9_faultOfConfirm_38 (by decide)
        exact r_ir dX9_faultOfConfirm_42 rfl (Nat.le_of_ble_eq_true rfl) (Nat.le_of_ble_eq_true rfl)
    · refine r_iconst (pc := 23) ?_ dX9_faultOfConfirm_23 (by decide)
      exact r_ir dX9_faultOfConfirm_24 rfl (Nat.le_of_ble_eq_true rfl) (Nat.le_of_ble_eq_true rfl)
  · refine r_iconst (pc := 11) ?_ dX9_faultOfConfirm_11 (by decide)
    exact r_ir dX9_faultOfConfirm_12 rfl (Nat.le_of_ble_eq_true rfl) (Nat.le_of_ble_eq_true rfl)
abbrev Y_X9_confirm : YT := (yX9_confirm, cX9_confirm, 3, (some .int), 7, 125, 1, 6)
theorem ok_X9_confirm : okV Y_X9_confirm 2 := ⟨⟨wd_3_232, wd_1_1, by decide, by decide, by decide +kernel⟩, wd_3_230, wd_3_231⟩
def R_X9_confirm_0 (l : Launch) (G : GT) (F : FX) (Q : PQ) (QX : PX) : KT := (I_al 0 (I_il 1 (I_il 2 (I_cv (Tr true l G Y_X9_faultOfConfirm) 7 3 2 QX (I_cs (Tr true l G Y_X9_refuse) 1 QX (I_al 0 (I_gp 7 3 215 (I_al 0 (I_gp 7 3 1 (I_cv (Tr true l G Y_X8_save) 6 3 1 QX (I_al 0 (I_gp 7 3 1 (I_il 1 (I_il 2 (I_cv (Tr true l G Y_X7_confirmPending) 5 9 2 QX (I_ir Q))))))))))))))))
set_option maxRecDepth 100000 in
theorem g_X9_confirm_0 {l : Launch} {G : GT} {F : FX} {Q : PQ} {QX : PX} : Le (R_X9_confirm_0 l G F Q QX) (Wj true l G F Y_X9_confirm Q QX 0 0 0) := by
  unfold R_X9_confirm_0
  refine r_aload_n (pc := 0) ?_ dX9_confirm_0 rfl
  refine r_iload_n (pc := 1) ?_ dX9_confirm_1 rfl
  refine r_iload_n (pc := 2) ?_ dX9_confirm_2 rfl
  refine r_cv0 (pc := 3) ?_ dX9_confirm_3 cl_X9 ok_X9_faultOfConfirm rfl wd_3_233 ⟨Nat.le_of_ble_eq_true rfl, Nat.le_of_ble_eq_true rfl⟩ ⟨Nat.le_of_ble_eq_true rfl, Nat.le_of_ble_eq_true rfl⟩ rfl rfl
  refine r_cs (pc := 6) ?_ dX9_confirm_6 ok_X9_refuse wd_2_19 ⟨Nat.le_of_ble_eq_true rfl, Nat.le_of_ble_eq_true rfl⟩ ⟨Nat.le_of_ble_eq_true rfl, Nat.le_of_ble_eq_true rfl⟩
  refine r_aload_n (pc := 9) ?_ dX9_confirm_9 rfl
  refine r_gp (pc := 10) (kf := 1) ?_ dX9_confirm_10 cl_X9 (Nat.le_of_ble_eq_true rfl) rfl wd_1_226 pv_X9_1
  refine r_aload_n (pc := 13) ?_ dX9_confirm_13 rfl
  refine r_gp (pc := 14) (kf := 0) ?_ dX9_confirm_14 cl_X9 (Nat.le_of_ble_eq_true rfl) rfl wd_1_225 pv_X9_0
  refine r_cv0 (pc := 17) ?_ dX9_confirm_17 cl_X8 ok_X8_save rfl wd_2_122 ⟨Nat.le_of_ble_eq_true rfl, Nat.le_of_ble_eq_true rfl⟩ ⟨Nat.le_of_ble_eq_true rfl, Nat.le_of_ble_eq_true rfl⟩ rfl rfl
  refine r_aload_n (pc := 20) ?_ dX9_confirm_20 rfl
  refine r_gp (pc := 21) (kf := 0) ?_ dX9_confirm_21 cl_X9 (Nat.le_of_ble_eq_true rfl) rfl wd_1_225 pv_X9_0
  refine r_iload_n (pc := 24) ?_ dX9_confirm_24 rfl
  refine r_iload_n (pc := 25) ?_ dX9_confirm_25 rfl
  refine r_cv0 (pc := 26) ?_ dX9_confirm_26 cl_X7 ok_X7_confirmPending rfl wd_4_18 ⟨Nat.le_of_ble_eq_true rfl, Nat.le_of_ble_eq_true rfl⟩ ⟨Nat.le_of_ble_eq_true rfl, Nat.le_of_ble_eq_true rfl⟩ rfl rfl
  exact r_ir dX9_confirm_29 rfl (Nat.le_of_ble_eq_true rfl) (Nat.le_of_ble_eq_true rfl)
abbrev Y_X9_faultOfDoubt : YT := (yX9_faultOfDoubt, cX9_faultOfDoubt, 3, (some .int), 3, 65, 0, 0)
theorem ok_X9_faultOfDoubt : okV Y_X9_faultOfDoubt 1 := ⟨⟨wd_4_40, wd_1_1, by decide, by decide, by decide +kernel⟩, wd_4_39, wp_16⟩
def R_X9_faultOfDoubt_0 (l : Launch) (G : GT) (F : FX) (Q : PQ) (QX : PX) : KT := (I_al 0 (I_gp 7 3 1 (I_il 1 (I_cv (Tr true l G Y_X7_hasApprentice) 5 9 1 QX (I_ifne (I_al 0 (I_gp 7 3 1 (I_il 1 (I_cv (Tr true l G Y_X7_mentorOf) 5 9 1 QX (I_ic (-1) (I_iceq (I_ic 0 (I_is 2 (I_il 2 (I_ifeq (I_ic 3 (I_ir Q)) (I_ic 0 (I_ir Q)))))) (I_al 0 (I_gp 7 3 1 (I_il 1 (I_ic 0 (I_cv (Tr true l G Y_X7_entryCount) 5 9 2 QX (I_ifle (I_ic 0 (I_is 2 (I_il 2 (I_ifeq (I_ic 3 (I_ir Q)) (I_ic 0 (I_ir Q)))))) (I_ic 1 (I_is 2 (I_il 2 (I_ifeq (I_ic 3 (I_ir Q)) (I_ic 0 (I_ir Q)))))))))))))))))) (I_ic 1 (I_ir Q)))))))
set_option maxRecDepth 100000 in
theorem g_X9_faultOfDoubt_0 {l : Launch} {G : GT} {F : FX} {Q : PQ} {QX : PX} : Le (R_X9_faultOfDoubt_0 l G F Q QX) (Wj true l G F Y_X9_faultOfDoubt Q QX 0 0 0) := by
  unfold R_X9_faultOfDoubt_0
  refine r_aload_n (pc := 0) ?_ dX9_faultOfDoubt_0 rfl
  refine r_gp (pc := 1) (kf := 0) ?_ dX9_faultOfDoubt_1 cl_X9 (Nat.le_of_ble_eq_true rfl) rfl wd_1_225 pv_X9_0
  refine r_iload_n (pc := 4) ?_ dX9_faultOfDoubt_4 rfl
  refine r_cv0 (pc := 5) ?_ dX9_faultOfDoubt_5 cl_X7 ok_X7_hasApprentice rfl wd_3_49 ⟨Nat.le_of_ble_eq_true rfl, Nat.le_of_ble_eq_true rfl⟩ ⟨Nat.le_of_ble_eq_true rfl, Nat.le_of_ble_eq_true rfl⟩ rfl rfl
  refine r_ifne (pc := 8) (t := 13) ?_ ?_ dX9_faultOfDoubt_8 (by decide)
  · refine r_aload_n (pc := 13) ?_ dX9_faultOfDoubt_13 rfl
    refine r_gp (pc := 14) (kf := 0) ?_ dX9_faultOfDoubt_14 cl_X9 (Nat.le_of_ble_eq_true rfl) rfl wd_1_225 pv_X9_0
    refine r_iload_n (pc := 17) ?_ dX9_faultOfDoubt_17 rfl
    refine r_cv0 (pc := 18) ?_ dX9_faultOfDoubt_18 cl_X7 ok_X7_mentorOf rfl wd_4_41 ⟨Nat.le_of_ble_eq_true rfl, Nat.le_of_ble_eq_true rfl⟩ ⟨Nat.le_of_ble_eq_true rfl, Nat.le_of_ble_eq_true rfl⟩ rfl rfl
    refine r_iconst (pc := 21) ?_ dX9_faultOfDoubt_21 (by decide)
    refine r_iceq (pc := 22) (t := 41) ?_ ?_ dX9_faultOfDoubt_22 (by decide)
    · refine r_iconst (pc := 41) ?_ dX9_faultOfDoubt_41 (by decide)
      refine r_istore_n (pc := 42) ?_ dX9_faultOfDoubt_42 rfl (Nat.le_of_ble_eq_true rfl)
      refine r_iload_n (pc := 43) ?_ dX9_faultOfDoubt_43 rfl
      refine r_ifeq (pc := 44) (t := 51) ?_ ?_ dX9_faultOfDoubt_44 (by decide)
      · refine r_iconst (pc := 51) ?_ dX9_faultOfDoubt_51 (by decide)
        exact r_ir dX9_faultOfDoubt_52 rfl (Nat.le_of_ble_eq_true rfl) (Nat.le_of_ble_eq_true rfl)
      · refine r_iconst (pc := 47) ?_ dX9_faultOfDoubt_47 (by decide)
        refine r_goto (pc := 48) (t := 52) ?_ dX9_faultOfDoubt_48 (by decide)
        exact r_ir dX9_faultOfDoubt_52 rfl (Nat.le_of_ble_eq_true rfl) (Nat.le_of_ble_eq_true rfl)
    · refine r_aload_n (pc := 25) ?_ dX9_faultOfDoubt_25 rfl
      refine r_gp (pc := 26) (kf := 0) ?_ dX9_faultOfDoubt_26 cl_X9 (Nat.le_of_ble_eq_true rfl) rfl wd_1_225 pv_X9_0
      refine r_iload_n (pc := 29) ?_ dX9_faultOfDoubt_29 rfl
      refine r_iconst (pc := 30) ?_ dX9_faultOfDoubt_30 (by decide)
      refine r_cv0 (pc := 31) ?_ dX9_faultOfDoubt_31 cl_X7 ok_X7_entryCount rfl wd_4_45 ⟨Nat.le_of_ble_eq_true rfl, Nat.le_of_ble_eq_true rfl⟩ ⟨Nat.le_of_ble_eq_true rfl, Nat.le_of_ble_eq_true rfl⟩ rfl rfl
      refine r_ifle (pc := 34) (t := 41) ?_ ?_ dX9_faultOfDoubt_34 (by decide)
      · refine r_iconst (pc := 41) ?_ dX9_faultOfDoubt_41 (by decide)
        refine r_istore_n (pc := 42) ?_ dX9_faultOfDoubt_42 rfl (Nat.le_of_ble_eq_true rfl)
        refine r_iload_n (pc := 43) ?_ dX9_faultOfDoubt_43 rfl
        refine r_ifeq (pc := 44) (t := 51) ?_ ?_ dX9_faultOfDoubt_44 (by decide)
        · refine r_iconst (pc := 51) ?_ dX9_faultOfDoubt_51 (by decide)
          exact r_ir dX9_faultOfDoubt_52 rfl (Nat.le_of_ble_eq_true rfl) (Nat.le_of_ble_eq_true rfl)
        · refine r_iconst (pc := 47) ?_ dX9_faultOfDoubt_47 (by decide)
          refine r_goto (pc := 48) (t := 52) ?_ dX9_faultOfDoubt_48 (by decide)
          exact r_ir dX9_faultOfDoubt_52 rfl (Nat.le_of_ble_eq_true rfl) (Nat.le_of_ble_eq_true rfl)
      · refine r_iconst (pc := 37) ?_ dX9_faultOfDoubt_37 (by decide)
        refine r_goto (pc := 38) (t := 42) ?_ dX9_faultOfDoubt_38 (by decide)
        refine r_istore_n (pc := 42) ?_ dX9_faultOfDoubt_42 rfl (Nat.le_of_ble_eq_true rfl)
        refine r_iload_n (pc := 43) ?_ dX9_faultOfDoubt_43 rfl
        refine r_ifeq (pc := 44) (t := 51) ?_ ?_ dX9_faultOfDoubt_44 (by decide)
        · refine r_iconst (pc := 51) ?_ dX9_faultOfDoubt_51 (by decide)
          exact r_ir dX9_faultOfDoubt_52 rfl (Nat.le_of_ble_eq_true rfl) (Nat.le_of_ble_eq_true rfl)
        · refine r_iconst (pc := 47) ?_ dX9_faultOfDoubt_47 (by decide)
          refine r_goto (pc := 48) (t := 52) ?_ dX9_faultOfDoubt_48 (by decide)
          exact r_ir dX9_faultOfDoubt_52 rfl (Nat.le_of_ble_eq_true rfl) (Nat.le_of_ble_eq_true rfl)
  · refine r_iconst (pc := 11) ?_ dX9_faultOfDoubt_11 (by decide)
    exact r_ir dX9_faultOfDoubt_12 rfl (Nat.le_of_ble_eq_true rfl) (Nat.le_of_ble_eq_true rfl)
abbrev Y_X9_doubt : YT := (yX9_doubt, cX9_doubt, 2, (some .int), 7, 125, 1, 6)
theorem ok_X9_doubt : okV Y_X9_doubt 1 := ⟨⟨wd_4_36, wd_1_1, by decide, by decide, by decide +kernel⟩, wd_4_34, wd_4_35⟩
def R_X9_doubt_0 (l : Launch) (G : GT) (F : FX) (Q : PQ) (QX : PX) : KT := (I_al 0 (I_il 1 (I_cv (Tr true l G Y_X9_faultOfDoubt) 7 3 1 QX (I_cs (Tr true l G Y_X9_refuse) 1 QX (I_al 0 (I_gp 7 3 215 (I_al 0 (I_gp 7 3 1 (I_cv (Tr true l G Y_X8_save) 6 3 1 QX (I_al 0 (I_gp 7 3 1 (I_il 1 (I_cv (Tr true l G Y_X7_doubtOldest) 5 9 1 QX (I_ir Q))))))))))))))
set_option maxRecDepth 100000 in
theorem g_X9_doubt_0 {l : Launch} {G : GT} {F : FX} {Q : PQ} {QX : PX} : Le (R_X9_doubt_0 l G F Q QX) (Wj true l G F Y_X9_doubt Q QX 0 0 0) := by
  unfold R_X9_doubt_0
  refine r_aload_n (pc := 0) ?_ dX9_doubt_0 rfl
  refine r_iload_n (pc := 1) ?_ dX9_doubt_1 rfl
  refine r_cv0 (pc := 2) ?_ dX9_doubt_2 cl_X9 ok_X9_faultOfDoubt rfl wd_4_37 ⟨Nat.le_of_ble_eq_true rfl, Nat.le_of_ble_eq_true rfl⟩ ⟨Nat.le_of_ble_eq_true rfl, Nat.le_of_ble_eq_true rfl⟩ rfl rfl
  refine r_cs (pc := 5) ?_ dX9_doubt_5 ok_X9_refuse wd_2_19 ⟨Nat.le_of_ble_eq_true rfl, Nat.le_of_ble_eq_true rfl⟩ ⟨Nat.le_of_ble_eq_true rfl, Nat.le_of_ble_eq_true rfl⟩
  refine r_aload_n (pc := 8) ?_ dX9_doubt_8 rfl
  refine r_gp (pc := 9) (kf := 1) ?_ dX9_doubt_9 cl_X9 (Nat.le_of_ble_eq_true rfl) rfl wd_1_226 pv_X9_1
  refine r_aload_n (pc := 12) ?_ dX9_doubt_12 rfl
  refine r_gp (pc := 13) (kf := 0) ?_ dX9_doubt_13 cl_X9 (Nat.le_of_ble_eq_true rfl) rfl wd_1_225 pv_X9_0
  refine r_cv0 (pc := 16) ?_ dX9_doubt_16 cl_X8 ok_X8_save rfl wd_2_122 ⟨Nat.le_of_ble_eq_true rfl, Nat.le_of_ble_eq_true rfl⟩ ⟨Nat.le_of_ble_eq_true rfl, Nat.le_of_ble_eq_true rfl⟩ rfl rfl
  refine r_aload_n (pc := 19) ?_ dX9_doubt_19 rfl
  refine r_gp (pc := 20) (kf := 0) ?_ dX9_doubt_20 cl_X9 (Nat.le_of_ble_eq_true rfl) rfl wd_1_225 pv_X9_0
  refine r_iload_n (pc := 23) ?_ dX9_doubt_23 rfl
  refine r_cv0 (pc := 24) ?_ dX9_doubt_24 cl_X7 ok_X7_doubtOldest rfl wd_4_49 ⟨Nat.le_of_ble_eq_true rfl, Nat.le_of_ble_eq_true rfl⟩ ⟨Nat.le_of_ble_eq_true rfl, Nat.le_of_ble_eq_true rfl⟩ rfl rfl
  exact r_ir dX9_doubt_27 rfl (Nat.le_of_ble_eq_true rfl) (Nat.le_of_ble_eq_true rfl)
abbrev Y_X9_faultOfSettle : YT := (yX9_faultOfSettle, cX9_faultOfSettle, 3, (some .int), 3, 68, 0, 0)
theorem ok_X9_faultOfSettle : okV Y_X9_faultOfSettle 2 := ⟨⟨wd_4_64, wd_1_1, by decide, by decide, by decide +kernel⟩, wd_4_63, wp_17⟩
def R_X9_faultOfSettle_0 (l : Launch) (G : GT) (F : FX) (Q : PQ) (QX : PX) : KT := (I_al 0 (I_gp 7 3 1 (I_il 1 (I_cv (Tr true l G Y_X7_hasApprentice) 5 9 1 QX (I_ifne (I_al 0 (I_gp 7 3 1 (I_il 1 (I_il 2 (I_cv (Tr true l G Y_X7_canSettle) 5 9 2 QX (I_ifeq (I_ic 3 (I_ir Q)) (I_ic 0 (I_ir Q)))))))) (I_ic 1 (I_ir Q)))))))
set_option maxRecDepth 100000 in
theorem g_X9_faultOfSettle_0 {l : Launch} {G : GT} {F : FX} {Q : PQ} {QX : PX} : Le (R_X9_faultOfSettle_0 l G F Q QX) (Wj true l G F Y_X9_faultOfSettle Q QX 0 0 0) := by
  unfold R_X9_faultOfSettle_0
  refine r_aload_n (pc := 0) ?_ dX9_faultOfSettle_0 rfl
  refine r_gp (pc := 1) (kf := 0) ?_ dX9_faultOfSettle_1 cl_X9 (Nat.le_of_ble_eq_true rfl) rfl wd_1_225 pv_X9_0
  refine r_iload_n (pc := 4) ?_ dX9_faultOfSettle_4 rfl
  refine r_cv0 (pc := 5) ?_ dX9_faultOfSettle_5 cl_X7 ok_X7_hasApprentice rfl wd_3_49 ⟨Nat.le_of_ble_eq_true rfl, Nat.le_of_ble_eq_true rfl⟩ ⟨Nat.le_of_ble_eq_true rfl, Nat.le_of_ble_eq_true rfl⟩ rfl rfl
  refine r_ifne (pc := 8) (t := 13) ?_ ?_ dX9_faultOfSettle_8 (by decide)
  · refine r_aload_n (pc := 13) ?_ dX9_faultOfSettle_13 rfl
    refine r_gp (pc := 14) (kf := 0) ?_ dX9_faultOfSettle_14 cl_X9 (Nat.le_of_ble_eq_true rfl) rfl wd_1_225 pv_X9_0
    refine r_iload_n (pc := 17) ?_ dX9_faultOfSettle_17 rfl
    refine r_iload_n (pc := 18) ?_ dX9_faultOfSettle_18 rfl
    refine r_cv0 (pc := 19) ?_ dX9_faultOfSettle_19 cl_X7 ok_X7_canSettle rfl wd_4_65 ⟨Nat.le_of_ble_eq_true rfl, Nat.le_of_ble_eq_true rfl⟩ ⟨Nat.le_of_ble_eq_true rfl, Nat.le_of_ble_eq_true rfl⟩ rfl rfl
    refine r_ifeq (pc := 22) (t := 29) ?_ ?_ dX9_faultOfSettle_22 (by decide)
    · refine r_iconst (pc := 29) ?_ dX9_faultOfSettle_29 (by decide)
      exact r_ir dX9_faultOfSettle_30 rfl (Nat.le_of_ble_eq_true rfl) (Nat.le_of_ble_eq_true rfl)
    · refine r_iconst (pc := 25) ?_ dX9_faultOfSettle_25 (by decide)
      refine r_goto (pc := 26) (t := 30) ?_ dX9_faultOfSettle_26 (by decide)
      exact r_ir dX9_faultOfSettle_30 rfl (Nat.le_of_ble_eq_true rfl) (Nat.le_of_ble_eq_true rfl)
  · refine r_iconst (pc := 11) ?_ dX9_faultOfSettle_11 (by decide)
    exact r_ir dX9_faultOfSettle_12 rfl (Nat.le_of_ble_eq_true rfl) (Nat.le_of_ble_eq_true rfl)
abbrev Y_X9_settle : YT := (yX9_settle, cX9_settle, 3, (some .int), 7, 125, 1, 6)
theorem ok_X9_settle : okV Y_X9_settle 2 := ⟨⟨wd_4_60, wd_1_1, by decide, by decide, by decide +kernel⟩, wd_4_58, wd_4_59⟩
def R_X9_settle_0 (l : Launch) (G : GT) (F : FX) (Q : PQ) (QX : PX) : KT := (I_al 0 (I_il 1 (I_il 2 (I_cv (Tr true l G Y_X9_faultOfSettle) 7 3 2 QX (I_cs (Tr true l G Y_X9_refuse) 1 QX (I_al 0 (I_gp 7 3 215 (I_al 0 (I_gp 7 3 1 (I_cv (Tr true l G Y_X8_save) 6 3 1 QX (I_al 0 (I_gp 7 3 1 (I_il 1 (I_il 2 (I_cv (Tr true l G Y_X7_settleOldest) 5 9 2 QX (I_ir Q))))))))))))))))
set_option maxRecDepth 100000 in
theorem g_X9_settle_0 {l : Launch} {G : GT} {F : FX} {Q : PQ} {QX : PX} : Le (R_X9_settle_0 l G F Q QX) (Wj true l G F Y_X9_settle Q QX 0 0 0) := by
  unfold R_X9_settle_0
  refine r_aload_n (pc := 0) ?_ dX9_settle_0 rfl
  refine r_iload_n (pc := 1) ?_ dX9_settle_1 rfl
  refine r_iload_n (pc := 2) ?_ dX9_settle_2 rfl
  refine r_cv0 (pc := 3) ?_ dX9_settle_3 cl_X9 ok_X9_faultOfSettle rfl wd_4_61 ⟨Nat.le_of_ble_eq_true rfl, Nat.le_of_ble_eq_true rfl⟩ ⟨Nat.le_of_ble_eq_true rfl, Nat.le_of_ble_eq_true rfl⟩ rfl rfl
  refine r_cs (pc := 6) ?_ dX9_settle_6 ok_X9_refuse wd_2_19 ⟨Nat.le_of_ble_eq_true rfl, Nat.le_of_ble_eq_true rfl⟩ ⟨Nat.le_of_ble_eq_true rfl, Nat.le_of_ble_eq_true rfl⟩
  refine r_aload_n (pc := 9) ?_ dX9_settle_9 rfl
  refine r_gp (pc := 10) (kf := 1) ?_ dX9_settle_10 cl_X9 (Nat.le_of_ble_eq_true rfl) rfl wd_1_226 pv_X9_1
  refine r_aload_n (pc := 13) ?_ dX9_settle_13 rfl
  refine r_gp (pc := 14) (kf := 0) ?_ dX9_settle_14 cl_X9 (Nat.le_of_ble_eq_true rfl) rfl wd_1_225 pv_X9_0
  refine r_cv0 (pc := 17) ?_ dX9_settle_17 cl_X8 ok_X8_save rfl wd_2_122 ⟨Nat.le_of_ble_eq_true rfl, Nat.le_of_ble_eq_true rfl⟩ ⟨Nat.le_of_ble_eq_true rfl, Nat.le_of_ble_eq_true rfl⟩ rfl rfl
  refine r_aload_n (pc := 20) ?_ dX9_settle_20 rfl
  refine r_gp (pc := 21) (kf := 0) ?_ dX9_settle_21 cl_X9 (Nat.le_of_ble_eq_true rfl) rfl wd_1_225 pv_X9_0
  refine r_iload_n (pc := 24) ?_ dX9_settle_24 rfl
  refine r_iload_n (pc := 25) ?_ dX9_settle_25 rfl
  refine r_cv0 (pc := 26) ?_ dX9_settle_26 cl_X7 ok_X7_settleOldest rfl wd_4_70 ⟨Nat.le_of_ble_eq_true rfl, Nat.le_of_ble_eq_true rfl⟩ ⟨Nat.le_of_ble_eq_true rfl, Nat.le_of_ble_eq_true rfl⟩ rfl rfl
  exact r_ir dX9_settle_29 rfl (Nat.le_of_ble_eq_true rfl) (Nat.le_of_ble_eq_true rfl)
abbrev Y_X9_faultOfCredit : YT := (yX9_faultOfCredit, cX9_faultOfCredit, 4, (some .int), 3, 68, 0, 0)
theorem ok_X9_faultOfCredit : okV Y_X9_faultOfCredit 3 := ⟨⟨wd_4_86, wd_1_1, by decide, by decide, by decide +kernel⟩, wd_4_85, wp_18⟩
def R_X9_faultOfCredit_0 (l : Launch) (G : GT) (F : FX) (Q : PQ) (QX : PX) : KT := (I_al 0 (I_gp 7 3 1 (I_il 1 (I_cv (Tr true l G Y_X7_hasApprentice) 5 9 1 QX (I_ifne (I_il 2 (I_cs (Tr true l G Y_X9_isPart) 1 QX (I_ifne (I_al 0 (I_gp 7 3 1 (I_il 1 (I_il 2 (I_il 3 (I_cv (Tr true l G Y_X7_canCredit) 5 9 3 QX (I_ifeq (I_ic 3 (I_ir Q)) (I_ic 0 (I_ir Q))))))))) (I_ic 2 (I_ir Q))))) (I_ic 1 (I_ir Q)))))))
set_option maxRecDepth 100000 in
theorem g_X9_faultOfCredit_0 {l : Launch} {G : GT} {F : FX} {Q : PQ} {QX : PX} : Le (R_X9_faultOfCredit_0 l G F Q QX) (Wj true l G F Y_X9_faultOfCredit Q QX 0 0 0) := by
  unfold R_X9_faultOfCredit_0
  refine r_aload_n (pc := 0) ?_ dX9_faultOfCredit_0 rfl
  refine r_gp (pc := 1) (kf := 0) ?_ dX9_faultOfCredit_1 cl_X9 (Nat.le_of_ble_eq_true rfl) rfl wd_1_225 pv_X9_0
  refine r_iload_n (pc := 4) ?_ dX9_faultOfCredit_4 rfl
  refine r_cv0 (pc := 5) ?_ dX9_faultOfCredit_5 cl_X7 ok_X7_hasApprentice rfl wd_3_49 ⟨Nat.le_of_ble_eq_true rfl, Nat.le_of_ble_eq_true rfl⟩ ⟨Nat.le_of_ble_eq_true rfl, Nat.le_of_ble_eq_true rfl⟩ rfl rfl
  refine r_ifne (pc := 8) (t := 13) ?_ ?_ dX9_faultOfCredit_8 (by decide)
  · refine r_iload_n (pc := 13) ?_ dX9_faultOfCredit_13 rfl
    refine r_cs0 (pc := 14) ?_ dX9_faultOfCredit_14 ok_X9_isPart wd_3_73 ⟨Nat.le_of_ble_eq_true rfl, Nat.le_of_ble_eq_true rfl⟩ ⟨Nat.le_of_ble_eq_true rfl, Nat.le_of_ble_eq_true rfl⟩ rfl rfl
    refine r_ifne (pc := 17) (t := 22) ?_ ?_ dX9_faultOfCredit_17 (by decide)
    · refine r_aload_n (pc := 22) ?_ dX9_faultOfCredit_22 rfl
      refine r_gp (pc := 23) (kf := 0) ?_ dX9_faultOfCredit_23 cl_X9 (Nat.le_of_ble_eq_true rfl) rfl wd_1_225 pv_X9_0
      refine r_iload_n (pc := 26) ?_ dX9_faultOfCredit_26 rfl
      refine r_iload_n (pc := 27) ?_ dX9_faultOfCredit_27 rfl
      refine r_iload_n (pc := 28) ?_ dX9_faultOfCredit_28 rfl
      refine r_cv0 (pc := 29) ?_ dX9_faultOfCredit_29 cl_X7 ok_X7_canCredit rfl wd_4_87 ⟨Nat.le_of_ble_eq_true rfl, Nat.le_of_ble_eq_true rfl⟩ ⟨Nat.le_of_ble_eq_true rfl, Nat.le_of_ble_eq_true rfl⟩ rfl rfl
      refine r_ifeq (pc := 32) (t := 39) ?_ ?_ dX9_faultOfCredit_32 (by decide)
      · refine r_iconst (pc := 39) ?_ dX9_faultOfCredit_39 (by decide)
        exact r_ir dX9_faultOfCredit_40 rfl (Nat.le_of_ble_eq_true rfl) (Nat.le_of_ble_eq_true rfl)
      · refine r_iconst (pc := 35) ?_ dX9_faultOfCredit_35 (by decide)
        refine r_goto (pc := 36) (t := 40) ?_ dX9_faultOfCredit_36 (by decide)
        exact r_ir dX9_faultOfCredit_40 rfl (Nat.le_of_ble_eq_true rfl) (Nat.le_of_ble_eq_true rfl)
    · refine r_iconst (pc := 20) ?_ dX9_faultOfCredit_20 (by decide)
      exact r_ir dX9_faultOfCredit_21 rfl (Nat.le_of_ble_eq_true rfl) (Nat.le_of_ble_eq_true rfl)
  · refine r_iconst (pc := 11) ?_ dX9_faultOfCredit_11 (by decide)
    exact r_ir dX9_faultOfCredit_12 rfl (Nat.le_of_ble_eq_true rfl) (Nat.le_of_ble_eq_true rfl)
abbrev Y_X9_credit : YT := (yX9_credit, cX9_credit, 4, (some .int), 7, 125, 1, 6)
theorem ok_X9_credit : okV Y_X9_credit 3 := ⟨⟨wd_4_82, wd_1_1, by decide, by decide, by decide +kernel⟩, wd_4_80, wd_4_81⟩
def R_X9_credit_0 (l : Launch) (G : GT) (F : FX) (Q : PQ) (QX : PX) : KT := (I_al 0 (I_il 1 (I_il 2 (I_il 3 (I_cv (Tr true l G Y_X9_faultOfCredit) 7 3 3 QX (I_cs (Tr true l G Y_X9_refuse) 1 QX (I_al 0 (I_gp 7 3 215 (I_al 0 (I_gp 7 3 1 (I_cv (Tr true l G Y_X8_save) 6 3 1 QX (I_al 0 (I_gp 7 3 1 (I_il 1 (I_il 2 (I_il 3 (I_cv (Tr true l G Y_X7_putCredit) 5 9 3 QX (I_ir Q))))))))))))))))))
set_option maxRecDepth 100000 in
theorem g_X9_credit_0 {l : Launch} {G : GT} {F : FX} {Q : PQ} {QX : PX} : Le (R_X9_credit_0 l G F Q QX) (Wj true l G F Y_X9_credit Q QX 0 0 0) := by
  unfold R_X9_credit_0
  refine r_aload_n (pc := 0) ?_ dX9_credit_0 rfl
  refine r_iload_n (pc := 1) ?_ dX9_credit_1 rfl
  refine r_iload_n (pc := 2) ?_ dX9_credit_2 rfl
  refine r_iload_n (pc := 3) ?_ dX9_credit_3 rfl
  refine r_cv0 (pc := 4) ?_ dX9_credit_4 cl_X9 ok_X9_faultOfCredit rfl wd_4_83 ⟨Nat.le_of_ble_eq_true rfl, Nat.le_of_ble_eq_true rfl⟩ ⟨Nat.le_of_ble_eq_true rfl, Nat.le_of_ble_eq_true rfl⟩ rfl rfl
  refine r_cs (pc := 7) ?_ dX9_credit_7 ok_X9_refuse wd_2_19 ⟨Nat.le_of_ble_eq_true rfl, Nat.le_of_ble_eq_true rfl⟩ ⟨Nat.le_of_ble_eq_true rfl, Nat.le_of_ble_eq_true rfl⟩
  refine r_aload_n (pc := 10) ?_ dX9_credit_10 rfl
  refine r_gp (pc := 11) (kf := 1) ?_ dX9_credit_11 cl_X9 (Nat.le_of_ble_eq_true rfl) rfl wd_1_226 pv_X9_1
  refine r_aload_n (pc := 14) ?_ dX9_credit_14 rfl
  refine r_gp (pc := 15) (kf := 0) ?_ dX9_credit_15 cl_X9 (Nat.le_of_ble_eq_true rfl) rfl wd_1_225 pv_X9_0
  refine r_cv0 (pc := 18) ?_ dX9_credit_18 cl_X8 ok_X8_save rfl wd_2_122 ⟨Nat.le_of_ble_eq_true rfl, Nat.le_of_ble_eq_true rfl⟩ ⟨Nat.le_of_ble_eq_true rfl, Nat.le_of_ble_eq_true rfl⟩ rfl rfl
  refine r_aload_n (pc := 21) ?_ dX9_credit_21 rfl
  refine r_gp (pc := 22) (kf := 0) ?_ dX9_credit_22 cl_X9 (Nat.le_of_ble_eq_true rfl) rfl wd_1_225 pv_X9_0
  refine r_iload_n (pc := 25) ?_ dX9_credit_25 rfl
  refine r_iload_n (pc := 26) ?_ dX9_credit_26 rfl
  refine r_iload_n (pc := 27) ?_ dX9_credit_27 rfl
  refine r_cv0 (pc := 28) ?_ dX9_credit_28 cl_X7 ok_X7_putCredit rfl wd_4_91 ⟨Nat.le_of_ble_eq_true rfl, Nat.le_of_ble_eq_true rfl⟩ ⟨Nat.le_of_ble_eq_true rfl, Nat.le_of_ble_eq_true rfl⟩ rfl rfl
  exact r_ir dX9_credit_31 rfl (Nat.le_of_ble_eq_true rfl) (Nat.le_of_ble_eq_true rfl)
abbrev Y_X9_faultOfDays : YT := (yX9_faultOfDays, cX9_faultOfDays, 2, (some .int), 1, 22, 0, 0)
theorem ok_X9_faultOfDays : okV Y_X9_faultOfDays 1 := ⟨⟨wd_2_168, wd_1_1, by decide, by decide, by decide +kernel⟩, wd_2_167, wp_2⟩
def R_X9_faultOfDays_0 (l : Launch) (G : GT) (F : FX) (Q : PQ) (QX : PX) : KT := (I_il 1 (I_ic 1 (I_ic 30 (I_cs (Tr true l G Y_X9_isWithin) 3 QX (I_ifne (I_al 0 (I_gp 7 3 1 (I_gi 5 8 9 (I_il 1 (I_iadd (I_ic 9999 (I_icgt (I_ic 3 (I_ir Q)) (I_ic 0 (I_ir Q))))))))) (I_ic 2 (I_ir Q)))))))
set_option maxRecDepth 100000 in
theorem g_X9_faultOfDays_0 {l : Launch} {G : GT} {F : FX} {Q : PQ} {QX : PX} : Le (R_X9_faultOfDays_0 l G F Q QX) (Wj true l G F Y_X9_faultOfDays Q QX 0 0 0) := by
  unfold R_X9_faultOfDays_0
  refine r_iload_n (pc := 0) ?_ dX9_faultOfDays_0 rfl
  refine r_iconst (pc := 1) ?_ dX9_faultOfDays_1 (by decide)
  refine r_bipush (pc := 2) ?_ dX9_faultOfDays_2 (by decide)
  refine r_cs0 (pc := 4) ?_ dX9_faultOfDays_4 ok_X9_isWithin wd_2_16 ⟨Nat.le_of_ble_eq_true rfl, Nat.le_of_ble_eq_true rfl⟩ ⟨Nat.le_of_ble_eq_true rfl, Nat.le_of_ble_eq_true rfl⟩ rfl rfl
  refine r_ifne (pc := 7) (t := 12) ?_ ?_ dX9_faultOfDays_7 (by decide)
  · refine r_aload_n (pc := 12) ?_ dX9_faultOfDays_12 rfl
    refine r_gp (pc := 13) (kf := 0) ?_ dX9_faultOfDays_13 cl_X9 (Nat.le_of_ble_eq_true rfl) rfl wd_1_225 pv_X9_0
    refine r_gi (pc := 16) ?_ dX9_faultOfDays_16 cl_X7 (Nat.le_of_ble_eq_true rfl) rfl wd_1_148
    refine r_iload_n (pc := 19) ?_ dX9_faultOfDays_19 rfl
    refine r_iadd (pc := 20) ?_ dX9_faultOfDays_20
    refine r_sipush (pc := 21) ?_ dX9_faultOfDays_21 (by decide)
    refine r_icgt (pc := 24) (t := 31) ?_ ?_ dX9_faultOfDays_24 (by decide)
    · refine r_iconst (pc := 31) ?_ dX9_faultOfDays_31 (by decide)
      exact r_ir dX9_faultOfDays_32 rfl (Nat.le_of_ble_eq_true rfl) (Nat.le_of_ble_eq_true rfl)
    · refine r_iconst (pc := 27) ?_ dX9_faultOfDays_27 (by decide)
      refine r_goto (pc := 28) (t := 32) ?_ dX9_faultOfDays_28 (by decide)
      exact r_ir dX9_faultOfDays_32 rfl (Nat.le_of_ble_eq_true rfl) (Nat.le_of_ble_eq_true rfl)
  · refine r_iconst (pc := 10) ?_ dX9_faultOfDays_10 (by decide)
    exact r_ir dX9_faultOfDays_11 rfl (Nat.le_of_ble_eq_true rfl) (Nat.le_of_ble_eq_true rfl)
abbrev Y_X9_endDay : YT := (yX9_endDay, cX9_endDay, 1, (some .int), 7, 130, 1, 6)
theorem ok_X9_endDay : okV Y_X9_endDay 0 := ⟨⟨wd_2_164, wd_1_1, by decide, by decide, by decide +kernel⟩, wd_2_162, wd_2_163⟩
def R_X9_endDay_0 (l : Launch) (G : GT) (F : FX) (Q : PQ) (QX : PX) : KT := (I_al 0 (I_ic 1 (I_cv (Tr true l G Y_X9_faultOfDays) 7 3 1 QX (I_cs (Tr true l G Y_X9_refuse) 1 QX (I_al 0 (I_gp 7 3 215 (I_al 0 (I_gp 7 3 1 (I_cv (Tr true l G Y_X8_save) 6 3 1 QX (I_al 0 (I_gp 7 3 1 (I_ic 1 (I_cv (Tr true l G Y_X7_passDays) 5 9 1 QX (I_ir Q))))))))))))))
set_option maxRecDepth 100000 in
theorem g_X9_endDay_0 {l : Launch} {G : GT} {F : FX} {Q : PQ} {QX : PX} : Le (R_X9_endDay_0 l G F Q QX) (Wj true l G F Y_X9_endDay Q QX 0 0 0) := by
  unfold R_X9_endDay_0
  refine r_aload_n (pc := 0) ?_ dX9_endDay_0 rfl
  refine r_iconst (pc := 1) ?_ dX9_endDay_1 (by decide)
  refine r_cv0 (pc := 2) ?_ dX9_endDay_2 cl_X9 ok_X9_faultOfDays rfl wd_2_165 ⟨Nat.le_of_ble_eq_true rfl, Nat.le_of_ble_eq_true rfl⟩ ⟨Nat.le_of_ble_eq_true rfl, Nat.le_of_ble_eq_true rfl⟩ rfl rfl
  refine r_cs (pc := 5) ?_ dX9_endDay_5 ok_X9_refuse wd_2_19 ⟨Nat.le_of_ble_eq_true rfl, Nat.le_of_ble_eq_true rfl⟩ ⟨Nat.le_of_ble_eq_true rfl, Nat.le_of_ble_eq_true rfl⟩
  refine r_aload_n (pc := 8) ?_ dX9_endDay_8 rfl
  refine r_gp (pc := 9) (kf := 1) ?_ dX9_endDay_9 cl_X9 (Nat.le_of_ble_eq_true rfl) rfl wd_1_226 pv_X9_1
  refine r_aload_n (pc := 12) ?_ dX9_endDay_12 rfl
  refine r_gp (pc := 13) (kf := 0) ?_ dX9_endDay_13 cl_X9 (Nat.le_of_ble_eq_true rfl) rfl wd_1_225 pv_X9_0
  refine r_cv0 (pc := 16) ?_ dX9_endDay_16 cl_X8 ok_X8_save rfl wd_2_122 ⟨Nat.le_of_ble_eq_true rfl, Nat.le_of_ble_eq_true rfl⟩ ⟨Nat.le_of_ble_eq_true rfl, Nat.le_of_ble_eq_true rfl⟩ rfl rfl
  refine r_aload_n (pc := 19) ?_ dX9_endDay_19 rfl
  refine r_gp (pc := 20) (kf := 0) ?_ dX9_endDay_20 cl_X9 (Nat.le_of_ble_eq_true rfl) rfl wd_1_225 pv_X9_0
  refine r_iconst (pc := 23) ?_ dX9_endDay_23 (by decide)
  refine r_cv0 (pc := 24) ?_ dX9_endDay_24 cl_X7 ok_X7_passDays rfl wd_2_169 ⟨Nat.le_of_ble_eq_true rfl, Nat.le_of_ble_eq_true rfl⟩ ⟨Nat.le_of_ble_eq_true rfl, Nat.le_of_ble_eq_true rfl⟩ rfl rfl
  exact r_ir dX9_endDay_27 rfl (Nat.le_of_ble_eq_true rfl) (Nat.le_of_ble_eq_true rfl)
abbrev Y_X9_faultOfPair : YT := (yX9_faultOfPair, cX9_faultOfPair, 3, (some .int), 1, 21, 0, 0)
theorem ok_X9_faultOfPair : okV Y_X9_faultOfPair 2 := ⟨⟨wd_4_109, wd_1_1, by decide, by decide, by decide +kernel⟩, wd_4_108, wp_20⟩
def R_X9_faultOfPair_0 (l : Launch) (G : GT) (F : FX) (Q : PQ) (QX : PX) : KT := (I_al 0 (I_gp 7 3 1 (I_il 1 (I_cv (Tr true l G Y_X7_hasApprentice) 5 9 1 QX (I_ifeq (I_ic 1 (I_ir Q)) (I_al 0 (I_gp 7 3 1 (I_il 2 (I_cv (Tr true l G Y_X7_hasMentor) 5 9 1 QX (I_ifeq (I_ic 1 (I_ir Q)) (I_ic 0 (I_ir Q))))))))))))
set_option maxRecDepth 100000 in
theorem g_X9_faultOfPair_0 {l : Launch} {G : GT} {F : FX} {Q : PQ} {QX : PX} : Le (R_X9_faultOfPair_0 l G F Q QX) (Wj true l G F Y_X9_faultOfPair Q QX 0 0 0) := by
  unfold R_X9_faultOfPair_0
  refine r_aload_n (pc := 0) ?_ dX9_faultOfPair_0 rfl
  refine r_gp (pc := 1) (kf := 0) ?_ dX9_faultOfPair_1 cl_X9 (Nat.le_of_ble_eq_true rfl) rfl wd_1_225 pv_X9_0
  refine r_iload_n (pc := 4) ?_ dX9_faultOfPair_4 rfl
  refine r_cv0 (pc := 5) ?_ dX9_faultOfPair_5 cl_X7 ok_X7_hasApprentice rfl wd_3_49 ⟨Nat.le_of_ble_eq_true rfl, Nat.le_of_ble_eq_true rfl⟩ ⟨Nat.le_of_ble_eq_true rfl, Nat.le_of_ble_eq_true rfl⟩ rfl rfl
  refine r_ifeq (pc := 8) (t := 26) ?_ ?_ dX9_faultOfPair_8 (by decide)
  · refine r_iconst (pc := 26) ?_ dX9_faultOfPair_26 (by decide)
    exact r_ir dX9_faultOfPair_27 rfl (Nat.le_of_ble_eq_true rfl) (Nat.le_of_ble_eq_true rfl)
  · refine r_aload_n (pc := 11) ?_ dX9_faultOfPair_11 rfl
    refine r_gp (pc := 12) (kf := 0) ?_ dX9_faultOfPair_12 cl_X9 (Nat.le_of_ble_eq_true rfl) rfl wd_1_225 pv_X9_0
    refine r_iload_n (pc := 15) ?_ dX9_faultOfPair_15 rfl
    refine r_cv0 (pc := 16) ?_ dX9_faultOfPair_16 cl_X7 ok_X7_hasMentor rfl wd_3_19 ⟨Nat.le_of_ble_eq_true rfl, Nat.le_of_ble_eq_true rfl⟩ ⟨Nat.le_of_ble_eq_true rfl, Nat.le_of_ble_eq_true rfl⟩ rfl rfl
    refine r_ifeq (pc := 19) (t := 26) ?_ ?_ dX9_faultOfPair_19 (by decide)
    · refine r_iconst (pc := 26) ?_ dX9_faultOfPair_26 (by decide)
      exact r_ir dX9_faultOfPair_27 rfl (Nat.le_of_ble_eq_true rfl) (Nat.le_of_ble_eq_true rfl)
    · refine r_iconst (pc := 22) ?_ dX9_faultOfPair_22 (by decide)
      refine r_goto (pc := 23) (t := 27) ?_ dX9_faultOfPair_23 (by decide)
      exact r_ir dX9_faultOfPair_27 rfl (Nat.le_of_ble_eq_true rfl) (Nat.le_of_ble_eq_true rfl)
abbrev Y_X9_faultOfMove : YT := (yX9_faultOfMove, cX9_faultOfMove, 3, (some .int), 4, 87, 0, 0)
theorem ok_X9_faultOfMove : okV Y_X9_faultOfMove 2 := ⟨⟨wd_4_105, wd_1_1, by decide, by decide, by decide +kernel⟩, wd_4_104, wp_19⟩
def R_X9_faultOfMove_0 (l : Launch) (G : GT) (F : FX) (Q : PQ) (QX : PX) : KT := (I_al 0 (I_il 1 (I_il 2 (I_cv (Tr true l G Y_X9_faultOfPair) 7 3 2 QX (I_ifeq (I_al 0 (I_gp 7 3 1 (I_il 1 (I_il 2 (I_cv (Tr true l G Y_X7_obstacle) 5 9 2 QX (I_ifne (I_ic 3 (I_ir Q)) (I_ic 0 (I_ir Q)))))))) (I_ic 1 (I_ir Q)))))))
set_option maxRecDepth 100000 in
theorem g_X9_faultOfMove_0 {l : Launch} {G : GT} {F : FX} {Q : PQ} {QX : PX} : Le (R_X9_faultOfMove_0 l G F Q QX) (Wj true l G F Y_X9_faultOfMove Q QX 0 0 0) := by
  unfold R_X9_faultOfMove_0
  refine r_aload_n (pc := 0) ?_ dX9_faultOfMove_0 rfl
  refine r_iload_n (pc := 1) ?_ dX9_faultOfMove_1 rfl
  refine r_iload_n (pc := 2) ?_ dX9_faultOfMove_2 rfl
  refine r_cv0 (pc := 3) ?_ dX9_faultOfMove_3 cl_X9 ok_X9_faultOfPair rfl wd_4_106 ⟨Nat.le_of_ble_eq_true rfl, Nat.le_of_ble_eq_true rfl⟩ ⟨Nat.le_of_ble_eq_true rfl, Nat.le_of_ble_eq_true rfl⟩ rfl rfl
  refine r_ifeq (pc := 6) (t := 11) ?_ ?_ dX9_faultOfMove_6 (by decide)
  · refine r_aload_n (pc := 11) ?_ dX9_faultOfMove_11 rfl
    refine r_gp (pc := 12) (kf := 0) ?_ dX9_faultOfMove_12 cl_X9 (Nat.le_of_ble_eq_true rfl) rfl wd_1_225 pv_X9_0
    refine r_iload_n (pc := 15) ?_ dX9_faultOfMove_15 rfl
    refine r_iload_n (pc := 16) ?_ dX9_faultOfMove_16 rfl
    refine r_cv0 (pc := 17) ?_ dX9_faultOfMove_17 cl_X7 ok_X7_obstacle rfl wd_4_110 ⟨Nat.le_of_ble_eq_true rfl, Nat.le_of_ble_eq_true rfl⟩ ⟨Nat.le_of_ble_eq_true rfl, Nat.le_of_ble_eq_true rfl⟩ rfl rfl
    refine r_ifne (pc := 20) (t := 27) ?_ ?_ dX9_faultOfMove_20 (by decide)
    · refine r_iconst (pc := 27) ?_ dX9_faultOfMove_27 (by decide)
      exact r_ir dX9_faultOfMove_28 rfl (Nat.le_of_ble_eq_true rfl) (Nat.le_of_ble_eq_true rfl)
    · refine r_iconst (pc := 23) ?_ dX9_faultOfMove_23 (by decide)
      refine r_goto (pc := 24) (t := 28) ?_ dX9_faultOfMove_24 (by decide)
      exact r_ir dX9_faultOfMove_28 rfl (Nat.le_of_ble_eq_true rfl) (Nat.le_of_ble_eq_true rfl)
  · refine r_iconst (pc := 9) ?_ dX9_faultOfMove_9 (by decide)
    exact r_ir dX9_faultOfMove_10 rfl (Nat.le_of_ble_eq_true rfl) (Nat.le_of_ble_eq_true rfl)
abbrev Y_X9_move : YT := (yX9_move, cX9_move, 3, (some .int), 7, 128, 1, 6)
theorem ok_X9_move : okV Y_X9_move 2 := ⟨⟨wd_4_101, wd_1_1, by decide, by decide, by decide +kernel⟩, wd_4_99, wd_4_100⟩
def R_X9_move_0 (l : Launch) (G : GT) (F : FX) (Q : PQ) (QX : PX) : KT := (I_al 0 (I_il 1 (I_il 2 (I_cv (Tr true l G Y_X9_faultOfMove) 7 3 2 QX (I_cs (Tr true l G Y_X9_refuse) 1 QX (I_al 0 (I_gp 7 3 215 (I_al 0 (I_gp 7 3 1 (I_cv (Tr true l G Y_X8_save) 6 3 1 QX (I_al 0 (I_gp 7 3 1 (I_il 1 (I_il 2 (I_cv (Tr true l G Y_X7_moveTo) 5 9 2 QX (I_ir Q))))))))))))))))
set_option maxRecDepth 100000 in
theorem g_X9_move_0 {l : Launch} {G : GT} {F : FX} {Q : PQ} {QX : PX} : Le (R_X9_move_0 l G F Q QX) (Wj true l G F Y_X9_move Q QX 0 0 0) := by
  unfold R_X9_move_0
  refine r_aload_n (pc := 0) ?_ dX9_move_0 rfl
  refine r_iload_n (pc := 1) ?_ dX9_move_1 rfl
  refine r_iload_n (pc := 2) ?_ dX9_move_2 rfl
  refine r_cv0 (pc := 3) ?_ dX9_move_3 cl_X9 ok_X9_faultOfMove rfl wd_4_102 ⟨Nat.le_of_ble_eq_true rfl, Nat.le_of_ble_eq_true rfl⟩ ⟨Nat.le_of_ble_eq_true rfl, Nat.le_of_ble_eq_true rfl⟩ rfl rfl
  refine r_cs (pc := 6) ?_ dX9_move_6 ok_X9_refuse wd_2_19 ⟨Nat.le_of_ble_eq_true rfl, Nat.le_of_ble_eq_true rfl⟩ ⟨Nat.le_of_ble_eq_true rfl, Nat.le_of_ble_eq_true rfl⟩
  refine r_aload_n (pc := 9) ?_ dX9_move_9 rfl
  refine r_gp (pc := 10) (kf := 1) ?_ dX9_move_10 cl_X9 (Nat.le_of_ble_eq_true rfl) rfl wd_1_226 pv_X9_1
  refine r_aload_n (pc := 13) ?_ dX9_move_13 rfl
  refine r_gp (pc := 14) (kf := 0) ?_ dX9_move_14 cl_X9 (Nat.le_of_ble_eq_true rfl) rfl wd_1_225 pv_X9_0
  refine r_cv0 (pc := 17) ?_ dX9_move_17 cl_X8 ok_X8_save rfl wd_2_122 ⟨Nat.le_of_ble_eq_true rfl, Nat.le_of_ble_eq_true rfl⟩ ⟨Nat.le_of_ble_eq_true rfl, Nat.le_of_ble_eq_true rfl⟩ rfl rfl
  refine r_aload_n (pc := 20) ?_ dX9_move_20 rfl
  refine r_gp (pc := 21) (kf := 0) ?_ dX9_move_21 cl_X9 (Nat.le_of_ble_eq_true rfl) rfl wd_1_225 pv_X9_0
  refine r_iload_n (pc := 24) ?_ dX9_move_24 rfl
  refine r_iload_n (pc := 25) ?_ dX9_move_25 rfl
  refine r_cv0 (pc := 26) ?_ dX9_move_26 cl_X7 ok_X7_moveTo rfl wd_4_116 ⟨Nat.le_of_ble_eq_true rfl, Nat.le_of_ble_eq_true rfl⟩ ⟨Nat.le_of_ble_eq_true rfl, Nat.le_of_ble_eq_true rfl⟩ rfl rfl
  exact r_ir dX9_move_29 rfl (Nat.le_of_ble_eq_true rfl) (Nat.le_of_ble_eq_true rfl)
abbrev Y_X9_faultOfLeave : YT := (yX9_faultOfLeave, cX9_faultOfLeave, 2, (some .int), 3, 63, 0, 0)
theorem ok_X9_faultOfLeave : okV Y_X9_faultOfLeave 1 := ⟨⟨wd_4_134, wd_1_1, by decide, by decide, by decide +kernel⟩, wd_4_133, wp_21⟩
def R_X9_faultOfLeave_0 (l : Launch) (G : GT) (F : FX) (Q : PQ) (QX : PX) : KT := (I_al 0 (I_gp 7 3 1 (I_il 1 (I_cv (Tr true l G Y_X7_hasApprentice) 5 9 1 QX (I_ifne (I_al 0 (I_gp 7 3 1 (I_il 1 (I_cv (Tr true l G Y_X7_mentorOf) 5 9 1 QX (I_ic (-1) (I_iceq (I_ic 3 (I_ir Q)) (I_ic 0 (I_ir Q)))))))) (I_ic 1 (I_ir Q)))))))
set_option maxRecDepth 100000 in
theorem g_X9_faultOfLeave_0 {l : Launch} {G : GT} {F : FX} {Q : PQ} {QX : PX} : Le (R_X9_faultOfLeave_0 l G F Q QX) (Wj true l G F Y_X9_faultOfLeave Q QX 0 0 0) := by
  unfold R_X9_faultOfLeave_0
  refine r_aload_n (pc := 0) ?_ dX9_faultOfLeave_0 rfl
  refine r_gp (pc := 1) (kf := 0) ?_ dX9_faultOfLeave_1 cl_X9 (Nat.le_of_ble_eq_true rfl) rfl wd_1_225 pv_X9_0
  refine r_iload_n (pc := 4) ?_ dX9_faultOfLeave_4 rfl
  refine r_cv0 (pc := 5) ?_ dX9_faultOfLeave_5 cl_X7 ok_X7_hasApprentice rfl wd_3_49 ⟨Nat.le_of_ble_eq_true rfl, Nat.le_of_ble_eq_true rfl⟩ ⟨Nat.le_of_ble_eq_true rfl, Nat.le_of_ble_eq_true rfl⟩ rfl rfl
  refine r_ifne (pc := 8) (t := 13) ?_ ?_ dX9_faultOfLeave_8 (by decide)
  · refine r_aload_n (pc := 13) ?_ dX9_faultOfLeave_13 rfl
    refine r_gp (pc := 14) (kf := 0) ?_ dX9_faultOfLeave_14 cl_X9 (Nat.le_of_ble_eq_true rfl) rfl wd_1_225 pv_X9_0
    refine r_iload_n (pc := 17) ?_ dX9_faultOfLeave_17 rfl
    refine r_cv0 (pc := 18) ?_ dX9_faultOfLeave_18 cl_X7 ok_X7_mentorOf rfl wd_4_41 ⟨Nat.le_of_ble_eq_true rfl, Nat.le_of_ble_eq_true rfl⟩ ⟨Nat.le_of_ble_eq_true rfl, Nat.le_of_ble_eq_true rfl⟩ rfl rfl
    refine r_iconst (pc := 21) ?_ dX9_faultOfLeave_21 (by decide)
    refine r_iceq (pc := 22) (t := 29) ?_ ?_ dX9_faultOfLeave_22 (by decide)
    · refine r_iconst (pc := 29) ?_ dX9_faultOfLeave_29 (by decide)
      exact r_ir dX9_faultOfLeave_30 rfl (Nat.le_of_ble_eq_true rfl) (Nat.le_of_ble_eq_true rfl)
    · refine r_iconst (pc := 25) ?_ dX9_faultOfLeave_25 (by decide)
      refine r_goto (pc := 26) (t := 30) ?_ dX9_faultOfLeave_26 (by decide)
      exact r_ir dX9_faultOfLeave_30 rfl (Nat.le_of_ble_eq_true rfl) (Nat.le_of_ble_eq_true rfl)
  · refine r_iconst (pc := 11) ?_ dX9_faultOfLeave_11 (by decide)
    exact r_ir dX9_faultOfLeave_12 rfl (Nat.le_of_ble_eq_true rfl) (Nat.le_of_ble_eq_true rfl)
abbrev Y_X9_leave : YT := (yX9_leave, cX9_leave, 2, (some .int), 7, 125, 1, 6)
theorem ok_X9_leave : okV Y_X9_leave 1 := ⟨⟨wd_4_130, wd_1_1, by decide, by decide, by decide +kernel⟩, wd_4_128, wd_4_129⟩
def R_X9_leave_0 (l : Launch) (G : GT) (F : FX) (Q : PQ) (QX : PX) : KT := (I_al 0 (I_il 1 (I_cv (Tr true l G Y_X9_faultOfLeave) 7 3 1 QX (I_cs (Tr true l G Y_X9_refuse) 1 QX (I_al 0 (I_gp 7 3 215 (I_al 0 (I_gp 7 3 1 (I_cv (Tr true l G Y_X8_save) 6 3 1 QX (I_al 0 (I_gp 7 3 1 (I_il 1 (I_cv (Tr true l G Y_X7_takeFromMentor) 5 9 1 QX (I_ir Q))))))))))))))
set_option maxRecDepth 100000 in
theorem g_X9_leave_0 {l : Launch} {G : GT} {F : FX} {Q : PQ} {QX : PX} : Le (R_X9_leave_0 l G F Q QX) (Wj true l G F Y_X9_leave Q QX 0 0 0) := by
  unfold R_X9_leave_0
  refine r_aload_n (pc := 0) ?_ dX9_leave_0 rfl
  refine r_iload_n (pc := 1) ?_ dX9_leave_1 rfl
  refine r_cv0 (pc := 2) ?_ dX9_leave_2 cl_X9 ok_X9_faultOfLeave rfl wd_4_131 ⟨Nat.le_of_ble_eq_true rfl, Nat.le_of_ble_eq_true rfl⟩ ⟨Nat.le_of_ble_eq_true rfl, Nat.le_of_ble_eq_true rfl⟩ rfl rfl
  refine r_cs (pc := 5) ?_ dX9_leave_5 ok_X9_refuse wd_2_19 ⟨Nat.le_of_ble_eq_true rfl, Nat.le_of_ble_eq_true rfl⟩ ⟨Nat.le_of_ble_eq_true rfl, Nat.le_of_ble_eq_true rfl⟩
  refine r_aload_n (pc := 8) ?_ dX9_leave_8 rfl
  refine r_gp (pc := 9) (kf := 1) ?_ dX9_leave_9 cl_X9 (Nat.le_of_ble_eq_true rfl) rfl wd_1_226 pv_X9_1
  refine r_aload_n (pc := 12) ?_ dX9_leave_12 rfl
  refine r_gp (pc := 13) (kf := 0) ?_ dX9_leave_13 cl_X9 (Nat.le_of_ble_eq_true rfl) rfl wd_1_225 pv_X9_0
  refine r_cv0 (pc := 16) ?_ dX9_leave_16 cl_X8 ok_X8_save rfl wd_2_122 ⟨Nat.le_of_ble_eq_true rfl, Nat.le_of_ble_eq_true rfl⟩ ⟨Nat.le_of_ble_eq_true rfl, Nat.le_of_ble_eq_true rfl⟩ rfl rfl
  refine r_aload_n (pc := 19) ?_ dX9_leave_19 rfl
  refine r_gp (pc := 20) (kf := 0) ?_ dX9_leave_20 cl_X9 (Nat.le_of_ble_eq_true rfl) rfl wd_1_225 pv_X9_0
  refine r_iload_n (pc := 23) ?_ dX9_leave_23 rfl
  refine r_cv0 (pc := 24) ?_ dX9_leave_24 cl_X7 ok_X7_takeFromMentor rfl wd_4_135 ⟨Nat.le_of_ble_eq_true rfl, Nat.le_of_ble_eq_true rfl⟩ ⟨Nat.le_of_ble_eq_true rfl, Nat.le_of_ble_eq_true rfl⟩ rfl rfl
  exact r_ir dX9_leave_27 rfl (Nat.le_of_ble_eq_true rfl) (Nat.le_of_ble_eq_true rfl)
abbrev Y_X9_faultOfExchange : YT := (yX9_faultOfExchange, cX9_faultOfExchange, 3, (some .int), 4, 88, 0, 0)
theorem ok_X9_faultOfExchange : okV Y_X9_faultOfExchange 2 := ⟨⟨wd_4_149, wd_1_1, by decide, by decide, by decide +kernel⟩, wd_4_148, wp_22⟩
def R_X9_faultOfExchange_0 (l : Launch) (G : GT) (F : FX) (Q : PQ) (QX : PX) : KT := (I_al 0 (I_gp 7 3 1 (I_il 1 (I_cv (Tr true l G Y_X7_hasApprentice) 5 9 1 QX (I_ifeq (I_ic 1 (I_ir Q)) (I_al 0 (I_gp 7 3 1 (I_il 2 (I_cv (Tr true l G Y_X7_hasApprentice) 5 9 1 QX (I_ifne (I_il 1 (I_il 2 (I_icne (I_al 0 (I_gp 7 3 1 (I_il 1 (I_il 2 (I_cv (Tr true l G Y_X7_canExchange) 5 9 2 QX (I_ifeq (I_ic 3 (I_ir Q)) (I_ic 0 (I_ir Q)))))))) (I_ic 2 (I_ir Q))))) (I_ic 1 (I_ir Q))))))))))))
set_option maxRecDepth 100000 in
theorem g_X9_faultOfExchange_0 {l : Launch} {G : GT} {F : FX} {Q : PQ} {QX : PX} : Le (R_X9_faultOfExchange_0 l G F Q QX) (Wj true l G F Y_X9_faultOfExchange Q QX 0 0 0) := by
  unfold R_X9_faultOfExchange_0
  refine r_aload_n (pc := 0) ?_ dX9_faultOfExchange_0 rfl
  refine r_gp (pc := 1) (kf := 0) ?_ dX9_faultOfExchange_1 cl_X9 (Nat.le_of_ble_eq_true rfl) rfl wd_1_225 pv_X9_0
  refine r_iload_n (pc := 4) ?_ dX9_faultOfExchange_4 rfl
  refine r_cv0 (pc := 5) ?_ dX9_faultOfExchange_5 cl_X7 ok_X7_hasApprentice rfl wd_3_49 ⟨Nat.le_of_ble_eq_true rfl, Nat.le_of_ble_eq_true rfl⟩ ⟨Nat.le_of_ble_eq_true rfl, Nat.le_of_ble_eq_true rfl⟩ rfl rfl
  refine r_ifeq (pc := 8) (t := 22) ?_ ?_ dX9_faultOfExchange_8 (by decide)
  · refine r_iconst (pc := 22) ?_ dX9_faultOfExchange_22 (by decide)
    exact r_ir dX9_faultOfExchange_23 rfl (Nat.le_of_ble_eq_true rfl) (Nat.le_of_ble_eq_true rfl)
  · refine r_aload_n (pc := 11) ?_ dX9_faultOfExchange_11 rfl
    refine r_gp (pc := 12) (kf := 0) ?_ dX9_faultOfExchange_12 cl_X9 (Nat.le_of_ble_eq_true rfl) rfl wd_1_225 pv_X9_0
    refine r_iload_n (pc := 15) ?_ dX9_faultOfExchange_15 rfl
    refine r_cv0 (pc := 16) ?_ dX9_faultOfExchange_16 cl_X7 ok_X7_hasApprentice rfl wd_3_49 ⟨Nat.le_of_ble_eq_true rfl, Nat.le_of_ble_eq_true rfl⟩ ⟨Nat.le_of_ble_eq_true rfl, Nat.le_of_ble_eq_true rfl⟩ rfl rfl
    refine r_ifne (pc := 19) (t := 24) ?_ ?_ dX9_faultOfExchange_19 (by decide)
    · refine r_iload_n (pc := 24) ?_ dX9_faultOfExchange_24 rfl
      refine r_iload_n (pc := 25) ?_ dX9_faultOfExchange_25 rfl
      refine r_icne (pc := 26) (t := 31) ?_ ?_ dX9_faultOfExchange_26 (by decide)
      · refine r_aload_n (pc := 31) ?_ dX9_faultOfExchange_31 rfl
        refine r_gp (pc := 32) (kf := 0) ?_ dX9_faultOfExchange_32 cl_X9 (Nat.le_of_ble_eq_true rfl) rfl wd_1_225 pv_X9_0
        refine r_iload_n (pc := 35) ?_ dX9_faultOfExchange_35 rfl
        refine r_iload_n (pc := 36) ?_ dX9_faultOfExchange_36 rfl
        refine r_cv0 (pc := 37) ?_ dX9_faultOfExchange_37 cl_X7 ok_X7_canExchange rfl wd_4_150 ⟨Nat.le_of_ble_eq_true rfl, Nat.le_of_ble_eq_true rfl⟩ ⟨Nat.le_of_ble_eq_true rfl, Nat.le_of_ble_eq_true rfl⟩ rfl rfl
        refine r_ifeq (pc := 40) (t := 47) ?_ ?_ dX9_faultOfExchange_40 (by decide)
        · refine r_iconst (pc := 47) ?_ dX9_faultOfExchange_47 (by decide)
          exact r_ir dX9_faultOfExchange_48 rfl (Nat.le_of_ble_eq_true rfl) (Nat.le_of_ble_eq_true rfl)
        · refine r_iconst (pc := 43) ?_ dX9_faultOfExchange_43 (by decide)
          refine r_goto (pc := 44) (t := 48) ?_ dX9_faultOfExchange_44 (by decide)
          exact r_ir dX9_faultOfExchange_48 rfl (Nat.le_of_ble_eq_true rfl) (Nat.le_of_ble_eq_true rfl)
      · refine r_iconst (pc := 29) ?_ dX9_faultOfExchange_29 (by decide)
        exact r_ir dX9_faultOfExchange_30 rfl (Nat.le_of_ble_eq_true rfl) (Nat.le_of_ble_eq_true rfl)
    · refine r_iconst (pc := 22) ?_ dX9_faultOfExchange_22 (by decide)
      exact r_ir dX9_faultOfExchange_23 rfl (Nat.le_of_ble_eq_true rfl) (Nat.le_of_ble_eq_true rfl)
abbrev Y_X9_exchange : YT := (yX9_exchange, cX9_exchange, 3, (some .int), 7, 130, 1, 6)
theorem ok_X9_exchange : okV Y_X9_exchange 2 := ⟨⟨wd_4_145, wd_1_1, by decide, by decide, by decide +kernel⟩, wd_4_143, wd_4_144⟩
def R_X9_exchange_0 (l : Launch) (G : GT) (F : FX) (Q : PQ) (QX : PX) : KT := (I_al 0 (I_il 1 (I_il 2 (I_cv (Tr true l G Y_X9_faultOfExchange) 7 3 2 QX (I_cs (Tr true l G Y_X9_refuse) 1 QX (I_al 0 (I_gp 7 3 215 (I_al 0 (I_gp 7 3 1 (I_cv (Tr true l G Y_X8_save) 6 3 1 QX (I_al 0 (I_gp 7 3 1 (I_il 1 (I_il 2 (I_cv (Tr true l G Y_X7_exchangeBoth) 5 9 2 QX (I_ir Q))))))))))))))))
set_option maxRecDepth 100000 in
theorem g_X9_exchange_0 {l : Launch} {G : GT} {F : FX} {Q : PQ} {QX : PX} : Le (R_X9_exchange_0 l G F Q QX) (Wj true l G F Y_X9_exchange Q QX 0 0 0) := by
  unfold R_X9_exchange_0
  refine r_aload_n (pc := 0) ?_ dX9_exchange_0 rfl
  refine r_iload_n (pc := 1) ?_ dX9_exchange_1 rfl
  refine r_iload_n (pc := 2) ?_ dX9_exchange_2 rfl
  refine r_cv0 (pc := 3) ?_ dX9_exchange_3 cl_X9 ok_X9_faultOfExchange rfl wd_4_146 ⟨Nat.le_of_ble_eq_true rfl, Nat.le_of_ble_eq_true rfl⟩ ⟨Nat.le_of_ble_eq_true rfl, Nat.le_of_ble_eq_true rfl⟩ rfl rfl
  refine r_cs (pc := 6) ?_ dX9_exchange_6 ok_X9_refuse wd_2_19 ⟨Nat.le_of_ble_eq_true rfl, Nat.le_of_ble_eq_true rfl⟩ ⟨Nat.le_of_ble_eq_true rfl, Nat.le_of_ble_eq_true rfl⟩
  refine r_aload_n (pc := 9) ?_ dX9_exchange_9 rfl
  refine r_gp (pc := 10) (kf := 1) ?_ dX9_exchange_10 cl_X9 (Nat.le_of_ble_eq_true rfl) rfl wd_1_226 pv_X9_1
  refine r_aload_n (pc := 13) ?_ dX9_exchange_13 rfl
  refine r_gp (pc := 14) (kf := 0) ?_ dX9_exchange_14 cl_X9 (Nat.le_of_ble_eq_true rfl) rfl wd_1_225 pv_X9_0
  refine r_cv0 (pc := 17) ?_ dX9_exchange_17 cl_X8 ok_X8_save rfl wd_2_122 ⟨Nat.le_of_ble_eq_true rfl, Nat.le_of_ble_eq_true rfl⟩ ⟨Nat.le_of_ble_eq_true rfl, Nat.le_of_ble_eq_true rfl⟩ rfl rfl
  refine r_aload_n (pc := 20) ?_ dX9_exchange_20 rfl
  refine r_gp (pc := 21) (kf := 0) ?_ dX9_exchange_21 cl_X9 (Nat.le_of_ble_eq_true rfl) rfl wd_1_225 pv_X9_0
  refine r_iload_n (pc := 24) ?_ dX9_exchange_24 rfl
  refine r_iload_n (pc := 25) ?_ dX9_exchange_25 rfl
  refine r_cv0 (pc := 26) ?_ dX9_exchange_26 cl_X7 ok_X7_exchangeBoth rfl wd_4_154 ⟨Nat.le_of_ble_eq_true rfl, Nat.le_of_ble_eq_true rfl⟩ ⟨Nat.le_of_ble_eq_true rfl, Nat.le_of_ble_eq_true rfl⟩ rfl rfl
  exact r_ir dX9_exchange_29 rfl (Nat.le_of_ble_eq_true rfl) (Nat.le_of_ble_eq_true rfl)
abbrev Y_X9_reason : YT := (yX9_reason, cX9_reason, 3, (some .int), 7, 102, 1, 6)
theorem ok_X9_reason : okV Y_X9_reason 2 := ⟨⟨wd_4_164, wd_1_1, by decide, by decide, by decide +kernel⟩, wd_4_162, wd_4_163⟩
def R_X9_reason_0 (l : Launch) (G : GT) (F : FX) (Q : PQ) (QX : PX) : KT := (I_al 0 (I_il 1 (I_il 2 (I_cv (Tr true l G Y_X9_faultOfPair) 7 3 2 QX (I_cs (Tr true l G Y_X9_refuse) 1 QX (I_al 0 (I_gp 7 3 1 (I_il 1 (I_il 2 (I_cv (Tr true l G Y_X7_obstacle) 5 9 2 QX (I_ir Q)))))))))))
set_option maxRecDepth 100000 in
theorem g_X9_reason_0 {l : Launch} {G : GT} {F : FX} {Q : PQ} {QX : PX} : Le (R_X9_reason_0 l G F Q QX) (Wj true l G F Y_X9_reason Q QX 0 0 0) := by
  unfold R_X9_reason_0
  refine r_aload_n (pc := 0) ?_ dX9_reason_0 rfl
  refine r_iload_n (pc := 1) ?_ dX9_reason_1 rfl
  refine r_iload_n (pc := 2) ?_ dX9_reason_2 rfl
  refine r_cv0 (pc := 3) ?_ dX9_reason_3 cl_X9 ok_X9_faultOfPair rfl wd_4_106 ⟨Nat.le_of_ble_eq_true rfl, Nat.le_of_ble_eq_true rfl⟩ ⟨Nat.le_of_ble_eq_true rfl, Nat.le_of_ble_eq_true rfl⟩ rfl rfl
  refine r_cs (pc := 6) ?_ dX9_reason_6 ok_X9_refuse wd_2_19 ⟨Nat.le_of_ble_eq_true rfl, Nat.le_of_ble_eq_true rfl⟩ ⟨Nat.le_of_ble_eq_true rfl, Nat.le_of_ble_eq_true rfl⟩
  refine r_aload_n (pc := 9) ?_ dX9_reason_9 rfl
  refine r_gp (pc := 10) (kf := 0) ?_ dX9_reason_10 cl_X9 (Nat.le_of_ble_eq_true rfl) rfl wd_1_225 pv_X9_0
  refine r_iload_n (pc := 13) ?_ dX9_reason_13 rfl
  refine r_iload_n (pc := 14) ?_ dX9_reason_14 rfl
  refine r_cv0 (pc := 15) ?_ dX9_reason_15 cl_X7 ok_X7_obstacle rfl wd_4_110 ⟨Nat.le_of_ble_eq_true rfl, Nat.le_of_ble_eq_true rfl⟩ ⟨Nat.le_of_ble_eq_true rfl, Nat.le_of_ble_eq_true rfl⟩ rfl rfl
  exact r_ir dX9_reason_18 rfl (Nat.le_of_ble_eq_true rfl) (Nat.le_of_ble_eq_true rfl)
abbrev Y_X9_mentor : YT := (yX9_mentor, cX9_mentor, 3, (some .int), 7, 102, 2, 12)
theorem ok_X9_mentor : okV Y_X9_mentor 2 := ⟨⟨wd_3_18, wd_1_1, by decide, by decide, by decide +kernel⟩, wd_3_16, wd_3_17⟩
def R_X9_mentor_0 (l : Launch) (G : GT) (F : FX) (Q : PQ) (QX : PX) : KT := (I_al 0 (I_gp 7 3 1 (I_il 1 (I_cv (Tr true l G Y_X7_hasMentor) 5 9 1 QX (I_ifeq (I_ic 1 (Wj true l G F Y_X9_mentor Q QX 0 0 16)) (I_ic 0 (Wj true l G F Y_X9_mentor Q QX 0 0 16)))))))
set_option maxRecDepth 100000 in
theorem g_X9_mentor_0 {l : Launch} {G : GT} {F : FX} {Q : PQ} {QX : PX} : Le (R_X9_mentor_0 l G F Q QX) (Wj true l G F Y_X9_mentor Q QX 0 0 0) := by
  unfold R_X9_mentor_0
  refine r_aload_n (pc := 0) ?_ dX9_mentor_0 rfl
  refine r_gp (pc := 1) (kf := 0) ?_ dX9_mentor_1 cl_X9 (Nat.le_of_ble_eq_true rfl) rfl wd_1_225 pv_X9_0
  refine r_iload_n (pc := 4) ?_ dX9_mentor_4 rfl
  refine r_cv0 (pc := 5) ?_ dX9_mentor_5 cl_X7 ok_X7_hasMentor rfl wd_3_19 ⟨Nat.le_of_ble_eq_true rfl, Nat.le_of_ble_eq_true rfl⟩ ⟨Nat.le_of_ble_eq_true rfl, Nat.le_of_ble_eq_true rfl⟩ rfl rfl
  refine r_ifeq (pc := 8) (t := 15) ?_ ?_ dX9_mentor_8 (by decide)
  · refine r_iconst (pc := 15) ?_ dX9_mentor_15 (by decide)
    exact Le.rf
  · refine r_iconst (pc := 11) ?_ dX9_mentor_11 (by decide)
    refine r_goto (pc := 12) (t := 16) ?_ dX9_mentor_12 (by decide)
    exact Le.rf
def R_X9_mentor_16 (l : Launch) (G : GT) (F : FX) (Q : PQ) (QX : PX) : KT := (I_cs (Tr true l G Y_X9_refuse) 1 QX (I_il 2 (I_ic 0 (I_ic 4 (I_cs (Tr true l G Y_X9_isWithin) 3 QX (I_ifeq (I_ic 2 (I_cs (Tr true l G Y_X9_refuse) 1 QX (I_al 0 (I_gp 7 3 1 (I_il 1 (I_il 2 (I_cv (Tr true l G Y_X7_mentorValue) 5 9 2 QX (I_ir Q)))))))) (I_ic 0 (I_cs (Tr true l G Y_X9_refuse) 1 QX (I_al 0 (I_gp 7 3 1 (I_il 1 (I_il 2 (I_cv (Tr true l G Y_X7_mentorValue) 5 9 2 QX (I_ir Q))))))))))))))
set_option maxRecDepth 100000 in
theorem g_X9_mentor_16 {l : Launch} {G : GT} {F : FX} {Q : PQ} {QX : PX} : Le (R_X9_mentor_16 l G F Q QX) (Wj true l G F Y_X9_mentor Q QX 0 0 16) := by
  unfold R_X9_mentor_16
  refine r_cs (pc := 16) ?_ dX9_mentor_16 ok_X9_refuse wd_2_19 ⟨Nat.le_of_ble_eq_true rfl, Nat.le_of_ble_eq_true rfl⟩ ⟨Nat.le_of_ble_eq_true rfl, Nat.le_of_ble_eq_true rfl⟩
  refine r_iload_n (pc := 19) ?_ dX9_mentor_19 rfl
  refine r_iconst (pc := 20) ?_ dX9_mentor_20 (by decide)
  refine r_iconst (pc := 21) ?_ dX9_mentor_21 (by decide)
  refine r_cs0 (pc := 22) ?_ dX9_mentor_22 ok_X9_isWithin wd_2_16 ⟨Nat.le_of_ble_eq_true rfl, Nat.le_of_ble_eq_true rfl⟩ ⟨Nat.le_of_ble_eq_true rfl, Nat.le_of_ble_eq_true rfl⟩ rfl rfl
  refine r_ifeq (pc := 25) (t := 32) ?_ ?_ dX9_mentor_25 (by decide)
  · refine r_iconst (pc := 32) ?_ dX9_mentor_32 (by decide)
    refine r_cs (pc := 33) ?_ dX9_mentor_33 ok_X9_refuse wd_2_19 ⟨Nat.le_of_ble_eq_true rfl, Nat.le_of_ble_eq_true rfl⟩ ⟨Nat.le_of_ble_eq_true rfl, Nat.le_of_ble_eq_true rfl⟩
    refine r_aload_n (pc := 36) ?_ dX9_mentor_36 rfl
    refine r_gp (pc := 37) (kf := 0) ?_ dX9_mentor_37 cl_X9 (Nat.le_of_ble_eq_true rfl) rfl wd_1_225 pv_X9_0
    refine r_iload_n (pc := 40) ?_ dX9_mentor_40 rfl
    refine r_iload_n (pc := 41) ?_ dX9_mentor_41 rfl
    refine r_cv0 (pc := 42) ?_ dX9_mentor_42 cl_X7 ok_X7_mentorValue rfl wd_3_23 ⟨Nat.le_of_ble_eq_true rfl, Nat.le_of_ble_eq_true rfl⟩ ⟨Nat.le_of_ble_eq_true rfl, Nat.le_of_ble_eq_true rfl⟩ rfl rfl
    exact r_ir dX9_mentor_45 rfl (Nat.le_of_ble_eq_true rfl) (Nat.le_of_ble_eq_true rfl)
  · refine r_iconst (pc := 28) ?_ dX9_mentor_28 (by decide)
    refine r_goto (pc := 29) (t := 33) ?_ dX9_mentor_29 (by decide)
    refine r_cs (pc := 33) ?_ dX9_mentor_33 ok_X9_refuse wd_2_19 ⟨Nat.le_of_ble_eq_true rfl, Nat.le_of_ble_eq_true rfl⟩ ⟨Nat.le_of_ble_eq_true rfl, Nat.le_of_ble_eq_true rfl⟩
    refine r_aload_n (pc := 36) ?_ dX9_mentor_36 rfl
    refine r_gp (pc := 37) (kf := 0) ?_ dX9_mentor_37 cl_X9 (Nat.le_of_ble_eq_true rfl) rfl wd_1_225 pv_X9_0
    refine r_iload_n (pc := 40) ?_ dX9_mentor_40 rfl
    refine r_iload_n (pc := 41) ?_ dX9_mentor_41 rfl
    refine r_cv0 (pc := 42) ?_ dX9_mentor_42 cl_X7 ok_X7_mentorValue rfl wd_3_23 ⟨Nat.le_of_ble_eq_true rfl, Nat.le_of_ble_eq_true rfl⟩ ⟨Nat.le_of_ble_eq_true rfl, Nat.le_of_ble_eq_true rfl⟩ rfl rfl
    exact r_ir dX9_mentor_45 rfl (Nat.le_of_ble_eq_true rfl) (Nat.le_of_ble_eq_true rfl)
abbrev Y_X9_apprentice : YT := (yX9_apprentice, cX9_apprentice, 3, (some .int), 7, 102, 2, 12)
theorem ok_X9_apprentice : okV Y_X9_apprentice 2 := ⟨⟨wd_3_48, wd_1_1, by decide, by decide, by decide +kernel⟩, wd_3_46, wd_3_47⟩
def R_X9_apprentice_0 (l : Launch) (G : GT) (F : FX) (Q : PQ) (QX : PX) : KT := (I_al 0 (I_gp 7 3 1 (I_il 1 (I_cv (Tr true l G Y_X7_hasApprentice) 5 9 1 QX (I_ifeq (I_ic 1 (Wj true l G F Y_X9_apprentice Q QX 0 0 16)) (I_ic 0 (Wj true l G F Y_X9_apprentice Q QX 0 0 16)))))))
set_option maxRecDepth 100000 in
theorem g_X9_apprentice_0 {l : Launch} {G : GT} {F : FX} {Q : PQ} {QX : PX} : Le (R_X9_apprentice_0 l G F Q QX) (Wj true l G F Y_X9_apprentice Q QX 0 0 0) := by
  unfold R_X9_apprentice_0
  refine r_aload_n (pc := 0) ?_ dX9_apprentice_0 rfl
  refine r_gp (pc := 1) (kf := 0) ?_ dX9_apprentice_1 cl_X9 (Nat.le_of_ble_eq_true rfl) rfl wd_1_225 pv_X9_0
  refine r_iload_n (pc := 4) ?_ dX9_apprentice_4 rfl
  refine r_cv0 (pc := 5) ?_ dX9_apprentice_5 cl_X7 ok_X7_hasApprentice rfl wd_3_49 ⟨Nat.le_of_ble_eq_true rfl, Nat.le_of_ble_eq_true rfl⟩ ⟨Nat.le_of_ble_eq_true rfl, Nat.le_of_ble_eq_true rfl⟩ rfl rfl
  refine r_ifeq (pc := 8) (t := 15) ?_ ?_ dX9_apprentice_8 (by decide)
  · refine r_iconst (pc := 15) ?_ dX9_apprentice_15 (by decide)
    exact Le.rf
  · refine r_iconst (pc := 11) ?_ dX9_apprentice_11 (by decide)
    refine r_goto (pc := 12) (t := 16) ?_ dX9_apprentice_12 (by decide)
    exact Le.rf
def R_X9_apprentice_16 (l : Launch) (G : GT) (F : FX) (Q : PQ) (QX : PX) : KT := (I_cs (Tr true l G Y_X9_refuse) 1 QX (I_il 2 (I_ic 0 (I_ic 11 (I_cs (Tr true l G Y_X9_isWithin) 3 QX (I_ifeq (I_ic 2 (I_cs (Tr true l G Y_X9_refuse) 1 QX (I_al 0 (I_gp 7 3 1 (I_il 1 (I_il 2 (I_cv (Tr true l G Y_X7_apprenticeValue) 5 9 2 QX (I_ir Q)))))))) (I_ic 0 (I_cs (Tr true l G Y_X9_refuse) 1 QX (I_al 0 (I_gp 7 3 1 (I_il 1 (I_il 2 (I_cv (Tr true l G Y_X7_apprenticeValue) 5 9 2 QX (I_ir Q))))))))))))))
set_option maxRecDepth 100000 in
theorem g_X9_apprentice_16 {l : Launch} {G : GT} {F : FX} {Q : PQ} {QX : PX} : Le (R_X9_apprentice_16 l G F Q QX) (Wj true l G F Y_X9_apprentice Q QX 0 0 16) := by
  unfold R_X9_apprentice_16
  refine r_cs (pc := 16) ?_ dX9_apprentice_16 ok_X9_refuse wd_2_19 ⟨Nat.le_of_ble_eq_true rfl, Nat.le_of_ble_eq_true rfl⟩ ⟨Nat.le_of_ble_eq_true rfl, Nat.le_of_ble_eq_true rfl⟩
  refine r_iload_n (pc := 19) ?_ dX9_apprentice_19 rfl
  refine r_iconst (pc := 20) ?_ dX9_apprentice_20 (by decide)
  refine r_bipush (pc := 21) ?_ dX9_apprentice_21 (by decide)
  refine r_cs0 (pc := 23) ?_ dX9_apprentice_23 ok_X9_isWithin wd_2_16 ⟨Nat.le_of_ble_eq_true rfl, Nat.le_of_ble_eq_true rfl⟩ ⟨Nat.le_of_ble_eq_true rfl, Nat.le_of_ble_eq_true rfl⟩ rfl rfl
  refine r_ifeq (pc := 26) (t := 33) ?_ ?_ dX9_apprentice_26 (by decide)
  · refine r_iconst (pc := 33) ?_ dX9_apprentice_33 (by decide)
    refine r_cs (pc := 34) ?_ dX9_apprentice_34 ok_X9_refuse wd_2_19 ⟨Nat.le_of_ble_eq_true rfl, Nat.le_of_ble_eq_true rfl⟩ ⟨Nat.le_of_ble_eq_true rfl, Nat.le_of_ble_eq_true rfl⟩
    refine r_aload_n (pc := 37) ?_ dX9_apprentice_37 rfl
    refine r_gp (pc := 38) (kf := 0) ?_ dX9_apprentice_38 cl_X9 (Nat.le_of_ble_eq_true rfl) rfl wd_1_225 pv_X9_0
    refine r_iload_n (pc := 41) ?_ dX9_apprentice_41 rfl
    refine r_iload_n (pc := 42) ?_ dX9_apprentice_42 rfl
    refine r_cv0 (pc := 43) ?_ dX9_apprentice_43 cl_X7 ok_X7_apprenticeValue rfl wd_3_53 ⟨Nat.le_of_ble_eq_true rfl, Nat.le_of_ble_eq_true rfl⟩ ⟨Nat.le_of_ble_eq_true rfl, Nat.le_of_ble_eq_true rfl⟩ rfl rfl
    exact r_ir dX9_apprentice_46 rfl (Nat.le_of_ble_eq_true rfl) (Nat.le_of_ble_eq_true rfl)
  · refine r_iconst (pc := 29) ?_ dX9_apprentice_29 (by decide)
    refine r_goto (pc := 30) (t := 34) ?_ dX9_apprentice_30 (by decide)
    refine r_cs (pc := 34) ?_ dX9_apprentice_34 ok_X9_refuse wd_2_19 ⟨Nat.le_of_ble_eq_true rfl, Nat.le_of_ble_eq_true rfl⟩ ⟨Nat.le_of_ble_eq_true rfl, Nat.le_of_ble_eq_true rfl⟩
    refine r_aload_n (pc := 37) ?_ dX9_apprentice_37 rfl
    refine r_gp (pc := 38) (kf := 0) ?_ dX9_apprentice_38 cl_X9 (Nat.le_of_ble_eq_true rfl) rfl wd_1_225 pv_X9_0
    refine r_iload_n (pc := 41) ?_ dX9_apprentice_41 rfl
    refine r_iload_n (pc := 42) ?_ dX9_apprentice_42 rfl
    refine r_cv0 (pc := 43) ?_ dX9_apprentice_43 cl_X7 ok_X7_apprenticeValue rfl wd_3_53 ⟨Nat.le_of_ble_eq_true rfl, Nat.le_of_ble_eq_true rfl⟩ ⟨Nat.le_of_ble_eq_true rfl, Nat.le_of_ble_eq_true rfl⟩ rfl rfl
    exact r_ir dX9_apprentice_46 rfl (Nat.le_of_ble_eq_true rfl) (Nat.le_of_ble_eq_true rfl)
abbrev Y_X9_part : YT := (yX9_part, cX9_part, 4, (some .int), 7, 102, 2, 12)
theorem ok_X9_part : okV Y_X9_part 3 := ⟨⟨wd_3_72, wd_1_1, by decide, by decide, by decide +kernel⟩, wd_3_70, wd_3_71⟩
def R_X9_part_0 (l : Launch) (G : GT) (F : FX) (Q : PQ) (QX : PX) : KT := (I_al 0 (I_gp 7 3 1 (I_il 1 (I_cv (Tr true l G Y_X7_hasApprentice) 5 9 1 QX (I_ifeq (I_ic 1 (Wj true l G F Y_X9_part Q QX 0 0 16)) (I_ic 0 (Wj true l G F Y_X9_part Q QX 0 0 16)))))))
set_option maxRecDepth 100000 in
theorem g_X9_part_0 {l : Launch} {G : GT} {F : FX} {Q : PQ} {QX : PX} : Le (R_X9_part_0 l G F Q QX) (Wj true l G F Y_X9_part Q QX 0 0 0) := by
  unfold R_X9_part_0
  refine r_aload_n (pc := 0) ?_ dX9_part_0 rfl
  refine r_gp (pc := 1) (kf := 0) ?_ dX9_part_1 cl_X9 (Nat.le_of_ble_eq_true rfl) rfl wd_1_225 pv_X9_0
  refine r_iload_n (pc := 4) ?_ dX9_part_4 rfl
  refine r_cv0 (pc := 5) ?_ dX9_part_5 cl_X7 ok_X7_hasApprentice rfl wd_3_49 ⟨Nat.le_of_ble_eq_true rfl, Nat.le_of_ble_eq_true rfl⟩ ⟨Nat.le_of_ble_eq_true rfl, Nat.le_of_ble_eq_true rfl⟩ rfl rfl
  refine r_ifeq (pc := 8) (t := 15) ?_ ?_ dX9_part_8 (by decide)
  · refine r_iconst (pc := 15) ?_ dX9_part_15 (by decide)
    exact Le.rf
  · refine r_iconst (pc := 11) ?_ dX9_part_11 (by decide)
    refine r_goto (pc := 12) (t := 16) ?_ dX9_part_12 (by decide)
    exact Le.rf
def R_X9_part_16 (l : Launch) (G : GT) (F : FX) (Q : PQ) (QX : PX) : KT := (I_cs (Tr true l G Y_X9_refuse) 1 QX (I_il 2 (I_cs (Tr true l G Y_X9_isPart) 1 QX (I_ifeq (I_ic 2 (I_cs (Tr true l G Y_X9_refuse) 1 QX (I_al 0 (I_gp 7 3 1 (I_il 1 (I_il 2 (I_il 3 (I_cv (Tr true l G Y_X7_partValue) 5 9 3 QX (I_ir Q))))))))) (I_il 3 (I_ic 0 (I_ic 4 (I_cs (Tr true l G Y_X9_isWithin) 3 QX (I_ifeq (I_ic 2 (I_cs (Tr true l G Y_X9_refuse) 1 QX (I_al 0 (I_gp 7 3 1 (I_il 1 (I_il 2 (I_il 3 (I_cv (Tr true l G Y_X7_partValue) 5 9 3 QX (I_ir Q))))))))) (I_ic 0 (I_cs (Tr true l G Y_X9_refuse) 1 QX (I_al 0 (I_gp 7 3 1 (I_il 1 (I_il 2 (I_il 3 (I_cv (Tr true l G Y_X7_partValue) 5 9 3 QX (I_ir Q))))))))))))))))))
set_option maxRecDepth 100000 in
theorem g_X9_part_16 {l : Launch} {G : GT} {F : FX} {Q : PQ} {QX : PX} : Le (R_X9_part_16 l G F Q QX) (Wj true l G F Y_X9_part Q QX 0 0 16) := by
  unfold R_X9_part_16
  refine r_cs (pc := 16) ?_ dX9_part_16 ok_X9_refuse wd_2_19 ⟨Nat.le_of_ble_eq_true rfl, Nat.le_of_ble_eq_true rfl⟩ ⟨Nat.le_of_ble_eq_true rfl, Nat.le_of_ble_eq_true rfl⟩
  refine r_iload_n (pc := 19) ?_ dX9_part_19 rfl
  refine r_cs0 (pc := 20) ?_ dX9_part_20 ok_X9_isPart wd_3_73 ⟨Nat.le_of_ble_eq_true rfl, Nat.le_of_ble_eq_true rfl⟩ ⟨Nat.le_of_ble_eq_true rfl, Nat.le_of_ble_eq_true rfl⟩ rfl rfl
  refine r_ifeq (pc := 23) (t := 39) ?_ ?_ dX9_part_23 (by decide)
  · refine r_iconst (pc := 39) ?_ dX9_part_39 (by decide)
    refine r_cs (pc := 40) ?_ dX9_part_40 ok_X9_refuse wd_2_19 ⟨Nat.le_of_ble_eq_true rfl, Nat.le_of_ble_eq_true rfl⟩ ⟨Nat.le_of_ble_eq_true rfl, Nat.le_of_ble_eq_true rfl⟩
    refine r_aload_n (pc := 43) ?_ dX9_part_43 rfl
    refine r_gp (pc := 44) (kf := 0) ?_ dX9_part_44 cl_X9 (Nat.le_of_ble_eq_true rfl) rfl wd_1_225 pv_X9_0
    refine r_iload_n (pc := 47) ?_ dX9_part_47 rfl
    refine r_iload_n (pc := 48) ?_ dX9_part_48 rfl
    refine r_iload_n (pc := 49) ?_ dX9_part_49 rfl
    refine r_cv0 (pc := 50) ?_ dX9_part_50 cl_X7 ok_X7_partValue rfl wd_3_76 ⟨Nat.le_of_ble_eq_true rfl, Nat.le_of_ble_eq_true rfl⟩ ⟨Nat.le_of_ble_eq_true rfl, Nat.le_of_ble_eq_true rfl⟩ rfl rfl
    exact r_ir dX9_part_53 rfl (Nat.le_of_ble_eq_true rfl) (Nat.le_of_ble_eq_true rfl)
  · refine r_iload_n (pc := 26) ?_ dX9_part_26 rfl
    refine r_iconst (pc := 27) ?_ dX9_part_27 (by decide)
    refine r_iconst (pc := 28) ?_ dX9_part_28 (by decide)
    refine r_cs0 (pc := 29) ?_ dX9_part_29 ok_X9_isWithin wd_2_16 ⟨Nat.le_of_ble_eq_true rfl, Nat.le_of_ble_eq_true rfl⟩ ⟨Nat.le_of_ble_eq_true rfl, Nat.le_of_ble_eq_true rfl⟩ rfl rfl
    refine r_ifeq (pc := 32) (t := 39) ?_ ?_ dX9_part_32 (by decide)
    · refine r_iconst (pc := 39) ?_ dX9_part_39 (by decide)
      refine r_cs (pc := 40) ?_ dX9_part_40 ok_X9_refuse wd_2_19 ⟨Nat.le_of_ble_eq_true rfl, Nat.le_of_ble_eq_true rfl⟩ ⟨Nat.le_of_ble_eq_true rfl, Nat.le_of_ble_eq_true rfl⟩
      refine r_aload_n (pc := 43) ?_ dX9_part_43 rfl
      refine r_gp (pc := 44) (kf := 0) ?_ dX9_part_44 cl_X9 (Nat.le_of_ble_eq_true rfl) rfl wd_1_225 pv_X9_0
      refine r_iload_n (pc := 47) ?_ dX9_part_47 rfl
      refine r_iload_n (pc := 48) ?_ dX9_part_48 rfl
      refine r_iload_n (pc := 49) ?_ dX9_part_49 rfl
      refine r_cv0 (pc := 50) ?_ dX9_part_50 cl_X7 ok_X7_partValue rfl wd_3_76 ⟨Nat.le_of_ble_eq_true rfl, Nat.le_of_ble_eq_true rfl⟩ ⟨Nat.le_of_ble_eq_true rfl, Nat.le_of_ble_eq_true rfl⟩ rfl rfl
      exact r_ir dX9_part_53 rfl (Nat.le_of_ble_eq_true rfl) (Nat.le_of_ble_eq_true rfl)
    · refine r_iconst (pc := 35) ?_ dX9_part_35 (by decide)
      refine r_goto (pc := 36) (t := 40) ?_ dX9_part_36 (by decide)
      refine r_cs (pc := 40) ?_ dX9_part_40 ok_X9_refuse wd_2_19 ⟨Nat.le_of_ble_eq_true rfl, Nat.le_of_ble_eq_true rfl⟩ ⟨Nat.le_of_ble_eq_true rfl, Nat.le_of_ble_eq_true rfl⟩
      refine r_aload_n (pc := 43) ?_ dX9_part_43 rfl
      refine r_gp (pc := 44) (kf := 0) ?_ dX9_part_44 cl_X9 (Nat.le_of_ble_eq_true rfl) rfl wd_1_225 pv_X9_0
      refine r_iload_n (pc := 47) ?_ dX9_part_47 rfl
      refine r_iload_n (pc := 48) ?_ dX9_part_48 rfl
      refine r_iload_n (pc := 49) ?_ dX9_part_49 rfl
      refine r_cv0 (pc := 50) ?_ dX9_part_50 cl_X7 ok_X7_partValue rfl wd_3_76 ⟨Nat.le_of_ble_eq_true rfl, Nat.le_of_ble_eq_true rfl⟩ ⟨Nat.le_of_ble_eq_true rfl, Nat.le_of_ble_eq_true rfl⟩ rfl rfl
      exact r_ir dX9_part_53 rfl (Nat.le_of_ble_eq_true rfl) (Nat.le_of_ble_eq_true rfl)
abbrev Y_X9_entry : YT := (yX9_entry, cX9_entry, 5, (some .int), 7, 102, 2, 12)
theorem ok_X9_entry : okV Y_X9_entry 4 := ⟨⟨wd_3_90, wd_1_1, by decide, by decide, by decide +kernel⟩, wd_3_88, wd_3_89⟩
def R_X9_entry_0 (l : Launch) (G : GT) (F : FX) (Q : PQ) (QX : PX) : KT := (I_al 0 (I_gp 7 3 1 (I_il 1 (I_cv (Tr true l G Y_X7_hasApprentice) 5 9 1 QX (I_ifeq (I_ic 1 (Wj true l G F Y_X9_entry Q QX 0 0 16)) (I_ic 0 (Wj true l G F Y_X9_entry Q QX 0 0 16)))))))
set_option maxRecDepth 100000 in
theorem g_X9_entry_0 {l : Launch} {G : GT} {F : FX} {Q : PQ} {QX : PX} : Le (R_X9_entry_0 l G F Q QX) (Wj true l G F Y_X9_entry Q QX 0 0 0) := by
  unfold R_X9_entry_0
  refine r_aload_n (pc := 0) ?_ dX9_entry_0 rfl
  refine r_gp (pc := 1) (kf := 0) ?_ dX9_entry_1 cl_X9 (Nat.le_of_ble_eq_true rfl) rfl wd_1_225 pv_X9_0
  refine r_iload_n (pc := 4) ?_ dX9_entry_4 rfl
  refine r_cv0 (pc := 5) ?_ dX9_entry_5 cl_X7 ok_X7_hasApprentice rfl wd_3_49 ⟨Nat.le_of_ble_eq_true rfl, Nat.le_of_ble_eq_true rfl⟩ ⟨Nat.le_of_ble_eq_true rfl, Nat.le_of_ble_eq_true rfl⟩ rfl rfl
  refine r_ifeq (pc := 8) (t := 15) ?_ ?_ dX9_entry_8 (by decide)
  · refine r_iconst (pc := 15) ?_ dX9_entry_15 (by decide)
    exact Le.rf
  · refine r_iconst (pc := 11) ?_ dX9_entry_11 (by decide)
    refine r_goto (pc := 12) (t := 16) ?_ dX9_entry_12 (by decide)
    exact Le.rf
def R_X9_entry_16 (l : Launch) (G : GT) (F : FX) (Q : PQ) (QX : PX) : KT := (I_cs (Tr true l G Y_X9_refuse) 1 QX (I_il 3 (I_iflt (I_ic 2 (I_cs (Tr true l G Y_X9_refuse) 1 QX (I_al 0 (I_gp 7 3 1 (I_il 1 (I_il 2 (I_il 3 (I_il 4 (I_cv (Tr true l G Y_X7_entryValue) 5 9 4 QX (I_ir Q)))))))))) (I_il 4 (I_ic 0 (I_ic 3 (I_cs (Tr true l G Y_X9_isWithin) 3 QX (I_ifeq (I_ic 2 (I_cs (Tr true l G Y_X9_refuse) 1 QX (I_al 0 (I_gp 7 3 1 (I_il 1 (I_il 2 (I_il 3 (I_il 4 (I_cv (Tr true l G Y_X7_entryValue) 5 9 4 QX (I_ir Q)))))))))) (I_ic 0 (I_cs (Tr true l G Y_X9_refuse) 1 QX (I_al 0 (I_gp 7 3 1 (I_il 1 (I_il 2 (I_il 3 (I_il 4 (I_cv (Tr true l G Y_X7_entryValue) 5 9 4 QX (I_ir Q))))))))))))))))))
set_option maxRecDepth 100000 in
theorem g_X9_entry_16 {l : Launch} {G : GT} {F : FX} {Q : PQ} {QX : PX} : Le (R_X9_entry_16 l G F Q QX) (Wj true l G F Y_X9_entry Q QX 0 0 16) := by
  unfold R_X9_entry_16
  refine r_cs (pc := 16) ?_ dX9_entry_16 ok_X9_refuse wd_2_19 ⟨Nat.le_of_ble_eq_true rfl, Nat.le_of_ble_eq_true rfl⟩ ⟨Nat.le_of_ble_eq_true rfl, Nat.le_of_ble_eq_true rfl⟩
  refine r_iload_n (pc := 19) ?_ dX9_entry_19 rfl
  refine r_iflt (pc := 20) (t := 37) ?_ ?_ dX9_entry_20 (by decide)
  · refine r_iconst (pc := 37) ?_ dX9_entry_37 (by decide)
    refine r_cs (pc := 38) ?_ dX9_entry_38 ok_X9_refuse wd_2_19 ⟨Nat.le_of_ble_eq_true rfl, Nat.le_of_ble_eq_true rfl⟩ ⟨Nat.le_of_ble_eq_true rfl, Nat.le_of_ble_eq_true rfl⟩
    refine r_aload_n (pc := 41) ?_ dX9_entry_41 rfl
    refine r_gp (pc := 42) (kf := 0) ?_ dX9_entry_42 cl_X9 (Nat.le_of_ble_eq_true rfl) rfl wd_1_225 pv_X9_0
    refine r_iload_n (pc := 45) ?_ dX9_entry_45 rfl
    refine r_iload_n (pc := 46) ?_ dX9_entry_46 rfl
    refine r_iload_n (pc := 47) ?_ dX9_entry_47 rfl
    refine r_iload (pc := 48) ?_ dX9_entry_48
    refine r_cv0 (pc := 50) ?_ dX9_entry_50 cl_X7 ok_X7_entryValue rfl wd_3_91 ⟨Nat.le_of_ble_eq_true rfl, Nat.le_of_ble_eq_true rfl⟩ ⟨Nat.le_of_ble_eq_true rfl, Nat.le_of_ble_eq_true rfl⟩ rfl rfl
    exact r_ir dX9_entry_53 rfl (Nat.le_of_ble_eq_true rfl) (Nat.le_of_ble_eq_true rfl)
  · refine r_iload (pc := 23) ?_ dX9_entry_23
    refine r_iconst (pc := 25) ?_ dX9_entry_25 (by decide)
    refine r_iconst (pc := 26) ?_ dX9_entry_26 (by decide)
    refine r_cs0 (pc := 27) ?_ dX9_entry_27 ok_X9_isWithin wd_2_16 ⟨Nat.le_of_ble_eq_true rfl, Nat.le_of_ble_eq_true rfl⟩ ⟨Nat.le_of_ble_eq_true rfl, Nat.le_of_ble_eq_true rfl⟩ rfl rfl
    refine r_ifeq (pc := 30) (t := 37) ?_ ?_ dX9_entry_30 (by decide)
    · refine r_iconst (pc := 37) ?_ dX9_entry_37 (by decide)
      refine r_cs (pc := 38) ?_ dX9_entry_38 ok_X9_refuse wd_2_19 ⟨Nat.le_of_ble_eq_true rfl, Nat.le_of_ble_eq_true rfl⟩ ⟨Nat.le_of_ble_eq_true rfl, Nat.le_of_ble_eq_true rfl⟩
      refine r_aload_n (pc := 41) ?_ dX9_entry_41 rfl
      refine r_gp (pc := 42) (kf := 0) ?_ dX9_entry_42 cl_X9 (Nat.le_of_ble_eq_true rfl) rfl wd_1_225 pv_X9_0
      refine r_iload_n (pc := 45) ?_ dX9_entry_45 rfl
      refine r_iload_n (pc := 46) ?_ dX9_entry_46 rfl
      refine r_iload_n (pc := 47) ?_ dX9_entry_47 rfl
      refine r_iload (pc := 48) ?_ dX9_entry_48
      refine r_cv0 (pc := 50) ?_ dX9_entry_50 cl_X7 ok_X7_entryValue rfl wd_3_91 ⟨Nat.le_of_ble_eq_true rfl, Nat.le_of_ble_eq_true rfl⟩ ⟨Nat.le_of_ble_eq_true rfl, Nat.le_of_ble_eq_true rfl⟩ rfl rfl
      exact r_ir dX9_entry_53 rfl (Nat.le_of_ble_eq_true rfl) (Nat.le_of_ble_eq_true rfl)
    · refine r_iconst (pc := 33) ?_ dX9_entry_33 (by decide)
      refine r_goto (pc := 34) (t := 38) ?_ dX9_entry_34 (by decide)
      refine r_cs (pc := 38) ?_ dX9_entry_38 ok_X9_refuse wd_2_19 ⟨Nat.le_of_ble_eq_true rfl, Nat.le_of_ble_eq_true rfl⟩ ⟨Nat.le_of_ble_eq_true rfl, Nat.le_of_ble_eq_true rfl⟩
      refine r_aload_n (pc := 41) ?_ dX9_entry_41 rfl
      refine r_gp (pc := 42) (kf := 0) ?_ dX9_entry_42 cl_X9 (Nat.le_of_ble_eq_true rfl) rfl wd_1_225 pv_X9_0
      refine r_iload_n (pc := 45) ?_ dX9_entry_45 rfl
      refine r_iload_n (pc := 46) ?_ dX9_entry_46 rfl
      refine r_iload_n (pc := 47) ?_ dX9_entry_47 rfl
      refine r_iload (pc := 48) ?_ dX9_entry_48
      refine r_cv0 (pc := 50) ?_ dX9_entry_50 cl_X7 ok_X7_entryValue rfl wd_3_91 ⟨Nat.le_of_ble_eq_true rfl, Nat.le_of_ble_eq_true rfl⟩ ⟨Nat.le_of_ble_eq_true rfl, Nat.le_of_ble_eq_true rfl⟩ rfl rfl
      exact r_ir dX9_entry_53 rfl (Nat.le_of_ble_eq_true rfl) (Nat.le_of_ble_eq_true rfl)
abbrev Y_X9_valueOfWhole : YT := (yX9_valueOfWhole, cX9_valueOfWhole, 2, (some .int), 5, 112, 0, 0)
theorem ok_X9_valueOfWhole : okV Y_X9_valueOfWhole 1 := ⟨⟨wd_2_219, wd_1_1, by decide, by decide, by decide +kernel⟩, wd_2_218, wp_3⟩
def R_X9_valueOfWhole_0 (l : Launch) (G : GT) (F : FX) (Q : PQ) (QX : PX) : KT := (I_il 1 (I_ic 9 (I_icne (I_al 0 (I_gp 7 3 1 (I_il 1 (I_cv (Tr true l G Y_X7_wholeValue) 5 9 1 QX (I_ir Q))))) (I_al 0 (I_gp 7 3 1073 (I_gi 1 3 11 (I_ir Q)))))))
set_option maxRecDepth 100000 in
theorem g_X9_valueOfWhole_0 {l : Launch} {G : GT} {F : FX} {Q : PQ} {QX : PX} : Le (R_X9_valueOfWhole_0 l G F Q QX) (Wj true l G F Y_X9_valueOfWhole Q QX 0 0 0) := by
  unfold R_X9_valueOfWhole_0
  refine r_iload_n (pc := 0) ?_ dX9_valueOfWhole_0 rfl
  refine r_bipush (pc := 1) ?_ dX9_valueOfWhole_1 (by decide)
  refine r_icne (pc := 3) (t := 16) ?_ ?_ dX9_valueOfWhole_3 (by decide)
  · refine r_aload_n (pc := 16) ?_ dX9_valueOfWhole_16 rfl
    refine r_gp (pc := 17) (kf := 0) ?_ dX9_valueOfWhole_17 cl_X9 (Nat.le_of_ble_eq_true rfl) rfl wd_1_225 pv_X9_0
    refine r_iload_n (pc := 20) ?_ dX9_valueOfWhole_20 rfl
    refine r_cv0 (pc := 21) ?_ dX9_valueOfWhole_21 cl_X7 ok_X7_wholeValue rfl wd_2_220 ⟨Nat.le_of_ble_eq_true rfl, Nat.le_of_ble_eq_true rfl⟩ ⟨Nat.le_of_ble_eq_true rfl, Nat.le_of_ble_eq_true rfl⟩ rfl rfl
    exact r_ir dX9_valueOfWhole_24 rfl (Nat.le_of_ble_eq_true rfl) (Nat.le_of_ble_eq_true rfl)
  · refine r_aload_n (pc := 6) ?_ dX9_valueOfWhole_6 rfl
    refine r_gp (pc := 7) (kf := 2) ?_ dX9_valueOfWhole_7 cl_X9 (Nat.le_of_ble_eq_true rfl) rfl wd_1_227 pv_X9_2
    refine r_gi (pc := 10) ?_ dX9_valueOfWhole_10 cl_X3 (Nat.le_of_ble_eq_true rfl) rfl wd_1_201
    refine r_goto (pc := 13) (t := 24) ?_ dX9_valueOfWhole_13 (by decide)
    exact r_ir dX9_valueOfWhole_24 rfl (Nat.le_of_ble_eq_true rfl) (Nat.le_of_ble_eq_true rfl)
abbrev Y_X9_whole : YT := (yX9_whole, cX9_whole, 2, (some .int), 7, 133, 1, 6)
theorem ok_X9_whole : okV Y_X9_whole 1 := ⟨⟨wd_2_215, wd_1_1, by decide, by decide, by decide +kernel⟩, wd_2_213, wd_2_214⟩
def R_X9_whole_0 (l : Launch) (G : GT) (F : FX) (Q : PQ) (QX : PX) : KT := (I_il 1 (I_ic 0 (I_ic 9 (I_cs (Tr true l G Y_X9_isWithin) 3 QX (I_ifeq (I_ic 2 (I_cs (Tr true l G Y_X9_refuse) 1 QX (I_al 0 (I_il 1 (I_cv (Tr true l G Y_X9_valueOfWhole) 7 3 1 QX (I_ir Q)))))) (I_ic 0 (I_cs (Tr true l G Y_X9_refuse) 1 QX (I_al 0 (I_il 1 (I_cv (Tr true l G Y_X9_valueOfWhole) 7 3 1 QX (I_ir Q)))))))))))
set_option maxRecDepth 100000 in
theorem g_X9_whole_0 {l : Launch} {G : GT} {F : FX} {Q : PQ} {QX : PX} : Le (R_X9_whole_0 l G F Q QX) (Wj true l G F Y_X9_whole Q QX 0 0 0) := by
  unfold R_X9_whole_0
  refine r_iload_n (pc := 0) ?_ dX9_whole_0 rfl
  refine r_iconst (pc := 1) ?_ dX9_whole_1 (by decide)
  refine r_bipush (pc := 2) ?_ dX9_whole_2 (by decide)
  refine r_cs0 (pc := 4) ?_ dX9_whole_4 ok_X9_isWithin wd_2_16 ⟨Nat.le_of_ble_eq_true rfl, Nat.le_of_ble_eq_true rfl⟩ ⟨Nat.le_of_ble_eq_true rfl, Nat.le_of_ble_eq_true rfl⟩ rfl rfl
  refine r_ifeq (pc := 7) (t := 14) ?_ ?_ dX9_whole_7 (by decide)
  · refine r_iconst (pc := 14) ?_ dX9_whole_14 (by decide)
    refine r_cs (pc := 15) ?_ dX9_whole_15 ok_X9_refuse wd_2_19 ⟨Nat.le_of_ble_eq_true rfl, Nat.le_of_ble_eq_true rfl⟩ ⟨Nat.le_of_ble_eq_true rfl, Nat.le_of_ble_eq_true rfl⟩
    refine r_aload_n (pc := 18) ?_ dX9_whole_18 rfl
    refine r_iload_n (pc := 19) ?_ dX9_whole_19 rfl
    refine r_cv0 (pc := 20) ?_ dX9_whole_20 cl_X9 ok_X9_valueOfWhole rfl wd_2_216 ⟨Nat.le_of_ble_eq_true rfl, Nat.le_of_ble_eq_true rfl⟩ ⟨Nat.le_of_ble_eq_true rfl, Nat.le_of_ble_eq_true rfl⟩ rfl rfl
    exact r_ir dX9_whole_23 rfl (Nat.le_of_ble_eq_true rfl) (Nat.le_of_ble_eq_true rfl)
  · refine r_iconst (pc := 10) ?_ dX9_whole_10 (by decide)
    refine r_goto (pc := 11) (t := 15) ?_ dX9_whole_11 (by decide)
    refine r_cs (pc := 15) ?_ dX9_whole_15 ok_X9_refuse wd_2_19 ⟨Nat.le_of_ble_eq_true rfl, Nat.le_of_ble_eq_true rfl⟩ ⟨Nat.le_of_ble_eq_true rfl, Nat.le_of_ble_eq_true rfl⟩
    refine r_aload_n (pc := 18) ?_ dX9_whole_18 rfl
    refine r_iload_n (pc := 19) ?_ dX9_whole_19 rfl
    refine r_cv0 (pc := 20) ?_ dX9_whole_20 cl_X9 ok_X9_valueOfWhole rfl wd_2_216 ⟨Nat.le_of_ble_eq_true rfl, Nat.le_of_ble_eq_true rfl⟩ ⟨Nat.le_of_ble_eq_true rfl, Nat.le_of_ble_eq_true rfl⟩ rfl rfl
    exact r_ir dX9_whole_23 rfl (Nat.le_of_ble_eq_true rfl) (Nat.le_of_ble_eq_true rfl)
abbrev Y_X9_completeOn : YT := (yX9_completeOn, cX9_completeOn, 3, (some .int), 7, 102, 2, 12)
theorem ok_X9_completeOn : okV Y_X9_completeOn 2 := ⟨⟨wd_4_223, wd_1_1, by decide, by decide, by decide +kernel⟩, wd_4_221, wd_4_222⟩
def R_X9_completeOn_0 (l : Launch) (G : GT) (F : FX) (Q : PQ) (QX : PX) : KT := (I_al 0 (I_gp 7 3 1 (I_il 1 (I_cv (Tr true l G Y_X7_hasApprentice) 5 9 1 QX (I_ifeq (I_ic 1 (Wj true l G F Y_X9_completeOn Q QX 0 0 16)) (I_ic 0 (Wj true l G F Y_X9_completeOn Q QX 0 0 16)))))))
set_option maxRecDepth 100000 in
theorem g_X9_completeOn_0 {l : Launch} {G : GT} {F : FX} {Q : PQ} {QX : PX} : Le (R_X9_completeOn_0 l G F Q QX) (Wj true l G F Y_X9_completeOn Q QX 0 0 0) := by
  unfold R_X9_completeOn_0
  refine r_aload_n (pc := 0) ?_ dX9_completeOn_0 rfl
  refine r_gp (pc := 1) (kf := 0) ?_ dX9_completeOn_1 cl_X9 (Nat.le_of_ble_eq_true rfl) rfl wd_1_225 pv_X9_0
  refine r_iload_n (pc := 4) ?_ dX9_completeOn_4 rfl
  refine r_cv0 (pc := 5) ?_ dX9_completeOn_5 cl_X7 ok_X7_hasApprentice rfl wd_3_49 ⟨Nat.le_of_ble_eq_true rfl, Nat.le_of_ble_eq_true rfl⟩ ⟨Nat.le_of_ble_eq_true rfl, Nat.le_of_ble_eq_true rfl⟩ rfl rfl
  refine r_ifeq (pc := 8) (t := 15) ?_ ?_ dX9_completeOn_8 (by decide)
  · refine r_iconst (pc := 15) ?_ dX9_completeOn_15 (by decide)
    exact Le.rf
  · refine r_iconst (pc := 11) ?_ dX9_completeOn_11 (by decide)
    refine r_goto (pc := 12) (t := 16) ?_ dX9_completeOn_12 (by decide)
    exact Le.rf
def R_X9_completeOn_16 (l : Launch) (G : GT) (F : FX) (Q : PQ) (QX : PX) : KT := (I_cs (Tr true l G Y_X9_refuse) 1 QX (I_il 2 (I_ic 1 (I_ic 12 (I_cs (Tr true l G Y_X9_isWithin) 3 QX (I_ifeq (I_ic 2 (I_cs (Tr true l G Y_X9_refuse) 1 QX (I_al 0 (I_gp 7 3 1 (I_il 1 (I_il 2 (I_cv (Tr true l G Y_X7_completionDay) 5 9 2 QX (I_ir Q)))))))) (I_ic 0 (I_cs (Tr true l G Y_X9_refuse) 1 QX (I_al 0 (I_gp 7 3 1 (I_il 1 (I_il 2 (I_cv (Tr true l G Y_X7_completionDay) 5 9 2 QX (I_ir Q))))))))))))))
set_option maxRecDepth 100000 in
theorem g_X9_completeOn_16 {l : Launch} {G : GT} {F : FX} {Q : PQ} {QX : PX} : Le (R_X9_completeOn_16 l G F Q QX) (Wj true l G F Y_X9_completeOn Q QX 0 0 16) := by
  unfold R_X9_completeOn_16
  refine r_cs (pc := 16) ?_ dX9_completeOn_16 ok_X9_refuse wd_2_19 ⟨Nat.le_of_ble_eq_true rfl, Nat.le_of_ble_eq_true rfl⟩ ⟨Nat.le_of_ble_eq_true rfl, Nat.le_of_ble_eq_true rfl⟩
  refine r_iload_n (pc := 19) ?_ dX9_completeOn_19 rfl
  refine r_iconst (pc := 20) ?_ dX9_completeOn_20 (by decide)
  refine r_bipush (pc := 21) ?_ dX9_completeOn_21 (by decide)
  refine r_cs0 (pc := 23) ?_ dX9_completeOn_23 ok_X9_isWithin wd_2_16 ⟨Nat.le_of_ble_eq_true rfl, Nat.le_of_ble_eq_true rfl⟩ ⟨Nat.le_of_ble_eq_true rfl, Nat.le_of_ble_eq_true rfl⟩ rfl rfl
  refine r_ifeq (pc := 26) (t := 33) ?_ ?_ dX9_completeOn_26 (by decide)
  · refine r_iconst (pc := 33) ?_ dX9_completeOn_33 (by decide)
    refine r_cs (pc := 34) ?_ dX9_completeOn_34 ok_X9_refuse wd_2_19 ⟨Nat.le_of_ble_eq_true rfl, Nat.le_of_ble_eq_true rfl⟩ ⟨Nat.le_of_ble_eq_true rfl, Nat.le_of_ble_eq_true rfl⟩
    refine r_aload_n (pc := 37) ?_ dX9_completeOn_37 rfl
    refine r_gp (pc := 38) (kf := 0) ?_ dX9_completeOn_38 cl_X9 (Nat.le_of_ble_eq_true rfl) rfl wd_1_225 pv_X9_0
    refine r_iload_n (pc := 41) ?_ dX9_completeOn_41 rfl
    refine r_iload_n (pc := 42) ?_ dX9_completeOn_42 rfl
    refine r_cv0 (pc := 43) ?_ dX9_completeOn_43 cl_X7 ok_X7_completionDay rfl wd_4_224 ⟨Nat.le_of_ble_eq_true rfl, Nat.le_of_ble_eq_true rfl⟩ ⟨Nat.le_of_ble_eq_true rfl, Nat.le_of_ble_eq_true rfl⟩ rfl rfl
    exact r_ir dX9_completeOn_46 rfl (Nat.le_of_ble_eq_true rfl) (Nat.le_of_ble_eq_true rfl)
  · refine r_iconst (pc := 29) ?_ dX9_completeOn_29 (by decide)
    refine r_goto (pc := 30) (t := 34) ?_ dX9_completeOn_30 (by decide)
    refine r_cs (pc := 34) ?_ dX9_completeOn_34 ok_X9_refuse wd_2_19 ⟨Nat.le_of_ble_eq_true rfl, Nat.le_of_ble_eq_true rfl⟩ ⟨Nat.le_of_ble_eq_true rfl, Nat.le_of_ble_eq_true rfl⟩
    refine r_aload_n (pc := 37) ?_ dX9_completeOn_37 rfl
    refine r_gp (pc := 38) (kf := 0) ?_ dX9_completeOn_38 cl_X9 (Nat.le_of_ble_eq_true rfl) rfl wd_1_225 pv_X9_0
    refine r_iload_n (pc := 41) ?_ dX9_completeOn_41 rfl
    refine r_iload_n (pc := 42) ?_ dX9_completeOn_42 rfl
    refine r_cv0 (pc := 43) ?_ dX9_completeOn_43 cl_X7 ok_X7_completionDay rfl wd_4_224 ⟨Nat.le_of_ble_eq_true rfl, Nat.le_of_ble_eq_true rfl⟩ ⟨Nat.le_of_ble_eq_true rfl, Nat.le_of_ble_eq_true rfl⟩ rfl rfl
    exact r_ir dX9_completeOn_46 rfl (Nat.le_of_ble_eq_true rfl) (Nat.le_of_ble_eq_true rfl)
abbrev Y_X9_bestMentor : YT := (yX9_bestMentor, cX9_bestMentor, 2, (some .int), 7, 110, 1, 6)
theorem ok_X9_bestMentor : okV Y_X9_bestMentor 1 := ⟨⟨wd_4_171, wd_1_1, by decide, by decide, by decide +kernel⟩, wd_4_169, wd_4_170⟩
def R_X9_bestMentor_0 (l : Launch) (G : GT) (F : FX) (Q : PQ) (QX : PX) : KT := (I_al 0 (I_gp 7 3 1 (I_il 1 (I_cv (Tr true l G Y_X7_hasApprentice) 5 9 1 QX (I_ifeq (I_ic 1 (I_cs (Tr true l G Y_X9_refuse) 1 QX (I_al 0 (I_gp 7 3 1 (I_il 1 (I_cv (Tr true l G Y_X7_leastBusyMentor) 5 9 1 QX (I_ir Q))))))) (I_ic 0 (I_cs (Tr true l G Y_X9_refuse) 1 QX (I_al 0 (I_gp 7 3 1 (I_il 1 (I_cv (Tr true l G Y_X7_leastBusyMentor) 5 9 1 QX (I_ir Q))))))))))))
set_option maxRecDepth 100000 in
theorem g_X9_bestMentor_0 {l : Launch} {G : GT} {F : FX} {Q : PQ} {QX : PX} : Le (R_X9_bestMentor_0 l G F Q QX) (Wj true l G F Y_X9_bestMentor Q QX 0 0 0) := by
  unfold R_X9_bestMentor_0
  refine r_aload_n (pc := 0) ?_ dX9_bestMentor_0 rfl
  refine r_gp (pc := 1) (kf := 0) ?_ dX9_bestMentor_1 cl_X9 (Nat.le_of_ble_eq_true rfl) rfl wd_1_225 pv_X9_0
  refine r_iload_n (pc := 4) ?_ dX9_bestMentor_4 rfl
  refine r_cv0 (pc := 5) ?_ dX9_bestMentor_5 cl_X7 ok_X7_hasApprentice rfl wd_3_49 ⟨Nat.le_of_ble_eq_true rfl, Nat.le_of_ble_eq_true rfl⟩ ⟨Nat.le_of_ble_eq_true rfl, Nat.le_of_ble_eq_true rfl⟩ rfl rfl
  refine r_ifeq (pc := 8) (t := 15) ?_ ?_ dX9_bestMentor_8 (by decide)
  · refine r_iconst (pc := 15) ?_ dX9_bestMentor_15 (by decide)
    refine r_cs (pc := 16) ?_ dX9_bestMentor_16 ok_X9_refuse wd_2_19 ⟨Nat.le_of_ble_eq_true rfl, Nat.le_of_ble_eq_true rfl⟩ ⟨Nat.le_of_ble_eq_true rfl, Nat.le_of_ble_eq_true rfl⟩
    refine r_aload_n (pc := 19) ?_ dX9_bestMentor_19 rfl
    refine r_gp (pc := 20) (kf := 0) ?_ dX9_bestMentor_20 cl_X9 (Nat.le_of_ble_eq_true rfl) rfl wd_1_225 pv_X9_0
    refine r_iload_n (pc := 23) ?_ dX9_bestMentor_23 rfl
    refine r_cv0 (pc := 24) ?_ dX9_bestMentor_24 cl_X7 ok_X7_leastBusyMentor rfl wd_4_172 ⟨Nat.le_of_ble_eq_true rfl, Nat.le_of_ble_eq_true rfl⟩ ⟨Nat.le_of_ble_eq_true rfl, Nat.le_of_ble_eq_true rfl⟩ rfl rfl
    exact r_ir dX9_bestMentor_27 rfl (Nat.le_of_ble_eq_true rfl) (Nat.le_of_ble_eq_true rfl)
  · refine r_iconst (pc := 11) ?_ dX9_bestMentor_11 (by decide)
    refine r_goto (pc := 12) (t := 16) ?_ dX9_bestMentor_12 (by decide)
    refine r_cs (pc := 16) ?_ dX9_bestMentor_16 ok_X9_refuse wd_2_19 ⟨Nat.le_of_ble_eq_true rfl, Nat.le_of_ble_eq_true rfl⟩ ⟨Nat.le_of_ble_eq_true rfl, Nat.le_of_ble_eq_true rfl⟩
    refine r_aload_n (pc := 19) ?_ dX9_bestMentor_19 rfl
    refine r_gp (pc := 20) (kf := 0) ?_ dX9_bestMentor_20 cl_X9 (Nat.le_of_ble_eq_true rfl) rfl wd_1_225 pv_X9_0
    refine r_iload_n (pc := 23) ?_ dX9_bestMentor_23 rfl
    refine r_cv0 (pc := 24) ?_ dX9_bestMentor_24 cl_X7 ok_X7_leastBusyMentor rfl wd_4_172 ⟨Nat.le_of_ble_eq_true rfl, Nat.le_of_ble_eq_true rfl⟩ ⟨Nat.le_of_ble_eq_true rfl, Nat.le_of_ble_eq_true rfl⟩ rfl rfl
    exact r_ir dX9_bestMentor_27 rfl (Nat.le_of_ble_eq_true rfl) (Nat.le_of_ble_eq_true rfl)
abbrev Y_X9_doubtsBy : YT := (yX9_doubtsBy, cX9_doubtsBy, 3, (some .int), 7, 102, 1, 6)
theorem ok_X9_doubtsBy : okV Y_X9_doubtsBy 2 := ⟨⟨wd_4_187, wd_1_1, by decide, by decide, by decide +kernel⟩, wd_4_185, wd_4_186⟩
def R_X9_doubtsBy_0 (l : Launch) (G : GT) (F : FX) (Q : PQ) (QX : PX) : KT := (I_al 0 (I_gp 7 3 1 (I_il 1 (I_cv (Tr true l G Y_X7_hasApprentice) 5 9 1 QX (I_ifeq (I_ic 1 (Wj true l G F Y_X9_doubtsBy Q QX 0 0 27)) (I_al 0 (I_gp 7 3 1 (I_il 2 (I_cv (Tr true l G Y_X7_hasApprentice) 5 9 1 QX (I_ifeq (I_ic 1 (Wj true l G F Y_X9_doubtsBy Q QX 0 0 27)) (I_ic 0 (Wj true l G F Y_X9_doubtsBy Q QX 0 0 27))))))))))))
set_option maxRecDepth 100000 in
theorem g_X9_doubtsBy_0 {l : Launch} {G : GT} {F : FX} {Q : PQ} {QX : PX} : Le (R_X9_doubtsBy_0 l G F Q QX) (Wj true l G F Y_X9_doubtsBy Q QX 0 0 0) := by
  unfold R_X9_doubtsBy_0
  refine r_aload_n (pc := 0) ?_ dX9_doubtsBy_0 rfl
  refine r_gp (pc := 1) (kf := 0) ?_ dX9_doubtsBy_1 cl_X9 (Nat.le_of_ble_eq_true rfl) rfl wd_1_225 pv_X9_0
  refine r_iload_n (pc := 4) ?_ dX9_doubtsBy_4 rfl
  refine r_cv0 (pc := 5) ?_ dX9_doubtsBy_5 cl_X7 ok_X7_hasApprentice rfl wd_3_49 ⟨Nat.le_of_ble_eq_true rfl, Nat.le_of_ble_eq_true rfl⟩ ⟨Nat.le_of_ble_eq_true rfl, Nat.le_of_ble_eq_true rfl⟩ rfl rfl
  refine r_ifeq (pc := 8) (t := 26) ?_ ?_ dX9_doubtsBy_8 (by decide)
  · refine r_iconst (pc := 26) ?_ dX9_doubtsBy_26 (by decide)
    exact Le.rf
  · refine r_aload_n (pc := 11) ?_ dX9_doubtsBy_11 rfl
    refine r_gp (pc := 12) (kf := 0) ?_ dX9_doubtsBy_12 cl_X9 (Nat.le_of_ble_eq_true rfl) rfl wd_1_225 pv_X9_0
    refine r_iload_n (pc := 15) ?_ dX9_doubtsBy_15 rfl
    refine r_cv0 (pc := 16) ?_ dX9_doubtsBy_16 cl_X7 ok_X7_hasApprentice rfl wd_3_49 ⟨Nat.le_of_ble_eq_true rfl, Nat.le_of_ble_eq_true rfl⟩ ⟨Nat.le_of_ble_eq_true rfl, Nat.le_of_ble_eq_true rfl⟩ rfl rfl
    refine r_ifeq (pc := 19) (t := 26) ?_ ?_ dX9_doubtsBy_19 (by decide)
    · refine r_iconst (pc := 26) ?_ dX9_doubtsBy_26 (by decide)
      exact Le.rf
    · refine r_iconst (pc := 22) ?_ dX9_doubtsBy_22 (by decide)
      refine r_goto (pc := 23) (t := 27) ?_ dX9_doubtsBy_23 (by decide)
      exact Le.rf
def R_X9_doubtsBy_27 (l : Launch) (G : GT) (F : FX) (Q : PQ) (QX : PX) : KT := (I_cs (Tr true l G Y_X9_refuse) 1 QX (I_al 0 (I_gp 7 3 1 (I_il 1 (I_il 2 (I_cv (Tr true l G Y_X7_canExchange) 5 9 2 QX (I_ifeq (I_ic (-1) (I_ir Q)) (I_al 0 (I_gp 7 3 1 (I_il 1 (I_il 2 (I_cv (Tr true l G Y_X7_doubtsOfExchange) 5 9 2 QX (I_ir Q)))))))))))))
set_option maxRecDepth 100000 in
theorem g_X9_doubtsBy_27 {l : Launch} {G : GT} {F : FX} {Q : PQ} {QX : PX} : Le (R_X9_doubtsBy_27 l G F Q QX) (Wj true l G F Y_X9_doubtsBy Q QX 0 0 27) := by
  unfold R_X9_doubtsBy_27
  refine r_cs (pc := 27) ?_ dX9_doubtsBy_27 ok_X9_refuse wd_2_19 ⟨Nat.le_of_ble_eq_true rfl, Nat.le_of_ble_eq_true rfl⟩ ⟨Nat.le_of_ble_eq_true rfl, Nat.le_of_ble_eq_true rfl⟩
  refine r_aload_n (pc := 30) ?_ dX9_doubtsBy_30 rfl
  refine r_gp (pc := 31) (kf := 0) ?_ dX9_doubtsBy_31 cl_X9 (Nat.le_of_ble_eq_true rfl) rfl wd_1_225 pv_X9_0
  refine r_iload_n (pc := 34) ?_ dX9_doubtsBy_34 rfl
  refine r_iload_n (pc := 35) ?_ dX9_doubtsBy_35 rfl
  refine r_cv0 (pc := 36) ?_ dX9_doubtsBy_36 cl_X7 ok_X7_canExchange rfl wd_4_150 ⟨Nat.le_of_ble_eq_true rfl, Nat.le_of_ble_eq_true rfl⟩ ⟨Nat.le_of_ble_eq_true rfl, Nat.le_of_ble_eq_true rfl⟩ rfl rfl
  refine r_ifeq (pc := 39) (t := 54) ?_ ?_ dX9_doubtsBy_39 (by decide)
  · refine r_iconst (pc := 54) ?_ dX9_doubtsBy_54 (by decide)
    exact r_ir dX9_doubtsBy_55 rfl (Nat.le_of_ble_eq_true rfl) (Nat.le_of_ble_eq_true rfl)
  · refine r_aload_n (pc := 42) ?_ dX9_doubtsBy_42 rfl
    refine r_gp (pc := 43) (kf := 0) ?_ dX9_doubtsBy_43 cl_X9 (Nat.le_of_ble_eq_true rfl) rfl wd_1_225 pv_X9_0
    refine r_iload_n (pc := 46) ?_ dX9_doubtsBy_46 rfl
    refine r_iload_n (pc := 47) ?_ dX9_doubtsBy_47 rfl
    refine r_cv0 (pc := 48) ?_ dX9_doubtsBy_48 cl_X7 ok_X7_doubtsOfExchange rfl wd_4_188 ⟨Nat.le_of_ble_eq_true rfl, Nat.le_of_ble_eq_true rfl⟩ ⟨Nat.le_of_ble_eq_true rfl, Nat.le_of_ble_eq_true rfl⟩ rfl rfl
    refine r_goto (pc := 51) (t := 55) ?_ dX9_doubtsBy_51 (by decide)
    exact r_ir dX9_doubtsBy_55 rfl (Nat.le_of_ble_eq_true rfl) (Nat.le_of_ble_eq_true rfl)
abbrev Y_X9_nextRelease : YT := (yX9_nextRelease, cX9_nextRelease, 3, (some .int), 7, 102, 2, 12)
theorem ok_X9_nextRelease : okV Y_X9_nextRelease 2 := ⟨⟨wd_3_102, wd_1_1, by decide, by decide, by decide +kernel⟩, wd_3_100, wd_3_101⟩
def R_X9_nextRelease_0 (l : Launch) (G : GT) (F : FX) (Q : PQ) (QX : PX) : KT := (I_al 0 (I_gp 7 3 1 (I_il 1 (I_cv (Tr true l G Y_X7_hasApprentice) 5 9 1 QX (I_ifeq (I_ic 1 (Wj true l G F Y_X9_nextRelease Q QX 0 0 16)) (I_ic 0 (Wj true l G F Y_X9_nextRelease Q QX 0 0 16)))))))
set_option maxRecDepth 100000 in
theorem g_X9_nextRelease_0 {l : Launch} {G : GT} {F : FX} {Q : PQ} {QX : PX} : Le (R_X9_nextRelease_0 l G F Q QX) (Wj true l G F Y_X9_nextRelease Q QX 0 0 0) := by
  unfold R_X9_nextRelease_0
  refine r_aload_n (pc := 0) ?_ dX9_nextRelease_0 rfl
  refine r_gp (pc := 1) (kf := 0) ?_ dX9_nextRelease_1 cl_X9 (Nat.le_of_ble_eq_true rfl) rfl wd_1_225 pv_X9_0
  refine r_iload_n (pc := 4) ?_ dX9_nextRelease_4 rfl
  refine r_cv0 (pc := 5) ?_ dX9_nextRelease_5 cl_X7 ok_X7_hasApprentice rfl wd_3_49 ⟨Nat.le_of_ble_eq_true rfl, Nat.le_of_ble_eq_true rfl⟩ ⟨Nat.le_of_ble_eq_true rfl, Nat.le_of_ble_eq_true rfl⟩ rfl rfl
  refine r_ifeq (pc := 8) (t := 15) ?_ ?_ dX9_nextRelease_8 (by decide)
  · refine r_iconst (pc := 15) ?_ dX9_nextRelease_15 (by decide)
    exact Le.rf
  · refine r_iconst (pc := 11) ?_ dX9_nextRelease_11 (by decide)
    refine r_goto (pc := 12) (t := 16) ?_ dX9_nextRelease_12 (by decide)
    exact Le.rf
def R_X9_nextRelease_16 (l : Launch) (G : GT) (F : FX) (Q : PQ) (QX : PX) : KT := (I_cs (Tr true l G Y_X9_refuse) 1 QX (I_il 2 (I_ic 0 (I_ic 9999 (I_cs (Tr true l G Y_X9_isWithin) 3 QX (I_ifeq (I_ic 2 (I_cs (Tr true l G Y_X9_refuse) 1 QX (I_al 0 (I_gp 7 3 1 (I_il 1 (I_il 2 (I_cv (Tr true l G Y_X7_firstRelease) 5 9 2 QX (I_ir Q)))))))) (I_ic 0 (I_cs (Tr true l G Y_X9_refuse) 1 QX (I_al 0 (I_gp 7 3 1 (I_il 1 (I_il 2 (I_cv (Tr true l G Y_X7_firstRelease) 5 9 2 QX (I_ir Q))))))))))))))
set_option maxRecDepth 100000 in
theorem g_X9_nextRelease_16 {l : Launch} {G : GT} {F : FX} {Q : PQ} {QX : PX} : Le (R_X9_nextRelease_16 l G F Q QX) (Wj true l G F Y_X9_nextRelease Q QX 0 0 16) := by
  unfold R_X9_nextRelease_16
  refine r_cs (pc := 16) ?_ dX9_nextRelease_16 ok_X9_refuse wd_2_19 ⟨Nat.le_of_ble_eq_true rfl, Nat.le_of_ble_eq_true rfl⟩ ⟨Nat.le_of_ble_eq_true rfl, Nat.le_of_ble_eq_true rfl⟩
  refine r_iload_n (pc := 19) ?_ dX9_nextRelease_19 rfl
  refine r_iconst (pc := 20) ?_ dX9_nextRelease_20 (by decide)
  refine r_sipush (pc := 21) ?_ dX9_nextRelease_21 (by decide)
  refine r_cs0 (pc := 24) ?_ dX9_nextRelease_24 ok_X9_isWithin wd_2_16 ⟨Nat.le_of_ble_eq_true rfl, Nat.le_of_ble_eq_true rfl⟩ ⟨Nat.le_of_ble_eq_true rfl, Nat.le_of_ble_eq_true rfl⟩ rfl rfl
  refine r_ifeq (pc := 27) (t := 34) ?_ ?_ dX9_nextRelease_27 (by decide)
  · refine r_iconst (pc := 34) ?_ dX9_nextRelease_34 (by decide)
    refine r_cs (pc := 35) ?_ dX9_nextRelease_35 ok_X9_refuse wd_2_19 ⟨Nat.le_of_ble_eq_true rfl, Nat.le_of_ble_eq_true rfl⟩ ⟨Nat.le_of_ble_eq_true rfl, Nat.le_of_ble_eq_true rfl⟩
    refine r_aload_n (pc := 38) ?_ dX9_nextRelease_38 rfl
    refine r_gp (pc := 39) (kf := 0) ?_ dX9_nextRelease_39 cl_X9 (Nat.le_of_ble_eq_true rfl) rfl wd_1_225 pv_X9_0
    refine r_iload_n (pc := 42) ?_ dX9_nextRelease_42 rfl
    refine r_iload_n (pc := 43) ?_ dX9_nextRelease_43 rfl
    refine r_cv0 (pc := 44) ?_ dX9_nextRelease_44 cl_X7 ok_X7_firstRelease rfl wd_3_103 ⟨Nat.le_of_ble_eq_true rfl, Nat.le_of_ble_eq_true rfl⟩ ⟨Nat.le_of_ble_eq_true rfl, Nat.le_of_ble_eq_true rfl⟩ rfl rfl
    exact r_ir dX9_nextRelease_47 rfl (Nat.le_of_ble_eq_true rfl) (Nat.le_of_ble_eq_true rfl)
  · refine r_iconst (pc := 30) ?_ dX9_nextRelease_30 (by decide)
    refine r_goto (pc := 31) (t := 35) ?_ dX9_nextRelease_31 (by decide)
    refine r_cs (pc := 35) ?_ dX9_nextRelease_35 ok_X9_refuse wd_2_19 ⟨Nat.le_of_ble_eq_true rfl, Nat.le_of_ble_eq_true rfl⟩ ⟨Nat.le_of_ble_eq_true rfl, Nat.le_of_ble_eq_true rfl⟩
    refine r_aload_n (pc := 38) ?_ dX9_nextRelease_38 rfl
    refine r_gp (pc := 39) (kf := 0) ?_ dX9_nextRelease_39 cl_X9 (Nat.le_of_ble_eq_true rfl) rfl wd_1_225 pv_X9_0
    refine r_iload_n (pc := 42) ?_ dX9_nextRelease_42 rfl
    refine r_iload_n (pc := 43) ?_ dX9_nextRelease_43 rfl
    refine r_cv0 (pc := 44) ?_ dX9_nextRelease_44 cl_X7 ok_X7_firstRelease rfl wd_3_103 ⟨Nat.le_of_ble_eq_true rfl, Nat.le_of_ble_eq_true rfl⟩ ⟨Nat.le_of_ble_eq_true rfl, Nat.le_of_ble_eq_true rfl⟩ rfl rfl
    exact r_ir dX9_nextRelease_47 rfl (Nat.le_of_ble_eq_true rfl) (Nat.le_of_ble_eq_true rfl)
abbrev Y_X9_type : YT := (yX9_type, cX9_type, 2, (some .int), 7, 102, 2, 12)
theorem ok_X9_type : okV Y_X9_type 1 := ⟨⟨wd_4_203, wd_1_1, by decide, by decide, by decide +kernel⟩, wd_4_201, wd_4_202⟩
def R_X9_type_0 (l : Launch) (G : GT) (F : FX) (Q : PQ) (QX : PX) : KT := (I_il 1 (I_ic 0 (I_ic 127 (I_cs (Tr true l G Y_X9_isWithin) 3 QX (I_ifeq (I_ic 2 (Wj true l G F Y_X9_type Q QX 0 0 15)) (I_ic 0 (Wj true l G F Y_X9_type Q QX 0 0 15)))))))
set_option maxRecDepth 100000 in
theorem g_X9_type_0 {l : Launch} {G : GT} {F : FX} {Q : PQ} {QX : PX} : Le (R_X9_type_0 l G F Q QX) (Wj true l G F Y_X9_type Q QX 0 0 0) := by
  unfold R_X9_type_0
  refine r_iload_n (pc := 0) ?_ dX9_type_0 rfl
  refine r_iconst (pc := 1) ?_ dX9_type_1 (by decide)
  refine r_bipush (pc := 2) ?_ dX9_type_2 (by decide)
  refine r_cs0 (pc := 4) ?_ dX9_type_4 ok_X9_isWithin wd_2_16 ⟨Nat.le_of_ble_eq_true rfl, Nat.le_of_ble_eq_true rfl⟩ ⟨Nat.le_of_ble_eq_true rfl, Nat.le_of_ble_eq_true rfl⟩ rfl rfl
  refine r_ifeq (pc := 7) (t := 14) ?_ ?_ dX9_type_7 (by decide)
  · refine r_iconst (pc := 14) ?_ dX9_type_14 (by decide)
    exact Le.rf
  · refine r_iconst (pc := 10) ?_ dX9_type_10 (by decide)
    refine r_goto (pc := 11) (t := 15) ?_ dX9_type_11 (by decide)
    exact Le.rf
def R_X9_type_15 (l : Launch) (G : GT) (F : FX) (Q : PQ) (QX : PX) : KT := (I_cs (Tr true l G Y_X9_refuse) 1 QX (I_al 0 (I_gp 7 3 1073 (I_gi 1 3 11 (I_ic 150 (I_icge (I_ic 3 (I_cs (Tr true l G Y_X9_refuse) 1 QX (I_al 0 (I_gp 7 3 1073 (I_il 1 (I_cv (Tr true l G Y_X3_append) 1 11 1 QX (I_ir Q))))))) (I_ic 0 (I_cs (Tr true l G Y_X9_refuse) 1 QX (I_al 0 (I_gp 7 3 1073 (I_il 1 (I_cv (Tr true l G Y_X3_append) 1 11 1 QX (I_ir Q)))))))))))))
set_option maxRecDepth 100000 in
theorem g_X9_type_15 {l : Launch} {G : GT} {F : FX} {Q : PQ} {QX : PX} : Le (R_X9_type_15 l G F Q QX) (Wj true l G F Y_X9_type Q QX 0 0 15) := by
  unfold R_X9_type_15
  refine r_cs (pc := 15) ?_ dX9_type_15 ok_X9_refuse wd_2_19 ⟨Nat.le_of_ble_eq_true rfl, Nat.le_of_ble_eq_true rfl⟩ ⟨Nat.le_of_ble_eq_true rfl, Nat.le_of_ble_eq_true rfl⟩
  refine r_aload_n (pc := 18) ?_ dX9_type_18 rfl
  refine r_gp (pc := 19) (kf := 2) ?_ dX9_type_19 cl_X9 (Nat.le_of_ble_eq_true rfl) rfl wd_1_227 pv_X9_2
  refine r_gi (pc := 22) ?_ dX9_type_22 cl_X3 (Nat.le_of_ble_eq_true rfl) rfl wd_1_201
  refine r_sipush (pc := 25) ?_ dX9_type_25 (by decide)
  refine r_icge (pc := 28) (t := 35) ?_ ?_ dX9_type_28 (by decide)
  · refine r_iconst (pc := 35) ?_ dX9_type_35 (by decide)
    refine r_cs (pc := 36) ?_ dX9_type_36 ok_X9_refuse wd_2_19 ⟨Nat.le_of_ble_eq_true rfl, Nat.le_of_ble_eq_true rfl⟩ ⟨Nat.le_of_ble_eq_true rfl, Nat.le_of_ble_eq_true rfl⟩
    refine r_aload_n (pc := 39) ?_ dX9_type_39 rfl
    refine r_gp (pc := 40) (kf := 2) ?_ dX9_type_40 cl_X9 (Nat.le_of_ble_eq_true rfl) rfl wd_1_227 pv_X9_2
    refine r_iload_n (pc := 43) ?_ dX9_type_43 rfl
    refine r_cv0 (pc := 44) ?_ dX9_type_44 cl_X3 ok_X3_append rfl wd_4_204 ⟨Nat.le_of_ble_eq_true rfl, Nat.le_of_ble_eq_true rfl⟩ ⟨Nat.le_of_ble_eq_true rfl, Nat.le_of_ble_eq_true rfl⟩ rfl rfl
    exact r_ir dX9_type_47 rfl (Nat.le_of_ble_eq_true rfl) (Nat.le_of_ble_eq_true rfl)
  · refine r_iconst (pc := 31) ?_ dX9_type_31 (by decide)
    refine r_goto (pc := 32) (t := 36) ?_ dX9_type_32 (by decide)
    refine r_cs (pc := 36) ?_ dX9_type_36 ok_X9_refuse wd_2_19 ⟨Nat.le_of_ble_eq_true rfl, Nat.le_of_ble_eq_true rfl⟩ ⟨Nat.le_of_ble_eq_true rfl, Nat.le_of_ble_eq_true rfl⟩
    refine r_aload_n (pc := 39) ?_ dX9_type_39 rfl
    refine r_gp (pc := 40) (kf := 2) ?_ dX9_type_40 cl_X9 (Nat.le_of_ble_eq_true rfl) rfl wd_1_227 pv_X9_2
    refine r_iload_n (pc := 43) ?_ dX9_type_43 rfl
    refine r_cv0 (pc := 44) ?_ dX9_type_44 cl_X3 ok_X3_append rfl wd_4_204 ⟨Nat.le_of_ble_eq_true rfl, Nat.le_of_ble_eq_true rfl⟩ ⟨Nat.le_of_ble_eq_true rfl, Nat.le_of_ble_eq_true rfl⟩ rfl rfl
    exact r_ir dX9_type_47 rfl (Nat.le_of_ble_eq_true rfl) (Nat.le_of_ble_eq_true rfl)
abbrev Y_X9_undo : YT := (yX9_undo, cX9_undo, 1, (some .int), 7, 125, 1, 6)
theorem ok_X9_undo : okV Y_X9_undo 0 := ⟨⟨wd_2_199, wd_1_1, by decide, by decide, by decide +kernel⟩, wd_2_197, wd_2_198⟩
def R_X9_undo_0 (l : Launch) (G : GT) (F : FX) (Q : PQ) (QX : PX) : KT := (I_al 0 (I_gp 7 3 215 (I_gi 6 2 3 (I_ifle (I_ic 3 (I_cs (Tr true l G Y_X9_refuse) 1 QX (I_al 0 (I_gp 7 3 215 (I_al 0 (I_gp 7 3 1 (I_cv (Tr true l G Y_X8_restore) 6 3 1 QX (I_ir Q)))))))) (I_ic 0 (I_cs (Tr true l G Y_X9_refuse) 1 QX (I_al 0 (I_gp 7 3 215 (I_al 0 (I_gp 7 3 1 (I_cv (Tr true l G Y_X8_restore) 6 3 1 QX (I_ir Q))))))))))))
set_option maxRecDepth 100000 in
theorem g_X9_undo_0 {l : Launch} {G : GT} {F : FX} {Q : PQ} {QX : PX} : Le (R_X9_undo_0 l G F Q QX) (Wj true l G F Y_X9_undo Q QX 0 0 0) := by
  unfold R_X9_undo_0
  refine r_aload_n (pc := 0) ?_ dX9_undo_0 rfl
  refine r_gp (pc := 1) (kf := 1) ?_ dX9_undo_1 cl_X9 (Nat.le_of_ble_eq_true rfl) rfl wd_1_226 pv_X9_1
  refine r_gi (pc := 4) ?_ dX9_undo_4 cl_X8 (Nat.le_of_ble_eq_true rfl) rfl wd_1_180
  refine r_ifle (pc := 7) (t := 14) ?_ ?_ dX9_undo_7 (by decide)
  · refine r_iconst (pc := 14) ?_ dX9_undo_14 (by decide)
    refine r_cs (pc := 15) ?_ dX9_undo_15 ok_X9_refuse wd_2_19 ⟨Nat.le_of_ble_eq_true rfl, Nat.le_of_ble_eq_true rfl⟩ ⟨Nat.le_of_ble_eq_true rfl, Nat.le_of_ble_eq_true rfl⟩
    refine r_aload_n (pc := 18) ?_ dX9_undo_18 rfl
    refine r_gp (pc := 19) (kf := 1) ?_ dX9_undo_19 cl_X9 (Nat.le_of_ble_eq_true rfl) rfl wd_1_226 pv_X9_1
    refine r_aload_n (pc := 22) ?_ dX9_undo_22 rfl
    refine r_gp (pc := 23) (kf := 0) ?_ dX9_undo_23 cl_X9 (Nat.le_of_ble_eq_true rfl) rfl wd_1_225 pv_X9_0
    refine r_cv0 (pc := 26) ?_ dX9_undo_26 cl_X8 ok_X8_restore rfl wd_2_200 ⟨Nat.le_of_ble_eq_true rfl, Nat.le_of_ble_eq_true rfl⟩ ⟨Nat.le_of_ble_eq_true rfl, Nat.le_of_ble_eq_true rfl⟩ rfl rfl
    exact r_ir dX9_undo_29 rfl (Nat.le_of_ble_eq_true rfl) (Nat.le_of_ble_eq_true rfl)
  · refine r_iconst (pc := 10) ?_ dX9_undo_10 (by decide)
    refine r_goto (pc := 11) (t := 15) ?_ dX9_undo_11 (by decide)
    refine r_cs (pc := 15) ?_ dX9_undo_15 ok_X9_refuse wd_2_19 ⟨Nat.le_of_ble_eq_true rfl, Nat.le_of_ble_eq_true rfl⟩ ⟨Nat.le_of_ble_eq_true rfl, Nat.le_of_ble_eq_true rfl⟩
    refine r_aload_n (pc := 18) ?_ dX9_undo_18 rfl
    refine r_gp (pc := 19) (kf := 1) ?_ dX9_undo_19 cl_X9 (Nat.le_of_ble_eq_true rfl) rfl wd_1_226 pv_X9_1
    refine r_aload_n (pc := 22) ?_ dX9_undo_22 rfl
    refine r_gp (pc := 23) (kf := 0) ?_ dX9_undo_23 cl_X9 (Nat.le_of_ble_eq_true rfl) rfl wd_1_225 pv_X9_0
    refine r_cv0 (pc := 26) ?_ dX9_undo_26 cl_X8 ok_X8_restore rfl wd_2_200 ⟨Nat.le_of_ble_eq_true rfl, Nat.le_of_ble_eq_true rfl⟩ ⟨Nat.le_of_ble_eq_true rfl, Nat.le_of_ble_eq_true rfl⟩ rfl rfl
    exact r_ir dX9_undo_29 rfl (Nat.le_of_ble_eq_true rfl) (Nat.le_of_ble_eq_true rfl)
