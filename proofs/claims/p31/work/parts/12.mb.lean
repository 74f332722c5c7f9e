/-! ===== the methods: what they are, their regions ===== -/
abbrev Y_X7_copyState : YT := (yX7_copyState, cX7_copyState, 3, none, 3, 82, 0, 0)
theorem ok_X7_copyState : okV Y_X7_copyState 1 := ⟨⟨wd_2_129, wd_1_2, by decide, by decide, by decide +kernel⟩, wd_2_127, wd_2_128⟩
def R_X7_copyState_0 (l : Launch) (G : GT) (F : FX) (Q : PQ) (QX : PX) : KT := (I_al 0 (I_al 1 (I_gi 5 5 9 (I_pi 5 5 9 (I_al 0 (I_al 1 (I_gi 5 6 9 (I_pi 5 6 9 (I_al 0 (I_al 1 (I_gi 5 7 9 (I_pi 5 7 9 (I_al 0 (I_al 1 (I_gi 5 8 9 (I_pi 5 8 9 (I_ic 0 (I_is 2 (Wj true l G F Y_X7_copyState Q QX 0 0 34)))))))))))))))))))
set_option maxRecDepth 100000 in
theorem g_X7_copyState_0 {l : Launch} {G : GT} {F : FX} {Q : PQ} {QX : PX} : Le (R_X7_copyState_0 l G F Q QX) (Wj true l G F Y_X7_copyState Q QX 0 0 0) := by
  unfold R_X7_copyState_0
  refine r_aload_n (pc := 0) ?_ dX7_copyState_0 rfl
  refine r_aload_n (pc := 1) ?_ dX7_copyState_1 rfl
  refine r_gi (pc := 2) ?_ dX7_copyState_2 cl_X7 (Nat.le_of_ble_eq_true rfl) rfl wd_1_141
  refine r_pi (pc := 5) ?_ dX7_copyState_5 cl_X7 (Nat.le_of_ble_eq_true rfl) rfl wd_1_141 rfl pd_X7_5
  refine r_aload_n (pc := 8) ?_ dX7_copyState_8 rfl
  refine r_aload_n (pc := 9) ?_ dX7_copyState_9 rfl
  refine r_gi (pc := 10) ?_ dX7_copyState_10 cl_X7 (Nat.le_of_ble_eq_true rfl) rfl wd_1_143
  refine r_pi (pc := 13) ?_ dX7_copyState_13 cl_X7 (Nat.le_of_ble_eq_true rfl) rfl wd_1_143 rfl pd_X7_6
  refine r_aload_n (pc := 16) ?_ dX7_copyState_16 rfl
  refine r_aload_n (pc := 17) ?_ dX7_copyState_17 rfl
  refine r_gi (pc := 18) ?_ dX7_copyState_18 cl_X7 (Nat.le_of_ble_eq_true rfl) rfl wd_1_145
  refine r_pi (pc := 21) ?_ dX7_copyState_21 cl_X7 (Nat.le_of_ble_eq_true rfl) rfl wd_1_145 rfl pd_X7_7
  refine r_aload_n (pc := 24) ?_ dX7_copyState_24 rfl
  refine r_aload_n (pc := 25) ?_ dX7_copyState_25 rfl
  refine r_gi (pc := 26) ?_ dX7_copyState_26 cl_X7 (Nat.le_of_ble_eq_true rfl) rfl wd_1_147
  refine r_pi (pc := 29) ?_ dX7_copyState_29 cl_X7 (Nat.le_of_ble_eq_true rfl) rfl wd_1_147 rfl pd_X7_8
  refine r_iconst (pc := 32) ?_ dX7_copyState_32 (by decide)
  refine r_istore_n (pc := 33) ?_ dX7_copyState_33 rfl (Nat.le_of_ble_eq_true rfl)
  exact Le.rf
def R_X7_copyState_34 (l : Launch) (G : GT) (F : FX) (Q : PQ) (QX : PX) : KT := (I_il 2 (I_al 0 (I_gi 5 5 9 (I_icge (I_ic 0 (I_is 2 (Wj true l G F Y_X7_copyState Q QX 0 0 68))) (I_al 1 (I_gp 5 9 1 (I_il 2 (I_aal 2 1 1 (I_ic 0 (I_al 0 (I_gp 5 9 1 (I_il 2 (I_aal 2 1 1 (I_ic 0 (I_ic 3 (I_cpi (I_inc 2 1 (Wj true l G F Y_X7_copyState Q QX 0 0 34))))))))))))))))))
set_option maxRecDepth 100000 in
theorem g_X7_copyState_34 {l : Launch} {G : GT} {F : FX} {Q : PQ} {QX : PX} : Le (R_X7_copyState_34 l G F Q QX) (Wj true l G F Y_X7_copyState Q QX 0 0 34) := by
  unfold R_X7_copyState_34
  refine r_iload_n (pc := 34) ?_ dX7_copyState_34 rfl
  refine r_aload_n (pc := 35) ?_ dX7_copyState_35 rfl
  refine r_gi (pc := 36) ?_ dX7_copyState_36 cl_X7 (Nat.le_of_ble_eq_true rfl) rfl wd_1_141
  refine r_icge (pc := 39) (t := 66) ?_ ?_ dX7_copyState_39 (by decide)
  · refine r_iconst (pc := 66) ?_ dX7_copyState_66 (by decide)
    refine r_istore_n (pc := 67) ?_ dX7_copyState_67 rfl (Nat.le_of_ble_eq_true rfl)
    exact Le.rf
  · refine r_aload_n (pc := 42) ?_ dX7_copyState_42 rfl
    refine r_gp (pc := 43) (kf := 0) ?_ dX7_copyState_43 cl_X7 (Nat.le_of_ble_eq_true rfl) rfl wd_1_136 pv_X7_0
    refine r_iload_n (pc := 46) ?_ dX7_copyState_46 rfl
    refine r_aal (pc := 47) ?_ dX7_copyState_47 rfl rfl pa_2
    refine r_iconst (pc := 48) ?_ dX7_copyState_48 (by decide)
    refine r_aload_n (pc := 49) ?_ dX7_copyState_49 rfl
    refine r_gp (pc := 50) (kf := 0) ?_ dX7_copyState_50 cl_X7 (Nat.le_of_ble_eq_true rfl) rfl wd_1_136 pv_X7_0
    refine r_iload_n (pc := 53) ?_ dX7_copyState_53 rfl
    refine r_aal (pc := 54) ?_ dX7_copyState_54 rfl rfl pa_2
    refine r_iconst (pc := 55) ?_ dX7_copyState_55 (by decide)
    refine r_iconst (pc := 56) ?_ dX7_copyState_56 (by decide)
    refine r_cpi (pc := 57) ?_ dX7_copyState_57 wd_2_130 wd_2_132 wd_2_131 wd_1_15 ⟨Nat.le_of_ble_eq_true rfl, Nat.le_of_ble_eq_true rfl⟩
    refine r_iinc (pc := 60) ?_ dX7_copyState_60 (by decide) (Nat.le_of_ble_eq_true rfl)
    refine r_goto (pc := 63) (t := 34) ?_ dX7_copyState_63 (by decide)
    exact Le.rf
def R_X7_copyState_68 (l : Launch) (G : GT) (F : FX) (Q : PQ) (QX : PX) : KT := (I_il 2 (I_al 0 (I_gi 5 6 9 (I_icge (I_ic 0 (I_is 2 (Wj true l G F Y_X7_copyState Q QX 0 0 99))) (I_al 0 (I_gp 5 9 7 (I_il 2 (I_aal 3 21 1 (I_al 1 (I_gp 5 9 7 (I_il 2 (I_aal 3 21 1 (I_cv (Tr true l G Y_X6_copyMentor) 4 3 1 QX (I_inc 2 1 (Wj true l G F Y_X7_copyState Q QX 0 0 68)))))))))))))))
set_option maxRecDepth 100000 in
theorem g_X7_copyState_68 {l : Launch} {G : GT} {F : FX} {Q : PQ} {QX : PX} : Le (R_X7_copyState_68 l G F Q QX) (Wj true l G F Y_X7_copyState Q QX 0 0 68) := by
  unfold R_X7_copyState_68
  refine r_iload_n (pc := 68) ?_ dX7_copyState_68 rfl
  refine r_aload_n (pc := 69) ?_ dX7_copyState_69 rfl
  refine r_gi (pc := 70) ?_ dX7_copyState_70 cl_X7 (Nat.le_of_ble_eq_true rfl) rfl wd_1_143
  refine r_icge (pc := 73) (t := 97) ?_ ?_ dX7_copyState_73 (by decide)
  · refine r_iconst (pc := 97) ?_ dX7_copyState_97 (by decide)
    refine r_istore_n (pc := 98) ?_ dX7_copyState_98 rfl (Nat.le_of_ble_eq_true rfl)
    exact Le.rf
  · refine r_aload_n (pc := 76) ?_ dX7_copyState_76 rfl
    refine r_gp (pc := 77) (kf := 1) ?_ dX7_copyState_77 cl_X7 (Nat.le_of_ble_eq_true rfl) rfl wd_1_137 pv_X7_1
    refine r_iload_n (pc := 80) ?_ dX7_copyState_80 rfl
    refine r_aal (pc := 81) ?_ dX7_copyState_81 rfl rfl pa_3
    refine r_aload_n (pc := 82) ?_ dX7_copyState_82 rfl
    refine r_gp (pc := 83) (kf := 1) ?_ dX7_copyState_83 cl_X7 (Nat.le_of_ble_eq_true rfl) rfl wd_1_137 pv_X7_1
    refine r_iload_n (pc := 86) ?_ dX7_copyState_86 rfl
    refine r_aal (pc := 87) ?_ dX7_copyState_87 rfl rfl pa_3
    refine r_cv0 (pc := 88) ?_ dX7_copyState_88 cl_X6 ok_X6_copyMentor rfl wd_2_133 ⟨Nat.le_of_ble_eq_true rfl, Nat.le_of_ble_eq_true rfl⟩ ⟨Nat.le_of_ble_eq_true rfl, Nat.le_of_ble_eq_true rfl⟩ rfl rfl
    refine r_iinc (pc := 91) ?_ dX7_copyState_91 (by decide) (Nat.le_of_ble_eq_true rfl)
    refine r_goto (pc := 94) (t := 68) ?_ dX7_copyState_94 (by decide)
    exact Le.rf
def R_X7_copyState_99 (l : Launch) (G : GT) (F : FX) (Q : PQ) (QX : PX) : KT := (I_il 2 (I_al 0 (I_gi 5 7 9 (I_icge (I_vr Q) (I_al 0 (I_gp 5 9 8 (I_il 2 (I_aal 4 26 18 (I_al 1 (I_gp 5 9 8 (I_il 2 (I_aal 4 26 18 (I_cv (Tr true l G Y_X1_copyApprentice) 0 11 1 QX (I_inc 2 1 (Wj true l G F Y_X7_copyState Q QX 0 0 99)))))))))))))))
set_option maxRecDepth 100000 in
theorem g_X7_copyState_99 {l : Launch} {G : GT} {F : FX} {Q : PQ} {QX : PX} : Le (R_X7_copyState_99 l G F Q QX) (Wj true l G F Y_X7_copyState Q QX 0 0 99) := by
  unfold R_X7_copyState_99
  refine r_iload_n (pc := 99) ?_ dX7_copyState_99 rfl
  refine r_aload_n (pc := 100) ?_ dX7_copyState_100 rfl
  refine r_gi (pc := 101) ?_ dX7_copyState_101 cl_X7 (Nat.le_of_ble_eq_true rfl) rfl wd_1_145
  refine r_icge (pc := 104) (t := 128) ?_ ?_ dX7_copyState_104 (by decide)
  · exact r_vr dX7_copyState_128 rfl (Nat.le_of_ble_eq_true rfl) (Nat.le_of_ble_eq_true rfl)
  · refine r_aload_n (pc := 107) ?_ dX7_copyState_107 rfl
    refine r_gp (pc := 108) (kf := 2) ?_ dX7_copyState_108 cl_X7 (Nat.le_of_ble_eq_true rfl) rfl wd_1_138 pv_X7_2
    refine r_iload_n (pc := 111) ?_ dX7_copyState_111 rfl
    refine r_aal (pc := 112) ?_ dX7_copyState_112 rfl rfl pa_4
    refine r_aload_n (pc := 113) ?_ dX7_copyState_113 rfl
    refine r_gp (pc := 114) (kf := 2) ?_ dX7_copyState_114 cl_X7 (Nat.le_of_ble_eq_true rfl) rfl wd_1_138 pv_X7_2
    refine r_iload_n (pc := 117) ?_ dX7_copyState_117 rfl
    refine r_aal (pc := 118) ?_ dX7_copyState_118 rfl rfl pa_4
    refine r_cv0 (pc := 119) ?_ dX7_copyState_119 cl_X1 ok_X1_copyApprentice rfl wd_2_137 ⟨Nat.le_of_ble_eq_true rfl, Nat.le_of_ble_eq_true rfl⟩ ⟨Nat.le_of_ble_eq_true rfl, Nat.le_of_ble_eq_true rfl⟩ rfl rfl
    refine r_iinc (pc := 122) ?_ dX7_copyState_122 (by decide) (Nat.le_of_ble_eq_true rfl)
    refine r_goto (pc := 125) (t := 99) ?_ dX7_copyState_125 (by decide)
    exact Le.rf
abbrev Y_X7_hasTrade : YT := (yX7_hasTrade, cX7_hasTrade, 2, (some .boolean), 0, 0, 0, 0)
theorem ok_X7_hasTrade : okV Y_X7_hasTrade 1 := ⟨⟨wd_3_152, wd_1_2, by decide, by decide, by decide +kernel⟩, wd_3_150, wd_3_151⟩
def R_X7_hasTrade_0 (l : Launch) (G : GT) (F : FX) (Q : PQ) (QX : PX) : KT := (I_il 1 (I_iflt (I_ic 0 (I_zr Q)) (I_il 1 (I_al 0 (I_gi 5 5 9 (I_icge (I_ic 0 (I_zr Q)) (I_ic 1 (I_zr Q))))))))
set_option maxRecDepth 100000 in
theorem g_X7_hasTrade_0 {l : Launch} {G : GT} {F : FX} {Q : PQ} {QX : PX} : Le (R_X7_hasTrade_0 l G F Q QX) (Wj true l G F Y_X7_hasTrade Q QX 0 0 0) := by
  unfold R_X7_hasTrade_0
  refine r_iload_n (pc := 0) ?_ dX7_hasTrade_0 rfl
  refine r_iflt (pc := 1) (t := 16) ?_ ?_ dX7_hasTrade_1 (by decide)
  · refine r_iconst (pc := 16) ?_ dX7_hasTrade_16 (by decide)
    exact r_zr dX7_hasTrade_17 rfl (Nat.le_of_ble_eq_true rfl) (Nat.le_of_ble_eq_true rfl)
  · refine r_iload_n (pc := 4) ?_ dX7_hasTrade_4 rfl
    refine r_aload_n (pc := 5) ?_ dX7_hasTrade_5 rfl
    refine r_gi (pc := 6) ?_ dX7_hasTrade_6 cl_X7 (Nat.le_of_ble_eq_true rfl) rfl wd_1_141
    refine r_icge (pc := 9) (t := 16) ?_ ?_ dX7_hasTrade_9 (by decide)
    · refine r_iconst (pc := 16) ?_ dX7_hasTrade_16 (by decide)
      exact r_zr dX7_hasTrade_17 rfl (Nat.le_of_ble_eq_true rfl) (Nat.le_of_ble_eq_true rfl)
    · refine r_iconst (pc := 12) ?_ dX7_hasTrade_12 (by decide)
      refine r_goto (pc := 13) (t := 17) ?_ dX7_hasTrade_13 (by decide)
      exact r_zr dX7_hasTrade_17 rfl (Nat.le_of_ble_eq_true rfl) (Nat.le_of_ble_eq_true rfl)
abbrev Y_X7_hasMentor : YT := (yX7_hasMentor, cX7_hasMentor, 2, (some .boolean), 0, 0, 0, 0)
theorem ok_X7_hasMentor : okV Y_X7_hasMentor 1 := ⟨⟨wd_3_22, wd_1_2, by decide, by decide, by decide +kernel⟩, wd_3_20, wd_3_21⟩
def R_X7_hasMentor_0 (l : Launch) (G : GT) (F : FX) (Q : PQ) (QX : PX) : KT := (I_il 1 (I_iflt (I_ic 0 (I_zr Q)) (I_il 1 (I_al 0 (I_gi 5 6 9 (I_icge (I_ic 0 (I_zr Q)) (I_ic 1 (I_zr Q))))))))
set_option maxRecDepth 100000 in
theorem g_X7_hasMentor_0 {l : Launch} {G : GT} {F : FX} {Q : PQ} {QX : PX} : Le (R_X7_hasMentor_0 l G F Q QX) (Wj true l G F Y_X7_hasMentor Q QX 0 0 0) := by
  unfold R_X7_hasMentor_0
  refine r_iload_n (pc := 0) ?_ dX7_hasMentor_0 rfl
  refine r_iflt (pc := 1) (t := 16) ?_ ?_ dX7_hasMentor_1 (by decide)
  · refine r_iconst (pc := 16) ?_ dX7_hasMentor_16 (by decide)
    exact r_zr dX7_hasMentor_17 rfl (Nat.le_of_ble_eq_true rfl) (Nat.le_of_ble_eq_true rfl)
  · refine r_iload_n (pc := 4) ?_ dX7_hasMentor_4 rfl
    refine r_aload_n (pc := 5) ?_ dX7_hasMentor_5 rfl
    refine r_gi (pc := 6) ?_ dX7_hasMentor_6 cl_X7 (Nat.le_of_ble_eq_true rfl) rfl wd_1_143
    refine r_icge (pc := 9) (t := 16) ?_ ?_ dX7_hasMentor_9 (by decide)
    · refine r_iconst (pc := 16) ?_ dX7_hasMentor_16 (by decide)
      exact r_zr dX7_hasMentor_17 rfl (Nat.le_of_ble_eq_true rfl) (Nat.le_of_ble_eq_true rfl)
    · refine r_iconst (pc := 12) ?_ dX7_hasMentor_12 (by decide)
      refine r_goto (pc := 13) (t := 17) ?_ dX7_hasMentor_13 (by decide)
      exact r_zr dX7_hasMentor_17 rfl (Nat.le_of_ble_eq_true rfl) (Nat.le_of_ble_eq_true rfl)
abbrev Y_X7_hasApprentice : YT := (yX7_hasApprentice, cX7_hasApprentice, 2, (some .boolean), 0, 0, 0, 0)
theorem ok_X7_hasApprentice : okV Y_X7_hasApprentice 1 := ⟨⟨wd_3_52, wd_1_2, by decide, by decide, by decide +kernel⟩, wd_3_50, wd_3_51⟩
def R_X7_hasApprentice_0 (l : Launch) (G : GT) (F : FX) (Q : PQ) (QX : PX) : KT := (I_il 1 (I_iflt (I_ic 0 (I_zr Q)) (I_il 1 (I_al 0 (I_gi 5 7 9 (I_icge (I_ic 0 (I_zr Q)) (I_ic 1 (I_zr Q))))))))
set_option maxRecDepth 100000 in
theorem g_X7_hasApprentice_0 {l : Launch} {G : GT} {F : FX} {Q : PQ} {QX : PX} : Le (R_X7_hasApprentice_0 l G F Q QX) (Wj true l G F Y_X7_hasApprentice Q QX 0 0 0) := by
  unfold R_X7_hasApprentice_0
  refine r_iload_n (pc := 0) ?_ dX7_hasApprentice_0 rfl
  refine r_iflt (pc := 1) (t := 16) ?_ ?_ dX7_hasApprentice_1 (by decide)
  · refine r_iconst (pc := 16) ?_ dX7_hasApprentice_16 (by decide)
    exact r_zr dX7_hasApprentice_17 rfl (Nat.le_of_ble_eq_true rfl) (Nat.le_of_ble_eq_true rfl)
  · refine r_iload_n (pc := 4) ?_ dX7_hasApprentice_4 rfl
    refine r_aload_n (pc := 5) ?_ dX7_hasApprentice_5 rfl
    refine r_gi (pc := 6) ?_ dX7_hasApprentice_6 cl_X7 (Nat.le_of_ble_eq_true rfl) rfl wd_1_145
    refine r_icge (pc := 9) (t := 16) ?_ ?_ dX7_hasApprentice_9 (by decide)
    · refine r_iconst (pc := 16) ?_ dX7_hasApprentice_16 (by decide)
      exact r_zr dX7_hasApprentice_17 rfl (Nat.le_of_ble_eq_true rfl) (Nat.le_of_ble_eq_true rfl)
    · refine r_iconst (pc := 12) ?_ dX7_hasApprentice_12 (by decide)
      refine r_goto (pc := 13) (t := 17) ?_ dX7_hasApprentice_13 (by decide)
      exact r_zr dX7_hasApprentice_17 rfl (Nat.le_of_ble_eq_true rfl) (Nat.le_of_ble_eq_true rfl)
abbrev Y_X7_apprenticeAt : YT := (yX7_apprenticeAt, cX7_apprenticeAt, 2, (some (.object "TradeLogs$Apprentice")), 1, 21, 0, 0)
theorem ok_X7_apprenticeAt : okV Y_X7_apprenticeAt 1 := ⟨⟨wd_3_60, wd_1_2, by decide, by decide, by decide +kernel⟩, wd_3_59, wp_10⟩
def R_X7_apprenticeAt_0 (l : Launch) (G : GT) (F : FX) (Q : PQ) (QX : PX) : KT := (I_al 0 (I_il 1 (I_cv (Tr true l G Y_X7_hasApprentice) 5 9 1 QX (I_ifeq (I_al 0 (I_gp 5 9 10 (I_ar Q))) (I_al 0 (I_gp 5 9 8 (I_il 1 (I_aal 4 26 18 (I_ar Q)))))))))
set_option maxRecDepth 100000 in
theorem g_X7_apprenticeAt_0 {l : Launch} {G : GT} {F : FX} {Q : PQ} {QX : PX} : Le (R_X7_apprenticeAt_0 l G F Q QX) (Wj true l G F Y_X7_apprenticeAt Q QX 0 0 0) := by
  unfold R_X7_apprenticeAt_0
  refine r_aload_n (pc := 0) ?_ dX7_apprenticeAt_0 rfl
  refine r_iload_n (pc := 1) ?_ dX7_apprenticeAt_1 rfl
  refine r_cv0 (pc := 2) ?_ dX7_apprenticeAt_2 cl_X7 ok_X7_hasApprentice rfl wd_3_61 ⟨Nat.le_of_ble_eq_true rfl, Nat.le_of_ble_eq_true rfl⟩ ⟨Nat.le_of_ble_eq_true rfl, Nat.le_of_ble_eq_true rfl⟩ rfl rfl
  refine r_ifeq (pc := 5) (t := 17) ?_ ?_ dX7_apprenticeAt_5 (by decide)
  · refine r_aload_n (pc := 17) ?_ dX7_apprenticeAt_17 rfl
    refine r_gp (pc := 18) (kf := 4) ?_ dX7_apprenticeAt_18 cl_X7 (Nat.le_of_ble_eq_true rfl) rfl wd_1_140 pv_X7_4
    exact r_ar dX7_apprenticeAt_21 rfl (Nat.le_of_ble_eq_true rfl) (Nat.le_of_ble_eq_true rfl)
  · refine r_aload_n (pc := 8) ?_ dX7_apprenticeAt_8 rfl
    refine r_gp (pc := 9) (kf := 2) ?_ dX7_apprenticeAt_9 cl_X7 (Nat.le_of_ble_eq_true rfl) rfl wd_1_138 pv_X7_2
    refine r_iload_n (pc := 12) ?_ dX7_apprenticeAt_12 rfl
    refine r_aal (pc := 13) ?_ dX7_apprenticeAt_13 rfl rfl pa_4
    refine r_goto (pc := 14) (t := 21) ?_ dX7_apprenticeAt_14 (by decide)
    exact r_ar dX7_apprenticeAt_21 rfl (Nat.le_of_ble_eq_true rfl) (Nat.le_of_ble_eq_true rfl)
abbrev Y_X7_mentorAt : YT := (yX7_mentorAt, cX7_mentorAt, 2, (some (.object "TradeLogs$Mentor")), 1, 21, 0, 0)
theorem ok_X7_mentorAt : okV Y_X7_mentorAt 1 := ⟨⟨wd_3_30, wd_1_2, by decide, by decide, by decide +kernel⟩, wd_3_29, wp_8⟩
def R_X7_mentorAt_0 (l : Launch) (G : GT) (F : FX) (Q : PQ) (QX : PX) : KT := (I_al 0 (I_il 1 (I_cv (Tr true l G Y_X7_hasMentor) 5 9 1 QX (I_ifeq (I_al 0 (I_gp 5 9 9 (I_ar Q))) (I_al 0 (I_gp 5 9 7 (I_il 1 (I_aal 3 21 1 (I_ar Q)))))))))
set_option maxRecDepth 100000 in
theorem g_X7_mentorAt_0 {l : Launch} {G : GT} {F : FX} {Q : PQ} {QX : PX} : Le (R_X7_mentorAt_0 l G F Q QX) (Wj true l G F Y_X7_mentorAt Q QX 0 0 0) := by
  unfold R_X7_mentorAt_0
  refine r_aload_n (pc := 0) ?_ dX7_mentorAt_0 rfl
  refine r_iload_n (pc := 1) ?_ dX7_mentorAt_1 rfl
  refine r_cv0 (pc := 2) ?_ dX7_mentorAt_2 cl_X7 ok_X7_hasMentor rfl wd_3_31 ⟨Nat.le_of_ble_eq_true rfl, Nat.le_of_ble_eq_true rfl⟩ ⟨Nat.le_of_ble_eq_true rfl, Nat.le_of_ble_eq_true rfl⟩ rfl rfl
  refine r_ifeq (pc := 5) (t := 17) ?_ ?_ dX7_mentorAt_5 (by decide)
  · refine r_aload_n (pc := 17) ?_ dX7_mentorAt_17 rfl
    refine r_gp (pc := 18) (kf := 3) ?_ dX7_mentorAt_18 cl_X7 (Nat.le_of_ble_eq_true rfl) rfl wd_1_139 pv_X7_3
    exact r_ar dX7_mentorAt_21 rfl (Nat.le_of_ble_eq_true rfl) (Nat.le_of_ble_eq_true rfl)
  · refine r_aload_n (pc := 8) ?_ dX7_mentorAt_8 rfl
    refine r_gp (pc := 9) (kf := 1) ?_ dX7_mentorAt_9 cl_X7 (Nat.le_of_ble_eq_true rfl) rfl wd_1_137 pv_X7_1
    refine r_iload_n (pc := 12) ?_ dX7_mentorAt_12 rfl
    refine r_aal (pc := 13) ?_ dX7_mentorAt_13 rfl rfl pa_3
    refine r_goto (pc := 14) (t := 21) ?_ dX7_mentorAt_14 (by decide)
    exact r_ar dX7_mentorAt_21 rfl (Nat.le_of_ble_eq_true rfl) (Nat.le_of_ble_eq_true rfl)
abbrev Y_X7_teaches : YT := (yX7_teaches, cX7_teaches, 3, (some .boolean), 2, 42, 0, 0)
theorem ok_X7_teaches : okV Y_X7_teaches 2 := ⟨⟨wd_3_156, wd_1_2, by decide, by decide, by decide +kernel⟩, wd_3_154, wd_3_155⟩
def R_X7_teaches_0 (l : Launch) (G : GT) (F : FX) (Q : PQ) (QX : PX) : KT := (I_al 0 (I_il 1 (I_cv (Tr true l G Y_X7_mentorAt) 5 9 1 QX (I_gi 4 1 3 (I_il 2 (I_ishr (I_ic 1 (I_iand (I_ifeq (I_ic 0 (I_zr Q)) (I_ic 1 (I_zr Q)))))))))))
set_option maxRecDepth 100000 in
theorem g_X7_teaches_0 {l : Launch} {G : GT} {F : FX} {Q : PQ} {QX : PX} : Le (R_X7_teaches_0 l G F Q QX) (Wj true l G F Y_X7_teaches Q QX 0 0 0) := by
  unfold R_X7_teaches_0
  refine r_aload_n (pc := 0) ?_ dX7_teaches_0 rfl
  refine r_iload_n (pc := 1) ?_ dX7_teaches_1 rfl
  refine r_cv0 (pc := 2) ?_ dX7_teaches_2 cl_X7 ok_X7_mentorAt rfl wd_3_27 ⟨Nat.le_of_ble_eq_true rfl, Nat.le_of_ble_eq_true rfl⟩ ⟨Nat.le_of_ble_eq_true rfl, Nat.le_of_ble_eq_true rfl⟩ rfl rfl
  refine r_gi (pc := 5) ?_ dX7_teaches_5 cl_X6 (Nat.le_of_ble_eq_true rfl) rfl wd_1_45
  refine r_iload_n (pc := 8) ?_ dX7_teaches_8 rfl
  refine r_ishr (pc := 9) ?_ dX7_teaches_9
  refine r_iconst (pc := 10) ?_ dX7_teaches_10 (by decide)
  refine r_iand (pc := 11) ?_ dX7_teaches_11
  refine r_ifeq (pc := 12) (t := 19) ?_ ?_ dX7_teaches_12 (by decide)
  · refine r_iconst (pc := 19) ?_ dX7_teaches_19 (by decide)
    exact r_zr dX7_teaches_20 rfl (Nat.le_of_ble_eq_true rfl) (Nat.le_of_ble_eq_true rfl)
  · refine r_iconst (pc := 15) ?_ dX7_teaches_15 (by decide)
    refine r_goto (pc := 16) (t := 20) ?_ dX7_teaches_16 (by decide)
    exact r_zr dX7_teaches_20 rfl (Nat.le_of_ble_eq_true rfl) (Nat.le_of_ble_eq_true rfl)
abbrev Y_X7_apprenticesOf : YT := (yX7_apprenticesOf, cX7_apprenticesOf, 4, (some .int), 0, 0, 0, 0)
theorem ok_X7_apprenticesOf : okV Y_X7_apprenticesOf 1 := ⟨⟨wd_2_227, wd_1_2, by decide, by decide, by decide +kernel⟩, wd_2_225, wd_2_226⟩
def R_X7_apprenticesOf_0 (l : Launch) (G : GT) (F : FX) (Q : PQ) (QX : PX) : KT := (I_ic 0 (I_is 2 (I_ic 0 (I_is 3 (Wj true l G F Y_X7_apprenticesOf Q QX 0 0 4)))))
set_option maxRecDepth 100000 in
theorem g_X7_apprenticesOf_0 {l : Launch} {G : GT} {F : FX} {Q : PQ} {QX : PX} : Le (R_X7_apprenticesOf_0 l G F Q QX) (Wj true l G F Y_X7_apprenticesOf Q QX 0 0 0) := by
  unfold R_X7_apprenticesOf_0
  refine r_iconst (pc := 0) ?_ dX7_apprenticesOf_0 (by decide)
  refine r_istore_n (pc := 1) ?_ dX7_apprenticesOf_1 rfl (Nat.le_of_ble_eq_true rfl)
  refine r_iconst (pc := 2) ?_ dX7_apprenticesOf_2 (by decide)
  refine r_istore_n (pc := 3) ?_ dX7_apprenticesOf_3 rfl (Nat.le_of_ble_eq_true rfl)
  exact Le.rf
def R_X7_apprenticesOf_4 (l : Launch) (G : GT) (F : FX) (Q : PQ) (QX : PX) : KT := (I_il 3 (I_al 0 (I_gi 5 7 9 (I_icge (I_il 2 (I_ir Q)) (I_al 0 (I_gp 5 9 8 (I_il 3 (I_aal 4 26 18 (I_gi 0 6 11 (I_il 1 (I_icne (I_inc 3 1 (Wj true l G F Y_X7_apprenticesOf Q QX 0 0 4)) (I_inc 2 1 (I_inc 3 1 (Wj true l G F Y_X7_apprenticesOf Q QX 0 0 4))))))))))))))
set_option maxRecDepth 100000 in
theorem g_X7_apprenticesOf_4 {l : Launch} {G : GT} {F : FX} {Q : PQ} {QX : PX} : Le (R_X7_apprenticesOf_4 l G F Q QX) (Wj true l G F Y_X7_apprenticesOf Q QX 0 0 4) := by
  unfold R_X7_apprenticesOf_4
  refine r_iload_n (pc := 4) ?_ dX7_apprenticesOf_4 rfl
  refine r_aload_n (pc := 5) ?_ dX7_apprenticesOf_5 rfl
  refine r_gi (pc := 6) ?_ dX7_apprenticesOf_6 cl_X7 (Nat.le_of_ble_eq_true rfl) rfl wd_1_145
  refine r_icge (pc := 9) (t := 34) ?_ ?_ dX7_apprenticesOf_9 (by decide)
  · refine r_iload_n (pc := 34) ?_ dX7_apprenticesOf_34 rfl
    exact r_ir dX7_apprenticesOf_35 rfl (Nat.le_of_ble_eq_true rfl) (Nat.le_of_ble_eq_true rfl)
  · refine r_aload_n (pc := 12) ?_ dX7_apprenticesOf_12 rfl
    refine r_gp (pc := 13) (kf := 2) ?_ dX7_apprenticesOf_13 cl_X7 (Nat.le_of_ble_eq_true rfl) rfl wd_1_138 pv_X7_2
    refine r_iload_n (pc := 16) ?_ dX7_apprenticesOf_16 rfl
    refine r_aal (pc := 17) ?_ dX7_apprenticesOf_17 rfl rfl pa_4
    refine r_gi (pc := 18) ?_ dX7_apprenticesOf_18 cl_X1 (Nat.le_of_ble_eq_true rfl) rfl wd_1_104
    refine r_iload_n (pc := 21) ?_ dX7_apprenticesOf_21 rfl
    refine r_icne (pc := 22) (t := 28) ?_ ?_ dX7_apprenticesOf_22 (by decide)
    · refine r_iinc (pc := 28) ?_ dX7_apprenticesOf_28 (by decide) (Nat.le_of_ble_eq_true rfl)
      refine r_goto (pc := 31) (t := 4) ?_ dX7_apprenticesOf_31 (by decide)
      exact Le.rf
    · refine r_iinc (pc := 25) ?_ dX7_apprenticesOf_25 (by decide) (Nat.le_of_ble_eq_true rfl)
      refine r_iinc (pc := 28) ?_ dX7_apprenticesOf_28 (by decide) (Nat.le_of_ble_eq_true rfl)
      refine r_goto (pc := 31) (t := 4) ?_ dX7_apprenticesOf_31 (by decide)
      exact Le.rf
abbrev Y_X7_isFull : YT := (yX7_isFull, cX7_isFull, 2, (some .boolean), 2, 42, 0, 0)
theorem ok_X7_isFull : okV Y_X7_isFull 1 := ⟨⟨wd_3_160, wd_1_2, by decide, by decide, by decide +kernel⟩, wd_3_158, wd_3_159⟩
def R_X7_isFull_0 (l : Launch) (G : GT) (F : FX) (Q : PQ) (QX : PX) : KT := (I_al 0 (I_il 1 (I_cv (Tr true l G Y_X7_apprenticesOf) 5 9 1 QX (I_al 0 (I_il 1 (I_cv (Tr true l G Y_X7_mentorAt) 5 9 1 QX (I_gi 4 0 3 (I_iclt (I_ic 0 (I_zr Q)) (I_ic 1 (I_zr Q))))))))))
set_option maxRecDepth 100000 in
theorem g_X7_isFull_0 {l : Launch} {G : GT} {F : FX} {Q : PQ} {QX : PX} : Le (R_X7_isFull_0 l G F Q QX) (Wj true l G F Y_X7_isFull Q QX 0 0 0) := by
  unfold R_X7_isFull_0
  refine r_aload_n (pc := 0) ?_ dX7_isFull_0 rfl
  refine r_iload_n (pc := 1) ?_ dX7_isFull_1 rfl
  refine r_cv0 (pc := 2) ?_ dX7_isFull_2 cl_X7 ok_X7_apprenticesOf rfl wd_2_224 ⟨Nat.le_of_ble_eq_true rfl, Nat.le_of_ble_eq_true rfl⟩ ⟨Nat.le_of_ble_eq_true rfl, Nat.le_of_ble_eq_true rfl⟩ rfl rfl
  refine r_aload_n (pc := 5) ?_ dX7_isFull_5 rfl
  refine r_iload_n (pc := 6) ?_ dX7_isFull_6 rfl
  refine r_cv0 (pc := 7) ?_ dX7_isFull_7 cl_X7 ok_X7_mentorAt rfl wd_3_27 ⟨Nat.le_of_ble_eq_true rfl, Nat.le_of_ble_eq_true rfl⟩ ⟨Nat.le_of_ble_eq_true rfl, Nat.le_of_ble_eq_true rfl⟩ rfl rfl
  refine r_gi (pc := 10) ?_ dX7_isFull_10 cl_X6 (Nat.le_of_ble_eq_true rfl) rfl wd_1_43
  refine r_iclt (pc := 13) (t := 20) ?_ ?_ dX7_isFull_13 (by decide)
  · refine r_iconst (pc := 20) ?_ dX7_isFull_20 (by decide)
    exact r_zr dX7_isFull_21 rfl (Nat.le_of_ble_eq_true rfl) (Nat.le_of_ble_eq_true rfl)
  · refine r_iconst (pc := 16) ?_ dX7_isFull_16 (by decide)
    refine r_goto (pc := 17) (t := 21) ?_ dX7_isFull_17 (by decide)
    exact r_zr dX7_isFull_21 rfl (Nat.le_of_ble_eq_true rfl) (Nat.le_of_ble_eq_true rfl)
abbrev Y_X7_mentorOf : YT := (yX7_mentorOf, cX7_mentorOf, 2, (some .int), 2, 42, 0, 0)
theorem ok_X7_mentorOf : okV Y_X7_mentorOf 1 := ⟨⟨wd_4_44, wd_1_2, by decide, by decide, by decide +kernel⟩, wd_4_42, wd_4_43⟩
def R_X7_mentorOf_0 (l : Launch) (G : GT) (F : FX) (Q : PQ) (QX : PX) : KT := (I_al 0 (I_il 1 (I_cv (Tr true l G Y_X7_apprenticeAt) 5 9 1 QX (I_gi 0 6 11 (I_ir Q)))))
set_option maxRecDepth 100000 in
theorem g_X7_mentorOf_0 {l : Launch} {G : GT} {F : FX} {Q : PQ} {QX : PX} : Le (R_X7_mentorOf_0 l G F Q QX) (Wj true l G F Y_X7_mentorOf Q QX 0 0 0) := by
  unfold R_X7_mentorOf_0
  refine r_aload_n (pc := 0) ?_ dX7_mentorOf_0 rfl
  refine r_iload_n (pc := 1) ?_ dX7_mentorOf_1 rfl
  refine r_cv0 (pc := 2) ?_ dX7_mentorOf_2 cl_X7 ok_X7_apprenticeAt rfl wd_3_57 ⟨Nat.le_of_ble_eq_true rfl, Nat.le_of_ble_eq_true rfl⟩ ⟨Nat.le_of_ble_eq_true rfl, Nat.le_of_ble_eq_true rfl⟩ rfl rfl
  refine r_gi (pc := 5) ?_ dX7_mentorOf_5 cl_X1 (Nat.le_of_ble_eq_true rfl) rfl wd_1_104
  exact r_ir dX7_mentorOf_8 rfl (Nat.le_of_ble_eq_true rfl) (Nat.le_of_ble_eq_true rfl)
abbrev Y_X7_entryCount : YT := (yX7_entryCount, cX7_entryCount, 4, (some .int), 2, 42, 0, 0)
theorem ok_X7_entryCount : okV Y_X7_entryCount 2 := ⟨⟨wd_4_48, wd_1_2, by decide, by decide, by decide +kernel⟩, wd_4_46, wd_4_47⟩
def R_X7_entryCount_0 (l : Launch) (G : GT) (F : FX) (Q : PQ) (QX : PX) : KT := (I_al 0 (I_il 1 (I_cv (Tr true l G Y_X7_apprenticeAt) 5 9 1 QX (I_as 3 (I_il 2 (I_ifeq (I_al 3 (I_gp 0 11 2 (I_gi 3 1 2 (I_ir Q)))) (I_al 3 (I_gp 0 11 8 (I_gi 3 1 2 (I_ir Q))))))))))
set_option maxRecDepth 100000 in
theorem g_X7_entryCount_0 {l : Launch} {G : GT} {F : FX} {Q : PQ} {QX : PX} : Le (R_X7_entryCount_0 l G F Q QX) (Wj true l G F Y_X7_entryCount Q QX 0 0 0) := by
  unfold R_X7_entryCount_0
  refine r_aload_n (pc := 0) ?_ dX7_entryCount_0 rfl
  refine r_iload_n (pc := 1) ?_ dX7_entryCount_1 rfl
  refine r_cv0 (pc := 2) ?_ dX7_entryCount_2 cl_X7 ok_X7_apprenticeAt rfl wd_3_57 ⟨Nat.le_of_ble_eq_true rfl, Nat.le_of_ble_eq_true rfl⟩ ⟨Nat.le_of_ble_eq_true rfl, Nat.le_of_ble_eq_true rfl⟩ rfl rfl
  refine r_astore_n (pc := 5) ?_ dX7_entryCount_5 rfl (Nat.le_of_ble_eq_true rfl)
  refine r_iload_n (pc := 6) ?_ dX7_entryCount_6 rfl
  refine r_ifeq (pc := 7) (t := 20) ?_ ?_ dX7_entryCount_7 (by decide)
  · refine r_aload_n (pc := 20) ?_ dX7_entryCount_20 rfl
    refine r_gp (pc := 21) (kf := 1) ?_ dX7_entryCount_21 cl_X1 (Nat.le_of_ble_eq_true rfl) rfl wd_1_94 pv_X1_1
    refine r_gi (pc := 24) ?_ dX7_entryCount_24 cl_X5 (Nat.le_of_ble_eq_true rfl) rfl wd_1_71
    exact r_ir dX7_entryCount_27 rfl (Nat.le_of_ble_eq_true rfl) (Nat.le_of_ble_eq_true rfl)
  · refine r_aload_n (pc := 10) ?_ dX7_entryCount_10 rfl
    refine r_gp (pc := 11) (kf := 2) ?_ dX7_entryCount_11 cl_X1 (Nat.le_of_ble_eq_true rfl) rfl wd_1_96 pv_X1_2
    refine r_gi (pc := 14) ?_ dX7_entryCount_14 cl_X5 (Nat.le_of_ble_eq_true rfl) rfl wd_1_71
    refine r_goto (pc := 17) (t := 27) ?_ dX7_entryCount_17 (by decide)
    exact r_ir dX7_entryCount_27 rfl (Nat.le_of_ble_eq_true rfl) (Nat.le_of_ble_eq_true rfl)
abbrev Y_X7_hasWorked : YT := (yX7_hasWorked, cX7_hasWorked, 3, (some .boolean), 2, 42, 0, 0)
theorem ok_X7_hasWorked : okV Y_X7_hasWorked 2 := ⟨⟨wd_3_187, wd_1_2, by decide, by decide, by decide +kernel⟩, wd_3_185, wd_3_186⟩
def R_X7_hasWorked_0 (l : Launch) (G : GT) (F : FX) (Q : PQ) (QX : PX) : KT := (I_al 0 (I_il 1 (I_cv (Tr true l G Y_X7_apprenticeAt) 5 9 1 QX (I_gp 0 11 16 (I_il 2 (I_cv (Tr true l G Y_X4_has) 2 2 1 QX (I_zr Q)))))))
set_option maxRecDepth 100000 in
theorem g_X7_hasWorked_0 {l : Launch} {G : GT} {F : FX} {Q : PQ} {QX : PX} : Le (R_X7_hasWorked_0 l G F Q QX) (Wj true l G F Y_X7_hasWorked Q QX 0 0 0) := by
  unfold R_X7_hasWorked_0
  refine r_aload_n (pc := 0) ?_ dX7_hasWorked_0 rfl
  refine r_iload_n (pc := 1) ?_ dX7_hasWorked_1 rfl
  refine r_cv0 (pc := 2) ?_ dX7_hasWorked_2 cl_X7 ok_X7_apprenticeAt rfl wd_3_57 ⟨Nat.le_of_ble_eq_true rfl, Nat.le_of_ble_eq_true rfl⟩ ⟨Nat.le_of_ble_eq_true rfl, Nat.le_of_ble_eq_true rfl⟩ rfl rfl
  refine r_gp (pc := 5) (kf := 4) ?_ dX7_hasWorked_5 cl_X1 (Nat.le_of_ble_eq_true rfl) rfl wd_1_100 pv_X1_4
  refine r_iload_n (pc := 8) ?_ dX7_hasWorked_8 rfl
  refine r_cv0 (pc := 9) ?_ dX7_hasWorked_9 cl_X4 ok_X4_has rfl wd_3_188 ⟨Nat.le_of_ble_eq_true rfl, Nat.le_of_ble_eq_true rfl⟩ ⟨Nat.le_of_ble_eq_true rfl, Nat.le_of_ble_eq_true rfl⟩ rfl rfl
  exact r_zr dX7_hasWorked_12 rfl (Nat.le_of_ble_eq_true rfl) (Nat.le_of_ble_eq_true rfl)
abbrev Y_X7_needOf : YT := (yX7_needOf, cX7_needOf, 4, (some .int), 0, 0, 0, 0)
theorem ok_X7_needOf : okV Y_X7_needOf 2 := ⟨⟨wd_3_3, wd_1_2, by decide, by decide, by decide +kernel⟩, wd_3_2, wp_7⟩
def R_X7_needOf_0 (l : Launch) (G : GT) (F : FX) (Q : PQ) (QX : PX) : KT := (I_al 1 (I_gi 0 5 11 (I_iflt (Wj true l G F Y_X7_needOf Q QX 0 0 31) (I_al 1 (I_gi 0 5 11 (I_al 0 (I_gi 5 5 9 (I_icge (Wj true l G F Y_X7_needOf Q QX 0 0 31) (I_il 2 (I_iflt (Wj true l G F Y_X7_needOf Q QX 0 0 31) (I_il 2 (I_ic 3 (I_icge (Wj true l G F Y_X7_needOf Q QX 0 0 31) (I_ic 1 (I_is 3 (I_il 3 (I_ifeq (I_ic 0 (I_ir Q)) (I_al 0 (I_gp 5 9 1 (I_al 1 (I_gi 0 5 11 (I_aal 2 1 1 (I_il 2 (I_ial (I_ir Q)))))))))))))))))))))))))
set_option maxRecDepth 100000 in
theorem g_X7_needOf_0 {l : Launch} {G : GT} {F : FX} {Q : PQ} {QX : PX} : Le (R_X7_needOf_0 l G F Q QX) (Wj true l G F Y_X7_needOf Q QX 0 0 0) := by
  unfold R_X7_needOf_0
  refine r_aload_n (pc := 0) ?_ dX7_needOf_0 rfl
  refine r_gi (pc := 1) ?_ dX7_needOf_1 cl_X1 (Nat.le_of_ble_eq_true rfl) rfl wd_1_102
  refine r_iflt (pc := 4) (t := 31) ?_ ?_ dX7_needOf_4 (by decide)
  · exact Le.rf
  · refine r_aload_n (pc := 7) ?_ dX7_needOf_7 rfl
    refine r_gi (pc := 8) ?_ dX7_needOf_8 cl_X1 (Nat.le_of_ble_eq_true rfl) rfl wd_1_102
    refine r_aload_n (pc := 11) ?_ dX7_needOf_11 rfl
    refine r_gi (pc := 12) ?_ dX7_needOf_12 cl_X7 (Nat.le_of_ble_eq_true rfl) rfl wd_1_141
    refine r_icge (pc := 15) (t := 31) ?_ ?_ dX7_needOf_15 (by decide)
    · exact Le.rf
    · refine r_iload_n (pc := 18) ?_ dX7_needOf_18 rfl
      refine r_iflt (pc := 19) (t := 31) ?_ ?_ dX7_needOf_19 (by decide)
      · exact Le.rf
      · refine r_iload_n (pc := 22) ?_ dX7_needOf_22 rfl
        refine r_iconst (pc := 23) ?_ dX7_needOf_23 (by decide)
        refine r_icge (pc := 24) (t := 31) ?_ ?_ dX7_needOf_24 (by decide)
        · exact Le.rf
        · refine r_iconst (pc := 27) ?_ dX7_needOf_27 (by decide)
          refine r_goto (pc := 28) (t := 32) ?_ dX7_needOf_28 (by decide)
          refine r_istore_n (pc := 32) ?_ dX7_needOf_32 rfl (Nat.le_of_ble_eq_true rfl)
          refine r_iload_n (pc := 33) ?_ dX7_needOf_33 rfl
          refine r_ifeq (pc := 34) (t := 51) ?_ ?_ dX7_needOf_34 (by decide)
          · refine r_iconst (pc := 51) ?_ dX7_needOf_51 (by decide)
            exact r_ir dX7_needOf_52 rfl (Nat.le_of_ble_eq_true rfl) (Nat.le_of_ble_eq_true rfl)
          · refine r_aload_n (pc := 37) ?_ dX7_needOf_37 rfl
            refine r_gp (pc := 38) (kf := 0) ?_ dX7_needOf_38 cl_X7 (Nat.le_of_ble_eq_true rfl) rfl wd_1_136 pv_X7_0
            refine r_aload_n (pc := 41) ?_ dX7_needOf_41 rfl
            refine r_gi (pc := 42) ?_ dX7_needOf_42 cl_X1 (Nat.le_of_ble_eq_true rfl) rfl wd_1_102
            refine r_aal (pc := 45) ?_ dX7_needOf_45 rfl rfl pa_2
            refine r_iload_n (pc := 46) ?_ dX7_needOf_46 rfl
            refine r_ial (pc := 47) ?_ dX7_needOf_47
            refine r_goto (pc := 48) (t := 52) ?_ dX7_needOf_48 (by decide)
            exact r_ir dX7_needOf_52 rfl (Nat.le_of_ble_eq_true rfl) (Nat.le_of_ble_eq_true rfl)
def R_X7_needOf_31 (l : Launch) (G : GT) (F : FX) (Q : PQ) (QX : PX) : KT := (I_ic 0 (I_is 3 (I_il 3 (I_ifeq (I_ic 0 (I_ir Q)) (I_al 0 (I_gp 5 9 1 (I_al 1 (I_gi 0 5 11 (I_aal 2 1 1 (I_il 2 (I_ial (I_ir Q))))))))))))
set_option maxRecDepth 100000 in
theorem g_X7_needOf_31 {l : Launch} {G : GT} {F : FX} {Q : PQ} {QX : PX} : Le (R_X7_needOf_31 l G F Q QX) (Wj true l G F Y_X7_needOf Q QX 0 0 31) := by
  unfold R_X7_needOf_31
  refine r_iconst (pc := 31) ?_ dX7_needOf_31 (by decide)
  refine r_istore_n (pc := 32) ?_ dX7_needOf_32 rfl (Nat.le_of_ble_eq_true rfl)
  refine r_iload_n (pc := 33) ?_ dX7_needOf_33 rfl
  refine r_ifeq (pc := 34) (t := 51) ?_ ?_ dX7_needOf_34 (by decide)
  · refine r_iconst (pc := 51) ?_ dX7_needOf_51 (by decide)
    exact r_ir dX7_needOf_52 rfl (Nat.le_of_ble_eq_true rfl) (Nat.le_of_ble_eq_true rfl)
  · refine r_aload_n (pc := 37) ?_ dX7_needOf_37 rfl
    refine r_gp (pc := 38) (kf := 0) ?_ dX7_needOf_38 cl_X7 (Nat.le_of_ble_eq_true rfl) rfl wd_1_136 pv_X7_0
    refine r_aload_n (pc := 41) ?_ dX7_needOf_41 rfl
    refine r_gi (pc := 42) ?_ dX7_needOf_42 cl_X1 (Nat.le_of_ble_eq_true rfl) rfl wd_1_102
    refine r_aal (pc := 45) ?_ dX7_needOf_45 rfl rfl pa_2
    refine r_iload_n (pc := 46) ?_ dX7_needOf_46 rfl
    refine r_ial (pc := 47) ?_ dX7_needOf_47
    refine r_goto (pc := 48) (t := 52) ?_ dX7_needOf_48 (by decide)
    exact r_ir dX7_needOf_52 rfl (Nat.le_of_ble_eq_true rfl) (Nat.le_of_ble_eq_true rfl)
abbrev Y_X7_missingIn : YT := (yX7_missingIn, cX7_missingIn, 3, (some .int), 1, 23, 0, 0)
theorem ok_X7_missingIn : okV Y_X7_missingIn 2 := ⟨⟨wd_2_239, wd_1_2, by decide, by decide, by decide +kernel⟩, wd_2_238, wp_6⟩
def R_X7_missingIn_0 (l : Launch) (G : GT) (F : FX) (Q : PQ) (QX : PX) : KT := (I_ic 0 (I_al 0 (I_al 1 (I_il 2 (I_cv (Tr true l G Y_X7_needOf) 5 9 2 QX (I_al 1 (I_il 2 (I_cv (Tr true l G Y_X1_doneIn) 0 11 1 QX (I_isub (I_max (I_ir Q)))))))))))
set_option maxRecDepth 100000 in
theorem g_X7_missingIn_0 {l : Launch} {G : GT} {F : FX} {Q : PQ} {QX : PX} : Le (R_X7_missingIn_0 l G F Q QX) (Wj true l G F Y_X7_missingIn Q QX 0 0 0) := by
  unfold R_X7_missingIn_0
  refine r_iconst (pc := 0) ?_ dX7_missingIn_0 (by decide)
  refine r_aload_n (pc := 1) ?_ dX7_missingIn_1 rfl
  refine r_aload_n (pc := 2) ?_ dX7_missingIn_2 rfl
  refine r_iload_n (pc := 3) ?_ dX7_missingIn_3 rfl
  refine r_cv0 (pc := 4) ?_ dX7_missingIn_4 cl_X7 ok_X7_needOf rfl wd_3_0 ⟨Nat.le_of_ble_eq_true rfl, Nat.le_of_ble_eq_true rfl⟩ ⟨Nat.le_of_ble_eq_true rfl, Nat.le_of_ble_eq_true rfl⟩ rfl rfl
  refine r_aload_n (pc := 7) ?_ dX7_missingIn_7 rfl
  refine r_iload_n (pc := 8) ?_ dX7_missingIn_8 rfl
  refine r_cv0 (pc := 9) ?_ dX7_missingIn_9 cl_X1 ok_X1_doneIn rfl wd_3_4 ⟨Nat.le_of_ble_eq_true rfl, Nat.le_of_ble_eq_true rfl⟩ ⟨Nat.le_of_ble_eq_true rfl, Nat.le_of_ble_eq_true rfl⟩ rfl rfl
  refine r_isub (pc := 12) ?_ dX7_missingIn_12
  refine r_max (pc := 13) ?_ dX7_missingIn_13 wd_3_8 wd_3_9 wd_1_16 wd_3_10 ⟨Nat.le_of_ble_eq_true rfl, Nat.le_of_ble_eq_true rfl⟩ ⟨Nat.le_of_ble_eq_true rfl, Nat.le_of_ble_eq_true rfl⟩
  exact r_ir dX7_missingIn_16 rfl (Nat.le_of_ble_eq_true rfl) (Nat.le_of_ble_eq_true rfl)
abbrev Y_X7_isComplete : YT := (yX7_isComplete, cX7_isComplete, 3, (some .boolean), 2, 45, 0, 0)
theorem ok_X7_isComplete : okV Y_X7_isComplete 1 := ⟨⟨wd_2_235, wd_1_2, by decide, by decide, by decide +kernel⟩, wd_2_234, wp_5⟩
def R_X7_isComplete_0 (l : Launch) (G : GT) (F : FX) (Q : PQ) (QX : PX) : KT := (I_ic 0 (I_is 2 (Wj true l G F Y_X7_isComplete Q QX 0 0 2)))
set_option maxRecDepth 100000 in
theorem g_X7_isComplete_0 {l : Launch} {G : GT} {F : FX} {Q : PQ} {QX : PX} : Le (R_X7_isComplete_0 l G F Q QX) (Wj true l G F Y_X7_isComplete Q QX 0 0 0) := by
  unfold R_X7_isComplete_0
  refine r_iconst (pc := 0) ?_ dX7_isComplete_0 (by decide)
  refine r_istore_n (pc := 1) ?_ dX7_isComplete_1 rfl (Nat.le_of_ble_eq_true rfl)
  exact Le.rf
def R_X7_isComplete_2 (l : Launch) (G : GT) (F : FX) (Q : PQ) (QX : PX) : KT := (I_il 2 (I_ic 3 (I_icge (I_ic 1 (I_zr Q)) (I_al 0 (I_al 1 (I_il 2 (I_cv (Tr true l G Y_X7_missingIn) 5 9 2 QX (I_ifle (I_inc 2 1 (Wj true l G F Y_X7_isComplete Q QX 0 0 2)) (I_ic 0 (I_zr Q))))))))))
set_option maxRecDepth 100000 in
theorem g_X7_isComplete_2 {l : Launch} {G : GT} {F : FX} {Q : PQ} {QX : PX} : Le (R_X7_isComplete_2 l G F Q QX) (Wj true l G F Y_X7_isComplete Q QX 0 0 2) := by
  unfold R_X7_isComplete_2
  refine r_iload_n (pc := 2) ?_ dX7_isComplete_2 rfl
  refine r_iconst (pc := 3) ?_ dX7_isComplete_3 (by decide)
  refine r_icge (pc := 4) (t := 24) ?_ ?_ dX7_isComplete_4 (by decide)
  · refine r_iconst (pc := 24) ?_ dX7_isComplete_24 (by decide)
    exact r_zr dX7_isComplete_25 rfl (Nat.le_of_ble_eq_true rfl) (Nat.le_of_ble_eq_true rfl)
  · refine r_aload_n (pc := 7) ?_ dX7_isComplete_7 rfl
    refine r_aload_n (pc := 8) ?_ dX7_isComplete_8 rfl
    refine r_iload_n (pc := 9) ?_ dX7_isComplete_9 rfl
    refine r_cv0 (pc := 10) ?_ dX7_isComplete_10 cl_X7 ok_X7_missingIn rfl wd_2_236 ⟨Nat.le_of_ble_eq_true rfl, Nat.le_of_ble_eq_true rfl⟩ ⟨Nat.le_of_ble_eq_true rfl, Nat.le_of_ble_eq_true rfl⟩ rfl rfl
    refine r_ifle (pc := 13) (t := 18) ?_ ?_ dX7_isComplete_13 (by decide)
    · refine r_iinc (pc := 18) ?_ dX7_isComplete_18 (by decide) (Nat.le_of_ble_eq_true rfl)
      refine r_goto (pc := 21) (t := 2) ?_ dX7_isComplete_21 (by decide)
      exact Le.rf
    · refine r_iconst (pc := 16) ?_ dX7_isComplete_16 (by decide)
      exact r_zr dX7_isComplete_17 rfl (Nat.le_of_ble_eq_true rfl) (Nat.le_of_ble_eq_true rfl)
abbrev Y_X7_canWork : YT := (yX7_canWork, cX7_canWork, 3, (some .boolean), 2, 43, 0, 0)
theorem ok_X7_canWork : okV Y_X7_canWork 2 := ⟨⟨wd_3_211, wd_1_2, by decide, by decide, by decide +kernel⟩, wd_3_209, wd_3_210⟩
def R_X7_canWork_0 (l : Launch) (G : GT) (F : FX) (Q : PQ) (QX : PX) : KT := (I_al 0 (I_il 1 (I_cv (Tr true l G Y_X7_apprenticeAt) 5 9 1 QX (I_al 0 (I_gi 5 8 9 (I_il 2 (I_cv (Tr true l G Y_X1_hasRoomFor) 0 11 2 QX (I_zr Q))))))))
set_option maxRecDepth 100000 in
theorem g_X7_canWork_0 {l : Launch} {G : GT} {F : FX} {Q : PQ} {QX : PX} : Le (R_X7_canWork_0 l G F Q QX) (Wj true l G F Y_X7_canWork Q QX 0 0 0) := by
  unfold R_X7_canWork_0
  refine r_aload_n (pc := 0) ?_ dX7_canWork_0 rfl
  refine r_iload_n (pc := 1) ?_ dX7_canWork_1 rfl
  refine r_cv0 (pc := 2) ?_ dX7_canWork_2 cl_X7 ok_X7_apprenticeAt rfl wd_3_57 ⟨Nat.le_of_ble_eq_true rfl, Nat.le_of_ble_eq_true rfl⟩ ⟨Nat.le_of_ble_eq_true rfl, Nat.le_of_ble_eq_true rfl⟩ rfl rfl
  refine r_aload_n (pc := 5) ?_ dX7_canWork_5 rfl
  refine r_gi (pc := 6) ?_ dX7_canWork_6 cl_X7 (Nat.le_of_ble_eq_true rfl) rfl wd_1_147
  refine r_iload_n (pc := 9) ?_ dX7_canWork_9 rfl
  refine r_cv0 (pc := 10) ?_ dX7_canWork_10 cl_X1 ok_X1_hasRoomFor rfl wd_3_212 ⟨Nat.le_of_ble_eq_true rfl, Nat.le_of_ble_eq_true rfl⟩ ⟨Nat.le_of_ble_eq_true rfl, Nat.le_of_ble_eq_true rfl⟩ rfl rfl
  exact r_zr dX7_canWork_13 rfl (Nat.le_of_ble_eq_true rfl) (Nat.le_of_ble_eq_true rfl)
abbrev Y_X7_canConfirm : YT := (yX7_canConfirm, cX7_canConfirm, 6, (some .boolean), 3, 71, 0, 0)
theorem ok_X7_canConfirm : okV Y_X7_canConfirm 2 := ⟨⟨wd_4_0, wd_1_2, by decide, by decide, by decide +kernel⟩, wd_3_238, wd_3_239⟩
def R_X7_canConfirm_0 (l : Launch) (G : GT) (F : FX) (Q : PQ) (QX : PX) : KT := (I_il 2 (I_is 3 (I_ic 0 (I_is 4 (I_kl 2 (Wj true l G F Y_X7_canConfirm Q QX 0 0 5))))))
set_option maxRecDepth 100000 in
theorem g_X7_canConfirm_0 {l : Launch} {G : GT} {F : FX} {Q : PQ} {QX : PX} : Le (R_X7_canConfirm_0 l G F Q QX) (Wj true l G F Y_X7_canConfirm Q QX 0 0 0) := by
  unfold R_X7_canConfirm_0
  refine r_iload_n (pc := 0) ?_ dX7_canConfirm_0 rfl
  refine r_istore_n (pc := 1) ?_ dX7_canConfirm_1 rfl (Nat.le_of_ble_eq_true rfl)
  refine r_iconst (pc := 2) ?_ dX7_canConfirm_2 (by decide)
  refine r_istore (pc := 3) ?_ dX7_canConfirm_3 (Nat.le_of_ble_eq_true rfl)
  refine r_kl ?_
  exact Le.rf
def R_X7_canConfirm_5 (l : Launch) (G : GT) (F : FX) (Q : PQ) (QX : PX) : KT := (I_il 4 (I_al 0 (I_gi 5 7 9 (I_icge (I_ic 1 (I_zr Q)) (I_al 0 (I_gp 5 9 8 (I_il 4 (I_aal 4 26 18 (I_as 5 (I_al 5 (I_gi 0 6 11 (I_il 1 (I_icne (I_inc 4 1 (I_kl 5 (Wj true l G F Y_X7_canConfirm Q QX 0 0 5))) (I_al 5 (I_il 3 (I_cv (Tr true l G Y_X1_canTakeFirst) 0 11 1 QX (I_ifne (I_il 3 (I_il 3 (I_al 5 (I_gp 0 11 2 (I_il 1 (I_cv (Tr true l G Y_X5_countWith) 3 2 1 QX (I_min (I_isub (I_is 3 (I_inc 4 1 (I_kl 5 (Wj true l G F Y_X7_canConfirm Q QX 0 0 5)))))))))))) (I_ic 0 (I_zr Q)))))))))))))))))))
set_option maxRecDepth 100000 in
theorem g_X7_canConfirm_5 {l : Launch} {G : GT} {F : FX} {Q : PQ} {QX : PX} : Le (R_X7_canConfirm_5 l G F Q QX) (Wj true l G F Y_X7_canConfirm Q QX 0 0 5) := by
  unfold R_X7_canConfirm_5
  refine r_iload (pc := 5) ?_ dX7_canConfirm_5
  refine r_aload_n (pc := 7) ?_ dX7_canConfirm_7 rfl
  refine r_gi (pc := 8) ?_ dX7_canConfirm_8 cl_X7 (Nat.le_of_ble_eq_true rfl) rfl wd_1_145
  refine r_icge (pc := 11) (t := 65) ?_ ?_ dX7_canConfirm_11 (by decide)
  · refine r_iconst (pc := 65) ?_ dX7_canConfirm_65 (by decide)
    exact r_zr dX7_canConfirm_66 rfl (Nat.le_of_ble_eq_true rfl) (Nat.le_of_ble_eq_true rfl)
  · refine r_aload_n (pc := 14) ?_ dX7_canConfirm_14 rfl
    refine r_gp (pc := 15) (kf := 2) ?_ dX7_canConfirm_15 cl_X7 (Nat.le_of_ble_eq_true rfl) rfl wd_1_138 pv_X7_2
    refine r_iload (pc := 18) ?_ dX7_canConfirm_18
    refine r_aal (pc := 20) ?_ dX7_canConfirm_20 rfl rfl pa_4
    refine r_astore (pc := 21) ?_ dX7_canConfirm_21 (Nat.le_of_ble_eq_true rfl)
    refine r_aload (pc := 23) ?_ dX7_canConfirm_23
    refine r_gi (pc := 25) ?_ dX7_canConfirm_25 cl_X1 (Nat.le_of_ble_eq_true rfl) rfl wd_1_104
    refine r_iload_n (pc := 28) ?_ dX7_canConfirm_28 rfl
    refine r_icne (pc := 29) (t := 59) ?_ ?_ dX7_canConfirm_29 (by decide)
    · refine r_iinc (pc := 59) ?_ dX7_canConfirm_59 (by decide) (Nat.le_of_ble_eq_true rfl)
      refine r_goto (pc := 62) (t := 5) ?_ dX7_canConfirm_62 (by decide)
      refine r_kl ?_
      exact Le.rf
    · refine r_aload (pc := 32) ?_ dX7_canConfirm_32
      refine r_iload_n (pc := 34) ?_ dX7_canConfirm_34 rfl
      refine r_cv0 (pc := 35) ?_ dX7_canConfirm_35 cl_X1 ok_X1_canTakeFirst rfl wd_4_1 ⟨Nat.le_of_ble_eq_true rfl, Nat.le_of_ble_eq_true rfl⟩ ⟨Nat.le_of_ble_eq_true rfl, Nat.le_of_ble_eq_true rfl⟩ rfl rfl
      refine r_ifne (pc := 38) (t := 43) ?_ ?_ dX7_canConfirm_38 (by decide)
      · refine r_iload_n (pc := 43) ?_ dX7_canConfirm_43 rfl
        refine r_iload_n (pc := 44) ?_ dX7_canConfirm_44 rfl
        refine r_aload (pc := 45) ?_ dX7_canConfirm_45
        refine r_gp (pc := 47) (kf := 1) ?_ dX7_canConfirm_47 cl_X1 (Nat.le_of_ble_eq_true rfl) rfl wd_1_94 pv_X1_1
        refine r_iload_n (pc := 50) ?_ dX7_canConfirm_50 rfl
        refine r_cv0 (pc := 51) ?_ dX7_canConfirm_51 cl_X5 ok_X5_countWith rfl wd_3_36 ⟨Nat.le_of_ble_eq_true rfl, Nat.le_of_ble_eq_true rfl⟩ ⟨Nat.le_of_ble_eq_true rfl, Nat.le_of_ble_eq_true rfl⟩ rfl rfl
        refine r_min (pc := 54) ?_ dX7_canConfirm_54 wd_4_15 wd_4_16 wd_1_16 wd_4_17 ⟨Nat.le_of_ble_eq_true rfl, Nat.le_of_ble_eq_true rfl⟩ ⟨Nat.le_of_ble_eq_true rfl, Nat.le_of_ble_eq_true rfl⟩
        refine r_isub (pc := 57) ?_ dX7_canConfirm_57
        refine r_istore_n (pc := 58) ?_ dX7_canConfirm_58 rfl (Nat.le_of_ble_eq_true rfl)
        refine r_iinc (pc := 59) ?_ dX7_canConfirm_59 (by decide) (Nat.le_of_ble_eq_true rfl)
        refine r_goto (pc := 62) (t := 5) ?_ dX7_canConfirm_62 (by decide)
        refine r_kl ?_
        exact Le.rf
      · refine r_iconst (pc := 41) ?_ dX7_canConfirm_41 (by decide)
        exact r_zr dX7_canConfirm_42 rfl (Nat.le_of_ble_eq_true rfl) (Nat.le_of_ble_eq_true rfl)
abbrev Y_X7_canSettle : YT := (yX7_canSettle, cX7_canSettle, 4, (some .boolean), 2, 45, 0, 0)
theorem ok_X7_canSettle : okV Y_X7_canSettle 2 := ⟨⟨wd_4_68, wd_1_2, by decide, by decide, by decide +kernel⟩, wd_4_66, wd_4_67⟩
def R_X7_canSettle_0 (l : Launch) (G : GT) (F : FX) (Q : PQ) (QX : PX) : KT := (I_al 0 (I_il 1 (I_cv (Tr true l G Y_X7_apprenticeAt) 5 9 1 QX (I_as 3 (I_al 3 (I_gp 0 11 8 (I_gi 3 1 2 (I_ifeq (I_al 3 (I_gp 0 11 8 (I_gi 3 1 2 (I_ifle (I_ic 0 (I_zr Q)) (I_ic 1 (I_zr Q)))))) (I_il 2 (I_ifne (I_al 3 (I_al 3 (I_gp 0 11 8 (I_ic 0 (I_ic 0 (I_cv (Tr true l G Y_X5_valueAt) 3 2 2 QX (I_al 3 (I_gp 0 11 8 (I_ic 0 (I_ic 1 (I_cv (Tr true l G Y_X5_valueAt) 3 2 2 QX (I_cv (Tr true l G Y_X1_canAdd) 0 11 2 QX (I_zr Q))))))))))))) (I_al 3 (I_gp 0 11 8 (I_gi 3 1 2 (I_ifle (I_ic 0 (I_zr Q)) (I_ic 1 (I_zr Q))))))))))))))))
set_option maxRecDepth 100000 in
theorem g_X7_canSettle_0 {l : Launch} {G : GT} {F : FX} {Q : PQ} {QX : PX} : Le (R_X7_canSettle_0 l G F Q QX) (Wj true l G F Y_X7_canSettle Q QX 0 0 0) := by
  unfold R_X7_canSettle_0
  refine r_aload_n (pc := 0) ?_ dX7_canSettle_0 rfl
  refine r_iload_n (pc := 1) ?_ dX7_canSettle_1 rfl
  refine r_cv0 (pc := 2) ?_ dX7_canSettle_2 cl_X7 ok_X7_apprenticeAt rfl wd_3_57 ⟨Nat.le_of_ble_eq_true rfl, Nat.le_of_ble_eq_true rfl⟩ ⟨Nat.le_of_ble_eq_true rfl, Nat.le_of_ble_eq_true rfl⟩ rfl rfl
  refine r_astore_n (pc := 5) ?_ dX7_canSettle_5 rfl (Nat.le_of_ble_eq_true rfl)
  refine r_aload_n (pc := 6) ?_ dX7_canSettle_6 rfl
  refine r_gp (pc := 7) (kf := 2) ?_ dX7_canSettle_7 cl_X1 (Nat.le_of_ble_eq_true rfl) rfl wd_1_96 pv_X1_2
  refine r_gi (pc := 10) ?_ dX7_canSettle_10 cl_X5 (Nat.le_of_ble_eq_true rfl) rfl wd_1_71
  refine r_ifeq (pc := 13) (t := 20) ?_ ?_ dX7_canSettle_13 (by decide)
  · refine r_aload_n (pc := 20) ?_ dX7_canSettle_20 rfl
    refine r_gp (pc := 21) (kf := 2) ?_ dX7_canSettle_21 cl_X1 (Nat.le_of_ble_eq_true rfl) rfl wd_1_96 pv_X1_2
    refine r_gi (pc := 24) ?_ dX7_canSettle_24 cl_X5 (Nat.le_of_ble_eq_true rfl) rfl wd_1_71
    refine r_ifle (pc := 27) (t := 34) ?_ ?_ dX7_canSettle_27 (by decide)
    · refine r_iconst (pc := 34) ?_ dX7_canSettle_34 (by decide)
      exact r_zr dX7_canSettle_35 rfl (Nat.le_of_ble_eq_true rfl) (Nat.le_of_ble_eq_true rfl)
    · refine r_iconst (pc := 30) ?_ dX7_canSettle_30 (by decide)
      refine r_goto (pc := 31) (t := 35) ?_ dX7_canSettle_31 (by decide)
      exact r_zr dX7_canSettle_35 rfl (Nat.le_of_ble_eq_true rfl) (Nat.le_of_ble_eq_true rfl)
  · refine r_iload_n (pc := 16) ?_ dX7_canSettle_16 rfl
    refine r_ifne (pc := 17) (t := 36) ?_ ?_ dX7_canSettle_17 (by decide)
    · refine r_aload_n (pc := 36) ?_ dX7_canSettle_36 rfl
      refine r_aload_n (pc := 37) ?_ dX7_canSettle_37 rfl
      refine r_gp (pc := 38) (kf := 2) ?_ dX7_canSettle_38 cl_X1 (Nat.le_of_ble_eq_true rfl) rfl wd_1_96 pv_X1_2
      refine r_iconst (pc := 41) ?_ dX7_canSettle_41 (by decide)
      refine r_iconst (pc := 42) ?_ dX7_canSettle_42 (by decide)
      refine r_cv0 (pc := 43) ?_ dX7_canSettle_43 cl_X5 ok_X5_valueAt rfl wd_3_95 ⟨Nat.le_of_ble_eq_true rfl, Nat.le_of_ble_eq_true rfl⟩ ⟨Nat.le_of_ble_eq_true rfl, Nat.le_of_ble_eq_true rfl⟩ rfl rfl
      refine r_aload_n (pc := 46) ?_ dX7_canSettle_46 rfl
      refine r_gp (pc := 47) (kf := 2) ?_ dX7_canSettle_47 cl_X1 (Nat.le_of_ble_eq_true rfl) rfl wd_1_96 pv_X1_2
      refine r_iconst (pc := 50) ?_ dX7_canSettle_50 (by decide)
      refine r_iconst (pc := 51) ?_ dX7_canSettle_51 (by decide)
      refine r_cv0 (pc := 52) ?_ dX7_canSettle_52 cl_X5 ok_X5_valueAt rfl wd_3_95 ⟨Nat.le_of_ble_eq_true rfl, Nat.le_of_ble_eq_true rfl⟩ ⟨Nat.le_of_ble_eq_true rfl, Nat.le_of_ble_eq_true rfl⟩ rfl rfl
      refine r_cv0 (pc := 55) ?_ dX7_canSettle_55 cl_X1 ok_X1_canAdd rfl wd_4_69 ⟨Nat.le_of_ble_eq_true rfl, Nat.le_of_ble_eq_true rfl⟩ ⟨Nat.le_of_ble_eq_true rfl, Nat.le_of_ble_eq_true rfl⟩ rfl rfl
      exact r_zr dX7_canSettle_58 rfl (Nat.le_of_ble_eq_true rfl) (Nat.le_of_ble_eq_true rfl)
    · refine r_aload_n (pc := 20) ?_ dX7_canSettle_20 rfl
      refine r_gp (pc := 21) (kf := 2) ?_ dX7_canSettle_21 cl_X1 (Nat.le_of_ble_eq_true rfl) rfl wd_1_96 pv_X1_2
      refine r_gi (pc := 24) ?_ dX7_canSettle_24 cl_X5 (Nat.le_of_ble_eq_true rfl) rfl wd_1_71
      refine r_ifle (pc := 27) (t := 34) ?_ ?_ dX7_canSettle_27 (by decide)
      · refine r_iconst (pc := 34) ?_ dX7_canSettle_34 (by decide)
        exact r_zr dX7_canSettle_35 rfl (Nat.le_of_ble_eq_true rfl) (Nat.le_of_ble_eq_true rfl)
      · refine r_iconst (pc := 30) ?_ dX7_canSettle_30 (by decide)
        refine r_goto (pc := 31) (t := 35) ?_ dX7_canSettle_31 (by decide)
        exact r_zr dX7_canSettle_35 rfl (Nat.le_of_ble_eq_true rfl) (Nat.le_of_ble_eq_true rfl)
abbrev Y_X7_canCredit : YT := (yX7_canCredit, cX7_canCredit, 4, (some .boolean), 2, 45, 0, 0)
theorem ok_X7_canCredit : okV Y_X7_canCredit 3 := ⟨⟨wd_4_90, wd_1_2, by decide, by decide, by decide +kernel⟩, wd_4_88, wd_4_89⟩
def R_X7_canCredit_0 (l : Launch) (G : GT) (F : FX) (Q : PQ) (QX : PX) : KT := (I_al 0 (I_il 1 (I_cv (Tr true l G Y_X7_apprenticeAt) 5 9 1 QX (I_il 2 (I_il 3 (I_cv (Tr true l G Y_X1_canAdd) 0 11 2 QX (I_zr Q)))))))
set_option maxRecDepth 100000 in
theorem g_X7_canCredit_0 {l : Launch} {G : GT} {F : FX} {Q : PQ} {QX : PX} : Le (R_X7_canCredit_0 l G F Q QX) (Wj true l G F Y_X7_canCredit Q QX 0 0 0) := by
  unfold R_X7_canCredit_0
  refine r_aload_n (pc := 0) ?_ dX7_canCredit_0 rfl
  refine r_iload_n (pc := 1) ?_ dX7_canCredit_1 rfl
  refine r_cv0 (pc := 2) ?_ dX7_canCredit_2 cl_X7 ok_X7_apprenticeAt rfl wd_3_57 ⟨Nat.le_of_ble_eq_true rfl, Nat.le_of_ble_eq_true rfl⟩ ⟨Nat.le_of_ble_eq_true rfl, Nat.le_of_ble_eq_true rfl⟩ rfl rfl
  refine r_iload_n (pc := 5) ?_ dX7_canCredit_5 rfl
  refine r_iload_n (pc := 6) ?_ dX7_canCredit_6 rfl
  refine r_cv0 (pc := 7) ?_ dX7_canCredit_7 cl_X1 ok_X1_canAdd rfl wd_4_69 ⟨Nat.le_of_ble_eq_true rfl, Nat.le_of_ble_eq_true rfl⟩ ⟨Nat.le_of_ble_eq_true rfl, Nat.le_of_ble_eq_true rfl⟩ rfl rfl
  exact r_zr dX7_canCredit_10 rfl (Nat.le_of_ble_eq_true rfl) (Nat.le_of_ble_eq_true rfl)
abbrev Y_X7_obstacle : YT := (yX7_obstacle, cX7_obstacle, 4, (some .int), 3, 64, 0, 0)
theorem ok_X7_obstacle : okV Y_X7_obstacle 2 := ⟨⟨wd_4_113, wd_1_2, by decide, by decide, by decide +kernel⟩, wd_4_111, wd_4_112⟩
def R_X7_obstacle_0 (l : Launch) (G : GT) (F : FX) (Q : PQ) (QX : PX) : KT := (I_al 0 (I_il 1 (I_cv (Tr true l G Y_X7_apprenticeAt) 5 9 1 QX (I_as 3 (I_al 3 (I_gi 0 6 11 (I_il 2 (I_icne (I_al 0 (I_il 2 (I_al 3 (I_gi 0 5 11 (I_cv (Tr true l G Y_X7_teaches) 5 9 2 QX (I_ifne (I_al 0 (I_il 2 (I_cv (Tr true l G Y_X7_isFull) 5 9 1 QX (I_ifeq (I_ic 0 (I_ir Q)) (I_ic 3 (I_ir Q)))))) (I_ic 2 (I_ir Q)))))))) (I_ic 1 (I_ir Q))))))))))
set_option maxRecDepth 100000 in
theorem g_X7_obstacle_0 {l : Launch} {G : GT} {F : FX} {Q : PQ} {QX : PX} : Le (R_X7_obstacle_0 l G F Q QX) (Wj true l G F Y_X7_obstacle Q QX 0 0 0) := by
  unfold R_X7_obstacle_0
  refine r_aload_n (pc := 0) ?_ dX7_obstacle_0 rfl
  refine r_iload_n (pc := 1) ?_ dX7_obstacle_1 rfl
  refine r_cv0 (pc := 2) ?_ dX7_obstacle_2 cl_X7 ok_X7_apprenticeAt rfl wd_3_57 ⟨Nat.le_of_ble_eq_true rfl, Nat.le_of_ble_eq_true rfl⟩ ⟨Nat.le_of_ble_eq_true rfl, Nat.le_of_ble_eq_true rfl⟩ rfl rfl
  refine r_astore_n (pc := 5) ?_ dX7_obstacle_5 rfl (Nat.le_of_ble_eq_true rfl)
  refine r_aload_n (pc := 6) ?_ dX7_obstacle_6 rfl
  refine r_gi (pc := 7) ?_ dX7_obstacle_7 cl_X1 (Nat.le_of_ble_eq_true rfl) rfl wd_1_104
  refine r_iload_n (pc := 10) ?_ dX7_obstacle_10 rfl
  refine r_icne (pc := 11) (t := 16) ?_ ?_ dX7_obstacle_11 (by decide)
  · refine r_aload_n (pc := 16) ?_ dX7_obstacle_16 rfl
    refine r_iload_n (pc := 17) ?_ dX7_obstacle_17 rfl
    refine r_aload_n (pc := 18) ?_ dX7_obstacle_18 rfl
    refine r_gi (pc := 19) ?_ dX7_obstacle_19 cl_X1 (Nat.le_of_ble_eq_true rfl) rfl wd_1_102
    refine r_cv0 (pc := 22) ?_ dX7_obstacle_22 cl_X7 ok_X7_teaches rfl wd_4_114 ⟨Nat.le_of_ble_eq_true rfl, Nat.le_of_ble_eq_true rfl⟩ ⟨Nat.le_of_ble_eq_true rfl, Nat.le_of_ble_eq_true rfl⟩ rfl rfl
    refine r_ifne (pc := 25) (t := 30) ?_ ?_ dX7_obstacle_25 (by decide)
    · refine r_aload_n (pc := 30) ?_ dX7_obstacle_30 rfl
      refine r_iload_n (pc := 31) ?_ dX7_obstacle_31 rfl
      refine r_cv0 (pc := 32) ?_ dX7_obstacle_32 cl_X7 ok_X7_isFull rfl wd_4_115 ⟨Nat.le_of_ble_eq_true rfl, Nat.le_of_ble_eq_true rfl⟩ ⟨Nat.le_of_ble_eq_true rfl, Nat.le_of_ble_eq_true rfl⟩ rfl rfl
      refine r_ifeq (pc := 35) (t := 42) ?_ ?_ dX7_obstacle_35 (by decide)
      · refine r_iconst (pc := 42) ?_ dX7_obstacle_42 (by decide)
        exact r_ir dX7_obstacle_43 rfl (Nat.le_of_ble_eq_true rfl) (Nat.le_of_ble_eq_true rfl)
      · refine r_iconst (pc := 38) ?_ dX7_obstacle_38 (by decide)
        refine r_goto (pc := 39) (t := 43) ?_ dX7_obstacle_39 (by decide)
        exact r_ir dX7_obstacle_43 rfl (Nat.le_of_ble_eq_true rfl) (Nat.le_of_ble_eq_true rfl)
    · refine r_iconst (pc := 28) ?_ dX7_obstacle_28 (by decide)
      exact r_ir dX7_obstacle_29 rfl (Nat.le_of_ble_eq_true rfl) (Nat.le_of_ble_eq_true rfl)
  · refine r_iconst (pc := 14) ?_ dX7_obstacle_14 (by decide)
    exact r_ir dX7_obstacle_15 rfl (Nat.le_of_ble_eq_true rfl) (Nat.le_of_ble_eq_true rfl)
abbrev Y_X7_canExchange : YT := (yX7_canExchange, cX7_canExchange, 5, (some .boolean), 3, 64, 0, 0)
theorem ok_X7_canExchange : okV Y_X7_canExchange 2 := ⟨⟨wd_4_153, wd_1_2, by decide, by decide, by decide +kernel⟩, wd_4_151, wd_4_152⟩
def R_X7_canExchange_0 (l : Launch) (G : GT) (F : FX) (Q : PQ) (QX : PX) : KT := (I_al 0 (I_il 1 (I_cv (Tr true l G Y_X7_apprenticeAt) 5 9 1 QX (I_as 3 (I_al 0 (I_il 2 (I_cv (Tr true l G Y_X7_apprenticeAt) 5 9 1 QX (I_as 4 (I_al 3 (I_gi 0 6 11 (I_ic (-1) (I_iceq (I_ic 0 (I_zr Q)) (I_al 4 (I_gi 0 6 11 (I_ic (-1) (I_iceq (I_ic 0 (I_zr Q)) (I_al 3 (I_gi 0 6 11 (I_al 4 (I_gi 0 6 11 (I_iceq (I_ic 0 (I_zr Q)) (I_al 0 (I_al 3 (I_gi 0 6 11 (I_al 4 (I_gi 0 5 11 (I_cv (Tr true l G Y_X7_teaches) 5 9 2 QX (I_ifeq (I_ic 0 (I_zr Q)) (I_al 0 (I_al 4 (I_gi 0 6 11 (I_al 3 (I_gi 0 5 11 (I_cv (Tr true l G Y_X7_teaches) 5 9 2 QX (I_ifeq (I_ic 0 (I_zr Q)) (I_ic 1 (I_zr Q)))))))))))))))))))))))))))))))))))))
set_option maxRecDepth 100000 in
theorem g_X7_canExchange_0 {l : Launch} {G : GT} {F : FX} {Q : PQ} {QX : PX} : Le (R_X7_canExchange_0 l G F Q QX) (Wj true l G F Y_X7_canExchange Q QX 0 0 0) := by
  unfold R_X7_canExchange_0
  refine r_aload_n (pc := 0) ?_ dX7_canExchange_0 rfl
  refine r_iload_n (pc := 1) ?_ dX7_canExchange_1 rfl
  refine r_cv0 (pc := 2) ?_ dX7_canExchange_2 cl_X7 ok_X7_apprenticeAt rfl wd_3_57 ⟨Nat.le_of_ble_eq_true rfl, Nat.le_of_ble_eq_true rfl⟩ ⟨Nat.le_of_ble_eq_true rfl, Nat.le_of_ble_eq_true rfl⟩ rfl rfl
  refine r_astore_n (pc := 5) ?_ dX7_canExchange_5 rfl (Nat.le_of_ble_eq_true rfl)
  refine r_aload_n (pc := 6) ?_ dX7_canExchange_6 rfl
  refine r_iload_n (pc := 7) ?_ dX7_canExchange_7 rfl
  refine r_cv0 (pc := 8) ?_ dX7_canExchange_8 cl_X7 ok_X7_apprenticeAt rfl wd_3_57 ⟨Nat.le_of_ble_eq_true rfl, Nat.le_of_ble_eq_true rfl⟩ ⟨Nat.le_of_ble_eq_true rfl, Nat.le_of_ble_eq_true rfl⟩ rfl rfl
  refine r_astore (pc := 11) ?_ dX7_canExchange_11 (Nat.le_of_ble_eq_true rfl)
  refine r_aload_n (pc := 13) ?_ dX7_canExchange_13 rfl
  refine r_gi (pc := 14) ?_ dX7_canExchange_14 cl_X1 (Nat.le_of_ble_eq_true rfl) rfl wd_1_104
  refine r_iconst (pc := 17) ?_ dX7_canExchange_17 (by decide)
  refine r_iceq (pc := 18) (t := 78) ?_ ?_ dX7_canExchange_18 (by decide)
  · refine r_iconst (pc := 78) ?_ dX7_canExchange_78 (by decide)
    exact r_zr dX7_canExchange_79 rfl (Nat.le_of_ble_eq_true rfl) (Nat.le_of_ble_eq_true rfl)
  · refine r_aload (pc := 21) ?_ dX7_canExchange_21
    refine r_gi (pc := 23) ?_ dX7_canExchange_23 cl_X1 (Nat.le_of_ble_eq_true rfl) rfl wd_1_104
    refine r_iconst (pc := 26) ?_ dX7_canExchange_26 (by decide)
    refine r_iceq (pc := 27) (t := 78) ?_ ?_ dX7_canExchange_27 (by decide)
    · refine r_iconst (pc := 78) ?_ dX7_canExchange_78 (by decide)
      exact r_zr dX7_canExchange_79 rfl (Nat.le_of_ble_eq_true rfl) (Nat.le_of_ble_eq_true rfl)
    · refine r_aload_n (pc := 30) ?_ dX7_canExchange_30 rfl
      refine r_gi (pc := 31) ?_ dX7_canExchange_31 cl_X1 (Nat.le_of_ble_eq_true rfl) rfl wd_1_104
      refine r_aload (pc := 34) ?_ dX7_canExchange_34
      refine r_gi (pc := 36) ?_ dX7_canExchange_36 cl_X1 (Nat.le_of_ble_eq_true rfl) rfl wd_1_104
      refine r_iceq (pc := 39) (t := 78) ?_ ?_ dX7_canExchange_39 (by decide)
      · refine r_iconst (pc := 78) ?_ dX7_canExchange_78 (by decide)
        exact r_zr dX7_canExchange_79 rfl (Nat.le_of_ble_eq_true rfl) (Nat.le_of_ble_eq_true rfl)
      · refine r_aload_n (pc := 42) ?_ dX7_canExchange_42 rfl
        refine r_aload_n (pc := 43) ?_ dX7_canExchange_43 rfl
        refine r_gi (pc := 44) ?_ dX7_canExchange_44 cl_X1 (Nat.le_of_ble_eq_true rfl) rfl wd_1_104
        refine r_aload (pc := 47) ?_ dX7_canExchange_47
        refine r_gi (pc := 49) ?_ dX7_canExchange_49 cl_X1 (Nat.le_of_ble_eq_true rfl) rfl wd_1_102
        refine r_cv0 (pc := 52) ?_ dX7_canExchange_52 cl_X7 ok_X7_teaches rfl wd_4_114 ⟨Nat.le_of_ble_eq_true rfl, Nat.le_of_ble_eq_true rfl⟩ ⟨Nat.le_of_ble_eq_true rfl, Nat.le_of_ble_eq_true rfl⟩ rfl rfl
        refine r_ifeq (pc := 55) (t := 78) ?_ ?_ dX7_canExchange_55 (by decide)
        · refine r_iconst (pc := 78) ?_ dX7_canExchange_78 (by decide)
          exact r_zr dX7_canExchange_79 rfl (Nat.le_of_ble_eq_true rfl) (Nat.le_of_ble_eq_true rfl)
        · refine r_aload_n (pc := 58) ?_ dX7_canExchange_58 rfl
          refine r_aload (pc := 59) ?_ dX7_canExchange_59
          refine r_gi (pc := 61) ?_ dX7_canExchange_61 cl_X1 (Nat.le_of_ble_eq_true rfl) rfl wd_1_104
          refine r_aload_n (pc := 64) ?_ dX7_canExchange_64 rfl
          refine r_gi (pc := 65) ?_ dX7_canExchange_65 cl_X1 (Nat.le_of_ble_eq_true rfl) rfl wd_1_102
          refine r_cv0 (pc := 68) ?_ dX7_canExchange_68 cl_X7 ok_X7_teaches rfl wd_4_114 ⟨Nat.le_of_ble_eq_true rfl, Nat.le_of_ble_eq_true rfl⟩ ⟨Nat.le_of_ble_eq_true rfl, Nat.le_of_ble_eq_true rfl⟩ rfl rfl
          refine r_ifeq (pc := 71) (t := 78) ?_ ?_ dX7_canExchange_71 (by decide)
          · refine r_iconst (pc := 78) ?_ dX7_canExchange_78 (by decide)
            exact r_zr dX7_canExchange_79 rfl (Nat.le_of_ble_eq_true rfl) (Nat.le_of_ble_eq_true rfl)
          · refine r_iconst (pc := 74) ?_ dX7_canExchange_74 (by decide)
            refine r_goto (pc := 75) (t := 79) ?_ dX7_canExchange_75 (by decide)
            exact r_zr dX7_canExchange_79 rfl (Nat.le_of_ble_eq_true rfl) (Nat.le_of_ble_eq_true rfl)
abbrev Y_X7_putTrade : YT := (yX7_putTrade, cX7_putTrade, 4, (some .int), 0, 0, 0, 0)
theorem ok_X7_putTrade : okV Y_X7_putTrade 3 := ⟨⟨wd_2_155, wd_1_2, by decide, by decide, by decide +kernel⟩, wd_2_153, wd_2_154⟩
def R_X7_putTrade_0 (l : Launch) (G : GT) (F : FX) (Q : PQ) (QX : PX) : KT := (I_al 0 (I_gi 5 5 9 (I_ic 5 (I_iclt (I_al 0 (I_gp 5 9 1 (I_al 0 (I_gi 5 5 9 (I_aal 2 1 1 (I_ic 0 (I_il 1 (I_ias (I_al 0 (I_gp 5 9 1 (I_al 0 (I_gi 5 5 9 (I_aal 2 1 1 (I_ic 1 (I_il 2 (I_ias (I_al 0 (I_gp 5 9 1 (I_al 0 (I_gi 5 5 9 (I_aal 2 1 1 (I_ic 2 (I_il 3 (I_ias (I_al 0 (I_dup (I_gi 5 5 9 (I_ic 1 (I_iadd (I_pi 5 5 9 (I_al 0 (I_gi 5 5 9 (I_ic 1 (I_isub (I_ir Q))))))))))))))))))))))))))))))))))) (I_ic (-1) (I_ir Q))))))
set_option maxRecDepth 100000 in
theorem g_X7_putTrade_0 {l : Launch} {G : GT} {F : FX} {Q : PQ} {QX : PX} : Le (R_X7_putTrade_0 l G F Q QX) (Wj true l G F Y_X7_putTrade Q QX 0 0 0) := by
  unfold R_X7_putTrade_0
  refine r_aload_n (pc := 0) ?_ dX7_putTrade_0 rfl
  refine r_gi (pc := 1) ?_ dX7_putTrade_1 cl_X7 (Nat.le_of_ble_eq_true rfl) rfl wd_1_141
  refine r_iconst (pc := 4) ?_ dX7_putTrade_4 (by decide)
  refine r_iclt (pc := 5) (t := 10) ?_ ?_ dX7_putTrade_5 (by decide)
  · refine r_aload_n (pc := 10) ?_ dX7_putTrade_10 rfl
    refine r_gp (pc := 11) (kf := 0) ?_ dX7_putTrade_11 cl_X7 (Nat.le_of_ble_eq_true rfl) rfl wd_1_136 pv_X7_0
    refine r_aload_n (pc := 14) ?_ dX7_putTrade_14 rfl
    refine r_gi (pc := 15) ?_ dX7_putTrade_15 cl_X7 (Nat.le_of_ble_eq_true rfl) rfl wd_1_141
    refine r_aal (pc := 18) ?_ dX7_putTrade_18 rfl rfl pa_2
    refine r_iconst (pc := 19) ?_ dX7_putTrade_19 (by decide)
    refine r_iload_n (pc := 20) ?_ dX7_putTrade_20 rfl
    refine r_ias (pc := 21) ?_ dX7_putTrade_21
    refine r_aload_n (pc := 22) ?_ dX7_putTrade_22 rfl
    refine r_gp (pc := 23) (kf := 0) ?_ dX7_putTrade_23 cl_X7 (Nat.le_of_ble_eq_true rfl) rfl wd_1_136 pv_X7_0
    refine r_aload_n (pc := 26) ?_ dX7_putTrade_26 rfl
    refine r_gi (pc := 27) ?_ dX7_putTrade_27 cl_X7 (Nat.le_of_ble_eq_true rfl) rfl wd_1_141
    refine r_aal (pc := 30) ?_ dX7_putTrade_30 rfl rfl pa_2
    refine r_iconst (pc := 31) ?_ dX7_putTrade_31 (by decide)
    refine r_iload_n (pc := 32) ?_ dX7_putTrade_32 rfl
    refine r_ias (pc := 33) ?_ dX7_putTrade_33
    refine r_aload_n (pc := 34) ?_ dX7_putTrade_34 rfl
    refine r_gp (pc := 35) (kf := 0) ?_ dX7_putTrade_35 cl_X7 (Nat.le_of_ble_eq_true rfl) rfl wd_1_136 pv_X7_0
    refine r_aload_n (pc := 38) ?_ dX7_putTrade_38 rfl
    refine r_gi (pc := 39) ?_ dX7_putTrade_39 cl_X7 (Nat.le_of_ble_eq_true rfl) rfl wd_1_141
    refine r_aal (pc := 42) ?_ dX7_putTrade_42 rfl rfl pa_2
    refine r_iconst (pc := 43) ?_ dX7_putTrade_43 (by decide)
    refine r_iload_n (pc := 44) ?_ dX7_putTrade_44 rfl
    refine r_ias (pc := 45) ?_ dX7_putTrade_45
    refine r_aload_n (pc := 46) ?_ dX7_putTrade_46 rfl
    refine r_dup (pc := 47) ?_ dX7_putTrade_47
    refine r_gi (pc := 48) ?_ dX7_putTrade_48 cl_X7 (Nat.le_of_ble_eq_true rfl) rfl wd_1_141
    refine r_iconst (pc := 51) ?_ dX7_putTrade_51 (by decide)
    refine r_iadd (pc := 52) ?_ dX7_putTrade_52
    refine r_pi (pc := 53) ?_ dX7_putTrade_53 cl_X7 (Nat.le_of_ble_eq_true rfl) rfl wd_1_141 rfl pd_X7_5
    refine r_aload_n (pc := 56) ?_ dX7_putTrade_56 rfl
    refine r_gi (pc := 57) ?_ dX7_putTrade_57 cl_X7 (Nat.le_of_ble_eq_true rfl) rfl wd_1_141
    refine r_iconst (pc := 60) ?_ dX7_putTrade_60 (by decide)
    refine r_isub (pc := 61) ?_ dX7_putTrade_61
    exact r_ir dX7_putTrade_62 rfl (Nat.le_of_ble_eq_true rfl) (Nat.le_of_ble_eq_true rfl)
  · refine r_iconst (pc := 8) ?_ dX7_putTrade_8 (by decide)
    exact r_ir dX7_putTrade_9 rfl (Nat.le_of_ble_eq_true rfl) (Nat.le_of_ble_eq_true rfl)
abbrev Y_X7_putMentor : YT := (yX7_putMentor, cX7_putMentor, 3, (some .int), 1, 22, 0, 0)
theorem ok_X7_putMentor : okV Y_X7_putMentor 2 := ⟨⟨wd_3_133, wd_1_2, by decide, by decide, by decide +kernel⟩, wd_3_131, wd_3_132⟩
def R_X7_putMentor_0 (l : Launch) (G : GT) (F : FX) (Q : PQ) (QX : PX) : KT := (I_al 0 (I_gi 5 6 9 (I_ic 6 (I_iclt (I_al 0 (I_gp 5 9 7 (I_al 0 (I_gi 5 6 9 (I_aal 3 21 1 (I_il 1 (I_il 2 (I_cv (Tr true l G Y_X6_begin) 4 3 2 QX (I_al 0 (I_dup (I_gi 5 6 9 (I_ic 1 (I_iadd (I_pi 5 6 9 (I_al 0 (I_gi 5 6 9 (I_ic 1 (I_isub (I_ir Q))))))))))))))))))) (I_ic (-1) (I_ir Q))))))
set_option maxRecDepth 100000 in
theorem g_X7_putMentor_0 {l : Launch} {G : GT} {F : FX} {Q : PQ} {QX : PX} : Le (R_X7_putMentor_0 l G F Q QX) (Wj true l G F Y_X7_putMentor Q QX 0 0 0) := by
  unfold R_X7_putMentor_0
  refine r_aload_n (pc := 0) ?_ dX7_putMentor_0 rfl
  refine r_gi (pc := 1) ?_ dX7_putMentor_1 cl_X7 (Nat.le_of_ble_eq_true rfl) rfl wd_1_143
  refine r_bipush (pc := 4) ?_ dX7_putMentor_4 (by decide)
  refine r_iclt (pc := 6) (t := 11) ?_ ?_ dX7_putMentor_6 (by decide)
  · refine r_aload_n (pc := 11) ?_ dX7_putMentor_11 rfl
    refine r_gp (pc := 12) (kf := 1) ?_ dX7_putMentor_12 cl_X7 (Nat.le_of_ble_eq_true rfl) rfl wd_1_137 pv_X7_1
    refine r_aload_n (pc := 15) ?_ dX7_putMentor_15 rfl
    refine r_gi (pc := 16) ?_ dX7_putMentor_16 cl_X7 (Nat.le_of_ble_eq_true rfl) rfl wd_1_143
    refine r_aal (pc := 19) ?_ dX7_putMentor_19 rfl rfl pa_3
    refine r_iload_n (pc := 20) ?_ dX7_putMentor_20 rfl
    refine r_iload_n (pc := 21) ?_ dX7_putMentor_21 rfl
    refine r_cv0 (pc := 22) ?_ dX7_putMentor_22 cl_X6 ok_X6_begin rfl wd_3_134 ⟨Nat.le_of_ble_eq_true rfl, Nat.le_of_ble_eq_true rfl⟩ ⟨Nat.le_of_ble_eq_true rfl, Nat.le_of_ble_eq_true rfl⟩ rfl rfl
    refine r_aload_n (pc := 25) ?_ dX7_putMentor_25 rfl
    refine r_dup (pc := 26) ?_ dX7_putMentor_26
    refine r_gi (pc := 27) ?_ dX7_putMentor_27 cl_X7 (Nat.le_of_ble_eq_true rfl) rfl wd_1_143
    refine r_iconst (pc := 30) ?_ dX7_putMentor_30 (by decide)
    refine r_iadd (pc := 31) ?_ dX7_putMentor_31
    refine r_pi (pc := 32) ?_ dX7_putMentor_32 cl_X7 (Nat.le_of_ble_eq_true rfl) rfl wd_1_143 rfl pd_X7_6
    refine r_aload_n (pc := 35) ?_ dX7_putMentor_35 rfl
    refine r_gi (pc := 36) ?_ dX7_putMentor_36 cl_X7 (Nat.le_of_ble_eq_true rfl) rfl wd_1_143
    refine r_iconst (pc := 39) ?_ dX7_putMentor_39 (by decide)
    refine r_isub (pc := 40) ?_ dX7_putMentor_40
    exact r_ir dX7_putMentor_41 rfl (Nat.le_of_ble_eq_true rfl) (Nat.le_of_ble_eq_true rfl)
  · refine r_iconst (pc := 9) ?_ dX7_putMentor_9 (by decide)
    exact r_ir dX7_putMentor_10 rfl (Nat.le_of_ble_eq_true rfl) (Nat.le_of_ble_eq_true rfl)
abbrev Y_X7_putApprentice : YT := (yX7_putApprentice, cX7_putApprentice, 3, (some .int), 2, 44, 0, 0)
theorem ok_X7_putApprentice : okV Y_X7_putApprentice 2 := ⟨⟨wd_3_164, wd_1_2, by decide, by decide, by decide +kernel⟩, wd_3_162, wd_3_163⟩
def R_X7_putApprentice_0 (l : Launch) (G : GT) (F : FX) (Q : PQ) (QX : PX) : KT := (I_al 0 (I_gi 5 7 9 (I_ic 10 (I_iclt (I_al 0 (I_gp 5 9 8 (I_al 0 (I_gi 5 7 9 (I_aal 4 26 18 (I_il 1 (I_il 2 (I_cv (Tr true l G Y_X1_begin) 0 11 2 QX (I_al 0 (I_dup (I_gi 5 7 9 (I_ic 1 (I_iadd (I_pi 5 7 9 (I_al 0 (I_gi 5 7 9 (I_ic 1 (I_isub (I_ir Q))))))))))))))))))) (I_ic (-1) (I_ir Q))))))
set_option maxRecDepth 100000 in
theorem g_X7_putApprentice_0 {l : Launch} {G : GT} {F : FX} {Q : PQ} {QX : PX} : Le (R_X7_putApprentice_0 l G F Q QX) (Wj true l G F Y_X7_putApprentice Q QX 0 0 0) := by
  unfold R_X7_putApprentice_0
  refine r_aload_n (pc := 0) ?_ dX7_putApprentice_0 rfl
  refine r_gi (pc := 1) ?_ dX7_putApprentice_1 cl_X7 (Nat.le_of_ble_eq_true rfl) rfl wd_1_145
  refine r_bipush (pc := 4) ?_ dX7_putApprentice_4 (by decide)
  refine r_iclt (pc := 6) (t := 11) ?_ ?_ dX7_putApprentice_6 (by decide)
  · refine r_aload_n (pc := 11) ?_ dX7_putApprentice_11 rfl
    refine r_gp (pc := 12) (kf := 2) ?_ dX7_putApprentice_12 cl_X7 (Nat.le_of_ble_eq_true rfl) rfl wd_1_138 pv_X7_2
    refine r_aload_n (pc := 15) ?_ dX7_putApprentice_15 rfl
    refine r_gi (pc := 16) ?_ dX7_putApprentice_16 cl_X7 (Nat.le_of_ble_eq_true rfl) rfl wd_1_145
    refine r_aal (pc := 19) ?_ dX7_putApprentice_19 rfl rfl pa_4
    refine r_iload_n (pc := 20) ?_ dX7_putApprentice_20 rfl
    refine r_iload_n (pc := 21) ?_ dX7_putApprentice_21 rfl
    refine r_cv0 (pc := 22) ?_ dX7_putApprentice_22 cl_X1 ok_X1_begin rfl wd_3_165 ⟨Nat.le_of_ble_eq_true rfl, Nat.le_of_ble_eq_true rfl⟩ ⟨Nat.le_of_ble_eq_true rfl, Nat.le_of_ble_eq_true rfl⟩ rfl rfl
    refine r_aload_n (pc := 25) ?_ dX7_putApprentice_25 rfl
    refine r_dup (pc := 26) ?_ dX7_putApprentice_26
    refine r_gi (pc := 27) ?_ dX7_putApprentice_27 cl_X7 (Nat.le_of_ble_eq_true rfl) rfl wd_1_145
    refine r_iconst (pc := 30) ?_ dX7_putApprentice_30 (by decide)
    refine r_iadd (pc := 31) ?_ dX7_putApprentice_31
    refine r_pi (pc := 32) ?_ dX7_putApprentice_32 cl_X7 (Nat.le_of_ble_eq_true rfl) rfl wd_1_145 rfl pd_X7_7
    refine r_aload_n (pc := 35) ?_ dX7_putApprentice_35 rfl
    refine r_gi (pc := 36) ?_ dX7_putApprentice_36 cl_X7 (Nat.le_of_ble_eq_true rfl) rfl wd_1_145
    refine r_iconst (pc := 39) ?_ dX7_putApprentice_39 (by decide)
    refine r_isub (pc := 40) ?_ dX7_putApprentice_40
    exact r_ir dX7_putApprentice_41 rfl (Nat.le_of_ble_eq_true rfl) (Nat.le_of_ble_eq_true rfl)
  · refine r_iconst (pc := 9) ?_ dX7_putApprentice_9 (by decide)
    exact r_ir dX7_putApprentice_10 rfl (Nat.le_of_ble_eq_true rfl) (Nat.le_of_ble_eq_true rfl)
abbrev Y_X7_putRelease : YT := (yX7_putRelease, cX7_putRelease, 4, (some .int), 2, 42, 0, 0)
theorem ok_X7_putRelease : okV Y_X7_putRelease 2 := ⟨⟨wd_3_192, wd_1_2, by decide, by decide, by decide +kernel⟩, wd_3_190, wd_3_191⟩
def R_X7_putRelease_0 (l : Launch) (G : GT) (F : FX) (Q : PQ) (QX : PX) : KT := (I_al 0 (I_il 1 (I_cv (Tr true l G Y_X7_apprenticeAt) 5 9 1 QX (I_gp 0 11 14 (I_as 3 (I_al 3 (I_il 2 (I_cv (Tr true l G Y_X4_put) 2 2 1 QX (I_al 3 (I_gi 2 1 2 (I_ir Q)))))))))))
set_option maxRecDepth 100000 in
theorem g_X7_putRelease_0 {l : Launch} {G : GT} {F : FX} {Q : PQ} {QX : PX} : Le (R_X7_putRelease_0 l G F Q QX) (Wj true l G F Y_X7_putRelease Q QX 0 0 0) := by
  unfold R_X7_putRelease_0
  refine r_aload_n (pc := 0) ?_ dX7_putRelease_0 rfl
  refine r_iload_n (pc := 1) ?_ dX7_putRelease_1 rfl
  refine r_cv0 (pc := 2) ?_ dX7_putRelease_2 cl_X7 ok_X7_apprenticeAt rfl wd_3_57 ⟨Nat.le_of_ble_eq_true rfl, Nat.le_of_ble_eq_true rfl⟩ ⟨Nat.le_of_ble_eq_true rfl, Nat.le_of_ble_eq_true rfl⟩ rfl rfl
  refine r_gp (pc := 5) (kf := 3) ?_ dX7_putRelease_5 cl_X1 (Nat.le_of_ble_eq_true rfl) rfl wd_1_98 pv_X1_3
  refine r_astore_n (pc := 8) ?_ dX7_putRelease_8 rfl (Nat.le_of_ble_eq_true rfl)
  refine r_aload_n (pc := 9) ?_ dX7_putRelease_9 rfl
  refine r_iload_n (pc := 10) ?_ dX7_putRelease_10 rfl
  refine r_cv0 (pc := 11) ?_ dX7_putRelease_11 cl_X4 ok_X4_put rfl wd_3_193 ⟨Nat.le_of_ble_eq_true rfl, Nat.le_of_ble_eq_true rfl⟩ ⟨Nat.le_of_ble_eq_true rfl, Nat.le_of_ble_eq_true rfl⟩ rfl rfl
  refine r_aload_n (pc := 14) ?_ dX7_putRelease_14 rfl
  refine r_gi (pc := 15) ?_ dX7_putRelease_15 cl_X4 (Nat.le_of_ble_eq_true rfl) rfl wd_1_85
  exact r_ir dX7_putRelease_18 rfl (Nat.le_of_ble_eq_true rfl) (Nat.le_of_ble_eq_true rfl)
abbrev Y_X7_putWork : YT := (yX7_putWork, cX7_putWork, 5, (some .int), 3, 65, 0, 0)
theorem ok_X7_putWork : okV Y_X7_putWork 3 := ⟨⟨wd_3_220, wd_1_2, by decide, by decide, by decide +kernel⟩, wd_3_218, wd_3_219⟩
def R_X7_putWork_0 (l : Launch) (G : GT) (F : FX) (Q : PQ) (QX : PX) : KT := (I_al 0 (I_il 1 (I_cv (Tr true l G Y_X7_apprenticeAt) 5 9 1 QX (I_as 4 (I_al 4 (I_il 2 (I_il 3 (I_al 0 (I_gi 5 8 9 (I_cv (Tr true l G Y_X1_work) 0 11 3 QX (I_al 4 (I_gp 0 11 2 (I_gi 3 1 2 (I_ir Q))))))))))))))
set_option maxRecDepth 100000 in
theorem g_X7_putWork_0 {l : Launch} {G : GT} {F : FX} {Q : PQ} {QX : PX} : Le (R_X7_putWork_0 l G F Q QX) (Wj true l G F Y_X7_putWork Q QX 0 0 0) := by
  unfold R_X7_putWork_0
  refine r_aload_n (pc := 0) ?_ dX7_putWork_0 rfl
  refine r_iload_n (pc := 1) ?_ dX7_putWork_1 rfl
  refine r_cv0 (pc := 2) ?_ dX7_putWork_2 cl_X7 ok_X7_apprenticeAt rfl wd_3_57 ⟨Nat.le_of_ble_eq_true rfl, Nat.le_of_ble_eq_true rfl⟩ ⟨Nat.le_of_ble_eq_true rfl, Nat.le_of_ble_eq_true rfl⟩ rfl rfl
  refine r_astore (pc := 5) ?_ dX7_putWork_5 (Nat.le_of_ble_eq_true rfl)
  refine r_aload (pc := 7) ?_ dX7_putWork_7
  refine r_iload_n (pc := 9) ?_ dX7_putWork_9 rfl
  refine r_iload_n (pc := 10) ?_ dX7_putWork_10 rfl
  refine r_aload_n (pc := 11) ?_ dX7_putWork_11 rfl
  refine r_gi (pc := 12) ?_ dX7_putWork_12 cl_X7 (Nat.le_of_ble_eq_true rfl) rfl wd_1_147
  refine r_cv0 (pc := 15) ?_ dX7_putWork_15 cl_X1 ok_X1_work rfl wd_3_221 ⟨Nat.le_of_ble_eq_true rfl, Nat.le_of_ble_eq_true rfl⟩ ⟨Nat.le_of_ble_eq_true rfl, Nat.le_of_ble_eq_true rfl⟩ rfl rfl
  refine r_aload (pc := 18) ?_ dX7_putWork_18
  refine r_gp (pc := 20) (kf := 1) ?_ dX7_putWork_20 cl_X1 (Nat.le_of_ble_eq_true rfl) rfl wd_1_94 pv_X1_1
  refine r_gi (pc := 23) ?_ dX7_putWork_23 cl_X5 (Nat.le_of_ble_eq_true rfl) rfl wd_1_71
  exact r_ir dX7_putWork_26 rfl (Nat.le_of_ble_eq_true rfl) (Nat.le_of_ble_eq_true rfl)
abbrev Y_X7_confirmPending : YT := (yX7_confirmPending, cX7_confirmPending, 5, (some .int), 3, 85, 0, 0)
theorem ok_X7_confirmPending : okV Y_X7_confirmPending 2 := ⟨⟨wd_4_21, wd_1_2, by decide, by decide, by decide +kernel⟩, wd_4_19, wd_4_20⟩
def R_X7_confirmPending_0 (l : Launch) (G : GT) (F : FX) (Q : PQ) (QX : PX) : KT := (I_ic 0 (I_is 3 (I_ic 0 (I_is 4 (Wj true l G F Y_X7_confirmPending Q QX 0 0 5)))))
set_option maxRecDepth 100000 in
theorem g_X7_confirmPending_0 {l : Launch} {G : GT} {F : FX} {Q : PQ} {QX : PX} : Le (R_X7_confirmPending_0 l G F Q QX) (Wj true l G F Y_X7_confirmPending Q QX 0 0 0) := by
  unfold R_X7_confirmPending_0
  refine r_iconst (pc := 0) ?_ dX7_confirmPending_0 (by decide)
  refine r_istore_n (pc := 1) ?_ dX7_confirmPending_1 rfl (Nat.le_of_ble_eq_true rfl)
  refine r_iconst (pc := 2) ?_ dX7_confirmPending_2 (by decide)
  refine r_istore (pc := 3) ?_ dX7_confirmPending_3 (Nat.le_of_ble_eq_true rfl)
  exact Le.rf
def R_X7_confirmPending_5 (l : Launch) (G : GT) (F : FX) (Q : PQ) (QX : PX) : KT := (I_il 4 (I_al 0 (I_gi 5 7 9 (I_icge (I_al 0 (I_il 1 (I_cv (Tr true l G Y_X7_mentorAt) 5 9 1 QX (I_dup (I_gi 4 2 3 (I_il 3 (I_iadd (I_pi 4 2 3 (I_il 3 (I_ir Q)))))))))) (I_al 0 (I_gp 5 9 8 (I_il 4 (I_aal 4 26 18 (I_gi 0 6 11 (I_il 1 (I_icne (I_inc 4 1 (Wj true l G F Y_X7_confirmPending Q QX 0 0 5)) (I_il 3 (I_al 0 (I_gp 5 9 8 (I_il 4 (I_aal 4 26 18 (I_il 2 (I_il 3 (I_isub (I_cv (Tr true l G Y_X1_takeFirst) 0 11 1 QX (I_iadd (I_is 3 (I_inc 4 1 (Wj true l G F Y_X7_confirmPending Q QX 0 0 5))))))))))))))))))))))))
set_option maxRecDepth 100000 in
theorem g_X7_confirmPending_5 {l : Launch} {G : GT} {F : FX} {Q : PQ} {QX : PX} : Le (R_X7_confirmPending_5 l G F Q QX) (Wj true l G F Y_X7_confirmPending Q QX 0 0 5) := by
  unfold R_X7_confirmPending_5
  refine r_iload (pc := 5) ?_ dX7_confirmPending_5
  refine r_aload_n (pc := 7) ?_ dX7_confirmPending_7 rfl
  refine r_gi (pc := 8) ?_ dX7_confirmPending_8 cl_X7 (Nat.le_of_ble_eq_true rfl) rfl wd_1_145
  refine r_icge (pc := 11) (t := 50) ?_ ?_ dX7_confirmPending_11 (by decide)
  · refine r_aload_n (pc := 50) ?_ dX7_confirmPending_50 rfl
    refine r_iload_n (pc := 51) ?_ dX7_confirmPending_51 rfl
    refine r_cv0 (pc := 52) ?_ dX7_confirmPending_52 cl_X7 ok_X7_mentorAt rfl wd_3_27 ⟨Nat.le_of_ble_eq_true rfl, Nat.le_of_ble_eq_true rfl⟩ ⟨Nat.le_of_ble_eq_true rfl, Nat.le_of_ble_eq_true rfl⟩ rfl rfl
    refine r_dup (pc := 55) ?_ dX7_confirmPending_55
    refine r_gi (pc := 56) ?_ dX7_confirmPending_56 cl_X6 (Nat.le_of_ble_eq_true rfl) rfl wd_1_47
    refine r_iload_n (pc := 59) ?_ dX7_confirmPending_59 rfl
    refine r_iadd (pc := 60) ?_ dX7_confirmPending_60
    refine r_pi (pc := 61) ?_ dX7_confirmPending_61 cl_X6 (Nat.le_of_ble_eq_true rfl) rfl wd_1_47 rfl pd_X6_2
    refine r_iload_n (pc := 64) ?_ dX7_confirmPending_64 rfl
    exact r_ir dX7_confirmPending_65 rfl (Nat.le_of_ble_eq_true rfl) (Nat.le_of_ble_eq_true rfl)
  · refine r_aload_n (pc := 14) ?_ dX7_confirmPending_14 rfl
    refine r_gp (pc := 15) (kf := 2) ?_ dX7_confirmPending_15 cl_X7 (Nat.le_of_ble_eq_true rfl) rfl wd_1_138 pv_X7_2
    refine r_iload (pc := 18) ?_ dX7_confirmPending_18
    refine r_aal (pc := 20) ?_ dX7_confirmPending_20 rfl rfl pa_4
    refine r_gi (pc := 21) ?_ dX7_confirmPending_21 cl_X1 (Nat.le_of_ble_eq_true rfl) rfl wd_1_104
    refine r_iload_n (pc := 24) ?_ dX7_confirmPending_24 rfl
    refine r_icne (pc := 25) (t := 44) ?_ ?_ dX7_confirmPending_25 (by decide)
    · refine r_iinc (pc := 44) ?_ dX7_confirmPending_44 (by decide) (Nat.le_of_ble_eq_true rfl)
      refine r_goto (pc := 47) (t := 5) ?_ dX7_confirmPending_47 (by decide)
      exact Le.rf
    · refine r_iload_n (pc := 28) ?_ dX7_confirmPending_28 rfl
      refine r_aload_n (pc := 29) ?_ dX7_confirmPending_29 rfl
      refine r_gp (pc := 30) (kf := 2) ?_ dX7_confirmPending_30 cl_X7 (Nat.le_of_ble_eq_true rfl) rfl wd_1_138 pv_X7_2
      refine r_iload (pc := 33) ?_ dX7_confirmPending_33
      refine r_aal (pc := 35) ?_ dX7_confirmPending_35 rfl rfl pa_4
      refine r_iload_n (pc := 36) ?_ dX7_confirmPending_36 rfl
      refine r_iload_n (pc := 37) ?_ dX7_confirmPending_37 rfl
      refine r_isub (pc := 38) ?_ dX7_confirmPending_38
      refine r_cv0 (pc := 39) ?_ dX7_confirmPending_39 cl_X1 ok_X1_takeFirst rfl wd_4_22 ⟨Nat.le_of_ble_eq_true rfl, Nat.le_of_ble_eq_true rfl⟩ ⟨Nat.le_of_ble_eq_true rfl, Nat.le_of_ble_eq_true rfl⟩ rfl rfl
      refine r_iadd (pc := 42) ?_ dX7_confirmPending_42
      refine r_istore_n (pc := 43) ?_ dX7_confirmPending_43 rfl (Nat.le_of_ble_eq_true rfl)
      refine r_iinc (pc := 44) ?_ dX7_confirmPending_44 (by decide) (Nat.le_of_ble_eq_true rfl)
      refine r_goto (pc := 47) (t := 5) ?_ dX7_confirmPending_47 (by decide)
      exact Le.rf
abbrev Y_X7_doubtOldest : YT := (yX7_doubtOldest, cX7_doubtOldest, 4, (some .int), 3, 82, 0, 0)
theorem ok_X7_doubtOldest : okV Y_X7_doubtOldest 1 := ⟨⟨wd_4_52, wd_1_2, by decide, by decide, by decide +kernel⟩, wd_4_50, wd_4_51⟩
def R_X7_doubtOldest_0 (l : Launch) (G : GT) (F : FX) (Q : PQ) (QX : PX) : KT := (I_al 0 (I_il 1 (I_cv (Tr true l G Y_X7_apprenticeAt) 5 9 1 QX (I_as 2 (I_al 2 (I_gp 0 11 2 (I_ic 0 (I_ic 1 (I_cv (Tr true l G Y_X5_valueAt) 3 2 2 QX (I_is 3 (I_al 2 (I_ic 0 (I_cv (Tr true l G Y_X1_doubtAt) 0 11 1 QX (I_il 3 (I_ir Q)))))))))))))))
set_option maxRecDepth 100000 in
theorem g_X7_doubtOldest_0 {l : Launch} {G : GT} {F : FX} {Q : PQ} {QX : PX} : Le (R_X7_doubtOldest_0 l G F Q QX) (Wj true l G F Y_X7_doubtOldest Q QX 0 0 0) := by
  unfold R_X7_doubtOldest_0
  refine r_aload_n (pc := 0) ?_ dX7_doubtOldest_0 rfl
  refine r_iload_n (pc := 1) ?_ dX7_doubtOldest_1 rfl
  refine r_cv0 (pc := 2) ?_ dX7_doubtOldest_2 cl_X7 ok_X7_apprenticeAt rfl wd_3_57 ⟨Nat.le_of_ble_eq_true rfl, Nat.le_of_ble_eq_true rfl⟩ ⟨Nat.le_of_ble_eq_true rfl, Nat.le_of_ble_eq_true rfl⟩ rfl rfl
  refine r_astore_n (pc := 5) ?_ dX7_doubtOldest_5 rfl (Nat.le_of_ble_eq_true rfl)
  refine r_aload_n (pc := 6) ?_ dX7_doubtOldest_6 rfl
  refine r_gp (pc := 7) (kf := 1) ?_ dX7_doubtOldest_7 cl_X1 (Nat.le_of_ble_eq_true rfl) rfl wd_1_94 pv_X1_1
  refine r_iconst (pc := 10) ?_ dX7_doubtOldest_10 (by decide)
  refine r_iconst (pc := 11) ?_ dX7_doubtOldest_11 (by decide)
  refine r_cv0 (pc := 12) ?_ dX7_doubtOldest_12 cl_X5 ok_X5_valueAt rfl wd_3_95 ⟨Nat.le_of_ble_eq_true rfl, Nat.le_of_ble_eq_true rfl⟩ ⟨Nat.le_of_ble_eq_true rfl, Nat.le_of_ble_eq_true rfl⟩ rfl rfl
  refine r_istore_n (pc := 15) ?_ dX7_doubtOldest_15 rfl (Nat.le_of_ble_eq_true rfl)
  refine r_aload_n (pc := 16) ?_ dX7_doubtOldest_16 rfl
  refine r_iconst (pc := 17) ?_ dX7_doubtOldest_17 (by decide)
  refine r_cv0 (pc := 18) ?_ dX7_doubtOldest_18 cl_X1 ok_X1_doubtAt rfl wd_4_53 ⟨Nat.le_of_ble_eq_true rfl, Nat.le_of_ble_eq_true rfl⟩ ⟨Nat.le_of_ble_eq_true rfl, Nat.le_of_ble_eq_true rfl⟩ rfl rfl
  refine r_iload_n (pc := 21) ?_ dX7_doubtOldest_21 rfl
  exact r_ir dX7_doubtOldest_22 rfl (Nat.le_of_ble_eq_true rfl) (Nat.le_of_ble_eq_true rfl)
abbrev Y_X7_settleOldest : YT := (yX7_settleOldest, cX7_settleOldest, 5, (some .int), 2, 61, 0, 0)
theorem ok_X7_settleOldest : okV Y_X7_settleOldest 2 := ⟨⟨wd_4_73, wd_1_2, by decide, by decide, by decide +kernel⟩, wd_4_71, wd_4_72⟩
def R_X7_settleOldest_0 (l : Launch) (G : GT) (F : FX) (Q : PQ) (QX : PX) : KT := (I_al 0 (I_il 1 (I_cv (Tr true l G Y_X7_apprenticeAt) 5 9 1 QX (I_as 3 (I_al 3 (I_gp 0 11 8 (I_ic 0 (I_ic 1 (I_cv (Tr true l G Y_X5_valueAt) 3 2 2 QX (I_is 4 (I_il 2 (I_ifeq (I_al 3 (I_dup (I_gi 0 7 11 (I_il 4 (I_iadd (I_pi 0 7 11 (I_al 3 (I_gp 0 11 8 (I_ic 0 (I_cv (Tr true l G Y_X5_removeAt) 3 2 1 QX (I_il 4 (I_ir Q)))))))))))) (I_al 3 (I_al 3 (I_gp 0 11 8 (I_ic 0 (I_ic 0 (I_cv (Tr true l G Y_X5_valueAt) 3 2 2 QX (I_il 4 (I_cv (Tr true l G Y_X1_addDone) 0 11 2 QX (I_al 3 (I_gp 0 11 8 (I_ic 0 (I_cv (Tr true l G Y_X5_removeAt) 3 2 1 QX (I_il 4 (I_ir Q))))))))))))))))))))))))))
set_option maxRecDepth 100000 in
theorem g_X7_settleOldest_0 {l : Launch} {G : GT} {F : FX} {Q : PQ} {QX : PX} : Le (R_X7_settleOldest_0 l G F Q QX) (Wj true l G F Y_X7_settleOldest Q QX 0 0 0) := by
  unfold R_X7_settleOldest_0
  refine r_aload_n (pc := 0) ?_ dX7_settleOldest_0 rfl
  refine r_iload_n (pc := 1) ?_ dX7_settleOldest_1 rfl
  refine r_cv0 (pc := 2) ?_ dX7_settleOldest_2 cl_X7 ok_X7_apprenticeAt rfl wd_3_57 ⟨Nat.le_of_ble_eq_true rfl, Nat.le_of_ble_eq_true rfl⟩ ⟨Nat.le_of_ble_eq_true rfl, Nat.le_of_ble_eq_true rfl⟩ rfl rfl
  refine r_astore_n (pc := 5) ?_ dX7_settleOldest_5 rfl (Nat.le_of_ble_eq_true rfl)
  refine r_aload_n (pc := 6) ?_ dX7_settleOldest_6 rfl
  refine r_gp (pc := 7) (kf := 2) ?_ dX7_settleOldest_7 cl_X1 (Nat.le_of_ble_eq_true rfl) rfl wd_1_96 pv_X1_2
  refine r_iconst (pc := 10) ?_ dX7_settleOldest_10 (by decide)
  refine r_iconst (pc := 11) ?_ dX7_settleOldest_11 (by decide)
  refine r_cv0 (pc := 12) ?_ dX7_settleOldest_12 cl_X5 ok_X5_valueAt rfl wd_3_95 ⟨Nat.le_of_ble_eq_true rfl, Nat.le_of_ble_eq_true rfl⟩ ⟨Nat.le_of_ble_eq_true rfl, Nat.le_of_ble_eq_true rfl⟩ rfl rfl
  refine r_istore (pc := 15) ?_ dX7_settleOldest_15 (Nat.le_of_ble_eq_true rfl)
  refine r_iload_n (pc := 17) ?_ dX7_settleOldest_17 rfl
  refine r_ifeq (pc := 18) (t := 39) ?_ ?_ dX7_settleOldest_18 (by decide)
  · refine r_aload_n (pc := 39) ?_ dX7_settleOldest_39 rfl
    refine r_dup (pc := 40) ?_ dX7_settleOldest_40
    refine r_gi (pc := 41) ?_ dX7_settleOldest_41 cl_X1 (Nat.le_of_ble_eq_true rfl) rfl wd_1_106
    refine r_iload (pc := 44) ?_ dX7_settleOldest_44
    refine r_iadd (pc := 46) ?_ dX7_settleOldest_46
    refine r_pi (pc := 47) ?_ dX7_settleOldest_47 cl_X1 (Nat.le_of_ble_eq_true rfl) rfl wd_1_106 rfl pd_X1_7
    refine r_aload_n (pc := 50) ?_ dX7_settleOldest_50 rfl
    refine r_gp (pc := 51) (kf := 2) ?_ dX7_settleOldest_51 cl_X1 (Nat.le_of_ble_eq_true rfl) rfl wd_1_96 pv_X1_2
    refine r_iconst (pc := 54) ?_ dX7_settleOldest_54 (by decide)
    refine r_cv0 (pc := 55) ?_ dX7_settleOldest_55 cl_X5 ok_X5_removeAt rfl wd_4_75 ⟨Nat.le_of_ble_eq_true rfl, Nat.le_of_ble_eq_true rfl⟩ ⟨Nat.le_of_ble_eq_true rfl, Nat.le_of_ble_eq_true rfl⟩ rfl rfl
    refine r_iload (pc := 58) ?_ dX7_settleOldest_58
    exact r_ir dX7_settleOldest_60 rfl (Nat.le_of_ble_eq_true rfl) (Nat.le_of_ble_eq_true rfl)
  · refine r_aload_n (pc := 21) ?_ dX7_settleOldest_21 rfl
    refine r_aload_n (pc := 22) ?_ dX7_settleOldest_22 rfl
    refine r_gp (pc := 23) (kf := 2) ?_ dX7_settleOldest_23 cl_X1 (Nat.le_of_ble_eq_true rfl) rfl wd_1_96 pv_X1_2
    refine r_iconst (pc := 26) ?_ dX7_settleOldest_26 (by decide)
    refine r_iconst (pc := 27) ?_ dX7_settleOldest_27 (by decide)
    refine r_cv0 (pc := 28) ?_ dX7_settleOldest_28 cl_X5 ok_X5_valueAt rfl wd_3_95 ⟨Nat.le_of_ble_eq_true rfl, Nat.le_of_ble_eq_true rfl⟩ ⟨Nat.le_of_ble_eq_true rfl, Nat.le_of_ble_eq_true rfl⟩ rfl rfl
    refine r_iload (pc := 31) ?_ dX7_settleOldest_31
    refine r_cv0 (pc := 33) ?_ dX7_settleOldest_33 cl_X1 ok_X1_addDone rfl wd_4_74 ⟨Nat.le_of_ble_eq_true rfl, Nat.le_of_ble_eq_true rfl⟩ ⟨Nat.le_of_ble_eq_true rfl, Nat.le_of_ble_eq_true rfl⟩ rfl rfl
    refine r_goto (pc := 36) (t := 50) ?_ dX7_settleOldest_36 (by decide)
    refine r_aload_n (pc := 50) ?_ dX7_settleOldest_50 rfl
    refine r_gp (pc := 51) (kf := 2) ?_ dX7_settleOldest_51 cl_X1 (Nat.le_of_ble_eq_true rfl) rfl wd_1_96 pv_X1_2
    refine r_iconst (pc := 54) ?_ dX7_settleOldest_54 (by decide)
    refine r_cv0 (pc := 55) ?_ dX7_settleOldest_55 cl_X5 ok_X5_removeAt rfl wd_4_75 ⟨Nat.le_of_ble_eq_true rfl, Nat.le_of_ble_eq_true rfl⟩ ⟨Nat.le_of_ble_eq_true rfl, Nat.le_of_ble_eq_true rfl⟩ rfl rfl
    refine r_iload (pc := 58) ?_ dX7_settleOldest_58
    exact r_ir dX7_settleOldest_60 rfl (Nat.le_of_ble_eq_true rfl) (Nat.le_of_ble_eq_true rfl)
abbrev Y_X7_putCredit : YT := (yX7_putCredit, cX7_putCredit, 4, (some .int), 2, 42, 0, 0)
theorem ok_X7_putCredit : okV Y_X7_putCredit 3 := ⟨⟨wd_4_94, wd_1_2, by decide, by decide, by decide +kernel⟩, wd_4_92, wd_4_93⟩
def R_X7_putCredit_0 (l : Launch) (G : GT) (F : FX) (Q : PQ) (QX : PX) : KT := (I_al 0 (I_il 1 (I_cv (Tr true l G Y_X7_apprenticeAt) 5 9 1 QX (I_il 2 (I_il 3 (I_cv (Tr true l G Y_X1_addDone) 0 11 2 QX (I_al 0 (I_il 1 (I_cv (Tr true l G Y_X7_apprenticeAt) 5 9 1 QX (I_il 2 (I_cv (Tr true l G Y_X1_doneIn) 0 11 1 QX (I_ir Q))))))))))))
set_option maxRecDepth 100000 in
theorem g_X7_putCredit_0 {l : Launch} {G : GT} {F : FX} {Q : PQ} {QX : PX} : Le (R_X7_putCredit_0 l G F Q QX) (Wj true l G F Y_X7_putCredit Q QX 0 0 0) := by
  unfold R_X7_putCredit_0
  refine r_aload_n (pc := 0) ?_ dX7_putCredit_0 rfl
  refine r_iload_n (pc := 1) ?_ dX7_putCredit_1 rfl
  refine r_cv0 (pc := 2) ?_ dX7_putCredit_2 cl_X7 ok_X7_apprenticeAt rfl wd_3_57 ⟨Nat.le_of_ble_eq_true rfl, Nat.le_of_ble_eq_true rfl⟩ ⟨Nat.le_of_ble_eq_true rfl, Nat.le_of_ble_eq_true rfl⟩ rfl rfl
  refine r_iload_n (pc := 5) ?_ dX7_putCredit_5 rfl
  refine r_iload_n (pc := 6) ?_ dX7_putCredit_6 rfl
  refine r_cv0 (pc := 7) ?_ dX7_putCredit_7 cl_X1 ok_X1_addDone rfl wd_4_74 ⟨Nat.le_of_ble_eq_true rfl, Nat.le_of_ble_eq_true rfl⟩ ⟨Nat.le_of_ble_eq_true rfl, Nat.le_of_ble_eq_true rfl⟩ rfl rfl
  refine r_aload_n (pc := 10) ?_ dX7_putCredit_10 rfl
  refine r_iload_n (pc := 11) ?_ dX7_putCredit_11 rfl
  refine r_cv0 (pc := 12) ?_ dX7_putCredit_12 cl_X7 ok_X7_apprenticeAt rfl wd_3_57 ⟨Nat.le_of_ble_eq_true rfl, Nat.le_of_ble_eq_true rfl⟩ ⟨Nat.le_of_ble_eq_true rfl, Nat.le_of_ble_eq_true rfl⟩ rfl rfl
  refine r_iload_n (pc := 15) ?_ dX7_putCredit_15 rfl
  refine r_cv0 (pc := 16) ?_ dX7_putCredit_16 cl_X1 ok_X1_doneIn rfl wd_3_4 ⟨Nat.le_of_ble_eq_true rfl, Nat.le_of_ble_eq_true rfl⟩ ⟨Nat.le_of_ble_eq_true rfl, Nat.le_of_ble_eq_true rfl⟩ rfl rfl
  exact r_ir dX7_putCredit_19 rfl (Nat.le_of_ble_eq_true rfl) (Nat.le_of_ble_eq_true rfl)
abbrev Y_X7_passDays : YT := (yX7_passDays, cX7_passDays, 5, (some .int), 4, 106, 0, 0)
theorem ok_X7_passDays : okV Y_X7_passDays 1 := ⟨⟨wd_2_172, wd_1_2, by decide, by decide, by decide +kernel⟩, wd_2_170, wd_2_171⟩
def R_X7_passDays_0 (l : Launch) (G : GT) (F : FX) (Q : PQ) (QX : PX) : KT := (I_ic 0 (I_is 2 (I_ic 0 (I_is 3 (Wj true l G F Y_X7_passDays Q QX 0 0 4)))))
set_option maxRecDepth 100000 in
theorem g_X7_passDays_0 {l : Launch} {G : GT} {F : FX} {Q : PQ} {QX : PX} : Le (R_X7_passDays_0 l G F Q QX) (Wj true l G F Y_X7_passDays Q QX 0 0 0) := by
  unfold R_X7_passDays_0
  refine r_iconst (pc := 0) ?_ dX7_passDays_0 (by decide)
  refine r_istore_n (pc := 1) ?_ dX7_passDays_1 rfl (Nat.le_of_ble_eq_true rfl)
  refine r_iconst (pc := 2) ?_ dX7_passDays_2 (by decide)
  refine r_istore_n (pc := 3) ?_ dX7_passDays_3 rfl (Nat.le_of_ble_eq_true rfl)
  exact Le.rf
def R_X7_passDays_4 (l : Launch) (G : GT) (F : FX) (Q : PQ) (QX : PX) : KT := (I_il 3 (I_il 1 (I_icge (I_il 2 (I_ir Q)) (I_ic 0 (I_is 4 (Wj true l G F Y_X7_passDays Q QX 0 0 12))))))
set_option maxRecDepth 100000 in
theorem g_X7_passDays_4 {l : Launch} {G : GT} {F : FX} {Q : PQ} {QX : PX} : Le (R_X7_passDays_4 l G F Q QX) (Wj true l G F Y_X7_passDays Q QX 0 0 4) := by
  unfold R_X7_passDays_4
  refine r_iload_n (pc := 4) ?_ dX7_passDays_4 rfl
  refine r_iload_n (pc := 5) ?_ dX7_passDays_5 rfl
  refine r_icge (pc := 6) (t := 74) ?_ ?_ dX7_passDays_6 (by decide)
  · refine r_iload_n (pc := 74) ?_ dX7_passDays_74 rfl
    exact r_ir dX7_passDays_75 rfl (Nat.le_of_ble_eq_true rfl) (Nat.le_of_ble_eq_true rfl)
  · refine r_iconst (pc := 9) ?_ dX7_passDays_9 (by decide)
    refine r_istore (pc := 10) ?_ dX7_passDays_10 (Nat.le_of_ble_eq_true rfl)
    exact Le.rf
def R_X7_passDays_12 (l : Launch) (G : GT) (F : FX) (Q : PQ) (QX : PX) : KT := (I_il 4 (I_al 0 (I_gi 5 7 9 (I_icge (I_al 0 (I_dup (I_gi 5 8 9 (I_ic 1 (I_iadd (I_pi 5 8 9 (I_inc 3 1 (I_kl 4 (Wj true l G F Y_X7_passDays Q QX 0 0 4))))))))) (I_il 2 (I_al 0 (I_gp 5 9 8 (I_il 4 (I_aal 4 26 18 (I_al 0 (I_gi 5 8 9 (I_ic 14 (I_isub (I_cv (Tr true l G Y_X1_doubtUntil) 0 11 1 QX (I_iadd (I_is 2 (I_al 0 (I_gp 5 9 8 (I_il 4 (I_aal 4 26 18 (I_ic 0 (I_pi 0 9 11 (I_inc 4 1 (Wj true l G F Y_X7_passDays Q QX 0 0 12))))))))))))))))))))))))
set_option maxRecDepth 100000 in
theorem g_X7_passDays_12 {l : Launch} {G : GT} {F : FX} {Q : PQ} {QX : PX} : Le (R_X7_passDays_12 l G F Q QX) (Wj true l G F Y_X7_passDays Q QX 0 0 12) := by
  unfold R_X7_passDays_12
  refine r_iload (pc := 12) ?_ dX7_passDays_12
  refine r_aload_n (pc := 14) ?_ dX7_passDays_14 rfl
  refine r_gi (pc := 15) ?_ dX7_passDays_15 cl_X7 (Nat.le_of_ble_eq_true rfl) rfl wd_1_145
  refine r_icge (pc := 18) (t := 58) ?_ ?_ dX7_passDays_18 (by decide)
  · refine r_aload_n (pc := 58) ?_ dX7_passDays_58 rfl
    refine r_dup (pc := 59) ?_ dX7_passDays_59
    refine r_gi (pc := 60) ?_ dX7_passDays_60 cl_X7 (Nat.le_of_ble_eq_true rfl) rfl wd_1_147
    refine r_iconst (pc := 63) ?_ dX7_passDays_63 (by decide)
    refine r_iadd (pc := 64) ?_ dX7_passDays_64
    refine r_pi (pc := 65) ?_ dX7_passDays_65 cl_X7 (Nat.le_of_ble_eq_true rfl) rfl wd_1_147 rfl pd_X7_8
    refine r_iinc (pc := 68) ?_ dX7_passDays_68 (by decide) (Nat.le_of_ble_eq_true rfl)
    refine r_goto (pc := 71) (t := 4) ?_ dX7_passDays_71 (by decide)
    refine r_kl ?_
    exact Le.rf
  · refine r_iload_n (pc := 21) ?_ dX7_passDays_21 rfl
    refine r_aload_n (pc := 22) ?_ dX7_passDays_22 rfl
    refine r_gp (pc := 23) (kf := 2) ?_ dX7_passDays_23 cl_X7 (Nat.le_of_ble_eq_true rfl) rfl wd_1_138 pv_X7_2
    refine r_iload (pc := 26) ?_ dX7_passDays_26
    refine r_aal (pc := 28) ?_ dX7_passDays_28 rfl rfl pa_4
    refine r_aload_n (pc := 29) ?_ dX7_passDays_29 rfl
    refine r_gi (pc := 30) ?_ dX7_passDays_30 cl_X7 (Nat.le_of_ble_eq_true rfl) rfl wd_1_147
    refine r_bipush (pc := 33) ?_ dX7_passDays_33 (by decide)
    refine r_isub (pc := 35) ?_ dX7_passDays_35
    refine r_cv0 (pc := 36) ?_ dX7_passDays_36 cl_X1 ok_X1_doubtUntil rfl wd_2_173 ⟨Nat.le_of_ble_eq_true rfl, Nat.le_of_ble_eq_true rfl⟩ ⟨Nat.le_of_ble_eq_true rfl, Nat.le_of_ble_eq_true rfl⟩ rfl rfl
    refine r_iadd (pc := 39) ?_ dX7_passDays_39
    refine r_istore_n (pc := 40) ?_ dX7_passDays_40 rfl (Nat.le_of_ble_eq_true rfl)
    refine r_aload_n (pc := 41) ?_ dX7_passDays_41 rfl
    refine r_gp (pc := 42) (kf := 2) ?_ dX7_passDays_42 cl_X7 (Nat.le_of_ble_eq_true rfl) rfl wd_1_138 pv_X7_2
    refine r_iload (pc := 45) ?_ dX7_passDays_45
    refine r_aal (pc := 47) ?_ dX7_passDays_47 rfl rfl pa_4
    refine r_iconst (pc := 48) ?_ dX7_passDays_48 (by decide)
    refine r_pi (pc := 49) ?_ dX7_passDays_49 cl_X1 (Nat.le_of_ble_eq_true rfl) rfl wd_1_110 rfl pd_X1_9
    refine r_iinc (pc := 52) ?_ dX7_passDays_52 (by decide) (Nat.le_of_ble_eq_true rfl)
    refine r_goto (pc := 55) (t := 12) ?_ dX7_passDays_55 (by decide)
    exact Le.rf
abbrev Y_X7_moveTo : YT := (yX7_moveTo, cX7_moveTo, 3, (some .int), 4, 106, 0, 0)
theorem ok_X7_moveTo : okV Y_X7_moveTo 2 := ⟨⟨wd_4_119, wd_1_2, by decide, by decide, by decide +kernel⟩, wd_4_117, wd_4_118⟩
def R_X7_moveTo_0 (l : Launch) (G : GT) (F : FX) (Q : PQ) (QX : PX) : KT := (I_al 0 (I_il 1 (I_cv (Tr true l G Y_X7_apprenticeAt) 5 9 1 QX (I_il 2 (I_cv (Tr true l G Y_X1_leadTo) 0 11 1 QX (I_ir Q))))))
set_option maxRecDepth 100000 in
theorem g_X7_moveTo_0 {l : Launch} {G : GT} {F : FX} {Q : PQ} {QX : PX} : Le (R_X7_moveTo_0 l G F Q QX) (Wj true l G F Y_X7_moveTo Q QX 0 0 0) := by
  unfold R_X7_moveTo_0
  refine r_aload_n (pc := 0) ?_ dX7_moveTo_0 rfl
  refine r_iload_n (pc := 1) ?_ dX7_moveTo_1 rfl
  refine r_cv0 (pc := 2) ?_ dX7_moveTo_2 cl_X7 ok_X7_apprenticeAt rfl wd_3_57 ⟨Nat.le_of_ble_eq_true rfl, Nat.le_of_ble_eq_true rfl⟩ ⟨Nat.le_of_ble_eq_true rfl, Nat.le_of_ble_eq_true rfl⟩ rfl rfl
  refine r_iload_n (pc := 5) ?_ dX7_moveTo_5 rfl
  refine r_cv0 (pc := 6) ?_ dX7_moveTo_6 cl_X1 ok_X1_leadTo rfl wd_4_120 ⟨Nat.le_of_ble_eq_true rfl, Nat.le_of_ble_eq_true rfl⟩ ⟨Nat.le_of_ble_eq_true rfl, Nat.le_of_ble_eq_true rfl⟩ rfl rfl
  exact r_ir dX7_moveTo_9 rfl (Nat.le_of_ble_eq_true rfl) (Nat.le_of_ble_eq_true rfl)
abbrev Y_X7_takeFromMentor : YT := (yX7_takeFromMentor, cX7_takeFromMentor, 3, (some .int), 2, 42, 0, 0)
theorem ok_X7_takeFromMentor : okV Y_X7_takeFromMentor 1 := ⟨⟨wd_4_138, wd_1_2, by decide, by decide, by decide +kernel⟩, wd_4_136, wd_4_137⟩
def R_X7_takeFromMentor_0 (l : Launch) (G : GT) (F : FX) (Q : PQ) (QX : PX) : KT := (I_al 0 (I_il 1 (I_cv (Tr true l G Y_X7_apprenticeAt) 5 9 1 QX (I_gi 0 6 11 (I_is 2 (I_al 0 (I_il 1 (I_cv (Tr true l G Y_X7_apprenticeAt) 5 9 1 QX (I_ic (-1) (I_pi 0 6 11 (I_il 2 (I_ir Q))))))))))))
set_option maxRecDepth 100000 in
theorem g_X7_takeFromMentor_0 {l : Launch} {G : GT} {F : FX} {Q : PQ} {QX : PX} : Le (R_X7_takeFromMentor_0 l G F Q QX) (Wj true l G F Y_X7_takeFromMentor Q QX 0 0 0) := by
  unfold R_X7_takeFromMentor_0
  refine r_aload_n (pc := 0) ?_ dX7_takeFromMentor_0 rfl
  refine r_iload_n (pc := 1) ?_ dX7_takeFromMentor_1 rfl
  refine r_cv0 (pc := 2) ?_ dX7_takeFromMentor_2 cl_X7 ok_X7_apprenticeAt rfl wd_3_57 ⟨Nat.le_of_ble_eq_true rfl, Nat.le_of_ble_eq_true rfl⟩ ⟨Nat.le_of_ble_eq_true rfl, Nat.le_of_ble_eq_true rfl⟩ rfl rfl
  refine r_gi (pc := 5) ?_ dX7_takeFromMentor_5 cl_X1 (Nat.le_of_ble_eq_true rfl) rfl wd_1_104
  refine r_istore_n (pc := 8) ?_ dX7_takeFromMentor_8 rfl (Nat.le_of_ble_eq_true rfl)
  refine r_aload_n (pc := 9) ?_ dX7_takeFromMentor_9 rfl
  refine r_iload_n (pc := 10) ?_ dX7_takeFromMentor_10 rfl
  refine r_cv0 (pc := 11) ?_ dX7_takeFromMentor_11 cl_X7 ok_X7_apprenticeAt rfl wd_3_57 ⟨Nat.le_of_ble_eq_true rfl, Nat.le_of_ble_eq_true rfl⟩ ⟨Nat.le_of_ble_eq_true rfl, Nat.le_of_ble_eq_true rfl⟩ rfl rfl
  refine r_iconst (pc := 14) ?_ dX7_takeFromMentor_14 (by decide)
  refine r_pi (pc := 15) ?_ dX7_takeFromMentor_15 cl_X1 (Nat.le_of_ble_eq_true rfl) rfl wd_1_104 rfl pd_X1_6
  refine r_iload_n (pc := 18) ?_ dX7_takeFromMentor_18 rfl
  exact r_ir dX7_takeFromMentor_19 rfl (Nat.le_of_ble_eq_true rfl) (Nat.le_of_ble_eq_true rfl)
abbrev Y_X7_exchangeBoth : YT := (yX7_exchangeBoth, cX7_exchangeBoth, 5, (some .int), 4, 106, 0, 0)
theorem ok_X7_exchangeBoth : okV Y_X7_exchangeBoth 2 := ⟨⟨wd_4_157, wd_1_2, by decide, by decide, by decide +kernel⟩, wd_4_155, wd_4_156⟩
def R_X7_exchangeBoth_0 (l : Launch) (G : GT) (F : FX) (Q : PQ) (QX : PX) : KT := (I_al 0 (I_il 1 (I_cv (Tr true l G Y_X7_apprenticeAt) 5 9 1 QX (I_gi 0 6 11 (I_is 3 (I_al 0 (I_il 1 (I_cv (Tr true l G Y_X7_apprenticeAt) 5 9 1 QX (I_al 0 (I_il 2 (I_cv (Tr true l G Y_X7_apprenticeAt) 5 9 1 QX (I_gi 0 6 11 (I_cv (Tr true l G Y_X1_leadTo) 0 11 1 QX (I_is 4 (I_il 4 (I_al 0 (I_il 2 (I_cv (Tr true l G Y_X7_apprenticeAt) 5 9 1 QX (I_il 3 (I_cv (Tr true l G Y_X1_leadTo) 0 11 1 QX (I_iadd (I_ir Q))))))))))))))))))))))
set_option maxRecDepth 100000 in
theorem g_X7_exchangeBoth_0 {l : Launch} {G : GT} {F : FX} {Q : PQ} {QX : PX} : Le (R_X7_exchangeBoth_0 l G F Q QX) (Wj true l G F Y_X7_exchangeBoth Q QX 0 0 0) := by
  unfold R_X7_exchangeBoth_0
  refine r_aload_n (pc := 0) ?_ dX7_exchangeBoth_0 rfl
  refine r_iload_n (pc := 1) ?_ dX7_exchangeBoth_1 rfl
  refine r_cv0 (pc := 2) ?_ dX7_exchangeBoth_2 cl_X7 ok_X7_apprenticeAt rfl wd_3_57 ⟨Nat.le_of_ble_eq_true rfl, Nat.le_of_ble_eq_true rfl⟩ ⟨Nat.le_of_ble_eq_true rfl, Nat.le_of_ble_eq_true rfl⟩ rfl rfl
  refine r_gi (pc := 5) ?_ dX7_exchangeBoth_5 cl_X1 (Nat.le_of_ble_eq_true rfl) rfl wd_1_104
  refine r_istore_n (pc := 8) ?_ dX7_exchangeBoth_8 rfl (Nat.le_of_ble_eq_true rfl)
  refine r_aload_n (pc := 9) ?_ dX7_exchangeBoth_9 rfl
  refine r_iload_n (pc := 10) ?_ dX7_exchangeBoth_10 rfl
  refine r_cv0 (pc := 11) ?_ dX7_exchangeBoth_11 cl_X7 ok_X7_apprenticeAt rfl wd_3_57 ⟨Nat.le_of_ble_eq_true rfl, Nat.le_of_ble_eq_true rfl⟩ ⟨Nat.le_of_ble_eq_true rfl, Nat.le_of_ble_eq_true rfl⟩ rfl rfl
  refine r_aload_n (pc := 14) ?_ dX7_exchangeBoth_14 rfl
  refine r_iload_n (pc := 15) ?_ dX7_exchangeBoth_15 rfl
  refine r_cv0 (pc := 16) ?_ dX7_exchangeBoth_16 cl_X7 ok_X7_apprenticeAt rfl wd_3_57 ⟨Nat.le_of_ble_eq_true rfl, Nat.le_of_ble_eq_true rfl⟩ ⟨Nat.le_of_ble_eq_true rfl, Nat.le_of_ble_eq_true rfl⟩ rfl rfl
  refine r_gi (pc := 19) ?_ dX7_exchangeBoth_19 cl_X1 (Nat.le_of_ble_eq_true rfl) rfl wd_1_104
  refine r_cv0 (pc := 22) ?_ dX7_exchangeBoth_22 cl_X1 ok_X1_leadTo rfl wd_4_120 ⟨Nat.le_of_ble_eq_true rfl, Nat.le_of_ble_eq_true rfl⟩ ⟨Nat.le_of_ble_eq_true rfl, Nat.le_of_ble_eq_true rfl⟩ rfl rfl
  refine r_istore (pc := 25) ?_ dX7_exchangeBoth_25 (Nat.le_of_ble_eq_true rfl)
  refine r_iload (pc := 27) ?_ dX7_exchangeBoth_27
  refine r_aload_n (pc := 29) ?_ dX7_exchangeBoth_29 rfl
  refine r_iload_n (pc := 30) ?_ dX7_exchangeBoth_30 rfl
  refine r_cv0 (pc := 31) ?_ dX7_exchangeBoth_31 cl_X7 ok_X7_apprenticeAt rfl wd_3_57 ⟨Nat.le_of_ble_eq_true rfl, Nat.le_of_ble_eq_true rfl⟩ ⟨Nat.le_of_ble_eq_true rfl, Nat.le_of_ble_eq_true rfl⟩ rfl rfl
  refine r_iload_n (pc := 34) ?_ dX7_exchangeBoth_34 rfl
  refine r_cv0 (pc := 35) ?_ dX7_exchangeBoth_35 cl_X1 ok_X1_leadTo rfl wd_4_120 ⟨Nat.le_of_ble_eq_true rfl, Nat.le_of_ble_eq_true rfl⟩ ⟨Nat.le_of_ble_eq_true rfl, Nat.le_of_ble_eq_true rfl⟩ rfl rfl
  refine r_iadd (pc := 38) ?_ dX7_exchangeBoth_38
  exact r_ir dX7_exchangeBoth_39 rfl (Nat.le_of_ble_eq_true rfl) (Nat.le_of_ble_eq_true rfl)
abbrev Y_X7_pendingWith : YT := (yX7_pendingWith, cX7_pendingWith, 4, (some .int), 2, 46, 0, 0)
theorem ok_X7_pendingWith : okV Y_X7_pendingWith 1 := ⟨⟨wd_3_35, wd_1_2, by decide, by decide, by decide +kernel⟩, wd_3_34, wp_9⟩
def R_X7_pendingWith_0 (l : Launch) (G : GT) (F : FX) (Q : PQ) (QX : PX) : KT := (I_ic 0 (I_is 2 (I_ic 0 (I_is 3 (Wj true l G F Y_X7_pendingWith Q QX 0 0 4)))))
set_option maxRecDepth 100000 in
theorem g_X7_pendingWith_0 {l : Launch} {G : GT} {F : FX} {Q : PQ} {QX : PX} : Le (R_X7_pendingWith_0 l G F Q QX) (Wj true l G F Y_X7_pendingWith Q QX 0 0 0) := by
  unfold R_X7_pendingWith_0
  refine r_iconst (pc := 0) ?_ dX7_pendingWith_0 (by decide)
  refine r_istore_n (pc := 1) ?_ dX7_pendingWith_1 rfl (Nat.le_of_ble_eq_true rfl)
  refine r_iconst (pc := 2) ?_ dX7_pendingWith_2 (by decide)
  refine r_istore_n (pc := 3) ?_ dX7_pendingWith_3 rfl (Nat.le_of_ble_eq_true rfl)
  exact Le.rf
def R_X7_pendingWith_4 (l : Launch) (G : GT) (F : FX) (Q : PQ) (QX : PX) : KT := (I_il 3 (I_al 0 (I_gi 5 7 9 (I_icge (I_il 2 (I_ir Q)) (I_al 0 (I_gp 5 9 8 (I_il 3 (I_aal 4 26 18 (I_gi 0 6 11 (I_il 1 (I_icne (I_inc 3 1 (Wj true l G F Y_X7_pendingWith Q QX 0 0 4)) (I_il 2 (I_al 0 (I_gp 5 9 8 (I_il 3 (I_aal 4 26 18 (I_gp 0 11 2 (I_il 1 (I_cv (Tr true l G Y_X5_countWith) 3 2 1 QX (I_iadd (I_is 2 (I_inc 3 1 (Wj true l G F Y_X7_pendingWith Q QX 0 0 4)))))))))))))))))))))))
set_option maxRecDepth 100000 in
theorem g_X7_pendingWith_4 {l : Launch} {G : GT} {F : FX} {Q : PQ} {QX : PX} : Le (R_X7_pendingWith_4 l G F Q QX) (Wj true l G F Y_X7_pendingWith Q QX 0 0 4) := by
  unfold R_X7_pendingWith_4
  refine r_iload_n (pc := 4) ?_ dX7_pendingWith_4 rfl
  refine r_aload_n (pc := 5) ?_ dX7_pendingWith_5 rfl
  refine r_gi (pc := 6) ?_ dX7_pendingWith_6 cl_X7 (Nat.le_of_ble_eq_true rfl) rfl wd_1_145
  refine r_icge (pc := 9) (t := 47) ?_ ?_ dX7_pendingWith_9 (by decide)
  · refine r_iload_n (pc := 47) ?_ dX7_pendingWith_47 rfl
    exact r_ir dX7_pendingWith_48 rfl (Nat.le_of_ble_eq_true rfl) (Nat.le_of_ble_eq_true rfl)
  · refine r_aload_n (pc := 12) ?_ dX7_pendingWith_12 rfl
    refine r_gp (pc := 13) (kf := 2) ?_ dX7_pendingWith_13 cl_X7 (Nat.le_of_ble_eq_true rfl) rfl wd_1_138 pv_X7_2
    refine r_iload_n (pc := 16) ?_ dX7_pendingWith_16 rfl
    refine r_aal (pc := 17) ?_ dX7_pendingWith_17 rfl rfl pa_4
    refine r_gi (pc := 18) ?_ dX7_pendingWith_18 cl_X1 (Nat.le_of_ble_eq_true rfl) rfl wd_1_104
    refine r_iload_n (pc := 21) ?_ dX7_pendingWith_21 rfl
    refine r_icne (pc := 22) (t := 41) ?_ ?_ dX7_pendingWith_22 (by decide)
    · refine r_iinc (pc := 41) ?_ dX7_pendingWith_41 (by decide) (Nat.le_of_ble_eq_true rfl)
      refine r_goto (pc := 44) (t := 4) ?_ dX7_pendingWith_44 (by decide)
      exact Le.rf
    · refine r_iload_n (pc := 25) ?_ dX7_pendingWith_25 rfl
      refine r_aload_n (pc := 26) ?_ dX7_pendingWith_26 rfl
      refine r_gp (pc := 27) (kf := 2) ?_ dX7_pendingWith_27 cl_X7 (Nat.le_of_ble_eq_true rfl) rfl wd_1_138 pv_X7_2
      refine r_iload_n (pc := 30) ?_ dX7_pendingWith_30 rfl
      refine r_aal (pc := 31) ?_ dX7_pendingWith_31 rfl rfl pa_4
      refine r_gp (pc := 32) (kf := 1) ?_ dX7_pendingWith_32 cl_X1 (Nat.le_of_ble_eq_true rfl) rfl wd_1_94 pv_X1_1
      refine r_iload_n (pc := 35) ?_ dX7_pendingWith_35 rfl
      refine r_cv0 (pc := 36) ?_ dX7_pendingWith_36 cl_X5 ok_X5_countWith rfl wd_3_36 ⟨Nat.le_of_ble_eq_true rfl, Nat.le_of_ble_eq_true rfl⟩ ⟨Nat.le_of_ble_eq_true rfl, Nat.le_of_ble_eq_true rfl⟩ rfl rfl
      refine r_iadd (pc := 39) ?_ dX7_pendingWith_39
      refine r_istore_n (pc := 40) ?_ dX7_pendingWith_40 rfl (Nat.le_of_ble_eq_true rfl)
      refine r_iinc (pc := 41) ?_ dX7_pendingWith_41 (by decide) (Nat.le_of_ble_eq_true rfl)
      refine r_goto (pc := 44) (t := 4) ?_ dX7_pendingWith_44 (by decide)
      exact Le.rf
abbrev Y_X7_mentorValue : YT := (yX7_mentorValue, cX7_mentorValue, 3, (some .int), 3, 69, 0, 0)
theorem ok_X7_mentorValue : okV Y_X7_mentorValue 2 := ⟨⟨wd_3_26, wd_1_2, by decide, by decide, by decide +kernel⟩, wd_3_24, wd_3_25⟩
def R_X7_mentorValue_0 (l : Launch) (G : GT) (F : FX) (Q : PQ) (QX : PX) : KT := (I_il 2 (I_sw 0 [(I_al 0 (I_il 1 (I_cv (Tr true l G Y_X7_mentorAt) 5 9 1 QX (I_gi 4 0 3 (I_ir Q))))), (I_al 0 (I_il 1 (I_cv (Tr true l G Y_X7_mentorAt) 5 9 1 QX (I_gi 4 1 3 (I_ir Q))))), (I_al 0 (I_il 1 (I_cv (Tr true l G Y_X7_apprenticesOf) 5 9 1 QX (I_ir Q)))), (I_al 0 (I_il 1 (I_cv (Tr true l G Y_X7_pendingWith) 5 9 1 QX (I_ir Q))))] (I_al 0 (I_il 1 (I_cv (Tr true l G Y_X7_mentorAt) 5 9 1 QX (I_gi 4 2 3 (I_ir Q)))))))
set_option maxRecDepth 100000 in
theorem g_X7_mentorValue_0 {l : Launch} {G : GT} {F : FX} {Q : PQ} {QX : PX} : Le (R_X7_mentorValue_0 l G F Q QX) (Wj true l G F Y_X7_mentorValue Q QX 0 0 0) := by
  unfold R_X7_mentorValue_0
  refine r_iload_n (pc := 0) ?_ dX7_mentorValue_0 rfl
  refine r_sw (pc := 1) (t := 62) (os := [31, 40, 49, 55]) ?_ ⟨⟨32, by decide, ?_⟩, ⟨⟨41, by decide, ?_⟩, ⟨⟨50, by decide, ?_⟩, ⟨⟨56, by decide, ?_⟩, trivial⟩⟩⟩⟩ dX7_mentorValue_1 rfl rfl (by decide)
  · refine r_aload_n (pc := 62) ?_ dX7_mentorValue_62 rfl
    refine r_iload_n (pc := 63) ?_ dX7_mentorValue_63 rfl
    refine r_cv0 (pc := 64) ?_ dX7_mentorValue_64 cl_X7 ok_X7_mentorAt rfl wd_3_27 ⟨Nat.le_of_ble_eq_true rfl, Nat.le_of_ble_eq_true rfl⟩ ⟨Nat.le_of_ble_eq_true rfl, Nat.le_of_ble_eq_true rfl⟩ rfl rfl
    refine r_gi (pc := 67) ?_ dX7_mentorValue_67 cl_X6 (Nat.le_of_ble_eq_true rfl) rfl wd_1_47
    exact r_ir dX7_mentorValue_70 rfl (Nat.le_of_ble_eq_true rfl) (Nat.le_of_ble_eq_true rfl)
  · refine r_aload_n (pc := 32) ?_ dX7_mentorValue_32 rfl
    refine r_iload_n (pc := 33) ?_ dX7_mentorValue_33 rfl
    refine r_cv0 (pc := 34) ?_ dX7_mentorValue_34 cl_X7 ok_X7_mentorAt rfl wd_3_27 ⟨Nat.le_of_ble_eq_true rfl, Nat.le_of_ble_eq_true rfl⟩ ⟨Nat.le_of_ble_eq_true rfl, Nat.le_of_ble_eq_true rfl⟩ rfl rfl
    refine r_gi (pc := 37) ?_ dX7_mentorValue_37 cl_X6 (Nat.le_of_ble_eq_true rfl) rfl wd_1_43
    exact r_ir dX7_mentorValue_40 rfl (Nat.le_of_ble_eq_true rfl) (Nat.le_of_ble_eq_true rfl)
  · refine r_aload_n (pc := 41) ?_ dX7_mentorValue_41 rfl
    refine r_iload_n (pc := 42) ?_ dX7_mentorValue_42 rfl
    refine r_cv0 (pc := 43) ?_ dX7_mentorValue_43 cl_X7 ok_X7_mentorAt rfl wd_3_27 ⟨Nat.le_of_ble_eq_true rfl, Nat.le_of_ble_eq_true rfl⟩ ⟨Nat.le_of_ble_eq_true rfl, Nat.le_of_ble_eq_true rfl⟩ rfl rfl
    refine r_gi (pc := 46) ?_ dX7_mentorValue_46 cl_X6 (Nat.le_of_ble_eq_true rfl) rfl wd_1_45
    exact r_ir dX7_mentorValue_49 rfl (Nat.le_of_ble_eq_true rfl) (Nat.le_of_ble_eq_true rfl)
  · refine r_aload_n (pc := 50) ?_ dX7_mentorValue_50 rfl
    refine r_iload_n (pc := 51) ?_ dX7_mentorValue_51 rfl
    refine r_cv0 (pc := 52) ?_ dX7_mentorValue_52 cl_X7 ok_X7_apprenticesOf rfl wd_2_224 ⟨Nat.le_of_ble_eq_true rfl, Nat.le_of_ble_eq_true rfl⟩ ⟨Nat.le_of_ble_eq_true rfl, Nat.le_of_ble_eq_true rfl⟩ rfl rfl
    exact r_ir dX7_mentorValue_55 rfl (Nat.le_of_ble_eq_true rfl) (Nat.le_of_ble_eq_true rfl)
  · refine r_aload_n (pc := 56) ?_ dX7_mentorValue_56 rfl
    refine r_iload_n (pc := 57) ?_ dX7_mentorValue_57 rfl
    refine r_cv0 (pc := 58) ?_ dX7_mentorValue_58 cl_X7 ok_X7_pendingWith rfl wd_3_32 ⟨Nat.le_of_ble_eq_true rfl, Nat.le_of_ble_eq_true rfl⟩ ⟨Nat.le_of_ble_eq_true rfl, Nat.le_of_ble_eq_true rfl⟩ rfl rfl
    exact r_ir dX7_mentorValue_61 rfl (Nat.le_of_ble_eq_true rfl) (Nat.le_of_ble_eq_true rfl)
abbrev Y_X7_apprenticeValue : YT := (yX7_apprenticeValue, cX7_apprenticeValue, 4, (some .int), 3, 67, 0, 0)
theorem ok_X7_apprenticeValue : okV Y_X7_apprenticeValue 2 := ⟨⟨wd_3_56, wd_1_2, by decide, by decide, by decide +kernel⟩, wd_3_54, wd_3_55⟩
def R_X7_apprenticeValue_0 (l : Launch) (G : GT) (F : FX) (Q : PQ) (QX : PX) : KT := (I_al 0 (I_il 1 (I_cv (Tr true l G Y_X7_apprenticeAt) 5 9 1 QX (I_as 3 (I_il 2 (I_sw 0 [(I_al 3 (I_gi 0 5 11 (I_ir Q))), (I_al 3 (I_gi 0 6 11 (I_ir Q))), (I_al 3 (I_gp 0 11 2 (I_gi 3 1 2 (I_ir Q)))), (I_al 3 (I_gp 0 11 8 (I_gi 3 1 2 (I_ir Q)))), (I_al 3 (I_gp 0 11 2 (I_cv (Tr true l G Y_X5_hoursInAll) 3 2 0 QX (I_ir Q)))), (I_al 3 (I_gp 0 11 8 (I_cv (Tr true l G Y_X5_hoursInAll) 3 2 0 QX (I_ir Q)))), (I_al 3 (I_gi 0 7 11 (I_ir Q))), (I_al 3 (I_gp 0 11 14 (I_gi 2 1 2 (I_ir Q)))), (I_al 3 (I_gi 0 8 11 (I_ir Q))), (I_al 3 (I_gi 0 9 11 (I_ir Q))), (I_al 3 (I_gi 0 10 11 (I_ir Q)))] (I_al 0 (I_al 3 (I_cv (Tr true l G Y_X7_isComplete) 5 9 1 QX (I_ifeq (I_ic 0 (I_ir Q)) (I_ic 1 (I_ir Q))))))))))))
set_option maxRecDepth 100000 in
theorem g_X7_apprenticeValue_0 {l : Launch} {G : GT} {F : FX} {Q : PQ} {QX : PX} : Le (R_X7_apprenticeValue_0 l G F Q QX) (Wj true l G F Y_X7_apprenticeValue Q QX 0 0 0) := by
  unfold R_X7_apprenticeValue_0
  refine r_aload_n (pc := 0) ?_ dX7_apprenticeValue_0 rfl
  refine r_iload_n (pc := 1) ?_ dX7_apprenticeValue_1 rfl
  refine r_cv0 (pc := 2) ?_ dX7_apprenticeValue_2 cl_X7 ok_X7_apprenticeAt rfl wd_3_57 ⟨Nat.le_of_ble_eq_true rfl, Nat.le_of_ble_eq_true rfl⟩ ⟨Nat.le_of_ble_eq_true rfl, Nat.le_of_ble_eq_true rfl⟩ rfl rfl
  refine r_astore_n (pc := 5) ?_ dX7_apprenticeValue_5 rfl (Nat.le_of_ble_eq_true rfl)
  refine r_iload_n (pc := 6) ?_ dX7_apprenticeValue_6 rfl
  refine r_sw (pc := 7) (t := 134) (os := [57, 62, 67, 75, 83, 91, 99, 104, 112, 117, 122]) ?_ ⟨⟨64, by decide, ?_⟩, ⟨⟨69, by decide, ?_⟩, ⟨⟨74, by decide, ?_⟩, ⟨⟨82, by decide, ?_⟩, ⟨⟨90, by decide, ?_⟩, ⟨⟨98, by decide, ?_⟩, ⟨⟨106, by decide, ?_⟩, ⟨⟨111, by decide, ?_⟩, ⟨⟨119, by decide, ?_⟩, ⟨⟨124, by decide, ?_⟩, ⟨⟨129, by decide, ?_⟩, trivial⟩⟩⟩⟩⟩⟩⟩⟩⟩⟩⟩ dX7_apprenticeValue_7 rfl rfl (by decide)
  · refine r_aload_n (pc := 134) ?_ dX7_apprenticeValue_134 rfl
    refine r_aload_n (pc := 135) ?_ dX7_apprenticeValue_135 rfl
    refine r_cv0 (pc := 136) ?_ dX7_apprenticeValue_136 cl_X7 ok_X7_isComplete rfl wd_2_232 ⟨Nat.le_of_ble_eq_true rfl, Nat.le_of_ble_eq_true rfl⟩ ⟨Nat.le_of_ble_eq_true rfl, Nat.le_of_ble_eq_true rfl⟩ rfl rfl
    refine r_ifeq (pc := 139) (t := 146) ?_ ?_ dX7_apprenticeValue_139 (by decide)
    · refine r_iconst (pc := 146) ?_ dX7_apprenticeValue_146 (by decide)
      exact r_ir dX7_apprenticeValue_147 rfl (Nat.le_of_ble_eq_true rfl) (Nat.le_of_ble_eq_true rfl)
    · refine r_iconst (pc := 142) ?_ dX7_apprenticeValue_142 (by decide)
      refine r_goto (pc := 143) (t := 147) ?_ dX7_apprenticeValue_143 (by decide)
      exact r_ir dX7_apprenticeValue_147 rfl (Nat.le_of_ble_eq_true rfl) (Nat.le_of_ble_eq_true rfl)
  · refine r_aload_n (pc := 64) ?_ dX7_apprenticeValue_64 rfl
    refine r_gi (pc := 65) ?_ dX7_apprenticeValue_65 cl_X1 (Nat.le_of_ble_eq_true rfl) rfl wd_1_102
    exact r_ir dX7_apprenticeValue_68 rfl (Nat.le_of_ble_eq_true rfl) (Nat.le_of_ble_eq_true rfl)
  · refine r_aload_n (pc := 69) ?_ dX7_apprenticeValue_69 rfl
    refine r_gi (pc := 70) ?_ dX7_apprenticeValue_70 cl_X1 (Nat.le_of_ble_eq_true rfl) rfl wd_1_104
    exact r_ir dX7_apprenticeValue_73 rfl (Nat.le_of_ble_eq_true rfl) (Nat.le_of_ble_eq_true rfl)
  · refine r_aload_n (pc := 74) ?_ dX7_apprenticeValue_74 rfl
    refine r_gp (pc := 75) (kf := 1) ?_ dX7_apprenticeValue_75 cl_X1 (Nat.le_of_ble_eq_true rfl) rfl wd_1_94 pv_X1_1
    refine r_gi (pc := 78) ?_ dX7_apprenticeValue_78 cl_X5 (Nat.le_of_ble_eq_true rfl) rfl wd_1_71
    exact r_ir dX7_apprenticeValue_81 rfl (Nat.le_of_ble_eq_true rfl) (Nat.le_of_ble_eq_true rfl)
  · refine r_aload_n (pc := 82) ?_ dX7_apprenticeValue_82 rfl
    refine r_gp (pc := 83) (kf := 2) ?_ dX7_apprenticeValue_83 cl_X1 (Nat.le_of_ble_eq_true rfl) rfl wd_1_96 pv_X1_2
    refine r_gi (pc := 86) ?_ dX7_apprenticeValue_86 cl_X5 (Nat.le_of_ble_eq_true rfl) rfl wd_1_71
    exact r_ir dX7_apprenticeValue_89 rfl (Nat.le_of_ble_eq_true rfl) (Nat.le_of_ble_eq_true rfl)
  · refine r_aload_n (pc := 90) ?_ dX7_apprenticeValue_90 rfl
    refine r_gp (pc := 91) (kf := 1) ?_ dX7_apprenticeValue_91 cl_X1 (Nat.le_of_ble_eq_true rfl) rfl wd_1_94 pv_X1_1
    refine r_cv0 (pc := 94) ?_ dX7_apprenticeValue_94 cl_X5 ok_X5_hoursInAll rfl wd_3_62 ⟨Nat.le_of_ble_eq_true rfl, Nat.le_of_ble_eq_true rfl⟩ ⟨Nat.le_of_ble_eq_true rfl, Nat.le_of_ble_eq_true rfl⟩ rfl rfl
    exact r_ir dX7_apprenticeValue_97 rfl (Nat.le_of_ble_eq_true rfl) (Nat.le_of_ble_eq_true rfl)
  · refine r_aload_n (pc := 98) ?_ dX7_apprenticeValue_98 rfl
    refine r_gp (pc := 99) (kf := 2) ?_ dX7_apprenticeValue_99 cl_X1 (Nat.le_of_ble_eq_true rfl) rfl wd_1_96 pv_X1_2
    refine r_cv0 (pc := 102) ?_ dX7_apprenticeValue_102 cl_X5 ok_X5_hoursInAll rfl wd_3_62 ⟨Nat.le_of_ble_eq_true rfl, Nat.le_of_ble_eq_true rfl⟩ ⟨Nat.le_of_ble_eq_true rfl, Nat.le_of_ble_eq_true rfl⟩ rfl rfl
    exact r_ir dX7_apprenticeValue_105 rfl (Nat.le_of_ble_eq_true rfl) (Nat.le_of_ble_eq_true rfl)
  · refine r_aload_n (pc := 106) ?_ dX7_apprenticeValue_106 rfl
    refine r_gi (pc := 107) ?_ dX7_apprenticeValue_107 cl_X1 (Nat.le_of_ble_eq_true rfl) rfl wd_1_106
    exact r_ir dX7_apprenticeValue_110 rfl (Nat.le_of_ble_eq_true rfl) (Nat.le_of_ble_eq_true rfl)
  · refine r_aload_n (pc := 111) ?_ dX7_apprenticeValue_111 rfl
    refine r_gp (pc := 112) (kf := 3) ?_ dX7_apprenticeValue_112 cl_X1 (Nat.le_of_ble_eq_true rfl) rfl wd_1_98 pv_X1_3
    refine r_gi (pc := 115) ?_ dX7_apprenticeValue_115 cl_X4 (Nat.le_of_ble_eq_true rfl) rfl wd_1_85
    exact r_ir dX7_apprenticeValue_118 rfl (Nat.le_of_ble_eq_true rfl) (Nat.le_of_ble_eq_true rfl)
  · refine r_aload_n (pc := 119) ?_ dX7_apprenticeValue_119 rfl
    refine r_gi (pc := 120) ?_ dX7_apprenticeValue_120 cl_X1 (Nat.le_of_ble_eq_true rfl) rfl wd_1_108
    exact r_ir dX7_apprenticeValue_123 rfl (Nat.le_of_ble_eq_true rfl) (Nat.le_of_ble_eq_true rfl)
  · refine r_aload_n (pc := 124) ?_ dX7_apprenticeValue_124 rfl
    refine r_gi (pc := 125) ?_ dX7_apprenticeValue_125 cl_X1 (Nat.le_of_ble_eq_true rfl) rfl wd_1_110
    exact r_ir dX7_apprenticeValue_128 rfl (Nat.le_of_ble_eq_true rfl) (Nat.le_of_ble_eq_true rfl)
  · refine r_aload_n (pc := 129) ?_ dX7_apprenticeValue_129 rfl
    refine r_gi (pc := 130) ?_ dX7_apprenticeValue_130 cl_X1 (Nat.le_of_ble_eq_true rfl) rfl wd_1_112
    exact r_ir dX7_apprenticeValue_133 rfl (Nat.le_of_ble_eq_true rfl) (Nat.le_of_ble_eq_true rfl)
abbrev Y_X7_partValue : YT := (yX7_partValue, cX7_partValue, 5, (some .int), 2, 46, 0, 0)
theorem ok_X7_partValue : okV Y_X7_partValue 3 := ⟨⟨wd_3_79, wd_1_2, by decide, by decide, by decide +kernel⟩, wd_3_77, wd_3_78⟩
def R_X7_partValue_0 (l : Launch) (G : GT) (F : FX) (Q : PQ) (QX : PX) : KT := (I_al 0 (I_il 1 (I_cv (Tr true l G Y_X7_apprenticeAt) 5 9 1 QX (I_as 4 (I_il 3 (I_sw 0 [(I_al 0 (I_al 4 (I_il 2 (I_cv (Tr true l G Y_X7_needOf) 5 9 2 QX (I_ir Q))))), (I_al 4 (I_il 2 (I_cv (Tr true l G Y_X1_doneIn) 0 11 1 QX (I_ir Q)))), (I_al 0 (I_al 4 (I_il 2 (I_cv (Tr true l G Y_X7_missingIn) 5 9 2 QX (I_ir Q))))), (I_al 4 (I_gp 0 11 2 (I_il 2 (I_cv (Tr true l G Y_X5_hoursOfPart) 3 2 1 QX (I_ir Q)))))] (I_al 4 (I_gp 0 11 8 (I_il 2 (I_cv (Tr true l G Y_X5_hoursOfPart) 3 2 1 QX (I_ir Q)))))))))))
set_option maxRecDepth 100000 in
theorem g_X7_partValue_0 {l : Launch} {G : GT} {F : FX} {Q : PQ} {QX : PX} : Le (R_X7_partValue_0 l G F Q QX) (Wj true l G F Y_X7_partValue Q QX 0 0 0) := by
  unfold R_X7_partValue_0
  refine r_aload_n (pc := 0) ?_ dX7_partValue_0 rfl
  refine r_iload_n (pc := 1) ?_ dX7_partValue_1 rfl
  refine r_cv0 (pc := 2) ?_ dX7_partValue_2 cl_X7 ok_X7_apprenticeAt rfl wd_3_57 ⟨Nat.le_of_ble_eq_true rfl, Nat.le_of_ble_eq_true rfl⟩ ⟨Nat.le_of_ble_eq_true rfl, Nat.le_of_ble_eq_true rfl⟩ rfl rfl
  refine r_astore (pc := 5) ?_ dX7_partValue_5 (Nat.le_of_ble_eq_true rfl)
  refine r_iload_n (pc := 7) ?_ dX7_partValue_7 rfl
  refine r_sw (pc := 8) (t := 73) (os := [32, 40, 47, 55]) ?_ ⟨⟨40, by decide, ?_⟩, ⟨⟨48, by decide, ?_⟩, ⟨⟨55, by decide, ?_⟩, ⟨⟨63, by decide, ?_⟩, trivial⟩⟩⟩⟩ dX7_partValue_8 rfl rfl (by decide)
  · refine r_aload (pc := 73) ?_ dX7_partValue_73
    refine r_gp (pc := 75) (kf := 2) ?_ dX7_partValue_75 cl_X1 (Nat.le_of_ble_eq_true rfl) rfl wd_1_96 pv_X1_2
    refine r_iload_n (pc := 78) ?_ dX7_partValue_78 rfl
    refine r_cv0 (pc := 79) ?_ dX7_partValue_79 cl_X5 ok_X5_hoursOfPart rfl wd_3_80 ⟨Nat.le_of_ble_eq_true rfl, Nat.le_of_ble_eq_true rfl⟩ ⟨Nat.le_of_ble_eq_true rfl, Nat.le_of_ble_eq_true rfl⟩ rfl rfl
    exact r_ir dX7_partValue_82 rfl (Nat.le_of_ble_eq_true rfl) (Nat.le_of_ble_eq_true rfl)
  · refine r_aload_n (pc := 40) ?_ dX7_partValue_40 rfl
    refine r_aload (pc := 41) ?_ dX7_partValue_41
    refine r_iload_n (pc := 43) ?_ dX7_partValue_43 rfl
    refine r_cv0 (pc := 44) ?_ dX7_partValue_44 cl_X7 ok_X7_needOf rfl wd_3_0 ⟨Nat.le_of_ble_eq_true rfl, Nat.le_of_ble_eq_true rfl⟩ ⟨Nat.le_of_ble_eq_true rfl, Nat.le_of_ble_eq_true rfl⟩ rfl rfl
    exact r_ir dX7_partValue_47 rfl (Nat.le_of_ble_eq_true rfl) (Nat.le_of_ble_eq_true rfl)
  · refine r_aload (pc := 48) ?_ dX7_partValue_48
    refine r_iload_n (pc := 50) ?_ dX7_partValue_50 rfl
    refine r_cv0 (pc := 51) ?_ dX7_partValue_51 cl_X1 ok_X1_doneIn rfl wd_3_4 ⟨Nat.le_of_ble_eq_true rfl, Nat.le_of_ble_eq_true rfl⟩ ⟨Nat.le_of_ble_eq_true rfl, Nat.le_of_ble_eq_true rfl⟩ rfl rfl
    exact r_ir dX7_partValue_54 rfl (Nat.le_of_ble_eq_true rfl) (Nat.le_of_ble_eq_true rfl)
  · refine r_aload_n (pc := 55) ?_ dX7_partValue_55 rfl
    refine r_aload (pc := 56) ?_ dX7_partValue_56
    refine r_iload_n (pc := 58) ?_ dX7_partValue_58 rfl
    refine r_cv0 (pc := 59) ?_ dX7_partValue_59 cl_X7 ok_X7_missingIn rfl wd_2_236 ⟨Nat.le_of_ble_eq_true rfl, Nat.le_of_ble_eq_true rfl⟩ ⟨Nat.le_of_ble_eq_true rfl, Nat.le_of_ble_eq_true rfl⟩ rfl rfl
    exact r_ir dX7_partValue_62 rfl (Nat.le_of_ble_eq_true rfl) (Nat.le_of_ble_eq_true rfl)
  · refine r_aload (pc := 63) ?_ dX7_partValue_63
    refine r_gp (pc := 65) (kf := 1) ?_ dX7_partValue_65 cl_X1 (Nat.le_of_ble_eq_true rfl) rfl wd_1_94 pv_X1_1
    refine r_iload_n (pc := 68) ?_ dX7_partValue_68 rfl
    refine r_cv0 (pc := 69) ?_ dX7_partValue_69 cl_X5 ok_X5_hoursOfPart rfl wd_3_80 ⟨Nat.le_of_ble_eq_true rfl, Nat.le_of_ble_eq_true rfl⟩ ⟨Nat.le_of_ble_eq_true rfl, Nat.le_of_ble_eq_true rfl⟩ rfl rfl
    exact r_ir dX7_partValue_72 rfl (Nat.le_of_ble_eq_true rfl) (Nat.le_of_ble_eq_true rfl)
abbrev Y_X7_entryValue : YT := (yX7_entryValue, cX7_entryValue, 6, (some .int), 2, 42, 0, 0)
theorem ok_X7_entryValue : okV Y_X7_entryValue 4 := ⟨⟨wd_3_94, wd_1_2, by decide, by decide, by decide +kernel⟩, wd_3_92, wd_3_93⟩
def R_X7_entryValue_0 (l : Launch) (G : GT) (F : FX) (Q : PQ) (QX : PX) : KT := (I_al 0 (I_il 1 (I_cv (Tr true l G Y_X7_apprenticeAt) 5 9 1 QX (I_as 5 (I_il 2 (I_ifeq (I_al 5 (I_gp 0 11 2 (I_il 3 (I_il 4 (I_cv (Tr true l G Y_X5_valueAt) 3 2 2 QX (I_ir Q)))))) (I_al 5 (I_gp 0 11 8 (I_il 3 (I_il 4 (I_cv (Tr true l G Y_X5_valueAt) 3 2 2 QX (I_ir Q))))))))))))
set_option maxRecDepth 100000 in
theorem g_X7_entryValue_0 {l : Launch} {G : GT} {F : FX} {Q : PQ} {QX : PX} : Le (R_X7_entryValue_0 l G F Q QX) (Wj true l G F Y_X7_entryValue Q QX 0 0 0) := by
  unfold R_X7_entryValue_0
  refine r_aload_n (pc := 0) ?_ dX7_entryValue_0 rfl
  refine r_iload_n (pc := 1) ?_ dX7_entryValue_1 rfl
  refine r_cv0 (pc := 2) ?_ dX7_entryValue_2 cl_X7 ok_X7_apprenticeAt rfl wd_3_57 ⟨Nat.le_of_ble_eq_true rfl, Nat.le_of_ble_eq_true rfl⟩ ⟨Nat.le_of_ble_eq_true rfl, Nat.le_of_ble_eq_true rfl⟩ rfl rfl
  refine r_astore (pc := 5) ?_ dX7_entryValue_5 (Nat.le_of_ble_eq_true rfl)
  refine r_iload_n (pc := 7) ?_ dX7_entryValue_7 rfl
  refine r_ifeq (pc := 8) (t := 25) ?_ ?_ dX7_entryValue_8 (by decide)
  · refine r_aload (pc := 25) ?_ dX7_entryValue_25
    refine r_gp (pc := 27) (kf := 1) ?_ dX7_entryValue_27 cl_X1 (Nat.le_of_ble_eq_true rfl) rfl wd_1_94 pv_X1_1
    refine r_iload_n (pc := 30) ?_ dX7_entryValue_30 rfl
    refine r_iload (pc := 31) ?_ dX7_entryValue_31
    refine r_cv0 (pc := 33) ?_ dX7_entryValue_33 cl_X5 ok_X5_valueAt rfl wd_3_95 ⟨Nat.le_of_ble_eq_true rfl, Nat.le_of_ble_eq_true rfl⟩ ⟨Nat.le_of_ble_eq_true rfl, Nat.le_of_ble_eq_true rfl⟩ rfl rfl
    exact r_ir dX7_entryValue_36 rfl (Nat.le_of_ble_eq_true rfl) (Nat.le_of_ble_eq_true rfl)
  · refine r_aload (pc := 11) ?_ dX7_entryValue_11
    refine r_gp (pc := 13) (kf := 2) ?_ dX7_entryValue_13 cl_X1 (Nat.le_of_ble_eq_true rfl) rfl wd_1_96 pv_X1_2
    refine r_iload_n (pc := 16) ?_ dX7_entryValue_16 rfl
    refine r_iload (pc := 17) ?_ dX7_entryValue_17
    refine r_cv0 (pc := 19) ?_ dX7_entryValue_19 cl_X5 ok_X5_valueAt rfl wd_3_95 ⟨Nat.le_of_ble_eq_true rfl, Nat.le_of_ble_eq_true rfl⟩ ⟨Nat.le_of_ble_eq_true rfl, Nat.le_of_ble_eq_true rfl⟩ rfl rfl
    refine r_goto (pc := 22) (t := 36) ?_ dX7_entryValue_22 (by decide)
    exact r_ir dX7_entryValue_36 rfl (Nat.le_of_ble_eq_true rfl) (Nat.le_of_ble_eq_true rfl)
abbrev Y_X7_sumOfApprentices : YT := (yX7_sumOfApprentices, cX7_sumOfApprentices, 5, (some .int), 3, 67, 0, 0)
theorem ok_X7_sumOfApprentices : okV Y_X7_sumOfApprentices 1 := ⟨⟨wd_2_231, wd_1_2, by decide, by decide, by decide +kernel⟩, wd_2_230, wp_4⟩
def R_X7_sumOfApprentices_0 (l : Launch) (G : GT) (F : FX) (Q : PQ) (QX : PX) : KT := (I_ic 0 (I_is 2 (I_ic 0 (I_is 3 (Wj true l G F Y_X7_sumOfApprentices Q QX 0 0 4)))))
set_option maxRecDepth 100000 in
theorem g_X7_sumOfApprentices_0 {l : Launch} {G : GT} {F : FX} {Q : PQ} {QX : PX} : Le (R_X7_sumOfApprentices_0 l G F Q QX) (Wj true l G F Y_X7_sumOfApprentices Q QX 0 0 0) := by
  unfold R_X7_sumOfApprentices_0
  refine r_iconst (pc := 0) ?_ dX7_sumOfApprentices_0 (by decide)
  refine r_istore_n (pc := 1) ?_ dX7_sumOfApprentices_1 rfl (Nat.le_of_ble_eq_true rfl)
  refine r_iconst (pc := 2) ?_ dX7_sumOfApprentices_2 (by decide)
  refine r_istore_n (pc := 3) ?_ dX7_sumOfApprentices_3 rfl (Nat.le_of_ble_eq_true rfl)
  exact Le.rf
def R_X7_sumOfApprentices_4 (l : Launch) (G : GT) (F : FX) (Q : PQ) (QX : PX) : KT := (I_il 3 (I_al 0 (I_gi 5 7 9 (I_icge (I_il 2 (I_ir Q)) (I_al 0 (I_gp 5 9 8 (I_il 3 (I_aal 4 26 18 (I_as 4 (I_il 1 (I_sw 4 [(I_il 2 (I_al 4 (I_gp 0 11 2 (I_gi 3 1 2 (I_iadd (I_is 2 (I_inc 3 1 (I_kl 4 (Wj true l G F Y_X7_sumOfApprentices Q QX 0 0 4))))))))), (I_il 2 (I_al 4 (I_gp 0 11 8 (I_gi 3 1 2 (I_iadd (I_is 2 (I_inc 3 1 (I_kl 4 (Wj true l G F Y_X7_sumOfApprentices Q QX 0 0 4))))))))), (I_il 2 (I_al 0 (I_al 4 (I_cv (Tr true l G Y_X7_isComplete) 5 9 1 QX (I_ifeq (I_ic 0 (I_iadd (I_is 2 (I_inc 3 1 (I_kl 4 (Wj true l G F Y_X7_sumOfApprentices Q QX 0 0 4)))))) (I_ic 1 (I_iadd (I_is 2 (I_inc 3 1 (I_kl 4 (Wj true l G F Y_X7_sumOfApprentices Q QX 0 0 4)))))))))))] (I_il 2 (I_al 4 (I_gi 0 7 11 (I_iadd (I_is 2 (I_inc 3 1 (I_kl 4 (Wj true l G F Y_X7_sumOfApprentices Q QX 0 0 4)))))))))))))))))))
set_option maxRecDepth 100000 in
theorem g_X7_sumOfApprentices_4 {l : Launch} {G : GT} {F : FX} {Q : PQ} {QX : PX} : Le (R_X7_sumOfApprentices_4 l G F Q QX) (Wj true l G F Y_X7_sumOfApprentices Q QX 0 0 4) := by
  unfold R_X7_sumOfApprentices_4
  refine r_iload_n (pc := 4) ?_ dX7_sumOfApprentices_4 rfl
  refine r_aload_n (pc := 5) ?_ dX7_sumOfApprentices_5 rfl
  refine r_gi (pc := 6) ?_ dX7_sumOfApprentices_6 cl_X7 (Nat.le_of_ble_eq_true rfl) rfl wd_1_145
  refine r_icge (pc := 9) (t := 110) ?_ ?_ dX7_sumOfApprentices_9 (by decide)
  · refine r_iload_n (pc := 110) ?_ dX7_sumOfApprentices_110 rfl
    exact r_ir dX7_sumOfApprentices_111 rfl (Nat.le_of_ble_eq_true rfl) (Nat.le_of_ble_eq_true rfl)
  · refine r_aload_n (pc := 12) ?_ dX7_sumOfApprentices_12 rfl
    refine r_gp (pc := 13) (kf := 2) ?_ dX7_sumOfApprentices_13 cl_X7 (Nat.le_of_ble_eq_true rfl) rfl wd_1_138 pv_X7_2
    refine r_iload_n (pc := 16) ?_ dX7_sumOfApprentices_16 rfl
    refine r_aal (pc := 17) ?_ dX7_sumOfApprentices_17 rfl rfl pa_4
    refine r_astore (pc := 18) ?_ dX7_sumOfApprentices_18 (Nat.le_of_ble_eq_true rfl)
    refine r_iload_n (pc := 20) ?_ dX7_sumOfApprentices_20 rfl
    refine r_sw (pc := 21) (t := 96) (os := [27, 41, 55]) ?_ ⟨⟨48, by decide, ?_⟩, ⟨⟨62, by decide, ?_⟩, ⟨⟨76, by decide, ?_⟩, trivial⟩⟩⟩ dX7_sumOfApprentices_21 rfl rfl (by decide)
    · refine r_iload_n (pc := 96) ?_ dX7_sumOfApprentices_96 rfl
      refine r_aload (pc := 97) ?_ dX7_sumOfApprentices_97
      refine r_gi (pc := 99) ?_ dX7_sumOfApprentices_99 cl_X1 (Nat.le_of_ble_eq_true rfl) rfl wd_1_106
      refine r_iadd (pc := 102) ?_ dX7_sumOfApprentices_102
      refine r_istore_n (pc := 103) ?_ dX7_sumOfApprentices_103 rfl (Nat.le_of_ble_eq_true rfl)
      refine r_iinc (pc := 104) ?_ dX7_sumOfApprentices_104 (by decide) (Nat.le_of_ble_eq_true rfl)
      refine r_goto (pc := 107) (t := 4) ?_ dX7_sumOfApprentices_107 (by decide)
      refine r_kl ?_
      exact Le.rf
    · refine r_iload_n (pc := 48) ?_ dX7_sumOfApprentices_48 rfl
      refine r_aload (pc := 49) ?_ dX7_sumOfApprentices_49
      refine r_gp (pc := 51) (kf := 1) ?_ dX7_sumOfApprentices_51 cl_X1 (Nat.le_of_ble_eq_true rfl) rfl wd_1_94 pv_X1_1
      refine r_gi (pc := 54) ?_ dX7_sumOfApprentices_54 cl_X5 (Nat.le_of_ble_eq_true rfl) rfl wd_1_71
      refine r_iadd (pc := 57) ?_ dX7_sumOfApprentices_57
      refine r_istore_n (pc := 58) ?_ dX7_sumOfApprentices_58 rfl (Nat.le_of_ble_eq_true rfl)
      refine r_goto (pc := 59) (t := 104) ?_ dX7_sumOfApprentices_59 (by decide)
      refine r_iinc (pc := 104) ?_ dX7_sumOfApprentices_104 (by decide) (Nat.le_of_ble_eq_true rfl)
      refine r_goto (pc := 107) (t := 4) ?_ dX7_sumOfApprentices_107 (by decide)
      refine r_kl ?_
      exact Le.rf
    · refine r_iload_n (pc := 62) ?_ dX7_sumOfApprentices_62 rfl
      refine r_aload (pc := 63) ?_ dX7_sumOfApprentices_63
      refine r_gp (pc := 65) (kf := 2) ?_ dX7_sumOfApprentices_65 cl_X1 (Nat.le_of_ble_eq_true rfl) rfl wd_1_96 pv_X1_2
      refine r_gi (pc := 68) ?_ dX7_sumOfApprentices_68 cl_X5 (Nat.le_of_ble_eq_true rfl) rfl wd_1_71
      refine r_iadd (pc := 71) ?_ dX7_sumOfApprentices_71
      refine r_istore_n (pc := 72) ?_ dX7_sumOfApprentices_72 rfl (Nat.le_of_ble_eq_true rfl)
      refine r_goto (pc := 73) (t := 104) ?_ dX7_sumOfApprentices_73 (by decide)
      refine r_iinc (pc := 104) ?_ dX7_sumOfApprentices_104 (by decide) (Nat.le_of_ble_eq_true rfl)
      refine r_goto (pc := 107) (t := 4) ?_ dX7_sumOfApprentices_107 (by decide)
      refine r_kl ?_
      exact Le.rf
    · refine r_iload_n (pc := 76) ?_ dX7_sumOfApprentices_76 rfl
      refine r_aload_n (pc := 77) ?_ dX7_sumOfApprentices_77 rfl
      refine r_aload (pc := 78) ?_ dX7_sumOfApprentices_78
      refine r_cv0 (pc := 80) ?_ dX7_sumOfApprentices_80 cl_X7 ok_X7_isComplete rfl wd_2_232 ⟨Nat.le_of_ble_eq_true rfl, Nat.le_of_ble_eq_true rfl⟩ ⟨Nat.le_of_ble_eq_true rfl, Nat.le_of_ble_eq_true rfl⟩ rfl rfl
      refine r_ifeq (pc := 83) (t := 90) ?_ ?_ dX7_sumOfApprentices_83 (by decide)
      · refine r_iconst (pc := 90) ?_ dX7_sumOfApprentices_90 (by decide)
        refine r_iadd (pc := 91) ?_ dX7_sumOfApprentices_91
        refine r_istore_n (pc := 92) ?_ dX7_sumOfApprentices_92 rfl (Nat.le_of_ble_eq_true rfl)
        refine r_goto (pc := 93) (t := 104) ?_ dX7_sumOfApprentices_93 (by decide)
        refine r_iinc (pc := 104) ?_ dX7_sumOfApprentices_104 (by decide) (Nat.le_of_ble_eq_true rfl)
        refine r_goto (pc := 107) (t := 4) ?_ dX7_sumOfApprentices_107 (by decide)
        refine r_kl ?_
        exact Le.rf
      · refine r_iconst (pc := 86) ?_ dX7_sumOfApprentices_86 (by decide)
        refine r_goto (pc := 87) (t := 91) ?_ dX7_sumOfApprentices_87 (by decide)
        refine r_iadd (pc := 91) ?_ dX7_sumOfApprentices_91
        refine r_istore_n (pc := 92) ?_ dX7_sumOfApprentices_92 rfl (Nat.le_of_ble_eq_true rfl)
        refine r_goto (pc := 93) (t := 104) ?_ dX7_sumOfApprentices_93 (by decide)
        refine r_iinc (pc := 104) ?_ dX7_sumOfApprentices_104 (by decide) (Nat.le_of_ble_eq_true rfl)
        refine r_goto (pc := 107) (t := 4) ?_ dX7_sumOfApprentices_107 (by decide)
        refine r_kl ?_
        exact Le.rf
abbrev Y_X7_wholeValue : YT := (yX7_wholeValue, cX7_wholeValue, 2, (some .int), 4, 91, 0, 0)
theorem ok_X7_wholeValue : okV Y_X7_wholeValue 1 := ⟨⟨wd_2_223, wd_1_2, by decide, by decide, by decide +kernel⟩, wd_2_221, wd_2_222⟩
def R_X7_wholeValue_0 (l : Launch) (G : GT) (F : FX) (Q : PQ) (QX : PX) : KT := (I_il 1 (I_sw 0 [(I_al 0 (I_gi 5 5 9 (I_ir Q))), (I_al 0 (I_gi 5 6 9 (I_ir Q))), (I_al 0 (I_gi 5 7 9 (I_ir Q))), (I_al 0 (I_gi 5 8 9 (I_ir Q))), (I_al 0 (I_il 1 (I_cv (Tr true l G Y_X7_sumOfApprentices) 5 9 1 QX (I_ir Q)))), (I_al 0 (I_il 1 (I_cv (Tr true l G Y_X7_sumOfApprentices) 5 9 1 QX (I_ir Q)))), (I_al 0 (I_il 1 (I_cv (Tr true l G Y_X7_sumOfApprentices) 5 9 1 QX (I_ir Q)))), (I_al 0 (I_ic (-1) (I_cv (Tr true l G Y_X7_apprenticesOf) 5 9 1 QX (I_ir Q))))] (I_al 0 (I_il 1 (I_cv (Tr true l G Y_X7_sumOfApprentices) 5 9 1 QX (I_ir Q))))))
set_option maxRecDepth 100000 in
theorem g_X7_wholeValue_0 {l : Launch} {G : GT} {F : FX} {Q : PQ} {QX : PX} : Le (R_X7_wholeValue_0 l G F Q QX) (Wj true l G F Y_X7_wholeValue Q QX 0 0 0) := by
  unfold R_X7_wholeValue_0
  refine r_iload_n (pc := 0) ?_ dX7_wholeValue_0 rfl
  refine r_sw (pc := 1) (t := 74) (os := [47, 52, 57, 62, 73, 73, 73, 67]) ?_ ⟨⟨48, by decide, ?_⟩, ⟨⟨53, by decide, ?_⟩, ⟨⟨58, by decide, ?_⟩, ⟨⟨63, by decide, ?_⟩, ⟨⟨74, by decide, ?_⟩, ⟨⟨74, by decide, ?_⟩, ⟨⟨74, by decide, ?_⟩, ⟨⟨68, by decide, ?_⟩, trivial⟩⟩⟩⟩⟩⟩⟩⟩ dX7_wholeValue_1 rfl rfl (by decide)
  · refine r_aload_n (pc := 74) ?_ dX7_wholeValue_74 rfl
    refine r_iload_n (pc := 75) ?_ dX7_wholeValue_75 rfl
    refine r_cv0 (pc := 76) ?_ dX7_wholeValue_76 cl_X7 ok_X7_sumOfApprentices rfl wd_2_228 ⟨Nat.le_of_ble_eq_true rfl, Nat.le_of_ble_eq_true rfl⟩ ⟨Nat.le_of_ble_eq_true rfl, Nat.le_of_ble_eq_true rfl⟩ rfl rfl
    exact r_ir dX7_wholeValue_79 rfl (Nat.le_of_ble_eq_true rfl) (Nat.le_of_ble_eq_true rfl)
  · refine r_aload_n (pc := 48) ?_ dX7_wholeValue_48 rfl
    refine r_gi (pc := 49) ?_ dX7_wholeValue_49 cl_X7 (Nat.le_of_ble_eq_true rfl) rfl wd_1_141
    exact r_ir dX7_wholeValue_52 rfl (Nat.le_of_ble_eq_true rfl) (Nat.le_of_ble_eq_true rfl)
  · refine r_aload_n (pc := 53) ?_ dX7_wholeValue_53 rfl
    refine r_gi (pc := 54) ?_ dX7_wholeValue_54 cl_X7 (Nat.le_of_ble_eq_true rfl) rfl wd_1_143
    exact r_ir dX7_wholeValue_57 rfl (Nat.le_of_ble_eq_true rfl) (Nat.le_of_ble_eq_true rfl)
  · refine r_aload_n (pc := 58) ?_ dX7_wholeValue_58 rfl
    refine r_gi (pc := 59) ?_ dX7_wholeValue_59 cl_X7 (Nat.le_of_ble_eq_true rfl) rfl wd_1_145
    exact r_ir dX7_wholeValue_62 rfl (Nat.le_of_ble_eq_true rfl) (Nat.le_of_ble_eq_true rfl)
  · refine r_aload_n (pc := 63) ?_ dX7_wholeValue_63 rfl
    refine r_gi (pc := 64) ?_ dX7_wholeValue_64 cl_X7 (Nat.le_of_ble_eq_true rfl) rfl wd_1_147
    exact r_ir dX7_wholeValue_67 rfl (Nat.le_of_ble_eq_true rfl) (Nat.le_of_ble_eq_true rfl)
  · refine r_aload_n (pc := 74) ?_ dX7_wholeValue_74 rfl
    refine r_iload_n (pc := 75) ?_ dX7_wholeValue_75 rfl
    refine r_cv0 (pc := 76) ?_ dX7_wholeValue_76 cl_X7 ok_X7_sumOfApprentices rfl wd_2_228 ⟨Nat.le_of_ble_eq_true rfl, Nat.le_of_ble_eq_true rfl⟩ ⟨Nat.le_of_ble_eq_true rfl, Nat.le_of_ble_eq_true rfl⟩ rfl rfl
    exact r_ir dX7_wholeValue_79 rfl (Nat.le_of_ble_eq_true rfl) (Nat.le_of_ble_eq_true rfl)
  · refine r_aload_n (pc := 74) ?_ dX7_wholeValue_74 rfl
    refine r_iload_n (pc := 75) ?_ dX7_wholeValue_75 rfl
    refine r_cv0 (pc := 76) ?_ dX7_wholeValue_76 cl_X7 ok_X7_sumOfApprentices rfl wd_2_228 ⟨Nat.le_of_ble_eq_true rfl, Nat.le_of_ble_eq_true rfl⟩ ⟨Nat.le_of_ble_eq_true rfl, Nat.le_of_ble_eq_true rfl⟩ rfl rfl
    exact r_ir dX7_wholeValue_79 rfl (Nat.le_of_ble_eq_true rfl) (Nat.le_of_ble_eq_true rfl)
  · refine r_aload_n (pc := 74) ?_ dX7_wholeValue_74 rfl
    refine r_iload_n (pc := 75) ?_ dX7_wholeValue_75 rfl
    refine r_cv0 (pc := 76) ?_ dX7_wholeValue_76 cl_X7 ok_X7_sumOfApprentices rfl wd_2_228 ⟨Nat.le_of_ble_eq_true rfl, Nat.le_of_ble_eq_true rfl⟩ ⟨Nat.le_of_ble_eq_true rfl, Nat.le_of_ble_eq_true rfl⟩ rfl rfl
    exact r_ir dX7_wholeValue_79 rfl (Nat.le_of_ble_eq_true rfl) (Nat.le_of_ble_eq_true rfl)
  · refine r_aload_n (pc := 68) ?_ dX7_wholeValue_68 rfl
    refine r_iconst (pc := 69) ?_ dX7_wholeValue_69 (by decide)
    refine r_cv0 (pc := 70) ?_ dX7_wholeValue_70 cl_X7 ok_X7_apprenticesOf rfl wd_2_224 ⟨Nat.le_of_ble_eq_true rfl, Nat.le_of_ble_eq_true rfl⟩ ⟨Nat.le_of_ble_eq_true rfl, Nat.le_of_ble_eq_true rfl⟩ rfl rfl
    exact r_ir dX7_wholeValue_73 rfl (Nat.le_of_ble_eq_true rfl) (Nat.le_of_ble_eq_true rfl)
abbrev Y_X7_completionDay : YT := (yX7_completionDay, cX7_completionDay, 6, (some .int), 2, 46, 0, 0)
theorem ok_X7_completionDay : okV Y_X7_completionDay 2 := ⟨⟨wd_4_227, wd_1_2, by decide, by decide, by decide +kernel⟩, wd_4_225, wd_4_226⟩
def R_X7_completionDay_0 (l : Launch) (G : GT) (F : FX) (Q : PQ) (QX : PX) : KT := (I_al 0 (I_il 1 (I_cv (Tr true l G Y_X7_apprenticeAt) 5 9 1 QX (I_as 3 (I_ic 0 (I_is 4 (I_ic 0 (I_is 5 (I_kl 1 (Wj true l G F Y_X7_completionDay Q QX 0 0 12))))))))))
set_option maxRecDepth 100000 in
theorem g_X7_completionDay_0 {l : Launch} {G : GT} {F : FX} {Q : PQ} {QX : PX} : Le (R_X7_completionDay_0 l G F Q QX) (Wj true l G F Y_X7_completionDay Q QX 0 0 0) := by
  unfold R_X7_completionDay_0
  refine r_aload_n (pc := 0) ?_ dX7_completionDay_0 rfl
  refine r_iload_n (pc := 1) ?_ dX7_completionDay_1 rfl
  refine r_cv0 (pc := 2) ?_ dX7_completionDay_2 cl_X7 ok_X7_apprenticeAt rfl wd_3_57 ⟨Nat.le_of_ble_eq_true rfl, Nat.le_of_ble_eq_true rfl⟩ ⟨Nat.le_of_ble_eq_true rfl, Nat.le_of_ble_eq_true rfl⟩ rfl rfl
  refine r_astore_n (pc := 5) ?_ dX7_completionDay_5 rfl (Nat.le_of_ble_eq_true rfl)
  refine r_iconst (pc := 6) ?_ dX7_completionDay_6 (by decide)
  refine r_istore (pc := 7) ?_ dX7_completionDay_7 (Nat.le_of_ble_eq_true rfl)
  refine r_iconst (pc := 9) ?_ dX7_completionDay_9 (by decide)
  refine r_istore (pc := 10) ?_ dX7_completionDay_10 (Nat.le_of_ble_eq_true rfl)
  refine r_kl ?_
  exact Le.rf
def R_X7_completionDay_12 (l : Launch) (G : GT) (F : FX) (Q : PQ) (QX : PX) : KT := (I_il 5 (I_ic 3 (I_icge (I_il 4 (I_ifne (I_ic 0 (I_is 5 (Wj true l G F Y_X7_completionDay Q QX 0 0 63))) (I_al 0 (I_gi 5 8 9 (I_ir Q))))) (I_il 4 (I_ic 0 (I_al 0 (I_al 3 (I_il 5 (I_cv (Tr true l G Y_X7_missingIn) 5 9 2 QX (I_al 3 (I_gp 0 11 2 (I_il 5 (I_cv (Tr true l G Y_X5_hoursOfPart) 3 2 1 QX (I_isub (I_max (I_iadd (I_is 4 (I_inc 5 1 (Wj true l G F Y_X7_completionDay Q QX 0 0 12)))))))))))))))))))
set_option maxRecDepth 100000 in
theorem g_X7_completionDay_12 {l : Launch} {G : GT} {F : FX} {Q : PQ} {QX : PX} : Le (R_X7_completionDay_12 l G F Q QX) (Wj true l G F Y_X7_completionDay Q QX 0 0 12) := by
  unfold R_X7_completionDay_12
  refine r_iload (pc := 12) ?_ dX7_completionDay_12
  refine r_iconst (pc := 14) ?_ dX7_completionDay_14 (by decide)
  refine r_icge (pc := 15) (t := 50) ?_ ?_ dX7_completionDay_15 (by decide)
  · refine r_iload (pc := 50) ?_ dX7_completionDay_50
    refine r_ifne (pc := 52) (t := 60) ?_ ?_ dX7_completionDay_52 (by decide)
    · refine r_iconst (pc := 60) ?_ dX7_completionDay_60 (by decide)
      refine r_istore (pc := 61) ?_ dX7_completionDay_61 (Nat.le_of_ble_eq_true rfl)
      exact Le.rf
    · refine r_aload_n (pc := 55) ?_ dX7_completionDay_55 rfl
      refine r_gi (pc := 56) ?_ dX7_completionDay_56 cl_X7 (Nat.le_of_ble_eq_true rfl) rfl wd_1_147
      exact r_ir dX7_completionDay_59 rfl (Nat.le_of_ble_eq_true rfl) (Nat.le_of_ble_eq_true rfl)
  · refine r_iload (pc := 18) ?_ dX7_completionDay_18
    refine r_iconst (pc := 20) ?_ dX7_completionDay_20 (by decide)
    refine r_aload_n (pc := 21) ?_ dX7_completionDay_21 rfl
    refine r_aload_n (pc := 22) ?_ dX7_completionDay_22 rfl
    refine r_iload (pc := 23) ?_ dX7_completionDay_23
    refine r_cv0 (pc := 25) ?_ dX7_completionDay_25 cl_X7 ok_X7_missingIn rfl wd_2_236 ⟨Nat.le_of_ble_eq_true rfl, Nat.le_of_ble_eq_true rfl⟩ ⟨Nat.le_of_ble_eq_true rfl, Nat.le_of_ble_eq_true rfl⟩ rfl rfl
    refine r_aload_n (pc := 28) ?_ dX7_completionDay_28 rfl
    refine r_gp (pc := 29) (kf := 1) ?_ dX7_completionDay_29 cl_X1 (Nat.le_of_ble_eq_true rfl) rfl wd_1_94 pv_X1_1
    refine r_iload (pc := 32) ?_ dX7_completionDay_32
    refine r_cv0 (pc := 34) ?_ dX7_completionDay_34 cl_X5 ok_X5_hoursOfPart rfl wd_3_80 ⟨Nat.le_of_ble_eq_true rfl, Nat.le_of_ble_eq_true rfl⟩ ⟨Nat.le_of_ble_eq_true rfl, Nat.le_of_ble_eq_true rfl⟩ rfl rfl
    refine r_isub (pc := 37) ?_ dX7_completionDay_37
    refine r_max (pc := 38) ?_ dX7_completionDay_38 wd_3_8 wd_3_9 wd_1_16 wd_3_10 ⟨Nat.le_of_ble_eq_true rfl, Nat.le_of_ble_eq_true rfl⟩ ⟨Nat.le_of_ble_eq_true rfl, Nat.le_of_ble_eq_true rfl⟩
    refine r_iadd (pc := 41) ?_ dX7_completionDay_41
    refine r_istore (pc := 42) ?_ dX7_completionDay_42 (Nat.le_of_ble_eq_true rfl)
    refine r_iinc (pc := 44) ?_ dX7_completionDay_44 (by decide) (Nat.le_of_ble_eq_true rfl)
    refine r_goto (pc := 47) (t := 12) ?_ dX7_completionDay_47 (by decide)
    exact Le.rf
def R_X7_completionDay_63 (l : Launch) (G : GT) (F : FX) (Q : PQ) (QX : PX) : KT := (I_il 5 (I_ic 2000 (I_icge (I_ic (-1) (I_ir Q)) (I_il 4 (I_al 3 (I_gp 0 11 14 (I_al 0 (I_gi 5 8 9 (I_il 5 (I_iadd (I_cv (Tr true l G Y_X4_has) 2 2 1 QX (I_ifeq (I_il 2 (I_isub (I_is 4 (I_il 4 (I_ifgt (I_inc 5 1 (Wj true l G F Y_X7_completionDay Q QX 0 0 63)) (I_al 0 (I_gi 5 8 9 (I_il 5 (I_iadd (I_ir Q)))))))))) (I_ic 0 (I_isub (I_is 4 (I_il 4 (I_ifgt (I_inc 5 1 (Wj true l G F Y_X7_completionDay Q QX 0 0 63)) (I_al 0 (I_gi 5 8 9 (I_il 5 (I_iadd (I_ir Q))))))))))))))))))))))
set_option maxRecDepth 100000 in
theorem g_X7_completionDay_63 {l : Launch} {G : GT} {F : FX} {Q : PQ} {QX : PX} : Le (R_X7_completionDay_63 l G F Q QX) (Wj true l G F Y_X7_completionDay Q QX 0 0 63) := by
  unfold R_X7_completionDay_63
  refine r_iload (pc := 63) ?_ dX7_completionDay_63
  refine r_sipush (pc := 65) ?_ dX7_completionDay_65 (by decide)
  refine r_icge (pc := 68) (t := 117) ?_ ?_ dX7_completionDay_68 (by decide)
  · refine r_iconst (pc := 117) ?_ dX7_completionDay_117 (by decide)
    exact r_ir dX7_completionDay_118 rfl (Nat.le_of_ble_eq_true rfl) (Nat.le_of_ble_eq_true rfl)
  · refine r_iload (pc := 71) ?_ dX7_completionDay_71
    refine r_aload_n (pc := 73) ?_ dX7_completionDay_73 rfl
    refine r_gp (pc := 74) (kf := 3) ?_ dX7_completionDay_74 cl_X1 (Nat.le_of_ble_eq_true rfl) rfl wd_1_98 pv_X1_3
    refine r_aload_n (pc := 77) ?_ dX7_completionDay_77 rfl
    refine r_gi (pc := 78) ?_ dX7_completionDay_78 cl_X7 (Nat.le_of_ble_eq_true rfl) rfl wd_1_147
    refine r_iload (pc := 81) ?_ dX7_completionDay_81
    refine r_iadd (pc := 83) ?_ dX7_completionDay_83
    refine r_cv0 (pc := 84) ?_ dX7_completionDay_84 cl_X4 ok_X4_has rfl wd_3_188 ⟨Nat.le_of_ble_eq_true rfl, Nat.le_of_ble_eq_true rfl⟩ ⟨Nat.le_of_ble_eq_true rfl, Nat.le_of_ble_eq_true rfl⟩ rfl rfl
    refine r_ifeq (pc := 87) (t := 94) ?_ ?_ dX7_completionDay_87 (by decide)
    · refine r_iload_n (pc := 94) ?_ dX7_completionDay_94 rfl
      refine r_isub (pc := 95) ?_ dX7_completionDay_95
      refine r_istore (pc := 96) ?_ dX7_completionDay_96 (Nat.le_of_ble_eq_true rfl)
      refine r_iload (pc := 98) ?_ dX7_completionDay_98
      refine r_ifgt (pc := 100) (t := 111) ?_ ?_ dX7_completionDay_100 (by decide)
      · refine r_iinc (pc := 111) ?_ dX7_completionDay_111 (by decide) (Nat.le_of_ble_eq_true rfl)
        refine r_goto (pc := 114) (t := 63) ?_ dX7_completionDay_114 (by decide)
        exact Le.rf
      · refine r_aload_n (pc := 103) ?_ dX7_completionDay_103 rfl
        refine r_gi (pc := 104) ?_ dX7_completionDay_104 cl_X7 (Nat.le_of_ble_eq_true rfl) rfl wd_1_147
        refine r_iload (pc := 107) ?_ dX7_completionDay_107
        refine r_iadd (pc := 109) ?_ dX7_completionDay_109
        exact r_ir dX7_completionDay_110 rfl (Nat.le_of_ble_eq_true rfl) (Nat.le_of_ble_eq_true rfl)
    · refine r_iconst (pc := 90) ?_ dX7_completionDay_90 (by decide)
      refine r_goto (pc := 91) (t := 95) ?_ dX7_completionDay_91 (by decide)
      refine r_isub (pc := 95) ?_ dX7_completionDay_95
      refine r_istore (pc := 96) ?_ dX7_completionDay_96 (Nat.le_of_ble_eq_true rfl)
      refine r_iload (pc := 98) ?_ dX7_completionDay_98
      refine r_ifgt (pc := 100) (t := 111) ?_ ?_ dX7_completionDay_100 (by decide)
      · refine r_iinc (pc := 111) ?_ dX7_completionDay_111 (by decide) (Nat.le_of_ble_eq_true rfl)
        refine r_goto (pc := 114) (t := 63) ?_ dX7_completionDay_114 (by decide)
        exact Le.rf
      · refine r_aload_n (pc := 103) ?_ dX7_completionDay_103 rfl
        refine r_gi (pc := 104) ?_ dX7_completionDay_104 cl_X7 (Nat.le_of_ble_eq_true rfl) rfl wd_1_147
        refine r_iload (pc := 107) ?_ dX7_completionDay_107
        refine r_iadd (pc := 109) ?_ dX7_completionDay_109
        exact r_ir dX7_completionDay_110 rfl (Nat.le_of_ble_eq_true rfl) (Nat.le_of_ble_eq_true rfl)
abbrev Y_X7_isLessBusy : YT := (yX7_isLessBusy, cX7_isLessBusy, 3, (some .boolean), 2, 42, 0, 0)
theorem ok_X7_isLessBusy : okV Y_X7_isLessBusy 2 := ⟨⟨wd_4_180, wd_1_2, by decide, by decide, by decide +kernel⟩, wd_4_179, wp_23⟩
def R_X7_isLessBusy_0 (l : Launch) (G : GT) (F : FX) (Q : PQ) (QX : PX) : KT := (I_al 0 (I_il 1 (I_cv (Tr true l G Y_X7_apprenticesOf) 5 9 1 QX (I_ic 1 (I_iadd (I_al 0 (I_il 2 (I_cv (Tr true l G Y_X7_mentorAt) 5 9 1 QX (I_gi 4 0 3 (I_imul (I_al 0 (I_il 2 (I_cv (Tr true l G Y_X7_apprenticesOf) 5 9 1 QX (I_ic 1 (I_iadd (I_al 0 (I_il 1 (I_cv (Tr true l G Y_X7_mentorAt) 5 9 1 QX (I_gi 4 0 3 (I_imul (I_icge (I_ic 0 (I_zr Q)) (I_ic 1 (I_zr Q)))))))))))))))))))))))
set_option maxRecDepth 100000 in
theorem g_X7_isLessBusy_0 {l : Launch} {G : GT} {F : FX} {Q : PQ} {QX : PX} : Le (R_X7_isLessBusy_0 l G F Q QX) (Wj true l G F Y_X7_isLessBusy Q QX 0 0 0) := by
  unfold R_X7_isLessBusy_0
  refine r_aload_n (pc := 0) ?_ dX7_isLessBusy_0 rfl
  refine r_iload_n (pc := 1) ?_ dX7_isLessBusy_1 rfl
  refine r_cv0 (pc := 2) ?_ dX7_isLessBusy_2 cl_X7 ok_X7_apprenticesOf rfl wd_2_224 ⟨Nat.le_of_ble_eq_true rfl, Nat.le_of_ble_eq_true rfl⟩ ⟨Nat.le_of_ble_eq_true rfl, Nat.le_of_ble_eq_true rfl⟩ rfl rfl
  refine r_iconst (pc := 5) ?_ dX7_isLessBusy_5 (by decide)
  refine r_iadd (pc := 6) ?_ dX7_isLessBusy_6
  refine r_aload_n (pc := 7) ?_ dX7_isLessBusy_7 rfl
  refine r_iload_n (pc := 8) ?_ dX7_isLessBusy_8 rfl
  refine r_cv0 (pc := 9) ?_ dX7_isLessBusy_9 cl_X7 ok_X7_mentorAt rfl wd_3_27 ⟨Nat.le_of_ble_eq_true rfl, Nat.le_of_ble_eq_true rfl⟩ ⟨Nat.le_of_ble_eq_true rfl, Nat.le_of_ble_eq_true rfl⟩ rfl rfl
  refine r_gi (pc := 12) ?_ dX7_isLessBusy_12 cl_X6 (Nat.le_of_ble_eq_true rfl) rfl wd_1_43
  refine r_imul (pc := 15) ?_ dX7_isLessBusy_15
  refine r_aload_n (pc := 16) ?_ dX7_isLessBusy_16 rfl
  refine r_iload_n (pc := 17) ?_ dX7_isLessBusy_17 rfl
  refine r_cv0 (pc := 18) ?_ dX7_isLessBusy_18 cl_X7 ok_X7_apprenticesOf rfl wd_2_224 ⟨Nat.le_of_ble_eq_true rfl, Nat.le_of_ble_eq_true rfl⟩ ⟨Nat.le_of_ble_eq_true rfl, Nat.le_of_ble_eq_true rfl⟩ rfl rfl
  refine r_iconst (pc := 21) ?_ dX7_isLessBusy_21 (by decide)
  refine r_iadd (pc := 22) ?_ dX7_isLessBusy_22
  refine r_aload_n (pc := 23) ?_ dX7_isLessBusy_23 rfl
  refine r_iload_n (pc := 24) ?_ dX7_isLessBusy_24 rfl
  refine r_cv0 (pc := 25) ?_ dX7_isLessBusy_25 cl_X7 ok_X7_mentorAt rfl wd_3_27 ⟨Nat.le_of_ble_eq_true rfl, Nat.le_of_ble_eq_true rfl⟩ ⟨Nat.le_of_ble_eq_true rfl, Nat.le_of_ble_eq_true rfl⟩ rfl rfl
  refine r_gi (pc := 28) ?_ dX7_isLessBusy_28 cl_X6 (Nat.le_of_ble_eq_true rfl) rfl wd_1_43
  refine r_imul (pc := 31) ?_ dX7_isLessBusy_31
  refine r_icge (pc := 32) (t := 39) ?_ ?_ dX7_isLessBusy_32 (by decide)
  · refine r_iconst (pc := 39) ?_ dX7_isLessBusy_39 (by decide)
    exact r_zr dX7_isLessBusy_40 rfl (Nat.le_of_ble_eq_true rfl) (Nat.le_of_ble_eq_true rfl)
  · refine r_iconst (pc := 35) ?_ dX7_isLessBusy_35 (by decide)
    refine r_goto (pc := 36) (t := 40) ?_ dX7_isLessBusy_36 (by decide)
    exact r_zr dX7_isLessBusy_40 rfl (Nat.le_of_ble_eq_true rfl) (Nat.le_of_ble_eq_true rfl)
abbrev Y_X7_leastBusyMentor : YT := (yX7_leastBusyMentor, cX7_leastBusyMentor, 4, (some .int), 4, 87, 0, 0)
theorem ok_X7_leastBusyMentor : okV Y_X7_leastBusyMentor 1 := ⟨⟨wd_4_175, wd_1_2, by decide, by decide, by decide +kernel⟩, wd_4_173, wd_4_174⟩
def R_X7_leastBusyMentor_0 (l : Launch) (G : GT) (F : FX) (Q : PQ) (QX : PX) : KT := (I_ic (-1) (I_is 2 (I_ic 0 (I_is 3 (Wj true l G F Y_X7_leastBusyMentor Q QX 0 0 4)))))
set_option maxRecDepth 100000 in
theorem g_X7_leastBusyMentor_0 {l : Launch} {G : GT} {F : FX} {Q : PQ} {QX : PX} : Le (R_X7_leastBusyMentor_0 l G F Q QX) (Wj true l G F Y_X7_leastBusyMentor Q QX 0 0 0) := by
  unfold R_X7_leastBusyMentor_0
  refine r_iconst (pc := 0) ?_ dX7_leastBusyMentor_0 (by decide)
  refine r_istore_n (pc := 1) ?_ dX7_leastBusyMentor_1 rfl (Nat.le_of_ble_eq_true rfl)
  refine r_iconst (pc := 2) ?_ dX7_leastBusyMentor_2 (by decide)
  refine r_istore_n (pc := 3) ?_ dX7_leastBusyMentor_3 rfl (Nat.le_of_ble_eq_true rfl)
  exact Le.rf
def R_X7_leastBusyMentor_4 (l : Launch) (G : GT) (F : FX) (Q : PQ) (QX : PX) : KT := (I_il 3 (I_al 0 (I_gi 5 6 9 (I_icge (I_il 2 (I_ir Q)) (I_al 0 (I_il 1 (I_il 3 (I_cv (Tr true l G Y_X7_obstacle) 5 9 2 QX (I_ifne (I_inc 3 1 (Wj true l G F Y_X7_leastBusyMentor Q QX 0 0 4)) (I_il 2 (I_ic (-1) (I_iceq (I_il 3 (I_is 2 (I_inc 3 1 (Wj true l G F Y_X7_leastBusyMentor Q QX 0 0 4)))) (I_al 0 (I_il 3 (I_il 2 (I_cv (Tr true l G Y_X7_isLessBusy) 5 9 2 QX (I_ifeq (I_inc 3 1 (Wj true l G F Y_X7_leastBusyMentor Q QX 0 0 4)) (I_il 3 (I_is 2 (I_inc 3 1 (Wj true l G F Y_X7_leastBusyMentor Q QX 0 0 4)))))))))))))))))))))
set_option maxRecDepth 100000 in
theorem g_X7_leastBusyMentor_4 {l : Launch} {G : GT} {F : FX} {Q : PQ} {QX : PX} : Le (R_X7_leastBusyMentor_4 l G F Q QX) (Wj true l G F Y_X7_leastBusyMentor Q QX 0 0 4) := by
  unfold R_X7_leastBusyMentor_4
  refine r_iload_n (pc := 4) ?_ dX7_leastBusyMentor_4 rfl
  refine r_aload_n (pc := 5) ?_ dX7_leastBusyMentor_5 rfl
  refine r_gi (pc := 6) ?_ dX7_leastBusyMentor_6 cl_X7 (Nat.le_of_ble_eq_true rfl) rfl wd_1_143
  refine r_icge (pc := 9) (t := 43) ?_ ?_ dX7_leastBusyMentor_9 (by decide)
  · refine r_iload_n (pc := 43) ?_ dX7_leastBusyMentor_43 rfl
    exact r_ir dX7_leastBusyMentor_44 rfl (Nat.le_of_ble_eq_true rfl) (Nat.le_of_ble_eq_true rfl)
  · refine r_aload_n (pc := 12) ?_ dX7_leastBusyMentor_12 rfl
    refine r_iload_n (pc := 13) ?_ dX7_leastBusyMentor_13 rfl
    refine r_iload_n (pc := 14) ?_ dX7_leastBusyMentor_14 rfl
    refine r_cv0 (pc := 15) ?_ dX7_leastBusyMentor_15 cl_X7 ok_X7_obstacle rfl wd_4_176 ⟨Nat.le_of_ble_eq_true rfl, Nat.le_of_ble_eq_true rfl⟩ ⟨Nat.le_of_ble_eq_true rfl, Nat.le_of_ble_eq_true rfl⟩ rfl rfl
    refine r_ifne (pc := 18) (t := 37) ?_ ?_ dX7_leastBusyMentor_18 (by decide)
    · refine r_iinc (pc := 37) ?_ dX7_leastBusyMentor_37 (by decide) (Nat.le_of_ble_eq_true rfl)
      refine r_goto (pc := 40) (t := 4) ?_ dX7_leastBusyMentor_40 (by decide)
      exact Le.rf
    · refine r_iload_n (pc := 21) ?_ dX7_leastBusyMentor_21 rfl
      refine r_iconst (pc := 22) ?_ dX7_leastBusyMentor_22 (by decide)
      refine r_iceq (pc := 23) (t := 35) ?_ ?_ dX7_leastBusyMentor_23 (by decide)
      · refine r_iload_n (pc := 35) ?_ dX7_leastBusyMentor_35 rfl
        refine r_istore_n (pc := 36) ?_ dX7_leastBusyMentor_36 rfl (Nat.le_of_ble_eq_true rfl)
        refine r_iinc (pc := 37) ?_ dX7_leastBusyMentor_37 (by decide) (Nat.le_of_ble_eq_true rfl)
        refine r_goto (pc := 40) (t := 4) ?_ dX7_leastBusyMentor_40 (by decide)
        exact Le.rf
      · refine r_aload_n (pc := 26) ?_ dX7_leastBusyMentor_26 rfl
        refine r_iload_n (pc := 27) ?_ dX7_leastBusyMentor_27 rfl
        refine r_iload_n (pc := 28) ?_ dX7_leastBusyMentor_28 rfl
        refine r_cv0 (pc := 29) ?_ dX7_leastBusyMentor_29 cl_X7 ok_X7_isLessBusy rfl wd_4_177 ⟨Nat.le_of_ble_eq_true rfl, Nat.le_of_ble_eq_true rfl⟩ ⟨Nat.le_of_ble_eq_true rfl, Nat.le_of_ble_eq_true rfl⟩ rfl rfl
        refine r_ifeq (pc := 32) (t := 37) ?_ ?_ dX7_leastBusyMentor_32 (by decide)
        · refine r_iinc (pc := 37) ?_ dX7_leastBusyMentor_37 (by decide) (Nat.le_of_ble_eq_true rfl)
          refine r_goto (pc := 40) (t := 4) ?_ dX7_leastBusyMentor_40 (by decide)
          exact Le.rf
        · refine r_iload_n (pc := 35) ?_ dX7_leastBusyMentor_35 rfl
          refine r_istore_n (pc := 36) ?_ dX7_leastBusyMentor_36 rfl (Nat.le_of_ble_eq_true rfl)
          refine r_iinc (pc := 37) ?_ dX7_leastBusyMentor_37 (by decide) (Nat.le_of_ble_eq_true rfl)
          refine r_goto (pc := 40) (t := 4) ?_ dX7_leastBusyMentor_40 (by decide)
          exact Le.rf
abbrev Y_X7_doubtsOfExchange : YT := (yX7_doubtsOfExchange, cX7_doubtsOfExchange, 3, (some .int), 3, 67, 0, 0)
theorem ok_X7_doubtsOfExchange : okV Y_X7_doubtsOfExchange 2 := ⟨⟨wd_4_191, wd_1_2, by decide, by decide, by decide +kernel⟩, wd_4_189, wd_4_190⟩
def R_X7_doubtsOfExchange_0 (l : Launch) (G : GT) (F : FX) (Q : PQ) (QX : PX) : KT := (I_al 0 (I_il 1 (I_cv (Tr true l G Y_X7_apprenticeAt) 5 9 1 QX (I_al 0 (I_il 2 (I_cv (Tr true l G Y_X7_apprenticeAt) 5 9 1 QX (I_gi 0 6 11 (I_cv (Tr true l G Y_X1_doubtsWith) 0 11 1 QX (I_al 0 (I_il 2 (I_cv (Tr true l G Y_X7_apprenticeAt) 5 9 1 QX (I_al 0 (I_il 1 (I_cv (Tr true l G Y_X7_apprenticeAt) 5 9 1 QX (I_gi 0 6 11 (I_cv (Tr true l G Y_X1_doubtsWith) 0 11 1 QX (I_iadd (I_ir Q))))))))))))))))))
set_option maxRecDepth 100000 in
theorem g_X7_doubtsOfExchange_0 {l : Launch} {G : GT} {F : FX} {Q : PQ} {QX : PX} : Le (R_X7_doubtsOfExchange_0 l G F Q QX) (Wj true l G F Y_X7_doubtsOfExchange Q QX 0 0 0) := by
  unfold R_X7_doubtsOfExchange_0
  refine r_aload_n (pc := 0) ?_ dX7_doubtsOfExchange_0 rfl
  refine r_iload_n (pc := 1) ?_ dX7_doubtsOfExchange_1 rfl
  refine r_cv0 (pc := 2) ?_ dX7_doubtsOfExchange_2 cl_X7 ok_X7_apprenticeAt rfl wd_3_57 ⟨Nat.le_of_ble_eq_true rfl, Nat.le_of_ble_eq_true rfl⟩ ⟨Nat.le_of_ble_eq_true rfl, Nat.le_of_ble_eq_true rfl⟩ rfl rfl
  refine r_aload_n (pc := 5) ?_ dX7_doubtsOfExchange_5 rfl
  refine r_iload_n (pc := 6) ?_ dX7_doubtsOfExchange_6 rfl
  refine r_cv0 (pc := 7) ?_ dX7_doubtsOfExchange_7 cl_X7 ok_X7_apprenticeAt rfl wd_3_57 ⟨Nat.le_of_ble_eq_true rfl, Nat.le_of_ble_eq_true rfl⟩ ⟨Nat.le_of_ble_eq_true rfl, Nat.le_of_ble_eq_true rfl⟩ rfl rfl
  refine r_gi (pc := 10) ?_ dX7_doubtsOfExchange_10 cl_X1 (Nat.le_of_ble_eq_true rfl) rfl wd_1_104
  refine r_cv0 (pc := 13) ?_ dX7_doubtsOfExchange_13 cl_X1 ok_X1_doubtsWith rfl wd_4_192 ⟨Nat.le_of_ble_eq_true rfl, Nat.le_of_ble_eq_true rfl⟩ ⟨Nat.le_of_ble_eq_true rfl, Nat.le_of_ble_eq_true rfl⟩ rfl rfl
  refine r_aload_n (pc := 16) ?_ dX7_doubtsOfExchange_16 rfl
  refine r_iload_n (pc := 17) ?_ dX7_doubtsOfExchange_17 rfl
  refine r_cv0 (pc := 18) ?_ dX7_doubtsOfExchange_18 cl_X7 ok_X7_apprenticeAt rfl wd_3_57 ⟨Nat.le_of_ble_eq_true rfl, Nat.le_of_ble_eq_true rfl⟩ ⟨Nat.le_of_ble_eq_true rfl, Nat.le_of_ble_eq_true rfl⟩ rfl rfl
  refine r_aload_n (pc := 21) ?_ dX7_doubtsOfExchange_21 rfl
  refine r_iload_n (pc := 22) ?_ dX7_doubtsOfExchange_22 rfl
  refine r_cv0 (pc := 23) ?_ dX7_doubtsOfExchange_23 cl_X7 ok_X7_apprenticeAt rfl wd_3_57 ⟨Nat.le_of_ble_eq_true rfl, Nat.le_of_ble_eq_true rfl⟩ ⟨Nat.le_of_ble_eq_true rfl, Nat.le_of_ble_eq_true rfl⟩ rfl rfl
  refine r_gi (pc := 26) ?_ dX7_doubtsOfExchange_26 cl_X1 (Nat.le_of_ble_eq_true rfl) rfl wd_1_104
  refine r_cv0 (pc := 29) ?_ dX7_doubtsOfExchange_29 cl_X1 ok_X1_doubtsWith rfl wd_4_192 ⟨Nat.le_of_ble_eq_true rfl, Nat.le_of_ble_eq_true rfl⟩ ⟨Nat.le_of_ble_eq_true rfl, Nat.le_of_ble_eq_true rfl⟩ rfl rfl
  refine r_iadd (pc := 32) ?_ dX7_doubtsOfExchange_32
  exact r_ir dX7_doubtsOfExchange_33 rfl (Nat.le_of_ble_eq_true rfl) (Nat.le_of_ble_eq_true rfl)
abbrev Y_X7_firstRelease : YT := (yX7_firstRelease, cX7_firstRelease, 3, (some .int), 2, 43, 0, 0)
theorem ok_X7_firstRelease : okV Y_X7_firstRelease 2 := ⟨⟨wd_3_106, wd_1_2, by decide, by decide, by decide +kernel⟩, wd_3_104, wd_3_105⟩
def R_X7_firstRelease_0 (l : Launch) (G : GT) (F : FX) (Q : PQ) (QX : PX) : KT := (I_al 0 (I_il 1 (I_cv (Tr true l G Y_X7_apprenticeAt) 5 9 1 QX (I_gp 0 11 14 (I_il 2 (I_cv (Tr true l G Y_X4_firstFrom) 2 2 1 QX (I_ir Q)))))))
set_option maxRecDepth 100000 in
theorem g_X7_firstRelease_0 {l : Launch} {G : GT} {F : FX} {Q : PQ} {QX : PX} : Le (R_X7_firstRelease_0 l G F Q QX) (Wj true l G F Y_X7_firstRelease Q QX 0 0 0) := by
  unfold R_X7_firstRelease_0
  refine r_aload_n (pc := 0) ?_ dX7_firstRelease_0 rfl
  refine r_iload_n (pc := 1) ?_ dX7_firstRelease_1 rfl
  refine r_cv0 (pc := 2) ?_ dX7_firstRelease_2 cl_X7 ok_X7_apprenticeAt rfl wd_3_57 ⟨Nat.le_of_ble_eq_true rfl, Nat.le_of_ble_eq_true rfl⟩ ⟨Nat.le_of_ble_eq_true rfl, Nat.le_of_ble_eq_true rfl⟩ rfl rfl
  refine r_gp (pc := 5) (kf := 3) ?_ dX7_firstRelease_5 cl_X1 (Nat.le_of_ble_eq_true rfl) rfl wd_1_98 pv_X1_3
  refine r_iload_n (pc := 8) ?_ dX7_firstRelease_8 rfl
  refine r_cv0 (pc := 9) ?_ dX7_firstRelease_9 cl_X4 ok_X4_firstFrom rfl wd_3_107 ⟨Nat.le_of_ble_eq_true rfl, Nat.le_of_ble_eq_true rfl⟩ ⟨Nat.le_of_ble_eq_true rfl, Nat.le_of_ble_eq_true rfl⟩ rfl rfl
  exact r_ir dX7_firstRelease_12 rfl (Nat.le_of_ble_eq_true rfl) (Nat.le_of_ble_eq_true rfl)
