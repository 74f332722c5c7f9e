/-! ===== the methods: what they are, their regions ===== -/
abbrev Y_X10_thrown : YT := (yX10_thrown, cX10_thrown, 1, (some .int), 0, 0, 0, 0)
theorem ok_X10_thrown : okV Y_X10_thrown 0 := ⟨⟨wd_5_180, wd_1_9, by decide, by decide, by decide +kernel⟩, wd_5_178, wd_5_179⟩
def R_X10_thrown_0 (l : Launch) (G : GT) (F : FX) (Q : PQ) (QX : PX) : KT := (I_al 0 (I_gi 8 4 13 (I_ir Q)))
set_option maxRecDepth 100000 in
theorem g_X10_thrown_0 {l : Launch} {G : GT} {F : FX} {Q : PQ} {QX : PX} : Le (R_X10_thrown_0 l G F Q QX) (Wj true l G F Y_X10_thrown Q QX 0 0 0) := by
  unfold R_X10_thrown_0
  refine r_aload_n (pc := 0) ?_ dX10_thrown_0 rfl
  refine r_gi (pc := 1) ?_ dX10_thrown_1 cl_X10 (Nat.le_of_ble_eq_true rfl) rfl wd_5_141
  exact r_ir dX10_thrown_4 rfl (Nat.le_of_ble_eq_true rfl) (Nat.le_of_ble_eq_true rfl)
abbrev Y_X10_in : YT := (yX10_in, cX10_in, 6, (some .boolean), 0, 0, 0, 0)
theorem ok_X10_in : okS Y_X10_in 3 := ⟨⟨wd_5_196, wd_1_9, by decide, by decide, by decide +kernel⟩, wd_5_195⟩
def R_X10_in_0 (l : Launch) (G : GT) (F : FX) (Q : PQ) (QX : PX) : KT := (I_ll 0 (I_ll 2 (I_lcmp (I_iflt (I_ic 0 (I_zr Q)) (I_ll 0 (I_ll 4 (I_lcmp (I_ifgt (I_ic 0 (I_zr Q)) (I_ic 1 (I_zr Q))))))))))
set_option maxRecDepth 100000 in
theorem g_X10_in_0 {l : Launch} {G : GT} {F : FX} {Q : PQ} {QX : PX} : Le (R_X10_in_0 l G F Q QX) (Wj true l G F Y_X10_in Q QX 0 0 0) := by
  unfold R_X10_in_0
  refine r_lload_n (pc := 0) ?_ dX10_in_0 rfl
  refine r_lload_n (pc := 1) ?_ dX10_in_1 rfl
  refine r_lcmp (pc := 2) ?_ dX10_in_2
  refine r_iflt (pc := 3) (t := 17) ?_ ?_ dX10_in_3 (by decide)
  · refine r_iconst (pc := 17) ?_ dX10_in_17 (by decide)
    exact r_zr dX10_in_18 rfl (Nat.le_of_ble_eq_true rfl) (Nat.le_of_ble_eq_true rfl)
  · refine r_lload_n (pc := 6) ?_ dX10_in_6 rfl
    refine r_lload (pc := 7) ?_ dX10_in_7
    refine r_lcmp (pc := 9) ?_ dX10_in_9
    refine r_ifgt (pc := 10) (t := 17) ?_ ?_ dX10_in_10 (by decide)
    · refine r_iconst (pc := 17) ?_ dX10_in_17 (by decide)
      exact r_zr dX10_in_18 rfl (Nat.le_of_ble_eq_true rfl) (Nat.le_of_ble_eq_true rfl)
    · refine r_iconst (pc := 13) ?_ dX10_in_13 (by decide)
      refine r_goto (pc := 14) (t := 18) ?_ dX10_in_14 (by decide)
      exact r_zr dX10_in_18 rfl (Nat.le_of_ble_eq_true rfl) (Nat.le_of_ble_eq_true rfl)
abbrev Y_X10_fails : YT := (yX10_fails, cX10_fails, 2, (some .int), 0, 0, 0, 0)
theorem ok_X10_fails : okV Y_X10_fails 1 := ⟨⟨wd_5_209, wd_1_9, by decide, by decide, by decide +kernel⟩, wd_5_208, wp_43⟩
def R_X10_fails_0 (l : Launch) (G : GT) (F : FX) (Q : PQ) (QX : PX) : KT := (I_al 0 (I_il 1 (I_pi 8 4 13 (I_ic 0 (I_ir Q)))))
set_option maxRecDepth 100000 in
theorem g_X10_fails_0 {l : Launch} {G : GT} {F : FX} {Q : PQ} {QX : PX} : Le (R_X10_fails_0 l G F Q QX) (Wj true l G F Y_X10_fails Q QX 0 0 0) := by
  unfold R_X10_fails_0
  refine r_aload_n (pc := 0) ?_ dX10_fails_0 rfl
  refine r_iload_n (pc := 1) ?_ dX10_fails_1 rfl
  refine r_pi (pc := 2) ?_ dX10_fails_2 cl_X10 (Nat.le_of_ble_eq_true rfl) rfl wd_5_141 rfl pd_X10_4
  refine r_iconst (pc := 5) ?_ dX10_fails_5 (by decide)
  exact r_ir dX10_fails_6 rfl (Nat.le_of_ble_eq_true rfl) (Nat.le_of_ble_eq_true rfl)
abbrev Y_X10_tells : YT := (yX10_tells, cX10_tells, 3, (some .int), 0, 0, 0, 0)
theorem ok_X10_tells : okV Y_X10_tells 1 := ⟨⟨wd_5_217, wd_1_9, by decide, by decide, by decide +kernel⟩, wd_5_216, wp_45⟩
def R_X10_tells_0 (l : Launch) (G : GT) (F : FX) (Q : PQ) (QX : PX) : KT := (I_al 0 (I_ic 0 (I_pi 8 4 13 (I_ll 1 (I_l2i (I_ir Q))))))
set_option maxRecDepth 100000 in
theorem g_X10_tells_0 {l : Launch} {G : GT} {F : FX} {Q : PQ} {QX : PX} : Le (R_X10_tells_0 l G F Q QX) (Wj true l G F Y_X10_tells Q QX 0 0 0) := by
  unfold R_X10_tells_0
  refine r_aload_n (pc := 0) ?_ dX10_tells_0 rfl
  refine r_iconst (pc := 1) ?_ dX10_tells_1 (by decide)
  refine r_pi (pc := 2) ?_ dX10_tells_2 cl_X10 (Nat.le_of_ble_eq_true rfl) rfl wd_5_141 rfl pd_X10_4
  refine r_lload_n (pc := 5) ?_ dX10_tells_5 rfl
  refine r_l2i (pc := 6) ?_ dX10_tells_6
  exact r_ir dX10_tells_7 rfl (Nat.le_of_ble_eq_true rfl) (Nat.le_of_ble_eq_true rfl)
abbrev Y_X10_laysAside : YT := (yX10_laysAside, cX10_laysAside, 2, none, 0, 0, 0, 0)
theorem ok_X10_laysAside : okV Y_X10_laysAside 0 := ⟨⟨wd_5_188, wd_1_9, by decide, by decide, by decide +kernel⟩, wd_5_187, wp_39⟩
def R_X10_laysAside_0 (l : Launch) (G : GT) (F : FX) (Q : PQ) (QX : PX) : KT := (I_ic 0 (I_is 1 (Wj true l G F Y_X10_laysAside Q QX 0 0 2)))
set_option maxRecDepth 100000 in
theorem g_X10_laysAside_0 {l : Launch} {G : GT} {F : FX} {Q : PQ} {QX : PX} : Le (R_X10_laysAside_0 l G F Q QX) (Wj true l G F Y_X10_laysAside Q QX 0 0 0) := by
  unfold R_X10_laysAside_0
  refine r_iconst (pc := 0) ?_ dX10_laysAside_0 (by decide)
  refine r_istore_n (pc := 1) ?_ dX10_laysAside_1 rfl (Nat.le_of_ble_eq_true rfl)
  exact Le.rf
def R_X10_laysAside_2 (l : Launch) (G : GT) (F : FX) (Q : PQ) (QX : PX) : KT := (I_il 1 (I_ic 427 (I_icge (I_vr Q) (I_al 0 (I_gp 8 13 3 (I_il 1 (I_al 0 (I_gp 8 13 1 (I_il 1 (I_lal (I_las (I_inc 1 1 (Wj true l G F Y_X10_laysAside Q QX 0 0 2)))))))))))))
set_option maxRecDepth 100000 in
theorem g_X10_laysAside_2 {l : Launch} {G : GT} {F : FX} {Q : PQ} {QX : PX} : Le (R_X10_laysAside_2 l G F Q QX) (Wj true l G F Y_X10_laysAside Q QX 0 0 2) := by
  unfold R_X10_laysAside_2
  refine r_iload_n (pc := 2) ?_ dX10_laysAside_2 rfl
  refine r_sipush (pc := 3) ?_ dX10_laysAside_3 (by decide)
  refine r_icge (pc := 6) (t := 27) ?_ ?_ dX10_laysAside_6 (by decide)
  · exact r_vr dX10_laysAside_27 rfl (Nat.le_of_ble_eq_true rfl) (Nat.le_of_ble_eq_true rfl)
  · refine r_aload_n (pc := 9) ?_ dX10_laysAside_9 rfl
    refine r_gp (pc := 10) (kf := 2) ?_ dX10_laysAside_10 cl_X10 (Nat.le_of_ble_eq_true rfl) rfl wd_5_139 pv_X10_2
    refine r_iload_n (pc := 13) ?_ dX10_laysAside_13 rfl
    refine r_aload_n (pc := 14) ?_ dX10_laysAside_14 rfl
    refine r_gp (pc := 15) (kf := 0) ?_ dX10_laysAside_15 cl_X10 (Nat.le_of_ble_eq_true rfl) rfl wd_5_137 pv_X10_0
    refine r_iload_n (pc := 18) ?_ dX10_laysAside_18 rfl
    refine r_lal (pc := 19) ?_ dX10_laysAside_19
    refine r_las (pc := 20) ?_ dX10_laysAside_20
    refine r_iinc (pc := 21) ?_ dX10_laysAside_21 (by decide) (Nat.le_of_ble_eq_true rfl)
    refine r_goto (pc := 24) (t := 2) ?_ dX10_laysAside_24 (by decide)
    exact Le.rf
abbrev Y_X10_bringsBack : YT := (yX10_bringsBack, cX10_bringsBack, 2, none, 0, 0, 0, 0)
theorem ok_X10_bringsBack : okV Y_X10_bringsBack 0 := ⟨⟨wd_5_205, wd_1_9, by decide, by decide, by decide +kernel⟩, wd_5_204, wp_42⟩
def R_X10_bringsBack_0 (l : Launch) (G : GT) (F : FX) (Q : PQ) (QX : PX) : KT := (I_ic 0 (I_is 1 (Wj true l G F Y_X10_bringsBack Q QX 0 0 2)))
set_option maxRecDepth 100000 in
theorem g_X10_bringsBack_0 {l : Launch} {G : GT} {F : FX} {Q : PQ} {QX : PX} : Le (R_X10_bringsBack_0 l G F Q QX) (Wj true l G F Y_X10_bringsBack Q QX 0 0 0) := by
  unfold R_X10_bringsBack_0
  refine r_iconst (pc := 0) ?_ dX10_bringsBack_0 (by decide)
  refine r_istore_n (pc := 1) ?_ dX10_bringsBack_1 rfl (Nat.le_of_ble_eq_true rfl)
  exact Le.rf
def R_X10_bringsBack_2 (l : Launch) (G : GT) (F : FX) (Q : PQ) (QX : PX) : KT := (I_il 1 (I_ic 427 (I_icge (I_vr Q) (I_al 0 (I_gp 8 13 1 (I_il 1 (I_al 0 (I_gp 8 13 3 (I_il 1 (I_lal (I_las (I_inc 1 1 (Wj true l G F Y_X10_bringsBack Q QX 0 0 2)))))))))))))
set_option maxRecDepth 100000 in
theorem g_X10_bringsBack_2 {l : Launch} {G : GT} {F : FX} {Q : PQ} {QX : PX} : Le (R_X10_bringsBack_2 l G F Q QX) (Wj true l G F Y_X10_bringsBack Q QX 0 0 2) := by
  unfold R_X10_bringsBack_2
  refine r_iload_n (pc := 2) ?_ dX10_bringsBack_2 rfl
  refine r_sipush (pc := 3) ?_ dX10_bringsBack_3 (by decide)
  refine r_icge (pc := 6) (t := 27) ?_ ?_ dX10_bringsBack_6 (by decide)
  · exact r_vr dX10_bringsBack_27 rfl (Nat.le_of_ble_eq_true rfl) (Nat.le_of_ble_eq_true rfl)
  · refine r_aload_n (pc := 9) ?_ dX10_bringsBack_9 rfl
    refine r_gp (pc := 10) (kf := 0) ?_ dX10_bringsBack_10 cl_X10 (Nat.le_of_ble_eq_true rfl) rfl wd_5_137 pv_X10_0
    refine r_iload_n (pc := 13) ?_ dX10_bringsBack_13 rfl
    refine r_aload_n (pc := 14) ?_ dX10_bringsBack_14 rfl
    refine r_gp (pc := 15) (kf := 2) ?_ dX10_bringsBack_15 cl_X10 (Nat.le_of_ble_eq_true rfl) rfl wd_5_139 pv_X10_2
    refine r_iload_n (pc := 18) ?_ dX10_bringsBack_18 rfl
    refine r_lal (pc := 19) ?_ dX10_bringsBack_19
    refine r_las (pc := 20) ?_ dX10_bringsBack_20
    refine r_iinc (pc := 21) ?_ dX10_bringsBack_21 (by decide) (Nat.le_of_ble_eq_true rfl)
    refine r_goto (pc := 24) (t := 2) ?_ dX10_bringsBack_24 (by decide)
    exact Le.rf
abbrev Y_X10_keeps : YT := (yX10_keeps, cX10_keeps, 2, none, 0, 0, 0, 0)
theorem ok_X10_keeps : okV Y_X10_keeps 0 := ⟨⟨wd_5_213, wd_1_9, by decide, by decide, by decide +kernel⟩, wd_5_212, wp_44⟩
def R_X10_keeps_0 (l : Launch) (G : GT) (F : FX) (Q : PQ) (QX : PX) : KT := (I_al 0 (I_gi 8 3 13 (I_ic 4 (I_icne (I_ic 0 (I_is 1 (Wj true l G F Y_X10_keeps Q QX 0 0 51))) (I_ic 0 (I_is 1 (Wj true l G F Y_X10_keeps Q QX 0 0 10)))))))
set_option maxRecDepth 100000 in
theorem g_X10_keeps_0 {l : Launch} {G : GT} {F : FX} {Q : PQ} {QX : PX} : Le (R_X10_keeps_0 l G F Q QX) (Wj true l G F Y_X10_keeps Q QX 0 0 0) := by
  unfold R_X10_keeps_0
  refine r_aload_n (pc := 0) ?_ dX10_keeps_0 rfl
  refine r_gi (pc := 1) ?_ dX10_keeps_1 cl_X10 (Nat.le_of_ble_eq_true rfl) rfl wd_5_140
  refine r_iconst (pc := 4) ?_ dX10_keeps_4 (by decide)
  refine r_icne (pc := 5) (t := 49) ?_ ?_ dX10_keeps_5 (by decide)
  · refine r_iconst (pc := 49) ?_ dX10_keeps_49 (by decide)
    refine r_istore_n (pc := 50) ?_ dX10_keeps_50 rfl (Nat.le_of_ble_eq_true rfl)
    exact Le.rf
  · refine r_iconst (pc := 8) ?_ dX10_keeps_8 (by decide)
    refine r_istore_n (pc := 9) ?_ dX10_keeps_9 rfl (Nat.le_of_ble_eq_true rfl)
    exact Le.rf
def R_X10_keeps_51 (l : Launch) (G : GT) (F : FX) (Q : PQ) (QX : PX) : KT := (I_il 1 (I_ic 427 (I_icge (I_al 0 (I_dup (I_gi 8 3 13 (I_ic 1 (I_iadd (I_pi 8 3 13 (I_vr Q))))))) (I_al 0 (I_gp 8 13 2 (I_ic 427 (I_al 0 (I_gi 8 3 13 (I_imul (I_il 1 (I_iadd (I_al 0 (I_gp 8 13 3 (I_il 1 (I_lal (I_las (I_inc 1 1 (Wj true l G F Y_X10_keeps Q QX 0 0 51))))))))))))))))))
set_option maxRecDepth 100000 in
theorem g_X10_keeps_51 {l : Launch} {G : GT} {F : FX} {Q : PQ} {QX : PX} : Le (R_X10_keeps_51 l G F Q QX) (Wj true l G F Y_X10_keeps Q QX 0 0 51) := by
  unfold R_X10_keeps_51
  refine r_iload_n (pc := 51) ?_ dX10_keeps_51 rfl
  refine r_sipush (pc := 52) ?_ dX10_keeps_52 (by decide)
  refine r_icge (pc := 55) (t := 85) ?_ ?_ dX10_keeps_55 (by decide)
  · refine r_aload_n (pc := 85) ?_ dX10_keeps_85 rfl
    refine r_dup (pc := 86) ?_ dX10_keeps_86
    refine r_gi (pc := 87) ?_ dX10_keeps_87 cl_X10 (Nat.le_of_ble_eq_true rfl) rfl wd_5_140
    refine r_iconst (pc := 90) ?_ dX10_keeps_90 (by decide)
    refine r_iadd (pc := 91) ?_ dX10_keeps_91
    refine r_pi (pc := 92) ?_ dX10_keeps_92 cl_X10 (Nat.le_of_ble_eq_true rfl) rfl wd_5_140 rfl pd_X10_3
    exact r_vr dX10_keeps_95 rfl (Nat.le_of_ble_eq_true rfl) (Nat.le_of_ble_eq_true rfl)
  · refine r_aload_n (pc := 58) ?_ dX10_keeps_58 rfl
    refine r_gp (pc := 59) (kf := 1) ?_ dX10_keeps_59 cl_X10 (Nat.le_of_ble_eq_true rfl) rfl wd_5_138 pv_X10_1
    refine r_sipush (pc := 62) ?_ dX10_keeps_62 (by decide)
    refine r_aload_n (pc := 65) ?_ dX10_keeps_65 rfl
    refine r_gi (pc := 66) ?_ dX10_keeps_66 cl_X10 (Nat.le_of_ble_eq_true rfl) rfl wd_5_140
    refine r_imul (pc := 69) ?_ dX10_keeps_69
    refine r_iload_n (pc := 70) ?_ dX10_keeps_70 rfl
    refine r_iadd (pc := 71) ?_ dX10_keeps_71
    refine r_aload_n (pc := 72) ?_ dX10_keeps_72 rfl
    refine r_gp (pc := 73) (kf := 2) ?_ dX10_keeps_73 cl_X10 (Nat.le_of_ble_eq_true rfl) rfl wd_5_139 pv_X10_2
    refine r_iload_n (pc := 76) ?_ dX10_keeps_76 rfl
    refine r_lal (pc := 77) ?_ dX10_keeps_77
    refine r_las (pc := 78) ?_ dX10_keeps_78
    refine r_iinc (pc := 79) ?_ dX10_keeps_79 (by decide) (Nat.le_of_ble_eq_true rfl)
    refine r_goto (pc := 82) (t := 51) ?_ dX10_keeps_82 (by decide)
    exact Le.rf
def R_X10_keeps_10 (l : Launch) (G : GT) (F : FX) (Q : PQ) (QX : PX) : KT := (I_il 1 (I_ic 1281 (I_icge (I_al 0 (I_dup (I_gi 8 3 13 (I_ic 1 (I_isub (I_pi 8 3 13 (I_ic 0 (I_is 1 (Wj true l G F Y_X10_keeps Q QX 0 0 51))))))))) (I_al 0 (I_gp 8 13 2 (I_il 1 (I_al 0 (I_gp 8 13 2 (I_il 1 (I_ic 427 (I_iadd (I_lal (I_las (I_inc 1 1 (Wj true l G F Y_X10_keeps Q QX 0 0 10)))))))))))))))
set_option maxRecDepth 100000 in
theorem g_X10_keeps_10 {l : Launch} {G : GT} {F : FX} {Q : PQ} {QX : PX} : Le (R_X10_keeps_10 l G F Q QX) (Wj true l G F Y_X10_keeps Q QX 0 0 10) := by
  unfold R_X10_keeps_10
  refine r_iload_n (pc := 10) ?_ dX10_keeps_10 rfl
  refine r_sipush (pc := 11) ?_ dX10_keeps_11 (by decide)
  refine r_icge (pc := 14) (t := 39) ?_ ?_ dX10_keeps_14 (by decide)
  · refine r_aload_n (pc := 39) ?_ dX10_keeps_39 rfl
    refine r_dup (pc := 40) ?_ dX10_keeps_40
    refine r_gi (pc := 41) ?_ dX10_keeps_41 cl_X10 (Nat.le_of_ble_eq_true rfl) rfl wd_5_140
    refine r_iconst (pc := 44) ?_ dX10_keeps_44 (by decide)
    refine r_isub (pc := 45) ?_ dX10_keeps_45
    refine r_pi (pc := 46) ?_ dX10_keeps_46 cl_X10 (Nat.le_of_ble_eq_true rfl) rfl wd_5_140 rfl pd_X10_3
    refine r_iconst (pc := 49) ?_ dX10_keeps_49 (by decide)
    refine r_istore_n (pc := 50) ?_ dX10_keeps_50 rfl (Nat.le_of_ble_eq_true rfl)
    exact Le.rf
  · refine r_aload_n (pc := 17) ?_ dX10_keeps_17 rfl
    refine r_gp (pc := 18) (kf := 1) ?_ dX10_keeps_18 cl_X10 (Nat.le_of_ble_eq_true rfl) rfl wd_5_138 pv_X10_1
    refine r_iload_n (pc := 21) ?_ dX10_keeps_21 rfl
    refine r_aload_n (pc := 22) ?_ dX10_keeps_22 rfl
    refine r_gp (pc := 23) (kf := 1) ?_ dX10_keeps_23 cl_X10 (Nat.le_of_ble_eq_true rfl) rfl wd_5_138 pv_X10_1
    refine r_iload_n (pc := 26) ?_ dX10_keeps_26 rfl
    refine r_sipush (pc := 27) ?_ dX10_keeps_27 (by decide)
    refine r_iadd (pc := 30) ?_ dX10_keeps_30
    refine r_lal (pc := 31) ?_ dX10_keeps_31
    refine r_las (pc := 32) ?_ dX10_keeps_32
    refine r_iinc (pc := 33) ?_ dX10_keeps_33 (by decide) (Nat.le_of_ble_eq_true rfl)
    refine r_goto (pc := 36) (t := 10) ?_ dX10_keeps_36 (by decide)
    exact Le.rf
abbrev Y_X10_ends : YT := (yX10_ends, cX10_ends, 4, (some .int), 1, 22, 0, 0)
theorem ok_X10_ends : okV Y_X10_ends 2 := ⟨⟨wd_5_201, wd_1_9, by decide, by decide, by decide +kernel⟩, wd_5_200, wp_41⟩
def R_X10_ends_0 (l : Launch) (G : GT) (F : FX) (Q : PQ) (QX : PX) : KT := (I_il 3 (I_ifle (I_al 0 (I_cv (Tr true l G Y_X10_keeps) 8 13 0 QX (I_al 0 (I_ll 1 (I_cv (Tr true l G Y_X10_tells) 8 13 1 QX (I_ir Q)))))) (I_al 0 (I_cv (Tr true l G Y_X10_bringsBack) 8 13 0 QX (I_al 0 (I_il 3 (I_cv (Tr true l G Y_X10_fails) 8 13 1 QX (I_ir Q))))))))
set_option maxRecDepth 100000 in
theorem g_X10_ends_0 {l : Launch} {G : GT} {F : FX} {Q : PQ} {QX : PX} : Le (R_X10_ends_0 l G F Q QX) (Wj true l G F Y_X10_ends Q QX 0 0 0) := by
  unfold R_X10_ends_0
  refine r_iload_n (pc := 0) ?_ dX10_ends_0 rfl
  refine r_ifle (pc := 1) (t := 14) ?_ ?_ dX10_ends_1 (by decide)
  · refine r_aload_n (pc := 14) ?_ dX10_ends_14 rfl
    refine r_cv0 (pc := 15) ?_ dX10_ends_15 cl_X10 ok_X10_keeps rfl wd_5_210 ⟨Nat.le_of_ble_eq_true rfl, Nat.le_of_ble_eq_true rfl⟩ ⟨Nat.le_of_ble_eq_true rfl, Nat.le_of_ble_eq_true rfl⟩ rfl rfl
    refine r_aload_n (pc := 18) ?_ dX10_ends_18 rfl
    refine r_lload_n (pc := 19) ?_ dX10_ends_19 rfl
    refine r_cv0 (pc := 20) ?_ dX10_ends_20 cl_X10 ok_X10_tells rfl wd_5_214 ⟨Nat.le_of_ble_eq_true rfl, Nat.le_of_ble_eq_true rfl⟩ ⟨Nat.le_of_ble_eq_true rfl, Nat.le_of_ble_eq_true rfl⟩ rfl rfl
    exact r_ir dX10_ends_23 rfl (Nat.le_of_ble_eq_true rfl) (Nat.le_of_ble_eq_true rfl)
  · refine r_aload_n (pc := 4) ?_ dX10_ends_4 rfl
    refine r_cv0 (pc := 5) ?_ dX10_ends_5 cl_X10 ok_X10_bringsBack rfl wd_5_202 ⟨Nat.le_of_ble_eq_true rfl, Nat.le_of_ble_eq_true rfl⟩ ⟨Nat.le_of_ble_eq_true rfl, Nat.le_of_ble_eq_true rfl⟩ rfl rfl
    refine r_aload_n (pc := 8) ?_ dX10_ends_8 rfl
    refine r_iload_n (pc := 9) ?_ dX10_ends_9 rfl
    refine r_cv0 (pc := 10) ?_ dX10_ends_10 cl_X10 ok_X10_fails rfl wd_5_206 ⟨Nat.le_of_ble_eq_true rfl, Nat.le_of_ble_eq_true rfl⟩ ⟨Nat.le_of_ble_eq_true rfl, Nat.le_of_ble_eq_true rfl⟩ rfl rfl
    exact r_ir dX10_ends_13 rfl (Nat.le_of_ble_eq_true rfl) (Nat.le_of_ble_eq_true rfl)
abbrev Y_X10_isTrade : YT := (yX10_isTrade, cX10_isTrade, 2, (some .boolean), 1, 25, 0, 0)
theorem ok_X10_isTrade : okV Y_X10_isTrade 1 := ⟨⟨wd_5_239, wd_1_9, by decide, by decide, by decide +kernel⟩, wd_5_238, wp_48⟩
def R_X10_isTrade_0 (l : Launch) (G : GT) (F : FX) (Q : PQ) (QX : PX) : KT := (I_il 1 (I_i2l (I_lc 0 (I_al 0 (I_gp 8 13 1 (I_ic 0 (I_lal (I_lc 1 (I_lsub (I_cs (Tr true l G Y_X10_in) 3 QX (I_zr Q)))))))))))
set_option maxRecDepth 100000 in
theorem g_X10_isTrade_0 {l : Launch} {G : GT} {F : FX} {Q : PQ} {QX : PX} : Le (R_X10_isTrade_0 l G F Q QX) (Wj true l G F Y_X10_isTrade Q QX 0 0 0) := by
  unfold R_X10_isTrade_0
  refine r_iload_n (pc := 0) ?_ dX10_isTrade_0 rfl
  refine r_i2l (pc := 1) ?_ dX10_isTrade_1
  refine r_lconst (pc := 2) ?_ dX10_isTrade_2 (by decide)
  refine r_aload_n (pc := 3) ?_ dX10_isTrade_3 rfl
  refine r_gp (pc := 4) (kf := 0) ?_ dX10_isTrade_4 cl_X10 (Nat.le_of_ble_eq_true rfl) rfl wd_5_137 pv_X10_0
  refine r_iconst (pc := 7) ?_ dX10_isTrade_7 (by decide)
  refine r_lal (pc := 8) ?_ dX10_isTrade_8
  refine r_lconst (pc := 9) ?_ dX10_isTrade_9 (by decide)
  refine r_lsub (pc := 10) ?_ dX10_isTrade_10
  refine r_cs0 (pc := 11) ?_ dX10_isTrade_11 ok_X10_in wd_5_194 ⟨Nat.le_of_ble_eq_true rfl, Nat.le_of_ble_eq_true rfl⟩ ⟨Nat.le_of_ble_eq_true rfl, Nat.le_of_ble_eq_true rfl⟩ rfl rfl
  exact r_zr dX10_isTrade_14 rfl (Nat.le_of_ble_eq_true rfl) (Nat.le_of_ble_eq_true rfl)
abbrev Y_X10_isMentor : YT := (yX10_isMentor, cX10_isMentor, 2, (some .boolean), 1, 25, 0, 0)
theorem ok_X10_isMentor : okV Y_X10_isMentor 1 := ⟨⟨wd_6_3, wd_1_9, by decide, by decide, by decide +kernel⟩, wd_6_2, wp_49⟩
def R_X10_isMentor_0 (l : Launch) (G : GT) (F : FX) (Q : PQ) (QX : PX) : KT := (I_il 1 (I_i2l (I_lc 0 (I_al 0 (I_gp 8 13 1 (I_ic 1 (I_lal (I_lc 1 (I_lsub (I_cs (Tr true l G Y_X10_in) 3 QX (I_zr Q)))))))))))
set_option maxRecDepth 100000 in
theorem g_X10_isMentor_0 {l : Launch} {G : GT} {F : FX} {Q : PQ} {QX : PX} : Le (R_X10_isMentor_0 l G F Q QX) (Wj true l G F Y_X10_isMentor Q QX 0 0 0) := by
  unfold R_X10_isMentor_0
  refine r_iload_n (pc := 0) ?_ dX10_isMentor_0 rfl
  refine r_i2l (pc := 1) ?_ dX10_isMentor_1
  refine r_lconst (pc := 2) ?_ dX10_isMentor_2 (by decide)
  refine r_aload_n (pc := 3) ?_ dX10_isMentor_3 rfl
  refine r_gp (pc := 4) (kf := 0) ?_ dX10_isMentor_4 cl_X10 (Nat.le_of_ble_eq_true rfl) rfl wd_5_137 pv_X10_0
  refine r_iconst (pc := 7) ?_ dX10_isMentor_7 (by decide)
  refine r_lal (pc := 8) ?_ dX10_isMentor_8
  refine r_lconst (pc := 9) ?_ dX10_isMentor_9 (by decide)
  refine r_lsub (pc := 10) ?_ dX10_isMentor_10
  refine r_cs0 (pc := 11) ?_ dX10_isMentor_11 ok_X10_in wd_5_194 ⟨Nat.le_of_ble_eq_true rfl, Nat.le_of_ble_eq_true rfl⟩ ⟨Nat.le_of_ble_eq_true rfl, Nat.le_of_ble_eq_true rfl⟩ rfl rfl
  exact r_zr dX10_isMentor_14 rfl (Nat.le_of_ble_eq_true rfl) (Nat.le_of_ble_eq_true rfl)
abbrev Y_X10_isApprentice : YT := (yX10_isApprentice, cX10_isApprentice, 2, (some .boolean), 1, 25, 0, 0)
theorem ok_X10_isApprentice : okV Y_X10_isApprentice 1 := ⟨⟨wd_6_44, wd_1_9, by decide, by decide, by decide +kernel⟩, wd_6_43, wp_58⟩
def R_X10_isApprentice_0 (l : Launch) (G : GT) (F : FX) (Q : PQ) (QX : PX) : KT := (I_il 1 (I_i2l (I_lc 0 (I_al 0 (I_gp 8 13 1 (I_ic 2 (I_lal (I_lc 1 (I_lsub (I_cs (Tr true l G Y_X10_in) 3 QX (I_zr Q)))))))))))
set_option maxRecDepth 100000 in
theorem g_X10_isApprentice_0 {l : Launch} {G : GT} {F : FX} {Q : PQ} {QX : PX} : Le (R_X10_isApprentice_0 l G F Q QX) (Wj true l G F Y_X10_isApprentice Q QX 0 0 0) := by
  unfold R_X10_isApprentice_0
  refine r_iload_n (pc := 0) ?_ dX10_isApprentice_0 rfl
  refine r_i2l (pc := 1) ?_ dX10_isApprentice_1
  refine r_lconst (pc := 2) ?_ dX10_isApprentice_2 (by decide)
  refine r_aload_n (pc := 3) ?_ dX10_isApprentice_3 rfl
  refine r_gp (pc := 4) (kf := 0) ?_ dX10_isApprentice_4 cl_X10 (Nat.le_of_ble_eq_true rfl) rfl wd_5_137 pv_X10_0
  refine r_iconst (pc := 7) ?_ dX10_isApprentice_7 (by decide)
  refine r_lal (pc := 8) ?_ dX10_isApprentice_8
  refine r_lconst (pc := 9) ?_ dX10_isApprentice_9 (by decide)
  refine r_lsub (pc := 10) ?_ dX10_isApprentice_10
  refine r_cs0 (pc := 11) ?_ dX10_isApprentice_11 ok_X10_in wd_5_194 ⟨Nat.le_of_ble_eq_true rfl, Nat.le_of_ble_eq_true rfl⟩ ⟨Nat.le_of_ble_eq_true rfl, Nat.le_of_ble_eq_true rfl⟩ rfl rfl
  exact r_zr dX10_isApprentice_14 rfl (Nat.le_of_ble_eq_true rfl) (Nat.le_of_ble_eq_true rfl)
abbrev Y_X10_isPart : YT := (yX10_isPart, cX10_isPart, 1, (some .boolean), 1, 25, 0, 0)
theorem ok_X10_isPart : okS Y_X10_isPart 1 := ⟨⟨wd_6_68, wd_1_9, by decide, by decide, by decide +kernel⟩, wd_6_67⟩
def R_X10_isPart_0 (l : Launch) (G : GT) (F : FX) (Q : PQ) (QX : PX) : KT := (I_il 0 (I_i2l (I_lc 0 (I_lc (2 : Int64) (I_cs (Tr true l G Y_X10_in) 3 QX (I_zr Q))))))
set_option maxRecDepth 100000 in
theorem g_X10_isPart_0 {l : Launch} {G : GT} {F : FX} {Q : PQ} {QX : PX} : Le (R_X10_isPart_0 l G F Q QX) (Wj true l G F Y_X10_isPart Q QX 0 0 0) := by
  unfold R_X10_isPart_0
  refine r_iload_n (pc := 0) ?_ dX10_isPart_0 rfl
  refine r_i2l (pc := 1) ?_ dX10_isPart_1
  refine r_lconst (pc := 2) ?_ dX10_isPart_2 (by decide)
  refine r_ldc2 (pc := 3) ?_ dX10_isPart_3 wd_6_69
  refine r_cs0 (pc := 6) ?_ dX10_isPart_6 ok_X10_in wd_5_194 ⟨Nat.le_of_ble_eq_true rfl, Nat.le_of_ble_eq_true rfl⟩ ⟨Nat.le_of_ble_eq_true rfl, Nat.le_of_ble_eq_true rfl⟩ rfl rfl
  exact r_zr dX10_isPart_9 rfl (Nat.le_of_ble_eq_true rfl) (Nat.le_of_ble_eq_true rfl)
abbrev Y_X10_ofMentor : YT := (yX10_ofMentor, cX10_ofMentor, 3, (some .long), 0, 0, 0, 0)
theorem ok_X10_ofMentor : okV Y_X10_ofMentor 2 := ⟨⟨wd_6_12, wd_1_9, by decide, by decide, by decide +kernel⟩, wd_6_11, wp_51⟩
def R_X10_ofMentor_0 (l : Launch) (G : GT) (F : FX) (Q : PQ) (QX : PX) : KT := (I_al 0 (I_gp 8 13 1 (I_ic 19 (I_ic 3 (I_il 1 (I_imul (I_iadd (I_il 2 (I_iadd (I_lal (I_lr Q)))))))))))
set_option maxRecDepth 100000 in
theorem g_X10_ofMentor_0 {l : Launch} {G : GT} {F : FX} {Q : PQ} {QX : PX} : Le (R_X10_ofMentor_0 l G F Q QX) (Wj true l G F Y_X10_ofMentor Q QX 0 0 0) := by
  unfold R_X10_ofMentor_0
  refine r_aload_n (pc := 0) ?_ dX10_ofMentor_0 rfl
  refine r_gp (pc := 1) (kf := 0) ?_ dX10_ofMentor_1 cl_X10 (Nat.le_of_ble_eq_true rfl) rfl wd_5_137 pv_X10_0
  refine r_bipush (pc := 4) ?_ dX10_ofMentor_4 (by decide)
  refine r_iconst (pc := 6) ?_ dX10_ofMentor_6 (by decide)
  refine r_iload_n (pc := 7) ?_ dX10_ofMentor_7 rfl
  refine r_imul (pc := 8) ?_ dX10_ofMentor_8
  refine r_iadd (pc := 9) ?_ dX10_ofMentor_9
  refine r_iload_n (pc := 10) ?_ dX10_ofMentor_10 rfl
  refine r_iadd (pc := 11) ?_ dX10_ofMentor_11
  refine r_lal (pc := 12) ?_ dX10_ofMentor_12
  exact r_lr dX10_ofMentor_13 rfl (Nat.le_of_ble_eq_true rfl) (Nat.le_of_ble_eq_true rfl)
abbrev Y_X10_of : YT := (yX10_of, cX10_of, 3, (some .long), 0, 0, 0, 0)
theorem ok_X10_of : okV Y_X10_of 2 := ⟨⟨wd_6_28, wd_1_9, by decide, by decide, by decide +kernel⟩, wd_6_27, wp_55⟩
def R_X10_of_0 (l : Launch) (G : GT) (F : FX) (Q : PQ) (QX : PX) : KT := (I_al 0 (I_gp 8 13 1 (I_ic 37 (I_ic 39 (I_il 1 (I_imul (I_iadd (I_il 2 (I_iadd (I_lal (I_lr Q)))))))))))
set_option maxRecDepth 100000 in
theorem g_X10_of_0 {l : Launch} {G : GT} {F : FX} {Q : PQ} {QX : PX} : Le (R_X10_of_0 l G F Q QX) (Wj true l G F Y_X10_of Q QX 0 0 0) := by
  unfold R_X10_of_0
  refine r_aload_n (pc := 0) ?_ dX10_of_0 rfl
  refine r_gp (pc := 1) (kf := 0) ?_ dX10_of_1 cl_X10 (Nat.le_of_ble_eq_true rfl) rfl wd_5_137 pv_X10_0
  refine r_bipush (pc := 4) ?_ dX10_of_4 (by decide)
  refine r_bipush (pc := 6) ?_ dX10_of_6 (by decide)
  refine r_iload_n (pc := 8) ?_ dX10_of_8 rfl
  refine r_imul (pc := 9) ?_ dX10_of_9
  refine r_iadd (pc := 10) ?_ dX10_of_10
  refine r_iload_n (pc := 11) ?_ dX10_of_11 rfl
  refine r_iadd (pc := 12) ?_ dX10_of_12
  refine r_lal (pc := 13) ?_ dX10_of_13
  exact r_lr dX10_of_14 rfl (Nat.le_of_ble_eq_true rfl) (Nat.le_of_ble_eq_true rfl)
abbrev Y_X10_put : YT := (yX10_put, cX10_put, 5, none, 0, 0, 0, 0)
theorem ok_X10_put : okV Y_X10_put 3 := ⟨⟨wd_6_32, wd_1_9, by decide, by decide, by decide +kernel⟩, wd_6_31, wp_56⟩
def R_X10_put_0 (l : Launch) (G : GT) (F : FX) (Q : PQ) (QX : PX) : KT := (I_al 0 (I_gp 8 13 1 (I_ic 37 (I_ic 39 (I_il 1 (I_imul (I_iadd (I_il 2 (I_iadd (I_ll 3 (I_las (I_vr Q))))))))))))
set_option maxRecDepth 100000 in
theorem g_X10_put_0 {l : Launch} {G : GT} {F : FX} {Q : PQ} {QX : PX} : Le (R_X10_put_0 l G F Q QX) (Wj true l G F Y_X10_put Q QX 0 0 0) := by
  unfold R_X10_put_0
  refine r_aload_n (pc := 0) ?_ dX10_put_0 rfl
  refine r_gp (pc := 1) (kf := 0) ?_ dX10_put_1 cl_X10 (Nat.le_of_ble_eq_true rfl) rfl wd_5_137 pv_X10_0
  refine r_bipush (pc := 4) ?_ dX10_put_4 (by decide)
  refine r_bipush (pc := 6) ?_ dX10_put_6 (by decide)
  refine r_iload_n (pc := 8) ?_ dX10_put_8 rfl
  refine r_imul (pc := 9) ?_ dX10_put_9
  refine r_iadd (pc := 10) ?_ dX10_put_10
  refine r_iload_n (pc := 11) ?_ dX10_put_11 rfl
  refine r_iadd (pc := 12) ?_ dX10_put_12
  refine r_lload_n (pc := 13) ?_ dX10_put_13 rfl
  refine r_las (pc := 14) ?_ dX10_put_14
  exact r_vr dX10_put_15 rfl (Nat.le_of_ble_eq_true rfl) (Nat.le_of_ble_eq_true rfl)
abbrev Y_X10_adds : YT := (yX10_adds, cX10_adds, 5, none, 0, 0, 0, 0)
theorem ok_X10_adds : okV Y_X10_adds 3 := ⟨⟨wd_6_81, wd_1_9, by decide, by decide, by decide +kernel⟩, wd_6_80, wp_64⟩
def R_X10_adds_0 (l : Launch) (G : GT) (F : FX) (Q : PQ) (QX : PX) : KT := (I_al 0 (I_gp 8 13 1 (I_ic 37 (I_ic 39 (I_il 1 (I_imul (I_iadd (I_il 2 (I_iadd (I_dup2 (I_lal (I_ll 3 (I_ladd (I_las (I_vr Q)))))))))))))))
set_option maxRecDepth 100000 in
theorem g_X10_adds_0 {l : Launch} {G : GT} {F : FX} {Q : PQ} {QX : PX} : Le (R_X10_adds_0 l G F Q QX) (Wj true l G F Y_X10_adds Q QX 0 0 0) := by
  unfold R_X10_adds_0
  refine r_aload_n (pc := 0) ?_ dX10_adds_0 rfl
  refine r_gp (pc := 1) (kf := 0) ?_ dX10_adds_1 cl_X10 (Nat.le_of_ble_eq_true rfl) rfl wd_5_137 pv_X10_0
  refine r_bipush (pc := 4) ?_ dX10_adds_4 (by decide)
  refine r_bipush (pc := 6) ?_ dX10_adds_6 (by decide)
  refine r_iload_n (pc := 8) ?_ dX10_adds_8 rfl
  refine r_imul (pc := 9) ?_ dX10_adds_9
  refine r_iadd (pc := 10) ?_ dX10_adds_10
  refine r_iload_n (pc := 11) ?_ dX10_adds_11 rfl
  refine r_iadd (pc := 12) ?_ dX10_adds_12
  refine r_dup2 (pc := 13) ?_ dX10_adds_13
  refine r_lal (pc := 14) ?_ dX10_adds_14
  refine r_lload_n (pc := 15) ?_ dX10_adds_15 rfl
  refine r_ladd (pc := 16) ?_ dX10_adds_16
  refine r_las (pc := 17) ?_ dX10_adds_17
  exact r_vr dX10_adds_18 rfl (Nat.le_of_ble_eq_true rfl) (Nat.le_of_ble_eq_true rfl)
abbrev Y_X10_mentorOf : YT := (yX10_mentorOf, cX10_mentorOf, 2, (some .int), 1, 22, 0, 0)
theorem ok_X10_mentorOf : okV Y_X10_mentorOf 1 := ⟨⟨wd_6_24, wd_1_9, by decide, by decide, by decide +kernel⟩, wd_6_23, wp_54⟩
def R_X10_mentorOf_0 (l : Launch) (G : GT) (F : FX) (Q : PQ) (QX : PX) : KT := (I_al 0 (I_il 1 (I_ic 1 (I_cv (Tr true l G Y_X10_of) 8 13 2 QX (I_l2i (I_ir Q))))))
set_option maxRecDepth 100000 in
theorem g_X10_mentorOf_0 {l : Launch} {G : GT} {F : FX} {Q : PQ} {QX : PX} : Le (R_X10_mentorOf_0 l G F Q QX) (Wj true l G F Y_X10_mentorOf Q QX 0 0 0) := by
  unfold R_X10_mentorOf_0
  refine r_aload_n (pc := 0) ?_ dX10_mentorOf_0 rfl
  refine r_iload_n (pc := 1) ?_ dX10_mentorOf_1 rfl
  refine r_iconst (pc := 2) ?_ dX10_mentorOf_2 (by decide)
  refine r_cv0 (pc := 3) ?_ dX10_mentorOf_3 cl_X10 ok_X10_of rfl wd_6_25 ⟨Nat.le_of_ble_eq_true rfl, Nat.le_of_ble_eq_true rfl⟩ ⟨Nat.le_of_ble_eq_true rfl, Nat.le_of_ble_eq_true rfl⟩ rfl rfl
  refine r_l2i (pc := 6) ?_ dX10_mentorOf_6
  exact r_ir dX10_mentorOf_7 rfl (Nat.le_of_ble_eq_true rfl) (Nat.le_of_ble_eq_true rfl)
abbrev Y_X10_needs : YT := (yX10_needs, cX10_needs, 3, (some .long), 1, 22, 0, 0)
theorem ok_X10_needs : okV Y_X10_needs 2 := ⟨⟨wd_6_206, wd_1_9, by decide, by decide, by decide +kernel⟩, wd_6_205, wp_83⟩
def R_X10_needs_0 (l : Launch) (G : GT) (F : FX) (Q : PQ) (QX : PX) : KT := (I_al 0 (I_gp 8 13 1 (I_ic 4 (I_ic 3 (I_al 0 (I_il 1 (I_ic 0 (I_cv (Tr true l G Y_X10_of) 8 13 2 QX (I_l2i (I_imul (I_iadd (I_il 2 (I_iadd (I_lal (I_lr Q)))))))))))))))
set_option maxRecDepth 100000 in
theorem g_X10_needs_0 {l : Launch} {G : GT} {F : FX} {Q : PQ} {QX : PX} : Le (R_X10_needs_0 l G F Q QX) (Wj true l G F Y_X10_needs Q QX 0 0 0) := by
  unfold R_X10_needs_0
  refine r_aload_n (pc := 0) ?_ dX10_needs_0 rfl
  refine r_gp (pc := 1) (kf := 0) ?_ dX10_needs_1 cl_X10 (Nat.le_of_ble_eq_true rfl) rfl wd_5_137 pv_X10_0
  refine r_iconst (pc := 4) ?_ dX10_needs_4 (by decide)
  refine r_iconst (pc := 5) ?_ dX10_needs_5 (by decide)
  refine r_aload_n (pc := 6) ?_ dX10_needs_6 rfl
  refine r_iload_n (pc := 7) ?_ dX10_needs_7 rfl
  refine r_iconst (pc := 8) ?_ dX10_needs_8 (by decide)
  refine r_cv0 (pc := 9) ?_ dX10_needs_9 cl_X10 ok_X10_of rfl wd_6_25 ⟨Nat.le_of_ble_eq_true rfl, Nat.le_of_ble_eq_true rfl⟩ ⟨Nat.le_of_ble_eq_true rfl, Nat.le_of_ble_eq_true rfl⟩ rfl rfl
  refine r_l2i (pc := 12) ?_ dX10_needs_12
  refine r_imul (pc := 13) ?_ dX10_needs_13
  refine r_iadd (pc := 14) ?_ dX10_needs_14
  refine r_iload_n (pc := 15) ?_ dX10_needs_15 rfl
  refine r_iadd (pc := 16) ?_ dX10_needs_16
  refine r_lal (pc := 17) ?_ dX10_needs_17
  exact r_lr dX10_needs_18 rfl (Nat.le_of_ble_eq_true rfl) (Nat.le_of_ble_eq_true rfl)
abbrev Y_X10_isDay : YT := (yX10_isDay, cX10_isDay, 4, (some .boolean), 1, 22, 0, 0)
theorem ok_X10_isDay : okV Y_X10_isDay 3 := ⟨⟨wd_6_49, wd_1_9, by decide, by decide, by decide +kernel⟩, wd_6_48, wp_59⟩
def R_X10_isDay_0 (l : Launch) (G : GT) (F : FX) (Q : PQ) (QX : PX) : KT := (I_il 3 (I_ic 200 (I_icge (I_ic 0 (I_zr Q)) (I_al 0 (I_il 1 (I_il 2 (I_il 3 (I_ic 50 (I_idiv (I_iadd (I_cv (Tr true l G Y_X10_of) 8 13 2 QX (I_il 3 (I_ic 50 (I_irem (I_lshr (I_lc 1 (I_land (I_lc 1 (I_lcmp (I_ifne (I_ic 0 (I_zr Q)) (I_ic 1 (I_zr Q))))))))))))))))))))))
set_option maxRecDepth 100000 in
theorem g_X10_isDay_0 {l : Launch} {G : GT} {F : FX} {Q : PQ} {QX : PX} : Le (R_X10_isDay_0 l G F Q QX) (Wj true l G F Y_X10_isDay Q QX 0 0 0) := by
  unfold R_X10_isDay_0
  refine r_iload_n (pc := 0) ?_ dX10_isDay_0 rfl
  refine r_sipush (pc := 1) ?_ dX10_isDay_1 (by decide)
  refine r_icge (pc := 4) (t := 34) ?_ ?_ dX10_isDay_4 (by decide)
  · refine r_iconst (pc := 34) ?_ dX10_isDay_34 (by decide)
    exact r_zr dX10_isDay_35 rfl (Nat.le_of_ble_eq_true rfl) (Nat.le_of_ble_eq_true rfl)
  · refine r_aload_n (pc := 7) ?_ dX10_isDay_7 rfl
    refine r_iload_n (pc := 8) ?_ dX10_isDay_8 rfl
    refine r_iload_n (pc := 9) ?_ dX10_isDay_9 rfl
    refine r_iload_n (pc := 10) ?_ dX10_isDay_10 rfl
    refine r_bipush (pc := 11) ?_ dX10_isDay_11 (by decide)
    refine r_idiv (pc := 13) ?_ dX10_isDay_13
    refine r_iadd (pc := 14) ?_ dX10_isDay_14
    refine r_cv0 (pc := 15) ?_ dX10_isDay_15 cl_X10 ok_X10_of rfl wd_6_25 ⟨Nat.le_of_ble_eq_true rfl, Nat.le_of_ble_eq_true rfl⟩ ⟨Nat.le_of_ble_eq_true rfl, Nat.le_of_ble_eq_true rfl⟩ rfl rfl
    refine r_iload_n (pc := 18) ?_ dX10_isDay_18 rfl
    refine r_bipush (pc := 19) ?_ dX10_isDay_19 (by decide)
    refine r_irem (pc := 21) ?_ dX10_isDay_21
    refine r_lshr (pc := 22) ?_ dX10_isDay_22
    refine r_lconst (pc := 23) ?_ dX10_isDay_23 (by decide)
    refine r_land (pc := 24) ?_ dX10_isDay_24
    refine r_lconst (pc := 25) ?_ dX10_isDay_25 (by decide)
    refine r_lcmp (pc := 26) ?_ dX10_isDay_26
    refine r_ifne (pc := 27) (t := 34) ?_ ?_ dX10_isDay_27 (by decide)
    · refine r_iconst (pc := 34) ?_ dX10_isDay_34 (by decide)
      exact r_zr dX10_isDay_35 rfl (Nat.le_of_ble_eq_true rfl) (Nat.le_of_ble_eq_true rfl)
    · refine r_iconst (pc := 30) ?_ dX10_isDay_30 (by decide)
      refine r_goto (pc := 31) (t := 35) ?_ dX10_isDay_31 (by decide)
      exact r_zr dX10_isDay_35 rfl (Nat.le_of_ble_eq_true rfl) (Nat.le_of_ble_eq_true rfl)
abbrev Y_X10_putDay : YT := (yX10_putDay, cX10_putDay, 4, none, 1, 24, 0, 0)
theorem ok_X10_putDay : okV Y_X10_putDay 3 := ⟨⟨wd_6_53, wd_1_9, by decide, by decide, by decide +kernel⟩, wd_6_52, wp_60⟩
def R_X10_putDay_0 (l : Launch) (G : GT) (F : FX) (Q : PQ) (QX : PX) : KT := (I_il 3 (I_ic 200 (I_icge (I_vr Q) (I_al 0 (I_il 1 (I_il 2 (I_il 3 (I_ic 50 (I_idiv (I_iadd (I_al 0 (I_il 1 (I_il 2 (I_il 3 (I_ic 50 (I_idiv (I_iadd (I_cv (Tr true l G Y_X10_of) 8 13 2 QX (I_lc 1 (I_il 3 (I_ic 50 (I_irem (I_lshl (I_lor (I_cv (Tr true l G Y_X10_put) 8 13 3 QX (I_vr Q))))))))))))))))))))))))))
set_option maxRecDepth 100000 in
theorem g_X10_putDay_0 {l : Launch} {G : GT} {F : FX} {Q : PQ} {QX : PX} : Le (R_X10_putDay_0 l G F Q QX) (Wj true l G F Y_X10_putDay Q QX 0 0 0) := by
  unfold R_X10_putDay_0
  refine r_iload_n (pc := 0) ?_ dX10_putDay_0 rfl
  refine r_sipush (pc := 1) ?_ dX10_putDay_1 (by decide)
  refine r_icge (pc := 4) (t := 36) ?_ ?_ dX10_putDay_4 (by decide)
  · exact r_vr dX10_putDay_36 rfl (Nat.le_of_ble_eq_true rfl) (Nat.le_of_ble_eq_true rfl)
  · refine r_aload_n (pc := 7) ?_ dX10_putDay_7 rfl
    refine r_iload_n (pc := 8) ?_ dX10_putDay_8 rfl
    refine r_iload_n (pc := 9) ?_ dX10_putDay_9 rfl
    refine r_iload_n (pc := 10) ?_ dX10_putDay_10 rfl
    refine r_bipush (pc := 11) ?_ dX10_putDay_11 (by decide)
    refine r_idiv (pc := 13) ?_ dX10_putDay_13
    refine r_iadd (pc := 14) ?_ dX10_putDay_14
    refine r_aload_n (pc := 15) ?_ dX10_putDay_15 rfl
    refine r_iload_n (pc := 16) ?_ dX10_putDay_16 rfl
    refine r_iload_n (pc := 17) ?_ dX10_putDay_17 rfl
    refine r_iload_n (pc := 18) ?_ dX10_putDay_18 rfl
    refine r_bipush (pc := 19) ?_ dX10_putDay_19 (by decide)
    refine r_idiv (pc := 21) ?_ dX10_putDay_21
    refine r_iadd (pc := 22) ?_ dX10_putDay_22
    refine r_cv0 (pc := 23) ?_ dX10_putDay_23 cl_X10 ok_X10_of rfl wd_6_25 ⟨Nat.le_of_ble_eq_true rfl, Nat.le_of_ble_eq_true rfl⟩ ⟨Nat.le_of_ble_eq_true rfl, Nat.le_of_ble_eq_true rfl⟩ rfl rfl
    refine r_lconst (pc := 26) ?_ dX10_putDay_26 (by decide)
    refine r_iload_n (pc := 27) ?_ dX10_putDay_27 rfl
    refine r_bipush (pc := 28) ?_ dX10_putDay_28 (by decide)
    refine r_irem (pc := 30) ?_ dX10_putDay_30
    refine r_lshl (pc := 31) ?_ dX10_putDay_31
    refine r_lor (pc := 32) ?_ dX10_putDay_32
    refine r_cv0 (pc := 33) ?_ dX10_putDay_33 cl_X10 ok_X10_put rfl wd_6_29 ⟨Nat.le_of_ble_eq_true rfl, Nat.le_of_ble_eq_true rfl⟩ ⟨Nat.le_of_ble_eq_true rfl, Nat.le_of_ble_eq_true rfl⟩ rfl rfl
    exact r_vr dX10_putDay_36 rfl (Nat.le_of_ble_eq_true rfl) (Nat.le_of_ble_eq_true rfl)
abbrev Y_X10_releases : YT := (yX10_releases, cX10_releases, 4, (some .int), 2, 45, 0, 0)
theorem ok_X10_releases : okV Y_X10_releases 1 := ⟨⟨wd_6_57, wd_1_9, by decide, by decide, by decide +kernel⟩, wd_6_56, wp_61⟩
def R_X10_releases_0 (l : Launch) (G : GT) (F : FX) (Q : PQ) (QX : PX) : KT := (I_ic 0 (I_is 2 (I_ic 0 (I_is 3 (Wj true l G F Y_X10_releases Q QX 0 0 4)))))
set_option maxRecDepth 100000 in
theorem g_X10_releases_0 {l : Launch} {G : GT} {F : FX} {Q : PQ} {QX : PX} : Le (R_X10_releases_0 l G F Q QX) (Wj true l G F Y_X10_releases Q QX 0 0 0) := by
  unfold R_X10_releases_0
  refine r_iconst (pc := 0) ?_ dX10_releases_0 (by decide)
  refine r_istore_n (pc := 1) ?_ dX10_releases_1 rfl (Nat.le_of_ble_eq_true rfl)
  refine r_iconst (pc := 2) ?_ dX10_releases_2 (by decide)
  refine r_istore_n (pc := 3) ?_ dX10_releases_3 rfl (Nat.le_of_ble_eq_true rfl)
  exact Le.rf
def R_X10_releases_4 (l : Launch) (G : GT) (F : FX) (Q : PQ) (QX : PX) : KT := (I_il 3 (I_ic 200 (I_icge (I_il 2 (I_ir Q)) (I_il 2 (I_al 0 (I_il 1 (I_ic 11 (I_il 3 (I_cv (Tr true l G Y_X10_isDay) 8 13 3 QX (I_ifeq (I_ic 0 (I_iadd (I_is 2 (I_inc 3 1 (Wj true l G F Y_X10_releases Q QX 0 0 4))))) (I_ic 1 (I_iadd (I_is 2 (I_inc 3 1 (Wj true l G F Y_X10_releases Q QX 0 0 4)))))))))))))))
set_option maxRecDepth 100000 in
theorem g_X10_releases_4 {l : Launch} {G : GT} {F : FX} {Q : PQ} {QX : PX} : Le (R_X10_releases_4 l G F Q QX) (Wj true l G F Y_X10_releases Q QX 0 0 4) := by
  unfold R_X10_releases_4
  refine r_iload_n (pc := 4) ?_ dX10_releases_4 rfl
  refine r_sipush (pc := 5) ?_ dX10_releases_5 (by decide)
  refine r_icge (pc := 8) (t := 36) ?_ ?_ dX10_releases_8 (by decide)
  · refine r_iload_n (pc := 36) ?_ dX10_releases_36 rfl
    exact r_ir dX10_releases_37 rfl (Nat.le_of_ble_eq_true rfl) (Nat.le_of_ble_eq_true rfl)
  · refine r_iload_n (pc := 11) ?_ dX10_releases_11 rfl
    refine r_aload_n (pc := 12) ?_ dX10_releases_12 rfl
    refine r_iload_n (pc := 13) ?_ dX10_releases_13 rfl
    refine r_bipush (pc := 14) ?_ dX10_releases_14 (by decide)
    refine r_iload_n (pc := 16) ?_ dX10_releases_16 rfl
    refine r_cv0 (pc := 17) ?_ dX10_releases_17 cl_X10 ok_X10_isDay rfl wd_6_46 ⟨Nat.le_of_ble_eq_true rfl, Nat.le_of_ble_eq_true rfl⟩ ⟨Nat.le_of_ble_eq_true rfl, Nat.le_of_ble_eq_true rfl⟩ rfl rfl
    refine r_ifeq (pc := 20) (t := 27) ?_ ?_ dX10_releases_20 (by decide)
    · refine r_iconst (pc := 27) ?_ dX10_releases_27 (by decide)
      refine r_iadd (pc := 28) ?_ dX10_releases_28
      refine r_istore_n (pc := 29) ?_ dX10_releases_29 rfl (Nat.le_of_ble_eq_true rfl)
      refine r_iinc (pc := 30) ?_ dX10_releases_30 (by decide) (Nat.le_of_ble_eq_true rfl)
      refine r_goto (pc := 33) (t := 4) ?_ dX10_releases_33 (by decide)
      exact Le.rf
    · refine r_iconst (pc := 23) ?_ dX10_releases_23 (by decide)
      refine r_goto (pc := 24) (t := 28) ?_ dX10_releases_24 (by decide)
      refine r_iadd (pc := 28) ?_ dX10_releases_28
      refine r_istore_n (pc := 29) ?_ dX10_releases_29 rfl (Nat.le_of_ble_eq_true rfl)
      refine r_iinc (pc := 30) ?_ dX10_releases_30 (by decide) (Nat.le_of_ble_eq_true rfl)
      refine r_goto (pc := 33) (t := 4) ?_ dX10_releases_33 (by decide)
      exact Le.rf
abbrev Y_X10_entryOf : YT := (yX10_entryOf, cX10_entryOf, 5, (some .int), 1, 22, 0, 0)
theorem ok_X10_entryOf : okV Y_X10_entryOf 3 := ⟨⟨wd_6_94, wd_1_9, by decide, by decide, by decide +kernel⟩, wd_6_93, wp_66⟩
def R_X10_entryOf_0 (l : Launch) (G : GT) (F : FX) (Q : PQ) (QX : PX) : KT := (I_al 0 (I_il 1 (I_ic 19 (I_il 2 (I_iadd (I_cv (Tr true l G Y_X10_of) 8 13 2 QX (I_l2i (I_is 4 (I_il 3 (I_ifne (I_il 3 (I_ic 1 (I_icne (I_il 3 (I_ic 3 (I_icne (I_il 4 (I_ic 512 (I_idiv (I_ir Q)))) (I_il 4 (I_ic 64 (I_idiv (I_ic 8 (I_irem (I_ir Q))))))))) (I_il 4 (I_ic 4 (I_idiv (I_ic 16 (I_irem (I_ir Q))))))))) (I_il 4 (I_ic 4 (I_irem (I_ir Q))))))))))))))
set_option maxRecDepth 100000 in
theorem g_X10_entryOf_0 {l : Launch} {G : GT} {F : FX} {Q : PQ} {QX : PX} : Le (R_X10_entryOf_0 l G F Q QX) (Wj true l G F Y_X10_entryOf Q QX 0 0 0) := by
  unfold R_X10_entryOf_0
  refine r_aload_n (pc := 0) ?_ dX10_entryOf_0 rfl
  refine r_iload_n (pc := 1) ?_ dX10_entryOf_1 rfl
  refine r_bipush (pc := 2) ?_ dX10_entryOf_2 (by decide)
  refine r_iload_n (pc := 4) ?_ dX10_entryOf_4 rfl
  refine r_iadd (pc := 5) ?_ dX10_entryOf_5
  refine r_cv0 (pc := 6) ?_ dX10_entryOf_6 cl_X10 ok_X10_of rfl wd_6_25 ⟨Nat.le_of_ble_eq_true rfl, Nat.le_of_ble_eq_true rfl⟩ ⟨Nat.le_of_ble_eq_true rfl, Nat.le_of_ble_eq_true rfl⟩ rfl rfl
  refine r_l2i (pc := 9) ?_ dX10_entryOf_9
  refine r_istore (pc := 10) ?_ dX10_entryOf_10 (Nat.le_of_ble_eq_true rfl)
  refine r_iload_n (pc := 12) ?_ dX10_entryOf_12 rfl
  refine r_ifne (pc := 13) (t := 23) ?_ ?_ dX10_entryOf_13 (by decide)
  · refine r_iload_n (pc := 23) ?_ dX10_entryOf_23 rfl
    refine r_iconst (pc := 24) ?_ dX10_entryOf_24 (by decide)
    refine r_icne (pc := 25) (t := 38) ?_ ?_ dX10_entryOf_25 (by decide)
    · refine r_iload_n (pc := 38) ?_ dX10_entryOf_38 rfl
      refine r_iconst (pc := 39) ?_ dX10_entryOf_39 (by decide)
      refine r_icne (pc := 40) (t := 54) ?_ ?_ dX10_entryOf_40 (by decide)
      · refine r_iload (pc := 54) ?_ dX10_entryOf_54
        refine r_sipush (pc := 56) ?_ dX10_entryOf_56 (by decide)
        refine r_idiv (pc := 59) ?_ dX10_entryOf_59
        exact r_ir dX10_entryOf_60 rfl (Nat.le_of_ble_eq_true rfl) (Nat.le_of_ble_eq_true rfl)
      · refine r_iload (pc := 43) ?_ dX10_entryOf_43
        refine r_bipush (pc := 45) ?_ dX10_entryOf_45 (by decide)
        refine r_idiv (pc := 47) ?_ dX10_entryOf_47
        refine r_bipush (pc := 48) ?_ dX10_entryOf_48 (by decide)
        refine r_irem (pc := 50) ?_ dX10_entryOf_50
        refine r_goto (pc := 51) (t := 60) ?_ dX10_entryOf_51 (by decide)
        exact r_ir dX10_entryOf_60 rfl (Nat.le_of_ble_eq_true rfl) (Nat.le_of_ble_eq_true rfl)
    · refine r_iload (pc := 28) ?_ dX10_entryOf_28
      refine r_iconst (pc := 30) ?_ dX10_entryOf_30 (by decide)
      refine r_idiv (pc := 31) ?_ dX10_entryOf_31
      refine r_bipush (pc := 32) ?_ dX10_entryOf_32 (by decide)
      refine r_irem (pc := 34) ?_ dX10_entryOf_34
      refine r_goto (pc := 35) (t := 60) ?_ dX10_entryOf_35 (by decide)
      exact r_ir dX10_entryOf_60 rfl (Nat.le_of_ble_eq_true rfl) (Nat.le_of_ble_eq_true rfl)
  · refine r_iload (pc := 16) ?_ dX10_entryOf_16
    refine r_iconst (pc := 18) ?_ dX10_entryOf_18 (by decide)
    refine r_irem (pc := 19) ?_ dX10_entryOf_19
    refine r_goto (pc := 20) (t := 60) ?_ dX10_entryOf_20 (by decide)
    exact r_ir dX10_entryOf_60 rfl (Nat.le_of_ble_eq_true rfl) (Nat.le_of_ble_eq_true rfl)
abbrev Y_X10_entries : YT := (yX10_entries, cX10_entries, 2, (some .int), 1, 22, 0, 0)
theorem ok_X10_entries : okV Y_X10_entries 1 := ⟨⟨wd_6_74, wd_1_9, by decide, by decide, by decide +kernel⟩, wd_6_73, wp_63⟩
def R_X10_entries_0 (l : Launch) (G : GT) (F : FX) (Q : PQ) (QX : PX) : KT := (I_al 0 (I_il 1 (I_ic 9 (I_cv (Tr true l G Y_X10_of) 8 13 2 QX (I_al 0 (I_il 1 (I_ic 10 (I_cv (Tr true l G Y_X10_of) 8 13 2 QX (I_ladd (I_l2i (I_ir Q)))))))))))
set_option maxRecDepth 100000 in
theorem g_X10_entries_0 {l : Launch} {G : GT} {F : FX} {Q : PQ} {QX : PX} : Le (R_X10_entries_0 l G F Q QX) (Wj true l G F Y_X10_entries Q QX 0 0 0) := by
  unfold R_X10_entries_0
  refine r_aload_n (pc := 0) ?_ dX10_entries_0 rfl
  refine r_iload_n (pc := 1) ?_ dX10_entries_1 rfl
  refine r_bipush (pc := 2) ?_ dX10_entries_2 (by decide)
  refine r_cv0 (pc := 4) ?_ dX10_entries_4 cl_X10 ok_X10_of rfl wd_6_25 ⟨Nat.le_of_ble_eq_true rfl, Nat.le_of_ble_eq_true rfl⟩ ⟨Nat.le_of_ble_eq_true rfl, Nat.le_of_ble_eq_true rfl⟩ rfl rfl
  refine r_aload_n (pc := 7) ?_ dX10_entries_7 rfl
  refine r_iload_n (pc := 8) ?_ dX10_entries_8 rfl
  refine r_bipush (pc := 9) ?_ dX10_entries_9 (by decide)
  refine r_cv0 (pc := 11) ?_ dX10_entries_11 cl_X10 ok_X10_of rfl wd_6_25 ⟨Nat.le_of_ble_eq_true rfl, Nat.le_of_ble_eq_true rfl⟩ ⟨Nat.le_of_ble_eq_true rfl, Nat.le_of_ble_eq_true rfl⟩ rfl rfl
  refine r_ladd (pc := 14) ?_ dX10_entries_14
  refine r_l2i (pc := 15) ?_ dX10_entries_15
  exact r_ir dX10_entries_16 rfl (Nat.le_of_ble_eq_true rfl) (Nat.le_of_ble_eq_true rfl)
abbrev Y_X10_takesOut : YT := (yX10_takesOut, cX10_takesOut, 6, (some .long), 2, 43, 0, 0)
theorem ok_X10_takesOut : okV Y_X10_takesOut 2 := ⟨⟨wd_6_99, wd_1_9, by decide, by decide, by decide +kernel⟩, wd_6_98, wp_67⟩
def R_X10_takesOut_0 (l : Launch) (G : GT) (F : FX) (Q : PQ) (QX : PX) : KT := (I_al 0 (I_il 1 (I_ic 19 (I_il 2 (I_iadd (I_cv (Tr true l G Y_X10_of) 8 13 2 QX (I_ls 3 (I_il 2 (I_is 5 (I_kl 2 (Wj true l G F Y_X10_takesOut Q QX 0 0 13)))))))))))
set_option maxRecDepth 100000 in
theorem g_X10_takesOut_0 {l : Launch} {G : GT} {F : FX} {Q : PQ} {QX : PX} : Le (R_X10_takesOut_0 l G F Q QX) (Wj true l G F Y_X10_takesOut Q QX 0 0 0) := by
  unfold R_X10_takesOut_0
  refine r_aload_n (pc := 0) ?_ dX10_takesOut_0 rfl
  refine r_iload_n (pc := 1) ?_ dX10_takesOut_1 rfl
  refine r_bipush (pc := 2) ?_ dX10_takesOut_2 (by decide)
  refine r_iload_n (pc := 4) ?_ dX10_takesOut_4 rfl
  refine r_iadd (pc := 5) ?_ dX10_takesOut_5
  refine r_cv0 (pc := 6) ?_ dX10_takesOut_6 cl_X10 ok_X10_of rfl wd_6_25 ⟨Nat.le_of_ble_eq_true rfl, Nat.le_of_ble_eq_true rfl⟩ ⟨Nat.le_of_ble_eq_true rfl, Nat.le_of_ble_eq_true rfl⟩ rfl rfl
  refine r_lstore_n (pc := 9) ?_ dX10_takesOut_9 rfl (Nat.le_of_ble_eq_true rfl)
  refine r_iload_n (pc := 10) ?_ dX10_takesOut_10 rfl
  refine r_istore (pc := 11) ?_ dX10_takesOut_11 (Nat.le_of_ble_eq_true rfl)
  refine r_kl ?_
  exact Le.rf
def R_X10_takesOut_13 (l : Launch) (G : GT) (F : FX) (Q : PQ) (QX : PX) : KT := (I_il 5 (I_ic 1 (I_iadd (I_al 0 (I_il 1 (I_cv (Tr true l G Y_X10_entries) 8 13 1 QX (I_icge (I_ll 3 (I_lr Q)) (I_al 0 (I_il 1 (I_ic 19 (I_il 5 (I_iadd (I_al 0 (I_il 1 (I_ic 19 (I_il 5 (I_iadd (I_ic 1 (I_iadd (I_cv (Tr true l G Y_X10_of) 8 13 2 QX (I_cv (Tr true l G Y_X10_put) 8 13 3 QX (I_inc 5 1 (Wj true l G F Y_X10_takesOut Q QX 0 0 13)))))))))))))))))))))))
set_option maxRecDepth 100000 in
theorem g_X10_takesOut_13 {l : Launch} {G : GT} {F : FX} {Q : PQ} {QX : PX} : Le (R_X10_takesOut_13 l G F Q QX) (Wj true l G F Y_X10_takesOut Q QX 0 0 13) := by
  unfold R_X10_takesOut_13
  refine r_iload (pc := 13) ?_ dX10_takesOut_13
  refine r_iconst (pc := 15) ?_ dX10_takesOut_15 (by decide)
  refine r_iadd (pc := 16) ?_ dX10_takesOut_16
  refine r_aload_n (pc := 17) ?_ dX10_takesOut_17 rfl
  refine r_iload_n (pc := 18) ?_ dX10_takesOut_18 rfl
  refine r_cv0 (pc := 19) ?_ dX10_takesOut_19 cl_X10 ok_X10_entries rfl wd_6_71 ⟨Nat.le_of_ble_eq_true rfl, Nat.le_of_ble_eq_true rfl⟩ ⟨Nat.le_of_ble_eq_true rfl, Nat.le_of_ble_eq_true rfl⟩ rfl rfl
  refine r_icge (pc := 22) (t := 53) ?_ ?_ dX10_takesOut_22 (by decide)
  · refine r_lload_n (pc := 53) ?_ dX10_takesOut_53 rfl
    exact r_lr dX10_takesOut_54 rfl (Nat.le_of_ble_eq_true rfl) (Nat.le_of_ble_eq_true rfl)
  · refine r_aload_n (pc := 25) ?_ dX10_takesOut_25 rfl
    refine r_iload_n (pc := 26) ?_ dX10_takesOut_26 rfl
    refine r_bipush (pc := 27) ?_ dX10_takesOut_27 (by decide)
    refine r_iload (pc := 29) ?_ dX10_takesOut_29
    refine r_iadd (pc := 31) ?_ dX10_takesOut_31
    refine r_aload_n (pc := 32) ?_ dX10_takesOut_32 rfl
    refine r_iload_n (pc := 33) ?_ dX10_takesOut_33 rfl
    refine r_bipush (pc := 34) ?_ dX10_takesOut_34 (by decide)
    refine r_iload (pc := 36) ?_ dX10_takesOut_36
    refine r_iadd (pc := 38) ?_ dX10_takesOut_38
    refine r_iconst (pc := 39) ?_ dX10_takesOut_39 (by decide)
    refine r_iadd (pc := 40) ?_ dX10_takesOut_40
    refine r_cv0 (pc := 41) ?_ dX10_takesOut_41 cl_X10 ok_X10_of rfl wd_6_25 ⟨Nat.le_of_ble_eq_true rfl, Nat.le_of_ble_eq_true rfl⟩ ⟨Nat.le_of_ble_eq_true rfl, Nat.le_of_ble_eq_true rfl⟩ rfl rfl
    refine r_cv0 (pc := 44) ?_ dX10_takesOut_44 cl_X10 ok_X10_put rfl wd_6_29 ⟨Nat.le_of_ble_eq_true rfl, Nat.le_of_ble_eq_true rfl⟩ ⟨Nat.le_of_ble_eq_true rfl, Nat.le_of_ble_eq_true rfl⟩ rfl rfl
    refine r_iinc (pc := 47) ?_ dX10_takesOut_47 (by decide) (Nat.le_of_ble_eq_true rfl)
    refine r_goto (pc := 50) (t := 13) ?_ dX10_takesOut_50 (by decide)
    exact Le.rf
abbrev Y_X10_doubts : YT := (yX10_doubts, cX10_doubts, 5, none, 3, 68, 0, 0)
theorem ok_X10_doubts : okV Y_X10_doubts 2 := ⟨⟨wd_6_112, wd_1_9, by decide, by decide, by decide +kernel⟩, wd_6_111, wp_69⟩
def R_X10_doubts_0 (l : Launch) (G : GT) (F : FX) (Q : PQ) (QX : PX) : KT := (I_al 0 (I_il 1 (I_il 2 (I_cv (Tr true l G Y_X10_takesOut) 8 13 2 QX (I_ls 3 (I_al 0 (I_il 1 (I_ic 19 (I_al 0 (I_il 1 (I_cv (Tr true l G Y_X10_entries) 8 13 1 QX (I_iadd (I_ic 1 (I_isub (I_ll 3 (I_cv (Tr true l G Y_X10_put) 8 13 3 QX (I_al 0 (I_il 1 (I_ic 9 (I_lc (-1 : Int64) (I_cv (Tr true l G Y_X10_adds) 8 13 3 QX (I_al 0 (I_il 1 (I_ic 10 (I_lc 1 (I_cv (Tr true l G Y_X10_adds) 8 13 3 QX (I_vr Q)))))))))))))))))))))))))))
set_option maxRecDepth 100000 in
theorem g_X10_doubts_0 {l : Launch} {G : GT} {F : FX} {Q : PQ} {QX : PX} : Le (R_X10_doubts_0 l G F Q QX) (Wj true l G F Y_X10_doubts Q QX 0 0 0) := by
  unfold R_X10_doubts_0
  refine r_aload_n (pc := 0) ?_ dX10_doubts_0 rfl
  refine r_iload_n (pc := 1) ?_ dX10_doubts_1 rfl
  refine r_iload_n (pc := 2) ?_ dX10_doubts_2 rfl
  refine r_cv0 (pc := 3) ?_ dX10_doubts_3 cl_X10 ok_X10_takesOut rfl wd_6_96 ⟨Nat.le_of_ble_eq_true rfl, Nat.le_of_ble_eq_true rfl⟩ ⟨Nat.le_of_ble_eq_true rfl, Nat.le_of_ble_eq_true rfl⟩ rfl rfl
  refine r_lstore_n (pc := 6) ?_ dX10_doubts_6 rfl (Nat.le_of_ble_eq_true rfl)
  refine r_aload_n (pc := 7) ?_ dX10_doubts_7 rfl
  refine r_iload_n (pc := 8) ?_ dX10_doubts_8 rfl
  refine r_bipush (pc := 9) ?_ dX10_doubts_9 (by decide)
  refine r_aload_n (pc := 11) ?_ dX10_doubts_11 rfl
  refine r_iload_n (pc := 12) ?_ dX10_doubts_12 rfl
  refine r_cv0 (pc := 13) ?_ dX10_doubts_13 cl_X10 ok_X10_entries rfl wd_6_71 ⟨Nat.le_of_ble_eq_true rfl, Nat.le_of_ble_eq_true rfl⟩ ⟨Nat.le_of_ble_eq_true rfl, Nat.le_of_ble_eq_true rfl⟩ rfl rfl
  refine r_iadd (pc := 16) ?_ dX10_doubts_16
  refine r_iconst (pc := 17) ?_ dX10_doubts_17 (by decide)
  refine r_isub (pc := 18) ?_ dX10_doubts_18
  refine r_lload_n (pc := 19) ?_ dX10_doubts_19 rfl
  refine r_cv0 (pc := 20) ?_ dX10_doubts_20 cl_X10 ok_X10_put rfl wd_6_29 ⟨Nat.le_of_ble_eq_true rfl, Nat.le_of_ble_eq_true rfl⟩ ⟨Nat.le_of_ble_eq_true rfl, Nat.le_of_ble_eq_true rfl⟩ rfl rfl
  refine r_aload_n (pc := 23) ?_ dX10_doubts_23 rfl
  refine r_iload_n (pc := 24) ?_ dX10_doubts_24 rfl
  refine r_bipush (pc := 25) ?_ dX10_doubts_25 (by decide)
  refine r_ldc2 (pc := 27) ?_ dX10_doubts_27 wd_6_100
  refine r_cv0 (pc := 30) ?_ dX10_doubts_30 cl_X10 ok_X10_adds rfl wd_6_78 ⟨Nat.le_of_ble_eq_true rfl, Nat.le_of_ble_eq_true rfl⟩ ⟨Nat.le_of_ble_eq_true rfl, Nat.le_of_ble_eq_true rfl⟩ rfl rfl
  refine r_aload_n (pc := 33) ?_ dX10_doubts_33 rfl
  refine r_iload_n (pc := 34) ?_ dX10_doubts_34 rfl
  refine r_bipush (pc := 35) ?_ dX10_doubts_35 (by decide)
  refine r_lconst (pc := 37) ?_ dX10_doubts_37 (by decide)
  refine r_cv0 (pc := 38) ?_ dX10_doubts_38 cl_X10 ok_X10_adds rfl wd_6_78 ⟨Nat.le_of_ble_eq_true rfl, Nat.le_of_ble_eq_true rfl⟩ ⟨Nat.le_of_ble_eq_true rfl, Nat.le_of_ble_eq_true rfl⟩ rfl rfl
  exact r_vr dX10_doubts_41 rfl (Nat.le_of_ble_eq_true rfl) (Nat.le_of_ble_eq_true rfl)
abbrev Y_X10_hoursOf : YT := (yX10_hoursOf, cX10_hoursOf, 8, (some .int), 2, 46, 0, 0)
theorem ok_X10_hoursOf : okV Y_X10_hoursOf 3 := ⟨⟨wd_6_194, wd_1_9, by decide, by decide, by decide +kernel⟩, wd_6_193, wp_80⟩
def R_X10_hoursOf_0 (l : Launch) (G : GT) (F : FX) (Q : PQ) (QX : PX) : KT := (I_il 3 (I_ifeq (I_ic 0 (Wj true l G F Y_X10_hoursOf Q QX 0 0 16)) (I_al 0 (I_il 1 (I_ic 9 (I_cv (Tr true l G Y_X10_of) 8 13 2 QX (I_l2i (Wj true l G F Y_X10_hoursOf Q QX 0 0 16))))))))
set_option maxRecDepth 100000 in
theorem g_X10_hoursOf_0 {l : Launch} {G : GT} {F : FX} {Q : PQ} {QX : PX} : Le (R_X10_hoursOf_0 l G F Q QX) (Wj true l G F Y_X10_hoursOf Q QX 0 0 0) := by
  unfold R_X10_hoursOf_0
  refine r_iload_n (pc := 0) ?_ dX10_hoursOf_0 rfl
  refine r_ifeq (pc := 1) (t := 15) ?_ ?_ dX10_hoursOf_1 (by decide)
  · refine r_iconst (pc := 15) ?_ dX10_hoursOf_15 (by decide)
    exact Le.rf
  · refine r_aload_n (pc := 4) ?_ dX10_hoursOf_4 rfl
    refine r_iload_n (pc := 5) ?_ dX10_hoursOf_5 rfl
    refine r_bipush (pc := 6) ?_ dX10_hoursOf_6 (by decide)
    refine r_cv0 (pc := 8) ?_ dX10_hoursOf_8 cl_X10 ok_X10_of rfl wd_6_25 ⟨Nat.le_of_ble_eq_true rfl, Nat.le_of_ble_eq_true rfl⟩ ⟨Nat.le_of_ble_eq_true rfl, Nat.le_of_ble_eq_true rfl⟩ rfl rfl
    refine r_l2i (pc := 11) ?_ dX10_hoursOf_11
    refine r_goto (pc := 12) (t := 16) ?_ dX10_hoursOf_12 (by decide)
    exact Le.rf
def R_X10_hoursOf_16 (l : Launch) (G : GT) (F : FX) (Q : PQ) (QX : PX) : KT := (I_is 4 (I_il 3 (I_ifeq (I_al 0 (I_il 1 (I_ic 9 (I_cv (Tr true l G Y_X10_of) 8 13 2 QX (I_l2i (I_is 5 (I_ic 0 (I_is 6 (I_il 4 (I_is 7 (I_kl 4 (I_kl 3 (Wj true l G F Y_X10_hoursOf Q QX 0 0 47))))))))))))) (I_al 0 (I_il 1 (I_cv (Tr true l G Y_X10_entries) 8 13 1 QX (I_is 5 (I_ic 0 (I_is 6 (I_il 4 (I_is 7 (I_kl 4 (I_kl 3 (Wj true l G F Y_X10_hoursOf Q QX 0 0 47))))))))))))))
set_option maxRecDepth 100000 in
theorem g_X10_hoursOf_16 {l : Launch} {G : GT} {F : FX} {Q : PQ} {QX : PX} : Le (R_X10_hoursOf_16 l G F Q QX) (Wj true l G F Y_X10_hoursOf Q QX 0 0 16) := by
  unfold R_X10_hoursOf_16
  refine r_istore (pc := 16) ?_ dX10_hoursOf_16 (Nat.le_of_ble_eq_true rfl)
  refine r_iload_n (pc := 18) ?_ dX10_hoursOf_18 rfl
  refine r_ifeq (pc := 19) (t := 30) ?_ ?_ dX10_hoursOf_19 (by decide)
  · refine r_aload_n (pc := 30) ?_ dX10_hoursOf_30 rfl
    refine r_iload_n (pc := 31) ?_ dX10_hoursOf_31 rfl
    refine r_bipush (pc := 32) ?_ dX10_hoursOf_32 (by decide)
    refine r_cv0 (pc := 34) ?_ dX10_hoursOf_34 cl_X10 ok_X10_of rfl wd_6_25 ⟨Nat.le_of_ble_eq_true rfl, Nat.le_of_ble_eq_true rfl⟩ ⟨Nat.le_of_ble_eq_true rfl, Nat.le_of_ble_eq_true rfl⟩ rfl rfl
    refine r_l2i (pc := 37) ?_ dX10_hoursOf_37
    refine r_istore (pc := 38) ?_ dX10_hoursOf_38 (Nat.le_of_ble_eq_true rfl)
    refine r_iconst (pc := 40) ?_ dX10_hoursOf_40 (by decide)
    refine r_istore (pc := 41) ?_ dX10_hoursOf_41 (Nat.le_of_ble_eq_true rfl)
    refine r_iload (pc := 43) ?_ dX10_hoursOf_43
    refine r_istore (pc := 45) ?_ dX10_hoursOf_45 (Nat.le_of_ble_eq_true rfl)
    refine r_kl ?_
    refine r_kl ?_
    exact Le.rf
  · refine r_aload_n (pc := 22) ?_ dX10_hoursOf_22 rfl
    refine r_iload_n (pc := 23) ?_ dX10_hoursOf_23 rfl
    refine r_cv0 (pc := 24) ?_ dX10_hoursOf_24 cl_X10 ok_X10_entries rfl wd_6_71 ⟨Nat.le_of_ble_eq_true rfl, Nat.le_of_ble_eq_true rfl⟩ ⟨Nat.le_of_ble_eq_true rfl, Nat.le_of_ble_eq_true rfl⟩ rfl rfl
    refine r_goto (pc := 27) (t := 38) ?_ dX10_hoursOf_27 (by decide)
    refine r_istore (pc := 38) ?_ dX10_hoursOf_38 (Nat.le_of_ble_eq_true rfl)
    refine r_iconst (pc := 40) ?_ dX10_hoursOf_40 (by decide)
    refine r_istore (pc := 41) ?_ dX10_hoursOf_41 (Nat.le_of_ble_eq_true rfl)
    refine r_iload (pc := 43) ?_ dX10_hoursOf_43
    refine r_istore (pc := 45) ?_ dX10_hoursOf_45 (Nat.le_of_ble_eq_true rfl)
    refine r_kl ?_
    refine r_kl ?_
    exact Le.rf
def R_X10_hoursOf_47 (l : Launch) (G : GT) (F : FX) (Q : PQ) (QX : PX) : KT := (I_il 7 (I_il 5 (I_icge (I_il 6 (I_ir Q)) (I_il 6 (I_il 2 (I_iflt (I_al 0 (I_il 1 (I_il 7 (I_ic 1 (I_cv (Tr true l G Y_X10_entryOf) 8 13 3 QX (I_iadd (I_is 6 (I_inc 7 1 (Wj true l G F Y_X10_hoursOf Q QX 0 0 47))))))))) (I_al 0 (I_il 1 (I_il 7 (I_ic 0 (I_cv (Tr true l G Y_X10_entryOf) 8 13 3 QX (I_il 2 (I_icne (I_ic 0 (I_iadd (I_is 6 (I_inc 7 1 (Wj true l G F Y_X10_hoursOf Q QX 0 0 47))))) (I_al 0 (I_il 1 (I_il 7 (I_ic 1 (I_cv (Tr true l G Y_X10_entryOf) 8 13 3 QX (I_iadd (I_is 6 (I_inc 7 1 (Wj true l G F Y_X10_hoursOf Q QX 0 0 47))))))))))))))))))))))
set_option maxRecDepth 100000 in
theorem g_X10_hoursOf_47 {l : Launch} {G : GT} {F : FX} {Q : PQ} {QX : PX} : Le (R_X10_hoursOf_47 l G F Q QX) (Wj true l G F Y_X10_hoursOf Q QX 0 0 47) := by
  unfold R_X10_hoursOf_47
  refine r_iload (pc := 47) ?_ dX10_hoursOf_47
  refine r_iload (pc := 49) ?_ dX10_hoursOf_49
  refine r_icge (pc := 51) (t := 93) ?_ ?_ dX10_hoursOf_51 (by decide)
  · refine r_iload (pc := 93) ?_ dX10_hoursOf_93
    exact r_ir dX10_hoursOf_95 rfl (Nat.le_of_ble_eq_true rfl) (Nat.le_of_ble_eq_true rfl)
  · refine r_iload (pc := 54) ?_ dX10_hoursOf_54
    refine r_iload_n (pc := 56) ?_ dX10_hoursOf_56 rfl
    refine r_iflt (pc := 57) (t := 72) ?_ ?_ dX10_hoursOf_57 (by decide)
    · refine r_aload_n (pc := 72) ?_ dX10_hoursOf_72 rfl
      refine r_iload_n (pc := 73) ?_ dX10_hoursOf_73 rfl
      refine r_iload (pc := 74) ?_ dX10_hoursOf_74
      refine r_iconst (pc := 76) ?_ dX10_hoursOf_76 (by decide)
      refine r_cv0 (pc := 77) ?_ dX10_hoursOf_77 cl_X10 ok_X10_entryOf rfl wd_6_91 ⟨Nat.le_of_ble_eq_true rfl, Nat.le_of_ble_eq_true rfl⟩ ⟨Nat.le_of_ble_eq_true rfl, Nat.le_of_ble_eq_true rfl⟩ rfl rfl
      refine r_goto (pc := 80) (t := 84) ?_ dX10_hoursOf_80 (by decide)
      refine r_iadd (pc := 84) ?_ dX10_hoursOf_84
      refine r_istore (pc := 85) ?_ dX10_hoursOf_85 (Nat.le_of_ble_eq_true rfl)
      refine r_iinc (pc := 87) ?_ dX10_hoursOf_87 (by decide) (Nat.le_of_ble_eq_true rfl)
      refine r_goto (pc := 90) (t := 47) ?_ dX10_hoursOf_90 (by decide)
      exact Le.rf
    · refine r_aload_n (pc := 60) ?_ dX10_hoursOf_60 rfl
      refine r_iload_n (pc := 61) ?_ dX10_hoursOf_61 rfl
      refine r_iload (pc := 62) ?_ dX10_hoursOf_62
      refine r_iconst (pc := 64) ?_ dX10_hoursOf_64 (by decide)
      refine r_cv0 (pc := 65) ?_ dX10_hoursOf_65 cl_X10 ok_X10_entryOf rfl wd_6_91 ⟨Nat.le_of_ble_eq_true rfl, Nat.le_of_ble_eq_true rfl⟩ ⟨Nat.le_of_ble_eq_true rfl, Nat.le_of_ble_eq_true rfl⟩ rfl rfl
      refine r_iload_n (pc := 68) ?_ dX10_hoursOf_68 rfl
      refine r_icne (pc := 69) (t := 83) ?_ ?_ dX10_hoursOf_69 (by decide)
      · refine r_iconst (pc := 83) ?_ dX10_hoursOf_83 (by decide)
        refine r_iadd (pc := 84) ?_ dX10_hoursOf_84
        refine r_istore (pc := 85) ?_ dX10_hoursOf_85 (Nat.le_of_ble_eq_true rfl)
        refine r_iinc (pc := 87) ?_ dX10_hoursOf_87 (by decide) (Nat.le_of_ble_eq_true rfl)
        refine r_goto (pc := 90) (t := 47) ?_ dX10_hoursOf_90 (by decide)
        exact Le.rf
      · refine r_aload_n (pc := 72) ?_ dX10_hoursOf_72 rfl
        refine r_iload_n (pc := 73) ?_ dX10_hoursOf_73 rfl
        refine r_iload (pc := 74) ?_ dX10_hoursOf_74
        refine r_iconst (pc := 76) ?_ dX10_hoursOf_76 (by decide)
        refine r_cv0 (pc := 77) ?_ dX10_hoursOf_77 cl_X10 ok_X10_entryOf rfl wd_6_91 ⟨Nat.le_of_ble_eq_true rfl, Nat.le_of_ble_eq_true rfl⟩ ⟨Nat.le_of_ble_eq_true rfl, Nat.le_of_ble_eq_true rfl⟩ rfl rfl
        refine r_goto (pc := 80) (t := 84) ?_ dX10_hoursOf_80 (by decide)
        refine r_iadd (pc := 84) ?_ dX10_hoursOf_84
        refine r_istore (pc := 85) ?_ dX10_hoursOf_85 (Nat.le_of_ble_eq_true rfl)
        refine r_iinc (pc := 87) ?_ dX10_hoursOf_87 (by decide) (Nat.le_of_ble_eq_true rfl)
        refine r_goto (pc := 90) (t := 47) ?_ dX10_hoursOf_90 (by decide)
        exact Le.rf
abbrev Y_X10_apprenticesOf : YT := (yX10_apprenticesOf, cX10_apprenticesOf, 4, (some .int), 2, 43, 0, 0)
theorem ok_X10_apprenticesOf : okV Y_X10_apprenticesOf 1 := ⟨⟨wd_6_20, wd_1_9, by decide, by decide, by decide +kernel⟩, wd_6_19, wp_53⟩
def R_X10_apprenticesOf_0 (l : Launch) (G : GT) (F : FX) (Q : PQ) (QX : PX) : KT := (I_ic 0 (I_is 2 (I_ic 0 (I_is 3 (Wj true l G F Y_X10_apprenticesOf Q QX 0 0 4)))))
set_option maxRecDepth 100000 in
theorem g_X10_apprenticesOf_0 {l : Launch} {G : GT} {F : FX} {Q : PQ} {QX : PX} : Le (R_X10_apprenticesOf_0 l G F Q QX) (Wj true l G F Y_X10_apprenticesOf Q QX 0 0 0) := by
  unfold R_X10_apprenticesOf_0
  refine r_iconst (pc := 0) ?_ dX10_apprenticesOf_0 (by decide)
  refine r_istore_n (pc := 1) ?_ dX10_apprenticesOf_1 rfl (Nat.le_of_ble_eq_true rfl)
  refine r_iconst (pc := 2) ?_ dX10_apprenticesOf_2 (by decide)
  refine r_istore_n (pc := 3) ?_ dX10_apprenticesOf_3 rfl (Nat.le_of_ble_eq_true rfl)
  exact Le.rf
def R_X10_apprenticesOf_4 (l : Launch) (G : GT) (F : FX) (Q : PQ) (QX : PX) : KT := (I_il 3 (I_i2l (I_al 0 (I_gp 8 13 1 (I_ic 2 (I_lal (I_lcmp (I_ifge (I_il 2 (I_ir Q)) (I_il 2 (I_al 0 (I_il 3 (I_cv (Tr true l G Y_X10_mentorOf) 8 13 1 QX (I_il 1 (I_icne (I_ic 0 (I_iadd (I_is 2 (I_inc 3 1 (Wj true l G F Y_X10_apprenticesOf Q QX 0 0 4))))) (I_ic 1 (I_iadd (I_is 2 (I_inc 3 1 (Wj true l G F Y_X10_apprenticesOf Q QX 0 0 4)))))))))))))))))))
set_option maxRecDepth 100000 in
theorem g_X10_apprenticesOf_4 {l : Launch} {G : GT} {F : FX} {Q : PQ} {QX : PX} : Le (R_X10_apprenticesOf_4 l G F Q QX) (Wj true l G F Y_X10_apprenticesOf Q QX 0 0 4) := by
  unfold R_X10_apprenticesOf_4
  refine r_iload_n (pc := 4) ?_ dX10_apprenticesOf_4 rfl
  refine r_i2l (pc := 5) ?_ dX10_apprenticesOf_5
  refine r_aload_n (pc := 6) ?_ dX10_apprenticesOf_6 rfl
  refine r_gp (pc := 7) (kf := 0) ?_ dX10_apprenticesOf_7 cl_X10 (Nat.le_of_ble_eq_true rfl) rfl wd_5_137 pv_X10_0
  refine r_iconst (pc := 10) ?_ dX10_apprenticesOf_10 (by decide)
  refine r_lal (pc := 11) ?_ dX10_apprenticesOf_11
  refine r_lcmp (pc := 12) ?_ dX10_apprenticesOf_12
  refine r_ifge (pc := 13) (t := 39) ?_ ?_ dX10_apprenticesOf_13 (by decide)
  · refine r_iload_n (pc := 39) ?_ dX10_apprenticesOf_39 rfl
    exact r_ir dX10_apprenticesOf_40 rfl (Nat.le_of_ble_eq_true rfl) (Nat.le_of_ble_eq_true rfl)
  · refine r_iload_n (pc := 16) ?_ dX10_apprenticesOf_16 rfl
    refine r_aload_n (pc := 17) ?_ dX10_apprenticesOf_17 rfl
    refine r_iload_n (pc := 18) ?_ dX10_apprenticesOf_18 rfl
    refine r_cv0 (pc := 19) ?_ dX10_apprenticesOf_19 cl_X10 ok_X10_mentorOf rfl wd_6_21 ⟨Nat.le_of_ble_eq_true rfl, Nat.le_of_ble_eq_true rfl⟩ ⟨Nat.le_of_ble_eq_true rfl, Nat.le_of_ble_eq_true rfl⟩ rfl rfl
    refine r_iload_n (pc := 22) ?_ dX10_apprenticesOf_22 rfl
    refine r_icne (pc := 23) (t := 30) ?_ ?_ dX10_apprenticesOf_23 (by decide)
    · refine r_iconst (pc := 30) ?_ dX10_apprenticesOf_30 (by decide)
      refine r_iadd (pc := 31) ?_ dX10_apprenticesOf_31
      refine r_istore_n (pc := 32) ?_ dX10_apprenticesOf_32 rfl (Nat.le_of_ble_eq_true rfl)
      refine r_iinc (pc := 33) ?_ dX10_apprenticesOf_33 (by decide) (Nat.le_of_ble_eq_true rfl)
      refine r_goto (pc := 36) (t := 4) ?_ dX10_apprenticesOf_36 (by decide)
      exact Le.rf
    · refine r_iconst (pc := 26) ?_ dX10_apprenticesOf_26 (by decide)
      refine r_goto (pc := 27) (t := 31) ?_ dX10_apprenticesOf_27 (by decide)
      refine r_iadd (pc := 31) ?_ dX10_apprenticesOf_31
      refine r_istore_n (pc := 32) ?_ dX10_apprenticesOf_32 rfl (Nat.le_of_ble_eq_true rfl)
      refine r_iinc (pc := 33) ?_ dX10_apprenticesOf_33 (by decide) (Nat.le_of_ble_eq_true rfl)
      refine r_goto (pc := 36) (t := 4) ?_ dX10_apprenticesOf_36 (by decide)
      exact Le.rf
abbrev Y_X10_teaches : YT := (yX10_teaches, cX10_teaches, 4, (some .boolean), 1, 22, 0, 0)
theorem ok_X10_teaches : okV Y_X10_teaches 2 := ⟨⟨wd_6_8, wd_1_9, by decide, by decide, by decide +kernel⟩, wd_6_7, wp_50⟩
def R_X10_teaches_0 (l : Launch) (G : GT) (F : FX) (Q : PQ) (QX : PX) : KT := (I_al 0 (I_il 1 (I_ic 1 (I_cv (Tr true l G Y_X10_ofMentor) 8 13 2 QX (I_ll 2 (I_l2i (I_lshr (I_lc 1 (I_land (I_lc 1 (I_lcmp (I_ifne (I_ic 0 (I_zr Q)) (I_ic 1 (I_zr Q))))))))))))))
set_option maxRecDepth 100000 in
theorem g_X10_teaches_0 {l : Launch} {G : GT} {F : FX} {Q : PQ} {QX : PX} : Le (R_X10_teaches_0 l G F Q QX) (Wj true l G F Y_X10_teaches Q QX 0 0 0) := by
  unfold R_X10_teaches_0
  refine r_aload_n (pc := 0) ?_ dX10_teaches_0 rfl
  refine r_iload_n (pc := 1) ?_ dX10_teaches_1 rfl
  refine r_iconst (pc := 2) ?_ dX10_teaches_2 (by decide)
  refine r_cv0 (pc := 3) ?_ dX10_teaches_3 cl_X10 ok_X10_ofMentor rfl wd_6_9 ⟨Nat.le_of_ble_eq_true rfl, Nat.le_of_ble_eq_true rfl⟩ ⟨Nat.le_of_ble_eq_true rfl, Nat.le_of_ble_eq_true rfl⟩ rfl rfl
  refine r_lload_n (pc := 6) ?_ dX10_teaches_6 rfl
  refine r_l2i (pc := 7) ?_ dX10_teaches_7
  refine r_lshr (pc := 8) ?_ dX10_teaches_8
  refine r_lconst (pc := 9) ?_ dX10_teaches_9 (by decide)
  refine r_land (pc := 10) ?_ dX10_teaches_10
  refine r_lconst (pc := 11) ?_ dX10_teaches_11 (by decide)
  refine r_lcmp (pc := 12) ?_ dX10_teaches_12
  refine r_ifne (pc := 13) (t := 20) ?_ ?_ dX10_teaches_13 (by decide)
  · refine r_iconst (pc := 20) ?_ dX10_teaches_20 (by decide)
    exact r_zr dX10_teaches_21 rfl (Nat.le_of_ble_eq_true rfl) (Nat.le_of_ble_eq_true rfl)
  · refine r_iconst (pc := 16) ?_ dX10_teaches_16 (by decide)
    refine r_goto (pc := 17) (t := 21) ?_ dX10_teaches_17 (by decide)
    exact r_zr dX10_teaches_21 rfl (Nat.le_of_ble_eq_true rfl) (Nat.le_of_ble_eq_true rfl)
abbrev Y_X10_isFull : YT := (yX10_isFull, cX10_isFull, 2, (some .boolean), 3, 66, 0, 0)
theorem ok_X10_isFull : okV Y_X10_isFull 1 := ⟨⟨wd_6_16, wd_1_9, by decide, by decide, by decide +kernel⟩, wd_6_15, wp_52⟩
def R_X10_isFull_0 (l : Launch) (G : GT) (F : FX) (Q : PQ) (QX : PX) : KT := (I_al 0 (I_il 1 (I_cv (Tr true l G Y_X10_apprenticesOf) 8 13 1 QX (I_i2l (I_al 0 (I_il 1 (I_ic 0 (I_cv (Tr true l G Y_X10_ofMentor) 8 13 2 QX (I_lcmp (I_iflt (I_ic 0 (I_zr Q)) (I_ic 1 (I_zr Q))))))))))))
set_option maxRecDepth 100000 in
theorem g_X10_isFull_0 {l : Launch} {G : GT} {F : FX} {Q : PQ} {QX : PX} : Le (R_X10_isFull_0 l G F Q QX) (Wj true l G F Y_X10_isFull Q QX 0 0 0) := by
  unfold R_X10_isFull_0
  refine r_aload_n (pc := 0) ?_ dX10_isFull_0 rfl
  refine r_iload_n (pc := 1) ?_ dX10_isFull_1 rfl
  refine r_cv0 (pc := 2) ?_ dX10_isFull_2 cl_X10 ok_X10_apprenticesOf rfl wd_6_17 ⟨Nat.le_of_ble_eq_true rfl, Nat.le_of_ble_eq_true rfl⟩ ⟨Nat.le_of_ble_eq_true rfl, Nat.le_of_ble_eq_true rfl⟩ rfl rfl
  refine r_i2l (pc := 5) ?_ dX10_isFull_5
  refine r_aload_n (pc := 6) ?_ dX10_isFull_6 rfl
  refine r_iload_n (pc := 7) ?_ dX10_isFull_7 rfl
  refine r_iconst (pc := 8) ?_ dX10_isFull_8 (by decide)
  refine r_cv0 (pc := 9) ?_ dX10_isFull_9 cl_X10 ok_X10_ofMentor rfl wd_6_9 ⟨Nat.le_of_ble_eq_true rfl, Nat.le_of_ble_eq_true rfl⟩ ⟨Nat.le_of_ble_eq_true rfl, Nat.le_of_ble_eq_true rfl⟩ rfl rfl
  refine r_lcmp (pc := 12) ?_ dX10_isFull_12
  refine r_iflt (pc := 13) (t := 20) ?_ ?_ dX10_isFull_13 (by decide)
  · refine r_iconst (pc := 20) ?_ dX10_isFull_20 (by decide)
    exact r_zr dX10_isFull_21 rfl (Nat.le_of_ble_eq_true rfl) (Nat.le_of_ble_eq_true rfl)
  · refine r_iconst (pc := 16) ?_ dX10_isFull_16 (by decide)
    refine r_goto (pc := 17) (t := 21) ?_ dX10_isFull_17 (by decide)
    exact r_zr dX10_isFull_21 rfl (Nat.le_of_ble_eq_true rfl) (Nat.le_of_ble_eq_true rfl)
abbrev Y_X10_reasonOf : YT := (yX10_reasonOf, cX10_reasonOf, 3, (some .int), 4, 87, 0, 0)
theorem ok_X10_reasonOf : okV Y_X10_reasonOf 2 := ⟨⟨wd_6_145, wd_1_9, by decide, by decide, by decide +kernel⟩, wd_6_144, wp_73⟩
def R_X10_reasonOf_0 (l : Launch) (G : GT) (F : FX) (Q : PQ) (QX : PX) : KT := (I_al 0 (I_il 1 (I_cv (Tr true l G Y_X10_mentorOf) 8 13 1 QX (I_il 2 (I_icne (I_al 0 (I_il 2 (I_al 0 (I_il 1 (I_ic 0 (I_cv (Tr true l G Y_X10_of) 8 13 2 QX (I_cv (Tr true l G Y_X10_teaches) 8 13 2 QX (I_ifne (I_al 0 (I_il 2 (I_cv (Tr true l G Y_X10_isFull) 8 13 1 QX (I_ifeq (I_ic 0 (I_ir Q)) (I_ic 3 (I_ir Q)))))) (I_ic 2 (I_ir Q)))))))))) (I_ic 1 (I_ir Q)))))))
set_option maxRecDepth 100000 in
theorem g_X10_reasonOf_0 {l : Launch} {G : GT} {F : FX} {Q : PQ} {QX : PX} : Le (R_X10_reasonOf_0 l G F Q QX) (Wj true l G F Y_X10_reasonOf Q QX 0 0 0) := by
  unfold R_X10_reasonOf_0
  refine r_aload_n (pc := 0) ?_ dX10_reasonOf_0 rfl
  refine r_iload_n (pc := 1) ?_ dX10_reasonOf_1 rfl
  refine r_cv0 (pc := 2) ?_ dX10_reasonOf_2 cl_X10 ok_X10_mentorOf rfl wd_6_21 ⟨Nat.le_of_ble_eq_true rfl, Nat.le_of_ble_eq_true rfl⟩ ⟨Nat.le_of_ble_eq_true rfl, Nat.le_of_ble_eq_true rfl⟩ rfl rfl
  refine r_iload_n (pc := 5) ?_ dX10_reasonOf_5 rfl
  refine r_icne (pc := 6) (t := 13) ?_ ?_ dX10_reasonOf_6 (by decide)
  · refine r_aload_n (pc := 13) ?_ dX10_reasonOf_13 rfl
    refine r_iload_n (pc := 14) ?_ dX10_reasonOf_14 rfl
    refine r_aload_n (pc := 15) ?_ dX10_reasonOf_15 rfl
    refine r_iload_n (pc := 16) ?_ dX10_reasonOf_16 rfl
    refine r_iconst (pc := 17) ?_ dX10_reasonOf_17 (by decide)
    refine r_cv0 (pc := 18) ?_ dX10_reasonOf_18 cl_X10 ok_X10_of rfl wd_6_25 ⟨Nat.le_of_ble_eq_true rfl, Nat.le_of_ble_eq_true rfl⟩ ⟨Nat.le_of_ble_eq_true rfl, Nat.le_of_ble_eq_true rfl⟩ rfl rfl
    refine r_cv0 (pc := 21) ?_ dX10_reasonOf_21 cl_X10 ok_X10_teaches rfl wd_6_5 ⟨Nat.le_of_ble_eq_true rfl, Nat.le_of_ble_eq_true rfl⟩ ⟨Nat.le_of_ble_eq_true rfl, Nat.le_of_ble_eq_true rfl⟩ rfl rfl
    refine r_ifne (pc := 24) (t := 31) ?_ ?_ dX10_reasonOf_24 (by decide)
    · refine r_aload_n (pc := 31) ?_ dX10_reasonOf_31 rfl
      refine r_iload_n (pc := 32) ?_ dX10_reasonOf_32 rfl
      refine r_cv0 (pc := 33) ?_ dX10_reasonOf_33 cl_X10 ok_X10_isFull rfl wd_6_13 ⟨Nat.le_of_ble_eq_true rfl, Nat.le_of_ble_eq_true rfl⟩ ⟨Nat.le_of_ble_eq_true rfl, Nat.le_of_ble_eq_true rfl⟩ rfl rfl
      refine r_ifeq (pc := 36) (t := 43) ?_ ?_ dX10_reasonOf_36 (by decide)
      · refine r_iconst (pc := 43) ?_ dX10_reasonOf_43 (by decide)
        exact r_ir dX10_reasonOf_44 rfl (Nat.le_of_ble_eq_true rfl) (Nat.le_of_ble_eq_true rfl)
      · refine r_iconst (pc := 39) ?_ dX10_reasonOf_39 (by decide)
        refine r_goto (pc := 40) (t := 44) ?_ dX10_reasonOf_40 (by decide)
        exact r_ir dX10_reasonOf_44 rfl (Nat.le_of_ble_eq_true rfl) (Nat.le_of_ble_eq_true rfl)
    · refine r_iconst (pc := 27) ?_ dX10_reasonOf_27 (by decide)
      refine r_goto (pc := 28) (t := 44) ?_ dX10_reasonOf_28 (by decide)
      exact r_ir dX10_reasonOf_44 rfl (Nat.le_of_ble_eq_true rfl) (Nat.le_of_ble_eq_true rfl)
  · refine r_iconst (pc := 9) ?_ dX10_reasonOf_9 (by decide)
    refine r_goto (pc := 10) (t := 44) ?_ dX10_reasonOf_10 (by decide)
    exact r_ir dX10_reasonOf_44 rfl (Nat.le_of_ble_eq_true rfl) (Nat.le_of_ble_eq_true rfl)
abbrev Y_X10_strange : YT := (yX10_strange, cX10_strange, 5, (some .int), 2, 46, 0, 0)
theorem ok_X10_strange : okV Y_X10_strange 2 := ⟨⟨wd_6_153, wd_1_9, by decide, by decide, by decide +kernel⟩, wd_6_152, wp_75⟩
def R_X10_strange_0 (l : Launch) (G : GT) (F : FX) (Q : PQ) (QX : PX) : KT := (I_ic 0 (I_is 3 (I_ic 0 (I_is 4 (Wj true l G F Y_X10_strange Q QX 0 0 5)))))
set_option maxRecDepth 100000 in
theorem g_X10_strange_0 {l : Launch} {G : GT} {F : FX} {Q : PQ} {QX : PX} : Le (R_X10_strange_0 l G F Q QX) (Wj true l G F Y_X10_strange Q QX 0 0 0) := by
  unfold R_X10_strange_0
  refine r_iconst (pc := 0) ?_ dX10_strange_0 (by decide)
  refine r_istore_n (pc := 1) ?_ dX10_strange_1 rfl (Nat.le_of_ble_eq_true rfl)
  refine r_iconst (pc := 2) ?_ dX10_strange_2 (by decide)
  refine r_istore (pc := 3) ?_ dX10_strange_3 (Nat.le_of_ble_eq_true rfl)
  exact Le.rf
def R_X10_strange_5 (l : Launch) (G : GT) (F : FX) (Q : PQ) (QX : PX) : KT := (I_il 4 (I_i2l (I_al 0 (I_il 1 (I_ic 9 (I_cv (Tr true l G Y_X10_of) 8 13 2 QX (I_lcmp (I_ifge (I_il 3 (I_ir Q)) (I_il 3 (I_al 0 (I_il 1 (I_il 4 (I_ic 3 (I_cv (Tr true l G Y_X10_entryOf) 8 13 3 QX (I_il 2 (I_icne (I_ic 1 (I_iadd (I_is 3 (I_inc 4 1 (Wj true l G F Y_X10_strange Q QX 0 0 5))))) (I_ic 0 (I_iadd (I_is 3 (I_inc 4 1 (Wj true l G F Y_X10_strange Q QX 0 0 5)))))))))))))))))))))
set_option maxRecDepth 100000 in
theorem g_X10_strange_5 {l : Launch} {G : GT} {F : FX} {Q : PQ} {QX : PX} : Le (R_X10_strange_5 l G F Q QX) (Wj true l G F Y_X10_strange Q QX 0 0 5) := by
  unfold R_X10_strange_5
  refine r_iload (pc := 5) ?_ dX10_strange_5
  refine r_i2l (pc := 7) ?_ dX10_strange_7
  refine r_aload_n (pc := 8) ?_ dX10_strange_8 rfl
  refine r_iload_n (pc := 9) ?_ dX10_strange_9 rfl
  refine r_bipush (pc := 10) ?_ dX10_strange_10 (by decide)
  refine r_cv0 (pc := 12) ?_ dX10_strange_12 cl_X10 ok_X10_of rfl wd_6_25 ⟨Nat.le_of_ble_eq_true rfl, Nat.le_of_ble_eq_true rfl⟩ ⟨Nat.le_of_ble_eq_true rfl, Nat.le_of_ble_eq_true rfl⟩ rfl rfl
  refine r_lcmp (pc := 15) ?_ dX10_strange_15
  refine r_ifge (pc := 16) (t := 45) ?_ ?_ dX10_strange_16 (by decide)
  · refine r_iload_n (pc := 45) ?_ dX10_strange_45 rfl
    exact r_ir dX10_strange_46 rfl (Nat.le_of_ble_eq_true rfl) (Nat.le_of_ble_eq_true rfl)
  · refine r_iload_n (pc := 19) ?_ dX10_strange_19 rfl
    refine r_aload_n (pc := 20) ?_ dX10_strange_20 rfl
    refine r_iload_n (pc := 21) ?_ dX10_strange_21 rfl
    refine r_iload (pc := 22) ?_ dX10_strange_22
    refine r_iconst (pc := 24) ?_ dX10_strange_24 (by decide)
    refine r_cv0 (pc := 25) ?_ dX10_strange_25 cl_X10 ok_X10_entryOf rfl wd_6_91 ⟨Nat.le_of_ble_eq_true rfl, Nat.le_of_ble_eq_true rfl⟩ ⟨Nat.le_of_ble_eq_true rfl, Nat.le_of_ble_eq_true rfl⟩ rfl rfl
    refine r_iload_n (pc := 28) ?_ dX10_strange_28 rfl
    refine r_icne (pc := 29) (t := 36) ?_ ?_ dX10_strange_29 (by decide)
    · refine r_iconst (pc := 36) ?_ dX10_strange_36 (by decide)
      refine r_iadd (pc := 37) ?_ dX10_strange_37
      refine r_istore_n (pc := 38) ?_ dX10_strange_38 rfl (Nat.le_of_ble_eq_true rfl)
      refine r_iinc (pc := 39) ?_ dX10_strange_39 (by decide) (Nat.le_of_ble_eq_true rfl)
      refine r_goto (pc := 42) (t := 5) ?_ dX10_strange_42 (by decide)
      exact Le.rf
    · refine r_iconst (pc := 32) ?_ dX10_strange_32 (by decide)
      refine r_goto (pc := 33) (t := 37) ?_ dX10_strange_33 (by decide)
      refine r_iadd (pc := 37) ?_ dX10_strange_37
      refine r_istore_n (pc := 38) ?_ dX10_strange_38 rfl (Nat.le_of_ble_eq_true rfl)
      refine r_iinc (pc := 39) ?_ dX10_strange_39 (by decide) (Nat.le_of_ble_eq_true rfl)
      refine r_goto (pc := 42) (t := 5) ?_ dX10_strange_42 (by decide)
      exact Le.rf
abbrev Y_X10_comesTo : YT := (yX10_comesTo, cX10_comesTo, 5, (some .int), 4, 92, 0, 0)
theorem ok_X10_comesTo : okV Y_X10_comesTo 2 := ⟨⟨wd_6_149, wd_1_9, by decide, by decide, by decide +kernel⟩, wd_6_148, wp_74⟩
def R_X10_comesTo_0 (l : Launch) (G : GT) (F : FX) (Q : PQ) (QX : PX) : KT := (I_al 0 (I_il 1 (I_il 2 (I_cv (Tr true l G Y_X10_strange) 8 13 2 QX (I_is 3 (I_ic 0 (I_is 4 (Wj true l G F Y_X10_comesTo Q QX 0 0 10))))))))
set_option maxRecDepth 100000 in
theorem g_X10_comesTo_0 {l : Launch} {G : GT} {F : FX} {Q : PQ} {QX : PX} : Le (R_X10_comesTo_0 l G F Q QX) (Wj true l G F Y_X10_comesTo Q QX 0 0 0) := by
  unfold R_X10_comesTo_0
  refine r_aload_n (pc := 0) ?_ dX10_comesTo_0 rfl
  refine r_iload_n (pc := 1) ?_ dX10_comesTo_1 rfl
  refine r_iload_n (pc := 2) ?_ dX10_comesTo_2 rfl
  refine r_cv0 (pc := 3) ?_ dX10_comesTo_3 cl_X10 ok_X10_strange rfl wd_6_150 ⟨Nat.le_of_ble_eq_true rfl, Nat.le_of_ble_eq_true rfl⟩ ⟨Nat.le_of_ble_eq_true rfl, Nat.le_of_ble_eq_true rfl⟩ rfl rfl
  refine r_istore_n (pc := 6) ?_ dX10_comesTo_6 rfl (Nat.le_of_ble_eq_true rfl)
  refine r_iconst (pc := 7) ?_ dX10_comesTo_7 (by decide)
  refine r_istore (pc := 8) ?_ dX10_comesTo_8 (Nat.le_of_ble_eq_true rfl)
  exact Le.rf
def R_X10_comesTo_10 (l : Launch) (G : GT) (F : FX) (Q : PQ) (QX : PX) : KT := (I_il 4 (I_i2l (I_al 0 (I_il 1 (I_ic 9 (I_cv (Tr true l G Y_X10_of) 8 13 2 QX (I_lcmp (I_ifge (I_al 0 (I_il 1 (I_ic 1 (I_il 2 (I_i2l (I_cv (Tr true l G Y_X10_put) 8 13 3 QX (I_al 0 (I_il 1 (I_ic 6 (I_lc 1 (I_cv (Tr true l G Y_X10_adds) 8 13 3 QX (I_il 3 (I_ir Q))))))))))))) (I_al 0 (I_il 1 (I_il 4 (I_ic 3 (I_cv (Tr true l G Y_X10_entryOf) 8 13 3 QX (I_il 2 (I_icne (I_al 0 (I_il 1 (I_il 4 (I_cv (Tr true l G Y_X10_doubts) 8 13 2 QX (Wj true l G F Y_X10_comesTo Q QX 0 0 10))))) (I_inc 4 1 (Wj true l G F Y_X10_comesTo Q QX 0 0 10)))))))))))))))))
set_option maxRecDepth 100000 in
theorem g_X10_comesTo_10 {l : Launch} {G : GT} {F : FX} {Q : PQ} {QX : PX} : Le (R_X10_comesTo_10 l G F Q QX) (Wj true l G F Y_X10_comesTo Q QX 0 0 10) := by
  unfold R_X10_comesTo_10
  refine r_iload (pc := 10) ?_ dX10_comesTo_10
  refine r_i2l (pc := 12) ?_ dX10_comesTo_12
  refine r_aload_n (pc := 13) ?_ dX10_comesTo_13 rfl
  refine r_iload_n (pc := 14) ?_ dX10_comesTo_14 rfl
  refine r_bipush (pc := 15) ?_ dX10_comesTo_15 (by decide)
  refine r_cv0 (pc := 17) ?_ dX10_comesTo_17 cl_X10 ok_X10_of rfl wd_6_25 ⟨Nat.le_of_ble_eq_true rfl, Nat.le_of_ble_eq_true rfl⟩ ⟨Nat.le_of_ble_eq_true rfl, Nat.le_of_ble_eq_true rfl⟩ rfl rfl
  refine r_lcmp (pc := 20) ?_ dX10_comesTo_20
  refine r_ifge (pc := 21) (t := 52) ?_ ?_ dX10_comesTo_21 (by decide)
  · refine r_aload_n (pc := 52) ?_ dX10_comesTo_52 rfl
    refine r_iload_n (pc := 53) ?_ dX10_comesTo_53 rfl
    refine r_iconst (pc := 54) ?_ dX10_comesTo_54 (by decide)
    refine r_iload_n (pc := 55) ?_ dX10_comesTo_55 rfl
    refine r_i2l (pc := 56) ?_ dX10_comesTo_56
    refine r_cv0 (pc := 57) ?_ dX10_comesTo_57 cl_X10 ok_X10_put rfl wd_6_29 ⟨Nat.le_of_ble_eq_true rfl, Nat.le_of_ble_eq_true rfl⟩ ⟨Nat.le_of_ble_eq_true rfl, Nat.le_of_ble_eq_true rfl⟩ rfl rfl
    refine r_aload_n (pc := 60) ?_ dX10_comesTo_60 rfl
    refine r_iload_n (pc := 61) ?_ dX10_comesTo_61 rfl
    refine r_bipush (pc := 62) ?_ dX10_comesTo_62 (by decide)
    refine r_lconst (pc := 64) ?_ dX10_comesTo_64 (by decide)
    refine r_cv0 (pc := 65) ?_ dX10_comesTo_65 cl_X10 ok_X10_adds rfl wd_6_78 ⟨Nat.le_of_ble_eq_true rfl, Nat.le_of_ble_eq_true rfl⟩ ⟨Nat.le_of_ble_eq_true rfl, Nat.le_of_ble_eq_true rfl⟩ rfl rfl
    refine r_iload_n (pc := 68) ?_ dX10_comesTo_68 rfl
    exact r_ir dX10_comesTo_69 rfl (Nat.le_of_ble_eq_true rfl) (Nat.le_of_ble_eq_true rfl)
  · refine r_aload_n (pc := 24) ?_ dX10_comesTo_24 rfl
    refine r_iload_n (pc := 25) ?_ dX10_comesTo_25 rfl
    refine r_iload (pc := 26) ?_ dX10_comesTo_26
    refine r_iconst (pc := 28) ?_ dX10_comesTo_28 (by decide)
    refine r_cv0 (pc := 29) ?_ dX10_comesTo_29 cl_X10 ok_X10_entryOf rfl wd_6_91 ⟨Nat.le_of_ble_eq_true rfl, Nat.le_of_ble_eq_true rfl⟩ ⟨Nat.le_of_ble_eq_true rfl, Nat.le_of_ble_eq_true rfl⟩ rfl rfl
    refine r_iload_n (pc := 32) ?_ dX10_comesTo_32 rfl
    refine r_icne (pc := 33) (t := 42) ?_ ?_ dX10_comesTo_33 (by decide)
    · refine r_aload_n (pc := 42) ?_ dX10_comesTo_42 rfl
      refine r_iload_n (pc := 43) ?_ dX10_comesTo_43 rfl
      refine r_iload (pc := 44) ?_ dX10_comesTo_44
      refine r_cv0 (pc := 46) ?_ dX10_comesTo_46 cl_X10 ok_X10_doubts rfl wd_6_109 ⟨Nat.le_of_ble_eq_true rfl, Nat.le_of_ble_eq_true rfl⟩ ⟨Nat.le_of_ble_eq_true rfl, Nat.le_of_ble_eq_true rfl⟩ rfl rfl
      refine r_goto (pc := 49) (t := 10) ?_ dX10_comesTo_49 (by decide)
      exact Le.rf
    · refine r_iinc (pc := 36) ?_ dX10_comesTo_36 (by decide) (Nat.le_of_ble_eq_true rfl)
      refine r_goto (pc := 39) (t := 10) ?_ dX10_comesTo_39 (by decide)
      exact Le.rf
abbrev Y_X10_canExchange : YT := (yX10_canExchange, cX10_canExchange, 5, (some .boolean), 2, 45, 0, 0)
theorem ok_X10_canExchange : okV Y_X10_canExchange 2 := ⟨⟨wd_6_169, wd_1_9, by decide, by decide, by decide +kernel⟩, wd_6_168, wp_77⟩
def R_X10_canExchange_0 (l : Launch) (G : GT) (F : FX) (Q : PQ) (QX : PX) : KT := (I_al 0 (I_il 1 (I_cv (Tr true l G Y_X10_mentorOf) 8 13 1 QX (I_is 3 (I_al 0 (I_il 2 (I_cv (Tr true l G Y_X10_mentorOf) 8 13 1 QX (I_is 4 (I_il 3 (I_ic (-1) (I_iceq (I_ic 0 (I_zr Q)) (I_il 4 (I_ic (-1) (I_iceq (I_ic 0 (I_zr Q)) (I_il 3 (I_il 4 (I_iceq (I_ic 0 (I_zr Q)) (I_al 0 (I_il 4 (I_al 0 (I_il 1 (I_ic 0 (I_cv (Tr true l G Y_X10_of) 8 13 2 QX (I_cv (Tr true l G Y_X10_teaches) 8 13 2 QX (I_ifeq (I_ic 0 (I_zr Q)) (I_al 0 (I_il 3 (I_al 0 (I_il 2 (I_ic 0 (I_cv (Tr true l G Y_X10_of) 8 13 2 QX (I_cv (Tr true l G Y_X10_teaches) 8 13 2 QX (I_ifeq (I_ic 0 (I_zr Q)) (I_ic 1 (I_zr Q)))))))))))))))))))))))))))))))))))
set_option maxRecDepth 100000 in
theorem g_X10_canExchange_0 {l : Launch} {G : GT} {F : FX} {Q : PQ} {QX : PX} : Le (R_X10_canExchange_0 l G F Q QX) (Wj true l G F Y_X10_canExchange Q QX 0 0 0) := by
  unfold R_X10_canExchange_0
  refine r_aload_n (pc := 0) ?_ dX10_canExchange_0 rfl
  refine r_iload_n (pc := 1) ?_ dX10_canExchange_1 rfl
  refine r_cv0 (pc := 2) ?_ dX10_canExchange_2 cl_X10 ok_X10_mentorOf rfl wd_6_21 ⟨Nat.le_of_ble_eq_true rfl, Nat.le_of_ble_eq_true rfl⟩ ⟨Nat.le_of_ble_eq_true rfl, Nat.le_of_ble_eq_true rfl⟩ rfl rfl
  refine r_istore_n (pc := 5) ?_ dX10_canExchange_5 rfl (Nat.le_of_ble_eq_true rfl)
  refine r_aload_n (pc := 6) ?_ dX10_canExchange_6 rfl
  refine r_iload_n (pc := 7) ?_ dX10_canExchange_7 rfl
  refine r_cv0 (pc := 8) ?_ dX10_canExchange_8 cl_X10 ok_X10_mentorOf rfl wd_6_21 ⟨Nat.le_of_ble_eq_true rfl, Nat.le_of_ble_eq_true rfl⟩ ⟨Nat.le_of_ble_eq_true rfl, Nat.le_of_ble_eq_true rfl⟩ rfl rfl
  refine r_istore (pc := 11) ?_ dX10_canExchange_11 (Nat.le_of_ble_eq_true rfl)
  refine r_iload_n (pc := 13) ?_ dX10_canExchange_13 rfl
  refine r_iconst (pc := 14) ?_ dX10_canExchange_14 (by decide)
  refine r_iceq (pc := 15) (t := 63) ?_ ?_ dX10_canExchange_15 (by decide)
  · refine r_iconst (pc := 63) ?_ dX10_canExchange_63 (by decide)
    exact r_zr dX10_canExchange_64 rfl (Nat.le_of_ble_eq_true rfl) (Nat.le_of_ble_eq_true rfl)
  · refine r_iload (pc := 18) ?_ dX10_canExchange_18
    refine r_iconst (pc := 20) ?_ dX10_canExchange_20 (by decide)
    refine r_iceq (pc := 21) (t := 63) ?_ ?_ dX10_canExchange_21 (by decide)
    · refine r_iconst (pc := 63) ?_ dX10_canExchange_63 (by decide)
      exact r_zr dX10_canExchange_64 rfl (Nat.le_of_ble_eq_true rfl) (Nat.le_of_ble_eq_true rfl)
    · refine r_iload_n (pc := 24) ?_ dX10_canExchange_24 rfl
      refine r_iload (pc := 25) ?_ dX10_canExchange_25
      refine r_iceq (pc := 27) (t := 63) ?_ ?_ dX10_canExchange_27 (by decide)
      · refine r_iconst (pc := 63) ?_ dX10_canExchange_63 (by decide)
        exact r_zr dX10_canExchange_64 rfl (Nat.le_of_ble_eq_true rfl) (Nat.le_of_ble_eq_true rfl)
      · refine r_aload_n (pc := 30) ?_ dX10_canExchange_30 rfl
        refine r_iload (pc := 31) ?_ dX10_canExchange_31
        refine r_aload_n (pc := 33) ?_ dX10_canExchange_33 rfl
        refine r_iload_n (pc := 34) ?_ dX10_canExchange_34 rfl
        refine r_iconst (pc := 35) ?_ dX10_canExchange_35 (by decide)
        refine r_cv0 (pc := 36) ?_ dX10_canExchange_36 cl_X10 ok_X10_of rfl wd_6_25 ⟨Nat.le_of_ble_eq_true rfl, Nat.le_of_ble_eq_true rfl⟩ ⟨Nat.le_of_ble_eq_true rfl, Nat.le_of_ble_eq_true rfl⟩ rfl rfl
        refine r_cv0 (pc := 39) ?_ dX10_canExchange_39 cl_X10 ok_X10_teaches rfl wd_6_5 ⟨Nat.le_of_ble_eq_true rfl, Nat.le_of_ble_eq_true rfl⟩ ⟨Nat.le_of_ble_eq_true rfl, Nat.le_of_ble_eq_true rfl⟩ rfl rfl
        refine r_ifeq (pc := 42) (t := 63) ?_ ?_ dX10_canExchange_42 (by decide)
        · refine r_iconst (pc := 63) ?_ dX10_canExchange_63 (by decide)
          exact r_zr dX10_canExchange_64 rfl (Nat.le_of_ble_eq_true rfl) (Nat.le_of_ble_eq_true rfl)
        · refine r_aload_n (pc := 45) ?_ dX10_canExchange_45 rfl
          refine r_iload_n (pc := 46) ?_ dX10_canExchange_46 rfl
          refine r_aload_n (pc := 47) ?_ dX10_canExchange_47 rfl
          refine r_iload_n (pc := 48) ?_ dX10_canExchange_48 rfl
          refine r_iconst (pc := 49) ?_ dX10_canExchange_49 (by decide)
          refine r_cv0 (pc := 50) ?_ dX10_canExchange_50 cl_X10 ok_X10_of rfl wd_6_25 ⟨Nat.le_of_ble_eq_true rfl, Nat.le_of_ble_eq_true rfl⟩ ⟨Nat.le_of_ble_eq_true rfl, Nat.le_of_ble_eq_true rfl⟩ rfl rfl
          refine r_cv0 (pc := 53) ?_ dX10_canExchange_53 cl_X10 ok_X10_teaches rfl wd_6_5 ⟨Nat.le_of_ble_eq_true rfl, Nat.le_of_ble_eq_true rfl⟩ ⟨Nat.le_of_ble_eq_true rfl, Nat.le_of_ble_eq_true rfl⟩ rfl rfl
          refine r_ifeq (pc := 56) (t := 63) ?_ ?_ dX10_canExchange_56 (by decide)
          · refine r_iconst (pc := 63) ?_ dX10_canExchange_63 (by decide)
            exact r_zr dX10_canExchange_64 rfl (Nat.le_of_ble_eq_true rfl) (Nat.le_of_ble_eq_true rfl)
          · refine r_iconst (pc := 59) ?_ dX10_canExchange_59 (by decide)
            refine r_goto (pc := 60) (t := 64) ?_ dX10_canExchange_60 (by decide)
            exact r_zr dX10_canExchange_64 rfl (Nat.le_of_ble_eq_true rfl) (Nat.le_of_ble_eq_true rfl)
abbrev Y_X10_trades : YT := (yX10_trades, cX10_trades, 5, (some .int), 1, 25, 0, 0)
theorem ok_X10_trades : okV Y_X10_trades 3 := ⟨⟨wd_5_192, wd_1_9, by decide, by decide, by decide +kernel⟩, wd_5_191, wp_40⟩
def R_X10_trades_0 (l : Launch) (G : GT) (F : FX) (Q : PQ) (QX : PX) : KT := (I_il 1 (I_i2l (I_lc 0 (I_lc (2000 : Int64) (I_cs (Tr true l G Y_X10_in) 3 QX (I_ifeq (I_ic 1 (I_ir Q)) (I_il 2 (I_i2l (I_lc 0 (I_lc (2000 : Int64) (I_cs (Tr true l G Y_X10_in) 3 QX (I_ifeq (I_ic 1 (I_ir Q)) (I_il 3 (I_i2l (I_lc 0 (I_lc (2000 : Int64) (I_cs (Tr true l G Y_X10_in) 3 QX (I_ifne (I_al 0 (I_gp 8 13 1 (I_ic 0 (I_lal (I_lc (5 : Int64) (I_lcmp (I_ifne (I_ic 4 (I_ic 3 (I_al 0 (I_gp 8 13 1 (I_ic 0 (I_lal (I_l2i (I_imul (I_iadd (I_is 4 (I_al 0 (I_gp 8 13 1 (I_il 4 (I_il 1 (I_i2l (I_las (I_al 0 (I_gp 8 13 1 (I_il 4 (I_ic 1 (I_iadd (I_il 2 (I_i2l (I_las (I_al 0 (I_gp 8 13 1 (I_il 4 (I_ic 2 (I_iadd (I_il 3 (I_i2l (I_las (I_al 0 (I_al 0 (I_gp 8 13 1 (I_ic 0 (I_lal (I_pl 8 5 13 (I_al 0 (I_gp 8 13 1 (I_ic 0 (I_dup2 (I_lal (I_lc 1 (I_ladd (I_las (I_ic 0 (I_ir Q)))))))))))))))))))))))))))))))))))))))))))))))) (I_ic 2 (I_ir Q))))))))) (I_ic 1 (I_ir Q))))))))))))))))))))
set_option maxRecDepth 100000 in
theorem g_X10_trades_0 {l : Launch} {G : GT} {F : FX} {Q : PQ} {QX : PX} : Le (R_X10_trades_0 l G F Q QX) (Wj true l G F Y_X10_trades Q QX 0 0 0) := by
  unfold R_X10_trades_0
  refine r_iload_n (pc := 0) ?_ dX10_trades_0 rfl
  refine r_i2l (pc := 1) ?_ dX10_trades_1
  refine r_lconst (pc := 2) ?_ dX10_trades_2 (by decide)
  refine r_ldc2 (pc := 3) ?_ dX10_trades_3 wd_5_193
  refine r_cs0 (pc := 6) ?_ dX10_trades_6 ok_X10_in wd_5_194 ⟨Nat.le_of_ble_eq_true rfl, Nat.le_of_ble_eq_true rfl⟩ ⟨Nat.le_of_ble_eq_true rfl, Nat.le_of_ble_eq_true rfl⟩ rfl rfl
  refine r_ifeq (pc := 9) (t := 36) ?_ ?_ dX10_trades_9 (by decide)
  · refine r_iconst (pc := 36) ?_ dX10_trades_36 (by decide)
    exact r_ir dX10_trades_37 rfl (Nat.le_of_ble_eq_true rfl) (Nat.le_of_ble_eq_true rfl)
  · refine r_iload_n (pc := 12) ?_ dX10_trades_12 rfl
    refine r_i2l (pc := 13) ?_ dX10_trades_13
    refine r_lconst (pc := 14) ?_ dX10_trades_14 (by decide)
    refine r_ldc2 (pc := 15) ?_ dX10_trades_15 wd_5_193
    refine r_cs0 (pc := 18) ?_ dX10_trades_18 ok_X10_in wd_5_194 ⟨Nat.le_of_ble_eq_true rfl, Nat.le_of_ble_eq_true rfl⟩ ⟨Nat.le_of_ble_eq_true rfl, Nat.le_of_ble_eq_true rfl⟩ rfl rfl
    refine r_ifeq (pc := 21) (t := 36) ?_ ?_ dX10_trades_21 (by decide)
    · refine r_iconst (pc := 36) ?_ dX10_trades_36 (by decide)
      exact r_ir dX10_trades_37 rfl (Nat.le_of_ble_eq_true rfl) (Nat.le_of_ble_eq_true rfl)
    · refine r_iload_n (pc := 24) ?_ dX10_trades_24 rfl
      refine r_i2l (pc := 25) ?_ dX10_trades_25
      refine r_lconst (pc := 26) ?_ dX10_trades_26 (by decide)
      refine r_ldc2 (pc := 27) ?_ dX10_trades_27 wd_5_193
      refine r_cs0 (pc := 30) ?_ dX10_trades_30 ok_X10_in wd_5_194 ⟨Nat.le_of_ble_eq_true rfl, Nat.le_of_ble_eq_true rfl⟩ ⟨Nat.le_of_ble_eq_true rfl, Nat.le_of_ble_eq_true rfl⟩ rfl rfl
      refine r_ifne (pc := 33) (t := 38) ?_ ?_ dX10_trades_33 (by decide)
      · refine r_aload_n (pc := 38) ?_ dX10_trades_38 rfl
        refine r_gp (pc := 39) (kf := 0) ?_ dX10_trades_39 cl_X10 (Nat.le_of_ble_eq_true rfl) rfl wd_5_137 pv_X10_0
        refine r_iconst (pc := 42) ?_ dX10_trades_42 (by decide)
        refine r_lal (pc := 43) ?_ dX10_trades_43
        refine r_ldc2 (pc := 44) ?_ dX10_trades_44 wd_5_197
        refine r_lcmp (pc := 47) ?_ dX10_trades_47
        refine r_ifne (pc := 48) (t := 53) ?_ ?_ dX10_trades_48 (by decide)
        · refine r_iconst (pc := 53) ?_ dX10_trades_53 (by decide)
          refine r_iconst (pc := 54) ?_ dX10_trades_54 (by decide)
          refine r_aload_n (pc := 55) ?_ dX10_trades_55 rfl
          refine r_gp (pc := 56) (kf := 0) ?_ dX10_trades_56 cl_X10 (Nat.le_of_ble_eq_true rfl) rfl wd_5_137 pv_X10_0
          refine r_iconst (pc := 59) ?_ dX10_trades_59 (by decide)
          refine r_lal (pc := 60) ?_ dX10_trades_60
          refine r_l2i (pc := 61) ?_ dX10_trades_61
          refine r_imul (pc := 62) ?_ dX10_trades_62
          refine r_iadd (pc := 63) ?_ dX10_trades_63
          refine r_istore (pc := 64) ?_ dX10_trades_64 (Nat.le_of_ble_eq_true rfl)
          refine r_aload_n (pc := 66) ?_ dX10_trades_66 rfl
          refine r_gp (pc := 67) (kf := 0) ?_ dX10_trades_67 cl_X10 (Nat.le_of_ble_eq_true rfl) rfl wd_5_137 pv_X10_0
          refine r_iload (pc := 70) ?_ dX10_trades_70
          refine r_iload_n (pc := 72) ?_ dX10_trades_72 rfl
          refine r_i2l (pc := 73) ?_ dX10_trades_73
          refine r_las (pc := 74) ?_ dX10_trades_74
          refine r_aload_n (pc := 75) ?_ dX10_trades_75 rfl
          refine r_gp (pc := 76) (kf := 0) ?_ dX10_trades_76 cl_X10 (Nat.le_of_ble_eq_true rfl) rfl wd_5_137 pv_X10_0
          refine r_iload (pc := 79) ?_ dX10_trades_79
          refine r_iconst (pc := 81) ?_ dX10_trades_81 (by decide)
          refine r_iadd (pc := 82) ?_ dX10_trades_82
          refine r_iload_n (pc := 83) ?_ dX10_trades_83 rfl
          refine r_i2l (pc := 84) ?_ dX10_trades_84
          refine r_las (pc := 85) ?_ dX10_trades_85
          refine r_aload_n (pc := 86) ?_ dX10_trades_86 rfl
          refine r_gp (pc := 87) (kf := 0) ?_ dX10_trades_87 cl_X10 (Nat.le_of_ble_eq_true rfl) rfl wd_5_137 pv_X10_0
          refine r_iload (pc := 90) ?_ dX10_trades_90
          refine r_iconst (pc := 92) ?_ dX10_trades_92 (by decide)
          refine r_iadd (pc := 93) ?_ dX10_trades_93
          refine r_iload_n (pc := 94) ?_ dX10_trades_94 rfl
          refine r_i2l (pc := 95) ?_ dX10_trades_95
          refine r_las (pc := 96) ?_ dX10_trades_96
          refine r_aload_n (pc := 97) ?_ dX10_trades_97 rfl
          refine r_aload_n (pc := 98) ?_ dX10_trades_98 rfl
          refine r_gp (pc := 99) (kf := 0) ?_ dX10_trades_99 cl_X10 (Nat.le_of_ble_eq_true rfl) rfl wd_5_137 pv_X10_0
          refine r_iconst (pc := 102) ?_ dX10_trades_102 (by decide)
          refine r_lal (pc := 103) ?_ dX10_trades_103
          refine r_pl (pc := 104) ?_ dX10_trades_104 cl_X10 (Nat.le_of_ble_eq_true rfl) rfl wd_5_142 rfl pd_X10_5
          refine r_aload_n (pc := 107) ?_ dX10_trades_107 rfl
          refine r_gp (pc := 108) (kf := 0) ?_ dX10_trades_108 cl_X10 (Nat.le_of_ble_eq_true rfl) rfl wd_5_137 pv_X10_0
          refine r_iconst (pc := 111) ?_ dX10_trades_111 (by decide)
          refine r_dup2 (pc := 112) ?_ dX10_trades_112
          refine r_lal (pc := 113) ?_ dX10_trades_113
          refine r_lconst (pc := 114) ?_ dX10_trades_114 (by decide)
          refine r_ladd (pc := 115) ?_ dX10_trades_115
          refine r_las (pc := 116) ?_ dX10_trades_116
          refine r_iconst (pc := 117) ?_ dX10_trades_117 (by decide)
          exact r_ir dX10_trades_118 rfl (Nat.le_of_ble_eq_true rfl) (Nat.le_of_ble_eq_true rfl)
        · refine r_iconst (pc := 51) ?_ dX10_trades_51 (by decide)
          exact r_ir dX10_trades_52 rfl (Nat.le_of_ble_eq_true rfl) (Nat.le_of_ble_eq_true rfl)
      · refine r_iconst (pc := 36) ?_ dX10_trades_36 (by decide)
        exact r_ir dX10_trades_37 rfl (Nat.le_of_ble_eq_true rfl) (Nat.le_of_ble_eq_true rfl)
abbrev Y_X10_mentors : YT := (yX10_mentors, cX10_mentors, 4, (some .int), 1, 25, 0, 0)
theorem ok_X10_mentors : okV Y_X10_mentors 2 := ⟨⟨wd_5_225, wd_1_9, by decide, by decide, by decide +kernel⟩, wd_5_224, wp_46⟩
def R_X10_mentors_0 (l : Launch) (G : GT) (F : FX) (Q : PQ) (QX : PX) : KT := (I_il 1 (I_i2l (I_lc 1 (I_lc (6 : Int64) (I_cs (Tr true l G Y_X10_in) 3 QX (I_ifeq (I_ic 1 (I_ir Q)) (I_il 2 (I_i2l (I_lc 0 (I_lc (31 : Int64) (I_cs (Tr true l G Y_X10_in) 3 QX (I_ifne (I_al 0 (I_gp 8 13 1 (I_ic 1 (I_lal (I_lc (6 : Int64) (I_lcmp (I_ifne (I_ic 19 (I_ic 3 (I_al 0 (I_gp 8 13 1 (I_ic 1 (I_lal (I_l2i (I_imul (I_iadd (I_is 3 (I_al 0 (I_gp 8 13 1 (I_il 3 (I_ic 0 (I_iadd (I_il 1 (I_i2l (I_las (I_al 0 (I_gp 8 13 1 (I_il 3 (I_ic 1 (I_iadd (I_il 2 (I_i2l (I_las (I_al 0 (I_gp 8 13 1 (I_il 3 (I_ic 2 (I_iadd (I_lc 0 (I_las (I_al 0 (I_al 0 (I_gp 8 13 1 (I_ic 1 (I_lal (I_pl 8 5 13 (I_al 0 (I_gp 8 13 1 (I_ic 1 (I_dup2 (I_lal (I_lc 1 (I_ladd (I_las (I_ic 0 (I_ir Q))))))))))))))))))))))))))))))))))))))))))))))))) (I_ic 2 (I_ir Q))))))))) (I_ic 1 (I_ir Q))))))))))))))
set_option maxRecDepth 100000 in
theorem g_X10_mentors_0 {l : Launch} {G : GT} {F : FX} {Q : PQ} {QX : PX} : Le (R_X10_mentors_0 l G F Q QX) (Wj true l G F Y_X10_mentors Q QX 0 0 0) := by
  unfold R_X10_mentors_0
  refine r_iload_n (pc := 0) ?_ dX10_mentors_0 rfl
  refine r_i2l (pc := 1) ?_ dX10_mentors_1
  refine r_lconst (pc := 2) ?_ dX10_mentors_2 (by decide)
  refine r_ldc2 (pc := 3) ?_ dX10_mentors_3 wd_5_226
  refine r_cs0 (pc := 6) ?_ dX10_mentors_6 ok_X10_in wd_5_194 ⟨Nat.le_of_ble_eq_true rfl, Nat.le_of_ble_eq_true rfl⟩ ⟨Nat.le_of_ble_eq_true rfl, Nat.le_of_ble_eq_true rfl⟩ rfl rfl
  refine r_ifeq (pc := 9) (t := 24) ?_ ?_ dX10_mentors_9 (by decide)
  · refine r_iconst (pc := 24) ?_ dX10_mentors_24 (by decide)
    exact r_ir dX10_mentors_25 rfl (Nat.le_of_ble_eq_true rfl) (Nat.le_of_ble_eq_true rfl)
  · refine r_iload_n (pc := 12) ?_ dX10_mentors_12 rfl
    refine r_i2l (pc := 13) ?_ dX10_mentors_13
    refine r_lconst (pc := 14) ?_ dX10_mentors_14 (by decide)
    refine r_ldc2 (pc := 15) ?_ dX10_mentors_15 wd_5_227
    refine r_cs0 (pc := 18) ?_ dX10_mentors_18 ok_X10_in wd_5_194 ⟨Nat.le_of_ble_eq_true rfl, Nat.le_of_ble_eq_true rfl⟩ ⟨Nat.le_of_ble_eq_true rfl, Nat.le_of_ble_eq_true rfl⟩ rfl rfl
    refine r_ifne (pc := 21) (t := 26) ?_ ?_ dX10_mentors_21 (by decide)
    · refine r_aload_n (pc := 26) ?_ dX10_mentors_26 rfl
      refine r_gp (pc := 27) (kf := 0) ?_ dX10_mentors_27 cl_X10 (Nat.le_of_ble_eq_true rfl) rfl wd_5_137 pv_X10_0
      refine r_iconst (pc := 30) ?_ dX10_mentors_30 (by decide)
      refine r_lal (pc := 31) ?_ dX10_mentors_31
      refine r_ldc2 (pc := 32) ?_ dX10_mentors_32 wd_5_226
      refine r_lcmp (pc := 35) ?_ dX10_mentors_35
      refine r_ifne (pc := 36) (t := 41) ?_ ?_ dX10_mentors_36 (by decide)
      · refine r_bipush (pc := 41) ?_ dX10_mentors_41 (by decide)
        refine r_iconst (pc := 43) ?_ dX10_mentors_43 (by decide)
        refine r_aload_n (pc := 44) ?_ dX10_mentors_44 rfl
        refine r_gp (pc := 45) (kf := 0) ?_ dX10_mentors_45 cl_X10 (Nat.le_of_ble_eq_true rfl) rfl wd_5_137 pv_X10_0
        refine r_iconst (pc := 48) ?_ dX10_mentors_48 (by decide)
        refine r_lal (pc := 49) ?_ dX10_mentors_49
        refine r_l2i (pc := 50) ?_ dX10_mentors_50
        refine r_imul (pc := 51) ?_ dX10_mentors_51
        refine r_iadd (pc := 52) ?_ dX10_mentors_52
        refine r_istore_n (pc := 53) ?_ dX10_mentors_53 rfl (Nat.le_of_ble_eq_true rfl)
        refine r_aload_n (pc := 54) ?_ dX10_mentors_54 rfl
        refine r_gp (pc := 55) (kf := 0) ?_ dX10_mentors_55 cl_X10 (Nat.le_of_ble_eq_true rfl) rfl wd_5_137 pv_X10_0
        refine r_iload_n (pc := 58) ?_ dX10_mentors_58 rfl
        refine r_iconst (pc := 59) ?_ dX10_mentors_59 (by decide)
        refine r_iadd (pc := 60) ?_ dX10_mentors_60
        refine r_iload_n (pc := 61) ?_ dX10_mentors_61 rfl
        refine r_i2l (pc := 62) ?_ dX10_mentors_62
        refine r_las (pc := 63) ?_ dX10_mentors_63
        refine r_aload_n (pc := 64) ?_ dX10_mentors_64 rfl
        refine r_gp (pc := 65) (kf := 0) ?_ dX10_mentors_65 cl_X10 (Nat.le_of_ble_eq_true rfl) rfl wd_5_137 pv_X10_0
        refine r_iload_n (pc := 68) ?_ dX10_mentors_68 rfl
        refine r_iconst (pc := 69) ?_ dX10_mentors_69 (by decide)
        refine r_iadd (pc := 70) ?_ dX10_mentors_70
        refine r_iload_n (pc := 71) ?_ dX10_mentors_71 rfl
        refine r_i2l (pc := 72) ?_ dX10_mentors_72
        refine r_las (pc := 73) ?_ dX10_mentors_73
        refine r_aload_n (pc := 74) ?_ dX10_mentors_74 rfl
        refine r_gp (pc := 75) (kf := 0) ?_ dX10_mentors_75 cl_X10 (Nat.le_of_ble_eq_true rfl) rfl wd_5_137 pv_X10_0
        refine r_iload_n (pc := 78) ?_ dX10_mentors_78 rfl
        refine r_iconst (pc := 79) ?_ dX10_mentors_79 (by decide)
        refine r_iadd (pc := 80) ?_ dX10_mentors_80
        refine r_lconst (pc := 81) ?_ dX10_mentors_81 (by decide)
        refine r_las (pc := 82) ?_ dX10_mentors_82
        refine r_aload_n (pc := 83) ?_ dX10_mentors_83 rfl
        refine r_aload_n (pc := 84) ?_ dX10_mentors_84 rfl
        refine r_gp (pc := 85) (kf := 0) ?_ dX10_mentors_85 cl_X10 (Nat.le_of_ble_eq_true rfl) rfl wd_5_137 pv_X10_0
        refine r_iconst (pc := 88) ?_ dX10_mentors_88 (by decide)
        refine r_lal (pc := 89) ?_ dX10_mentors_89
        refine r_pl (pc := 90) ?_ dX10_mentors_90 cl_X10 (Nat.le_of_ble_eq_true rfl) rfl wd_5_142 rfl pd_X10_5
        refine r_aload_n (pc := 93) ?_ dX10_mentors_93 rfl
        refine r_gp (pc := 94) (kf := 0) ?_ dX10_mentors_94 cl_X10 (Nat.le_of_ble_eq_true rfl) rfl wd_5_137 pv_X10_0
        refine r_iconst (pc := 97) ?_ dX10_mentors_97 (by decide)
        refine r_dup2 (pc := 98) ?_ dX10_mentors_98
        refine r_lal (pc := 99) ?_ dX10_mentors_99
        refine r_lconst (pc := 100) ?_ dX10_mentors_100 (by decide)
        refine r_ladd (pc := 101) ?_ dX10_mentors_101
        refine r_las (pc := 102) ?_ dX10_mentors_102
        refine r_iconst (pc := 103) ?_ dX10_mentors_103 (by decide)
        exact r_ir dX10_mentors_104 rfl (Nat.le_of_ble_eq_true rfl) (Nat.le_of_ble_eq_true rfl)
      · refine r_iconst (pc := 39) ?_ dX10_mentors_39 (by decide)
        exact r_ir dX10_mentors_40 rfl (Nat.le_of_ble_eq_true rfl) (Nat.le_of_ble_eq_true rfl)
    · refine r_iconst (pc := 24) ?_ dX10_mentors_24 (by decide)
      exact r_ir dX10_mentors_25 rfl (Nat.le_of_ble_eq_true rfl) (Nat.le_of_ble_eq_true rfl)
abbrev Y_X10_apprentices : YT := (yX10_apprentices, cX10_apprentices, 5, (some .int), 4, 87, 0, 0)
theorem ok_X10_apprentices : okV Y_X10_apprentices 2 := ⟨⟨wd_5_235, wd_1_9, by decide, by decide, by decide +kernel⟩, wd_5_234, wp_47⟩
def R_X10_apprentices_0 (l : Launch) (G : GT) (F : FX) (Q : PQ) (QX : PX) : KT := (I_al 0 (I_il 1 (I_cv (Tr true l G Y_X10_isTrade) 8 13 1 QX (I_ifeq (I_ic 1 (I_ir Q)) (I_il 2 (I_ic (-1) (I_iceq (Wj true l G F Y_X10_apprentices Q QX 0 0 23) (I_al 0 (I_il 2 (I_cv (Tr true l G Y_X10_isMentor) 8 13 1 QX (I_ifne (Wj true l G F Y_X10_apprentices Q QX 0 0 23) (I_ic 1 (I_ir Q)))))))))))))
set_option maxRecDepth 100000 in
theorem g_X10_apprentices_0 {l : Launch} {G : GT} {F : FX} {Q : PQ} {QX : PX} : Le (R_X10_apprentices_0 l G F Q QX) (Wj true l G F Y_X10_apprentices Q QX 0 0 0) := by
  unfold R_X10_apprentices_0
  refine r_aload_n (pc := 0) ?_ dX10_apprentices_0 rfl
  refine r_iload_n (pc := 1) ?_ dX10_apprentices_1 rfl
  refine r_cv0 (pc := 2) ?_ dX10_apprentices_2 cl_X10 ok_X10_isTrade rfl wd_5_236 ⟨Nat.le_of_ble_eq_true rfl, Nat.le_of_ble_eq_true rfl⟩ ⟨Nat.le_of_ble_eq_true rfl, Nat.le_of_ble_eq_true rfl⟩ rfl rfl
  refine r_ifeq (pc := 5) (t := 21) ?_ ?_ dX10_apprentices_5 (by decide)
  · refine r_iconst (pc := 21) ?_ dX10_apprentices_21 (by decide)
    exact r_ir dX10_apprentices_22 rfl (Nat.le_of_ble_eq_true rfl) (Nat.le_of_ble_eq_true rfl)
  · refine r_iload_n (pc := 8) ?_ dX10_apprentices_8 rfl
    refine r_iconst (pc := 9) ?_ dX10_apprentices_9 (by decide)
    refine r_iceq (pc := 10) (t := 23) ?_ ?_ dX10_apprentices_10 (by decide)
    · exact Le.rf
    · refine r_aload_n (pc := 13) ?_ dX10_apprentices_13 rfl
      refine r_iload_n (pc := 14) ?_ dX10_apprentices_14 rfl
      refine r_cv0 (pc := 15) ?_ dX10_apprentices_15 cl_X10 ok_X10_isMentor rfl wd_6_0 ⟨Nat.le_of_ble_eq_true rfl, Nat.le_of_ble_eq_true rfl⟩ ⟨Nat.le_of_ble_eq_true rfl, Nat.le_of_ble_eq_true rfl⟩ rfl rfl
      refine r_ifne (pc := 18) (t := 23) ?_ ?_ dX10_apprentices_18 (by decide)
      · exact Le.rf
      · refine r_iconst (pc := 21) ?_ dX10_apprentices_21 (by decide)
        exact r_ir dX10_apprentices_22 rfl (Nat.le_of_ble_eq_true rfl) (Nat.le_of_ble_eq_true rfl)
def R_X10_apprentices_23 (l : Launch) (G : GT) (F : FX) (Q : PQ) (QX : PX) : KT := (I_al 0 (I_gp 8 13 1 (I_ic 2 (I_lal (I_lc (10 : Int64) (I_lcmp (I_ifeq (I_ic 2 (I_ir Q)) (I_il 2 (I_ic (-1) (I_iceq (I_al 0 (I_gp 8 13 1 (I_ic 2 (I_lal (I_l2i (I_is 3 (I_ic 0 (I_is 4 (Wj true l G F Y_X10_apprentices Q QX 0 0 72))))))))) (I_al 0 (I_il 2 (I_il 1 (I_i2l (I_cv (Tr true l G Y_X10_teaches) 8 13 2 QX (I_ifeq (I_ic 2 (I_ir Q)) (I_al 0 (I_il 2 (I_cv (Tr true l G Y_X10_isFull) 8 13 1 QX (I_ifeq (I_al 0 (I_gp 8 13 1 (I_ic 2 (I_lal (I_l2i (I_is 3 (I_ic 0 (I_is 4 (Wj true l G F Y_X10_apprentices Q QX 0 0 72))))))))) (I_ic 2 (I_ir Q))))))))))))))))))))))
set_option maxRecDepth 100000 in
theorem g_X10_apprentices_23 {l : Launch} {G : GT} {F : FX} {Q : PQ} {QX : PX} : Le (R_X10_apprentices_23 l G F Q QX) (Wj true l G F Y_X10_apprentices Q QX 0 0 23) := by
  unfold R_X10_apprentices_23
  refine r_aload_n (pc := 23) ?_ dX10_apprentices_23 rfl
  refine r_gp (pc := 24) (kf := 0) ?_ dX10_apprentices_24 cl_X10 (Nat.le_of_ble_eq_true rfl) rfl wd_5_137 pv_X10_0
  refine r_iconst (pc := 27) ?_ dX10_apprentices_27 (by decide)
  refine r_lal (pc := 28) ?_ dX10_apprentices_28
  refine r_ldc2 (pc := 29) ?_ dX10_apprentices_29 wd_6_4
  refine r_lcmp (pc := 32) ?_ dX10_apprentices_32
  refine r_ifeq (pc := 33) (t := 59) ?_ ?_ dX10_apprentices_33 (by decide)
  · refine r_iconst (pc := 59) ?_ dX10_apprentices_59 (by decide)
    exact r_ir dX10_apprentices_60 rfl (Nat.le_of_ble_eq_true rfl) (Nat.le_of_ble_eq_true rfl)
  · refine r_iload_n (pc := 36) ?_ dX10_apprentices_36 rfl
    refine r_iconst (pc := 37) ?_ dX10_apprentices_37 (by decide)
    refine r_iceq (pc := 38) (t := 61) ?_ ?_ dX10_apprentices_38 (by decide)
    · refine r_aload_n (pc := 61) ?_ dX10_apprentices_61 rfl
      refine r_gp (pc := 62) (kf := 0) ?_ dX10_apprentices_62 cl_X10 (Nat.le_of_ble_eq_true rfl) rfl wd_5_137 pv_X10_0
      refine r_iconst (pc := 65) ?_ dX10_apprentices_65 (by decide)
      refine r_lal (pc := 66) ?_ dX10_apprentices_66
      refine r_l2i (pc := 67) ?_ dX10_apprentices_67
      refine r_istore_n (pc := 68) ?_ dX10_apprentices_68 rfl (Nat.le_of_ble_eq_true rfl)
      refine r_iconst (pc := 69) ?_ dX10_apprentices_69 (by decide)
      refine r_istore (pc := 70) ?_ dX10_apprentices_70 (Nat.le_of_ble_eq_true rfl)
      exact Le.rf
    · refine r_aload_n (pc := 41) ?_ dX10_apprentices_41 rfl
      refine r_iload_n (pc := 42) ?_ dX10_apprentices_42 rfl
      refine r_iload_n (pc := 43) ?_ dX10_apprentices_43 rfl
      refine r_i2l (pc := 44) ?_ dX10_apprentices_44
      refine r_cv0 (pc := 45) ?_ dX10_apprentices_45 cl_X10 ok_X10_teaches rfl wd_6_5 ⟨Nat.le_of_ble_eq_true rfl, Nat.le_of_ble_eq_true rfl⟩ ⟨Nat.le_of_ble_eq_true rfl, Nat.le_of_ble_eq_true rfl⟩ rfl rfl
      refine r_ifeq (pc := 48) (t := 59) ?_ ?_ dX10_apprentices_48 (by decide)
      · refine r_iconst (pc := 59) ?_ dX10_apprentices_59 (by decide)
        exact r_ir dX10_apprentices_60 rfl (Nat.le_of_ble_eq_true rfl) (Nat.le_of_ble_eq_true rfl)
      · refine r_aload_n (pc := 51) ?_ dX10_apprentices_51 rfl
        refine r_iload_n (pc := 52) ?_ dX10_apprentices_52 rfl
        refine r_cv0 (pc := 53) ?_ dX10_apprentices_53 cl_X10 ok_X10_isFull rfl wd_6_13 ⟨Nat.le_of_ble_eq_true rfl, Nat.le_of_ble_eq_true rfl⟩ ⟨Nat.le_of_ble_eq_true rfl, Nat.le_of_ble_eq_true rfl⟩ rfl rfl
        refine r_ifeq (pc := 56) (t := 61) ?_ ?_ dX10_apprentices_56 (by decide)
        · refine r_aload_n (pc := 61) ?_ dX10_apprentices_61 rfl
          refine r_gp (pc := 62) (kf := 0) ?_ dX10_apprentices_62 cl_X10 (Nat.le_of_ble_eq_true rfl) rfl wd_5_137 pv_X10_0
          refine r_iconst (pc := 65) ?_ dX10_apprentices_65 (by decide)
          refine r_lal (pc := 66) ?_ dX10_apprentices_66
          refine r_l2i (pc := 67) ?_ dX10_apprentices_67
          refine r_istore_n (pc := 68) ?_ dX10_apprentices_68 rfl (Nat.le_of_ble_eq_true rfl)
          refine r_iconst (pc := 69) ?_ dX10_apprentices_69 (by decide)
          refine r_istore (pc := 70) ?_ dX10_apprentices_70 (Nat.le_of_ble_eq_true rfl)
          exact Le.rf
        · refine r_iconst (pc := 59) ?_ dX10_apprentices_59 (by decide)
          exact r_ir dX10_apprentices_60 rfl (Nat.le_of_ble_eq_true rfl) (Nat.le_of_ble_eq_true rfl)
def R_X10_apprentices_72 (l : Launch) (G : GT) (F : FX) (Q : PQ) (QX : PX) : KT := (I_il 4 (I_ic 39 (I_icge (I_al 0 (I_il 3 (I_ic 0 (I_il 1 (I_i2l (I_cv (Tr true l G Y_X10_put) 8 13 3 QX (I_al 0 (I_il 3 (I_ic 1 (I_il 2 (I_i2l (I_cv (Tr true l G Y_X10_put) 8 13 3 QX (I_al 0 (I_il 3 (I_i2l (I_pl 8 5 13 (I_al 0 (I_gp 8 13 1 (I_ic 2 (I_dup2 (I_lal (I_lc 1 (I_ladd (I_las (I_ic 0 (I_ir Q)))))))))))))))))))))))))) (I_al 0 (I_il 3 (I_il 4 (I_lc 0 (I_cv (Tr true l G Y_X10_put) 8 13 3 QX (I_inc 4 1 (Wj true l G F Y_X10_apprentices Q QX 0 0 72))))))))))
set_option maxRecDepth 100000 in
theorem g_X10_apprentices_72 {l : Launch} {G : GT} {F : FX} {Q : PQ} {QX : PX} : Le (R_X10_apprentices_72 l G F Q QX) (Wj true l G F Y_X10_apprentices Q QX 0 0 72) := by
  unfold R_X10_apprentices_72
  refine r_iload (pc := 72) ?_ dX10_apprentices_72
  refine r_bipush (pc := 74) ?_ dX10_apprentices_74 (by decide)
  refine r_icge (pc := 76) (t := 93) ?_ ?_ dX10_apprentices_76 (by decide)
  · refine r_aload_n (pc := 93) ?_ dX10_apprentices_93 rfl
    refine r_iload_n (pc := 94) ?_ dX10_apprentices_94 rfl
    refine r_iconst (pc := 95) ?_ dX10_apprentices_95 (by decide)
    refine r_iload_n (pc := 96) ?_ dX10_apprentices_96 rfl
    refine r_i2l (pc := 97) ?_ dX10_apprentices_97
    refine r_cv0 (pc := 98) ?_ dX10_apprentices_98 cl_X10 ok_X10_put rfl wd_6_29 ⟨Nat.le_of_ble_eq_true rfl, Nat.le_of_ble_eq_true rfl⟩ ⟨Nat.le_of_ble_eq_true rfl, Nat.le_of_ble_eq_true rfl⟩ rfl rfl
    refine r_aload_n (pc := 101) ?_ dX10_apprentices_101 rfl
    refine r_iload_n (pc := 102) ?_ dX10_apprentices_102 rfl
    refine r_iconst (pc := 103) ?_ dX10_apprentices_103 (by decide)
    refine r_iload_n (pc := 104) ?_ dX10_apprentices_104 rfl
    refine r_i2l (pc := 105) ?_ dX10_apprentices_105
    refine r_cv0 (pc := 106) ?_ dX10_apprentices_106 cl_X10 ok_X10_put rfl wd_6_29 ⟨Nat.le_of_ble_eq_true rfl, Nat.le_of_ble_eq_true rfl⟩ ⟨Nat.le_of_ble_eq_true rfl, Nat.le_of_ble_eq_true rfl⟩ rfl rfl
    refine r_aload_n (pc := 109) ?_ dX10_apprentices_109 rfl
    refine r_iload_n (pc := 110) ?_ dX10_apprentices_110 rfl
    refine r_i2l (pc := 111) ?_ dX10_apprentices_111
    refine r_pl (pc := 112) ?_ dX10_apprentices_112 cl_X10 (Nat.le_of_ble_eq_true rfl) rfl wd_5_142 rfl pd_X10_5
    refine r_aload_n (pc := 115) ?_ dX10_apprentices_115 rfl
    refine r_gp (pc := 116) (kf := 0) ?_ dX10_apprentices_116 cl_X10 (Nat.le_of_ble_eq_true rfl) rfl wd_5_137 pv_X10_0
    refine r_iconst (pc := 119) ?_ dX10_apprentices_119 (by decide)
    refine r_dup2 (pc := 120) ?_ dX10_apprentices_120
    refine r_lal (pc := 121) ?_ dX10_apprentices_121
    refine r_lconst (pc := 122) ?_ dX10_apprentices_122 (by decide)
    refine r_ladd (pc := 123) ?_ dX10_apprentices_123
    refine r_las (pc := 124) ?_ dX10_apprentices_124
    refine r_iconst (pc := 125) ?_ dX10_apprentices_125 (by decide)
    exact r_ir dX10_apprentices_126 rfl (Nat.le_of_ble_eq_true rfl) (Nat.le_of_ble_eq_true rfl)
  · refine r_aload_n (pc := 79) ?_ dX10_apprentices_79 rfl
    refine r_iload_n (pc := 80) ?_ dX10_apprentices_80 rfl
    refine r_iload (pc := 81) ?_ dX10_apprentices_81
    refine r_lconst (pc := 83) ?_ dX10_apprentices_83 (by decide)
    refine r_cv0 (pc := 84) ?_ dX10_apprentices_84 cl_X10 ok_X10_put rfl wd_6_29 ⟨Nat.le_of_ble_eq_true rfl, Nat.le_of_ble_eq_true rfl⟩ ⟨Nat.le_of_ble_eq_true rfl, Nat.le_of_ble_eq_true rfl⟩ rfl rfl
    refine r_iinc (pc := 87) ?_ dX10_apprentices_87 (by decide) (Nat.le_of_ble_eq_true rfl)
    refine r_goto (pc := 90) (t := 72) ?_ dX10_apprentices_90 (by decide)
    exact Le.rf
abbrev Y_X10_frees : YT := (yX10_frees, cX10_frees, 3, (some .int), 3, 68, 0, 0)
theorem ok_X10_frees : okV Y_X10_frees 2 := ⟨⟨wd_6_40, wd_1_9, by decide, by decide, by decide +kernel⟩, wd_6_39, wp_57⟩
def R_X10_frees_0 (l : Launch) (G : GT) (F : FX) (Q : PQ) (QX : PX) : KT := (I_al 0 (I_il 1 (I_cv (Tr true l G Y_X10_isApprentice) 8 13 1 QX (I_ifne (I_il 2 (I_i2l (I_lc 0 (I_lc (199 : Int64) (I_cs (Tr true l G Y_X10_in) 3 QX (I_ifne (I_al 0 (I_il 1 (I_ic 15 (I_il 2 (I_cv (Tr true l G Y_X10_isDay) 8 13 3 QX (I_ifeq (I_al 0 (I_il 1 (I_ic 11 (I_il 2 (I_cv (Tr true l G Y_X10_putDay) 8 13 3 QX (I_al 0 (I_al 0 (I_il 1 (I_cv (Tr true l G Y_X10_releases) 8 13 1 QX (I_i2l (I_pl 8 5 13 (I_ic 0 (I_ir Q))))))))))))) (I_ic 3 (I_ir Q)))))))) (I_ic 2 (I_ir Q)))))))) (I_ic 1 (I_ir Q))))))
set_option maxRecDepth 100000 in
theorem g_X10_frees_0 {l : Launch} {G : GT} {F : FX} {Q : PQ} {QX : PX} : Le (R_X10_frees_0 l G F Q QX) (Wj true l G F Y_X10_frees Q QX 0 0 0) := by
  unfold R_X10_frees_0
  refine r_aload_n (pc := 0) ?_ dX10_frees_0 rfl
  refine r_iload_n (pc := 1) ?_ dX10_frees_1 rfl
  refine r_cv0 (pc := 2) ?_ dX10_frees_2 cl_X10 ok_X10_isApprentice rfl wd_6_41 ⟨Nat.le_of_ble_eq_true rfl, Nat.le_of_ble_eq_true rfl⟩ ⟨Nat.le_of_ble_eq_true rfl, Nat.le_of_ble_eq_true rfl⟩ rfl rfl
  refine r_ifne (pc := 5) (t := 10) ?_ ?_ dX10_frees_5 (by decide)
  · refine r_iload_n (pc := 10) ?_ dX10_frees_10 rfl
    refine r_i2l (pc := 11) ?_ dX10_frees_11
    refine r_lconst (pc := 12) ?_ dX10_frees_12 (by decide)
    refine r_ldc2 (pc := 13) ?_ dX10_frees_13 wd_6_45
    refine r_cs0 (pc := 16) ?_ dX10_frees_16 ok_X10_in wd_5_194 ⟨Nat.le_of_ble_eq_true rfl, Nat.le_of_ble_eq_true rfl⟩ ⟨Nat.le_of_ble_eq_true rfl, Nat.le_of_ble_eq_true rfl⟩ rfl rfl
    refine r_ifne (pc := 19) (t := 24) ?_ ?_ dX10_frees_19 (by decide)
    · refine r_aload_n (pc := 24) ?_ dX10_frees_24 rfl
      refine r_iload_n (pc := 25) ?_ dX10_frees_25 rfl
      refine r_bipush (pc := 26) ?_ dX10_frees_26 (by decide)
      refine r_iload_n (pc := 28) ?_ dX10_frees_28 rfl
      refine r_cv0 (pc := 29) ?_ dX10_frees_29 cl_X10 ok_X10_isDay rfl wd_6_46 ⟨Nat.le_of_ble_eq_true rfl, Nat.le_of_ble_eq_true rfl⟩ ⟨Nat.le_of_ble_eq_true rfl, Nat.le_of_ble_eq_true rfl⟩ rfl rfl
      refine r_ifeq (pc := 32) (t := 37) ?_ ?_ dX10_frees_32 (by decide)
      · refine r_aload_n (pc := 37) ?_ dX10_frees_37 rfl
        refine r_iload_n (pc := 38) ?_ dX10_frees_38 rfl
        refine r_bipush (pc := 39) ?_ dX10_frees_39 (by decide)
        refine r_iload_n (pc := 41) ?_ dX10_frees_41 rfl
        refine r_cv0 (pc := 42) ?_ dX10_frees_42 cl_X10 ok_X10_putDay rfl wd_6_50 ⟨Nat.le_of_ble_eq_true rfl, Nat.le_of_ble_eq_true rfl⟩ ⟨Nat.le_of_ble_eq_true rfl, Nat.le_of_ble_eq_true rfl⟩ rfl rfl
        refine r_aload_n (pc := 45) ?_ dX10_frees_45 rfl
        refine r_aload_n (pc := 46) ?_ dX10_frees_46 rfl
        refine r_iload_n (pc := 47) ?_ dX10_frees_47 rfl
        refine r_cv0 (pc := 48) ?_ dX10_frees_48 cl_X10 ok_X10_releases rfl wd_6_54 ⟨Nat.le_of_ble_eq_true rfl, Nat.le_of_ble_eq_true rfl⟩ ⟨Nat.le_of_ble_eq_true rfl, Nat.le_of_ble_eq_true rfl⟩ rfl rfl
        refine r_i2l (pc := 51) ?_ dX10_frees_51
        refine r_pl (pc := 52) ?_ dX10_frees_52 cl_X10 (Nat.le_of_ble_eq_true rfl) rfl wd_5_142 rfl pd_X10_5
        refine r_iconst (pc := 55) ?_ dX10_frees_55 (by decide)
        exact r_ir dX10_frees_56 rfl (Nat.le_of_ble_eq_true rfl) (Nat.le_of_ble_eq_true rfl)
      · refine r_iconst (pc := 35) ?_ dX10_frees_35 (by decide)
        exact r_ir dX10_frees_36 rfl (Nat.le_of_ble_eq_true rfl) (Nat.le_of_ble_eq_true rfl)
    · refine r_iconst (pc := 22) ?_ dX10_frees_22 (by decide)
      exact r_ir dX10_frees_23 rfl (Nat.le_of_ble_eq_true rfl) (Nat.le_of_ble_eq_true rfl)
  · refine r_iconst (pc := 8) ?_ dX10_frees_8 (by decide)
    exact r_ir dX10_frees_9 rfl (Nat.le_of_ble_eq_true rfl) (Nat.le_of_ble_eq_true rfl)
abbrev Y_X10_logs : YT := (yX10_logs, cX10_logs, 6, (some .int), 2, 47, 0, 0)
theorem ok_X10_logs : okV Y_X10_logs 3 := ⟨⟨wd_6_65, wd_1_9, by decide, by decide, by decide +kernel⟩, wd_6_64, wp_62⟩
def R_X10_logs_0 (l : Launch) (G : GT) (F : FX) (Q : PQ) (QX : PX) : KT := (I_al 0 (I_il 1 (I_cv (Tr true l G Y_X10_isApprentice) 8 13 1 QX (I_ifne (I_il 2 (I_cs (Tr true l G Y_X10_isPart) 1 QX (I_ifeq (I_ic 2 (I_ir Q)) (I_il 3 (I_i2l (I_lc 1 (I_lc (12 : Int64) (I_cs (Tr true l G Y_X10_in) 3 QX (I_ifne (I_al 0 (I_gp 8 13 1 (I_ic 3 (I_lal (I_l2i (I_is 4 (I_al 0 (I_il 1 (I_cv (Tr true l G Y_X10_mentorOf) 8 13 1 QX (I_ic (-1) (I_iceq (I_ic 3 (I_ir Q)) (I_al 0 (I_il 1 (I_ic 11 (I_il 4 (I_cv (Tr true l G Y_X10_isDay) 8 13 3 QX (I_ifne (I_ic 3 (I_ir Q)) (I_al 0 (I_il 1 (I_ic 8 (I_cv (Tr true l G Y_X10_of) 8 13 2 QX (I_il 3 (I_i2l (I_ladd (I_lc (12 : Int64) (I_lcmp (I_ifgt (I_ic 3 (I_ir Q)) (I_al 0 (I_il 1 (I_cv (Tr true l G Y_X10_entries) 8 13 1 QX (I_ic 20 (I_icne (I_al 0 (I_il 1 (I_cv (Tr true l G Y_X10_entries) 8 13 1 QX (I_is 5 (Wj true l G F Y_X10_logs Q QX 0 0 97))))) (I_ic 3 (I_ir Q)))))))))))))))))))))))))))))))))) (I_ic 2 (I_ir Q))))))))))) (I_ic 1 (I_ir Q))))))
set_option maxRecDepth 100000 in
theorem g_X10_logs_0 {l : Launch} {G : GT} {F : FX} {Q : PQ} {QX : PX} : Le (R_X10_logs_0 l G F Q QX) (Wj true l G F Y_X10_logs Q QX 0 0 0) := by
  unfold R_X10_logs_0
  refine r_aload_n (pc := 0) ?_ dX10_logs_0 rfl
  refine r_iload_n (pc := 1) ?_ dX10_logs_1 rfl
  refine r_cv0 (pc := 2) ?_ dX10_logs_2 cl_X10 ok_X10_isApprentice rfl wd_6_41 ⟨Nat.le_of_ble_eq_true rfl, Nat.le_of_ble_eq_true rfl⟩ ⟨Nat.le_of_ble_eq_true rfl, Nat.le_of_ble_eq_true rfl⟩ rfl rfl
  refine r_ifne (pc := 5) (t := 10) ?_ ?_ dX10_logs_5 (by decide)
  · refine r_iload_n (pc := 10) ?_ dX10_logs_10 rfl
    refine r_cs0 (pc := 11) ?_ dX10_logs_11 ok_X10_isPart wd_6_66 ⟨Nat.le_of_ble_eq_true rfl, Nat.le_of_ble_eq_true rfl⟩ ⟨Nat.le_of_ble_eq_true rfl, Nat.le_of_ble_eq_true rfl⟩ rfl rfl
    refine r_ifeq (pc := 14) (t := 29) ?_ ?_ dX10_logs_14 (by decide)
    · refine r_iconst (pc := 29) ?_ dX10_logs_29 (by decide)
      exact r_ir dX10_logs_30 rfl (Nat.le_of_ble_eq_true rfl) (Nat.le_of_ble_eq_true rfl)
    · refine r_iload_n (pc := 17) ?_ dX10_logs_17 rfl
      refine r_i2l (pc := 18) ?_ dX10_logs_18
      refine r_lconst (pc := 19) ?_ dX10_logs_19 (by decide)
      refine r_ldc2 (pc := 20) ?_ dX10_logs_20 wd_6_70
      refine r_cs0 (pc := 23) ?_ dX10_logs_23 ok_X10_in wd_5_194 ⟨Nat.le_of_ble_eq_true rfl, Nat.le_of_ble_eq_true rfl⟩ ⟨Nat.le_of_ble_eq_true rfl, Nat.le_of_ble_eq_true rfl⟩ rfl rfl
      refine r_ifne (pc := 26) (t := 31) ?_ ?_ dX10_logs_26 (by decide)
      · refine r_aload_n (pc := 31) ?_ dX10_logs_31 rfl
        refine r_gp (pc := 32) (kf := 0) ?_ dX10_logs_32 cl_X10 (Nat.le_of_ble_eq_true rfl) rfl wd_5_137 pv_X10_0
        refine r_iconst (pc := 35) ?_ dX10_logs_35 (by decide)
        refine r_lal (pc := 36) ?_ dX10_logs_36
        refine r_l2i (pc := 37) ?_ dX10_logs_37
        refine r_istore (pc := 38) ?_ dX10_logs_38 (Nat.le_of_ble_eq_true rfl)
        refine r_aload_n (pc := 40) ?_ dX10_logs_40 rfl
        refine r_iload_n (pc := 41) ?_ dX10_logs_41 rfl
        refine r_cv0 (pc := 42) ?_ dX10_logs_42 cl_X10 ok_X10_mentorOf rfl wd_6_21 ⟨Nat.le_of_ble_eq_true rfl, Nat.le_of_ble_eq_true rfl⟩ ⟨Nat.le_of_ble_eq_true rfl, Nat.le_of_ble_eq_true rfl⟩ rfl rfl
        refine r_iconst (pc := 45) ?_ dX10_logs_45 (by decide)
        refine r_iceq (pc := 46) (t := 88) ?_ ?_ dX10_logs_46 (by decide)
        · refine r_iconst (pc := 88) ?_ dX10_logs_88 (by decide)
          exact r_ir dX10_logs_89 rfl (Nat.le_of_ble_eq_true rfl) (Nat.le_of_ble_eq_true rfl)
        · refine r_aload_n (pc := 49) ?_ dX10_logs_49 rfl
          refine r_iload_n (pc := 50) ?_ dX10_logs_50 rfl
          refine r_bipush (pc := 51) ?_ dX10_logs_51 (by decide)
          refine r_iload (pc := 53) ?_ dX10_logs_53
          refine r_cv0 (pc := 55) ?_ dX10_logs_55 cl_X10 ok_X10_isDay rfl wd_6_46 ⟨Nat.le_of_ble_eq_true rfl, Nat.le_of_ble_eq_true rfl⟩ ⟨Nat.le_of_ble_eq_true rfl, Nat.le_of_ble_eq_true rfl⟩ rfl rfl
          refine r_ifne (pc := 58) (t := 88) ?_ ?_ dX10_logs_58 (by decide)
          · refine r_iconst (pc := 88) ?_ dX10_logs_88 (by decide)
            exact r_ir dX10_logs_89 rfl (Nat.le_of_ble_eq_true rfl) (Nat.le_of_ble_eq_true rfl)
          · refine r_aload_n (pc := 61) ?_ dX10_logs_61 rfl
            refine r_iload_n (pc := 62) ?_ dX10_logs_62 rfl
            refine r_bipush (pc := 63) ?_ dX10_logs_63 (by decide)
            refine r_cv0 (pc := 65) ?_ dX10_logs_65 cl_X10 ok_X10_of rfl wd_6_25 ⟨Nat.le_of_ble_eq_true rfl, Nat.le_of_ble_eq_true rfl⟩ ⟨Nat.le_of_ble_eq_true rfl, Nat.le_of_ble_eq_true rfl⟩ rfl rfl
            refine r_iload_n (pc := 68) ?_ dX10_logs_68 rfl
            refine r_i2l (pc := 69) ?_ dX10_logs_69
            refine r_ladd (pc := 70) ?_ dX10_logs_70
            refine r_ldc2 (pc := 71) ?_ dX10_logs_71 wd_6_70
            refine r_lcmp (pc := 74) ?_ dX10_logs_74
            refine r_ifgt (pc := 75) (t := 88) ?_ ?_ dX10_logs_75 (by decide)
            · refine r_iconst (pc := 88) ?_ dX10_logs_88 (by decide)
              exact r_ir dX10_logs_89 rfl (Nat.le_of_ble_eq_true rfl) (Nat.le_of_ble_eq_true rfl)
            · refine r_aload_n (pc := 78) ?_ dX10_logs_78 rfl
              refine r_iload_n (pc := 79) ?_ dX10_logs_79 rfl
              refine r_cv0 (pc := 80) ?_ dX10_logs_80 cl_X10 ok_X10_entries rfl wd_6_71 ⟨Nat.le_of_ble_eq_true rfl, Nat.le_of_ble_eq_true rfl⟩ ⟨Nat.le_of_ble_eq_true rfl, Nat.le_of_ble_eq_true rfl⟩ rfl rfl
              refine r_bipush (pc := 83) ?_ dX10_logs_83 (by decide)
              refine r_icne (pc := 85) (t := 90) ?_ ?_ dX10_logs_85 (by decide)
              · refine r_aload_n (pc := 90) ?_ dX10_logs_90 rfl
                refine r_iload_n (pc := 91) ?_ dX10_logs_91 rfl
                refine r_cv0 (pc := 92) ?_ dX10_logs_92 cl_X10 ok_X10_entries rfl wd_6_71 ⟨Nat.le_of_ble_eq_true rfl, Nat.le_of_ble_eq_true rfl⟩ ⟨Nat.le_of_ble_eq_true rfl, Nat.le_of_ble_eq_true rfl⟩ rfl rfl
                refine r_istore (pc := 95) ?_ dX10_logs_95 (Nat.le_of_ble_eq_true rfl)
                exact Le.rf
              · refine r_iconst (pc := 88) ?_ dX10_logs_88 (by decide)
                exact r_ir dX10_logs_89 rfl (Nat.le_of_ble_eq_true rfl) (Nat.le_of_ble_eq_true rfl)
      · refine r_iconst (pc := 29) ?_ dX10_logs_29 (by decide)
        exact r_ir dX10_logs_30 rfl (Nat.le_of_ble_eq_true rfl) (Nat.le_of_ble_eq_true rfl)
  · refine r_iconst (pc := 8) ?_ dX10_logs_8 (by decide)
    exact r_ir dX10_logs_9 rfl (Nat.le_of_ble_eq_true rfl) (Nat.le_of_ble_eq_true rfl)
def R_X10_logs_97 (l : Launch) (G : GT) (F : FX) (Q : PQ) (QX : PX) : KT := (I_il 5 (I_i2l (I_al 0 (I_il 1 (I_ic 9 (I_cv (Tr true l G Y_X10_of) 8 13 2 QX (I_lcmp (I_ifle (I_al 0 (I_il 1 (I_ic 19 (I_al 0 (I_il 1 (I_ic 9 (I_cv (Tr true l G Y_X10_of) 8 13 2 QX (I_l2i (I_iadd (I_il 2 (I_i2l (I_lc (4 : Int64) (I_il 3 (I_i2l (I_lmul (I_ladd (I_lc (64 : Int64) (I_al 0 (I_il 1 (I_cv (Tr true l G Y_X10_mentorOf) 8 13 1 QX (I_i2l (I_lmul (I_ladd (I_lc (512 : Int64) (I_il 4 (I_i2l (I_lmul (I_ladd (I_cv (Tr true l G Y_X10_put) 8 13 3 QX (I_al 0 (I_il 1 (I_ic 9 (I_lc 1 (I_cv (Tr true l G Y_X10_adds) 8 13 3 QX (I_al 0 (I_il 1 (I_ic 7 (I_al 0 (I_il 1 (I_ic 8 (I_cv (Tr true l G Y_X10_of) 8 13 2 QX (I_lc 0 (I_lcmp (I_ifne (I_lc 0 (I_kl 5 (I_kl 2 (Wj true l G F Y_X10_logs Q QX 0 0 212)))) (I_lc 1 (I_kl 5 (I_kl 2 (Wj true l G F Y_X10_logs Q QX 0 0 212)))))))))))))))))))))))))))))))))))))))))))))))) (I_al 0 (I_il 1 (I_ic 19 (I_il 5 (I_iadd (I_al 0 (I_il 1 (I_ic 19 (I_il 5 (I_iadd (I_ic 1 (I_isub (I_cv (Tr true l G Y_X10_of) 8 13 2 QX (I_cv (Tr true l G Y_X10_put) 8 13 3 QX (I_inc 5 (-1) (Wj true l G F Y_X10_logs Q QX 0 0 97))))))))))))))))))))))))
set_option maxRecDepth 100000 in
theorem g_X10_logs_97 {l : Launch} {G : GT} {F : FX} {Q : PQ} {QX : PX} : Le (R_X10_logs_97 l G F Q QX) (Wj true l G F Y_X10_logs Q QX 0 0 97) := by
  unfold R_X10_logs_97
  refine r_iload (pc := 97) ?_ dX10_logs_97
  refine r_i2l (pc := 99) ?_ dX10_logs_99
  refine r_aload_n (pc := 100) ?_ dX10_logs_100 rfl
  refine r_iload_n (pc := 101) ?_ dX10_logs_101 rfl
  refine r_bipush (pc := 102) ?_ dX10_logs_102 (by decide)
  refine r_cv0 (pc := 104) ?_ dX10_logs_104 cl_X10 ok_X10_of rfl wd_6_25 ⟨Nat.le_of_ble_eq_true rfl, Nat.le_of_ble_eq_true rfl⟩ ⟨Nat.le_of_ble_eq_true rfl, Nat.le_of_ble_eq_true rfl⟩ rfl rfl
  refine r_lcmp (pc := 107) ?_ dX10_logs_107
  refine r_ifle (pc := 108) (t := 139) ?_ ?_ dX10_logs_108 (by decide)
  · refine r_aload_n (pc := 139) ?_ dX10_logs_139 rfl
    refine r_iload_n (pc := 140) ?_ dX10_logs_140 rfl
    refine r_bipush (pc := 141) ?_ dX10_logs_141 (by decide)
    refine r_aload_n (pc := 143) ?_ dX10_logs_143 rfl
    refine r_iload_n (pc := 144) ?_ dX10_logs_144 rfl
    refine r_bipush (pc := 145) ?_ dX10_logs_145 (by decide)
    refine r_cv0 (pc := 147) ?_ dX10_logs_147 cl_X10 ok_X10_of rfl wd_6_25 ⟨Nat.le_of_ble_eq_true rfl, Nat.le_of_ble_eq_true rfl⟩ ⟨Nat.le_of_ble_eq_true rfl, Nat.le_of_ble_eq_true rfl⟩ rfl rfl
    refine r_l2i (pc := 150) ?_ dX10_logs_150
    refine r_iadd (pc := 151) ?_ dX10_logs_151
    refine r_iload_n (pc := 152) ?_ dX10_logs_152 rfl
    refine r_i2l (pc := 153) ?_ dX10_logs_153
    refine r_ldc2 (pc := 154) ?_ dX10_logs_154 wd_6_75
    refine r_iload_n (pc := 157) ?_ dX10_logs_157 rfl
    refine r_i2l (pc := 158) ?_ dX10_logs_158
    refine r_lmul (pc := 159) ?_ dX10_logs_159
    refine r_ladd (pc := 160) ?_ dX10_logs_160
    refine r_ldc2 (pc := 161) ?_ dX10_logs_161 wd_6_76
    refine r_aload_n (pc := 164) ?_ dX10_logs_164 rfl
    refine r_iload_n (pc := 165) ?_ dX10_logs_165 rfl
    refine r_cv0 (pc := 166) ?_ dX10_logs_166 cl_X10 ok_X10_mentorOf rfl wd_6_21 ⟨Nat.le_of_ble_eq_true rfl, Nat.le_of_ble_eq_true rfl⟩ ⟨Nat.le_of_ble_eq_true rfl, Nat.le_of_ble_eq_true rfl⟩ rfl rfl
    refine r_i2l (pc := 169) ?_ dX10_logs_169
    refine r_lmul (pc := 170) ?_ dX10_logs_170
    refine r_ladd (pc := 171) ?_ dX10_logs_171
    refine r_ldc2 (pc := 172) ?_ dX10_logs_172 wd_6_77
    refine r_iload (pc := 175) ?_ dX10_logs_175
    refine r_i2l (pc := 177) ?_ dX10_logs_177
    refine r_lmul (pc := 178) ?_ dX10_logs_178
    refine r_ladd (pc := 179) ?_ dX10_logs_179
    refine r_cv0 (pc := 180) ?_ dX10_logs_180 cl_X10 ok_X10_put rfl wd_6_29 ⟨Nat.le_of_ble_eq_true rfl, Nat.le_of_ble_eq_true rfl⟩ ⟨Nat.le_of_ble_eq_true rfl, Nat.le_of_ble_eq_true rfl⟩ rfl rfl
    refine r_aload_n (pc := 183) ?_ dX10_logs_183 rfl
    refine r_iload_n (pc := 184) ?_ dX10_logs_184 rfl
    refine r_bipush (pc := 185) ?_ dX10_logs_185 (by decide)
    refine r_lconst (pc := 187) ?_ dX10_logs_187 (by decide)
    refine r_cv0 (pc := 188) ?_ dX10_logs_188 cl_X10 ok_X10_adds rfl wd_6_78 ⟨Nat.le_of_ble_eq_true rfl, Nat.le_of_ble_eq_true rfl⟩ ⟨Nat.le_of_ble_eq_true rfl, Nat.le_of_ble_eq_true rfl⟩ rfl rfl
    refine r_aload_n (pc := 191) ?_ dX10_logs_191 rfl
    refine r_iload_n (pc := 192) ?_ dX10_logs_192 rfl
    refine r_bipush (pc := 193) ?_ dX10_logs_193 (by decide)
    refine r_aload_n (pc := 195) ?_ dX10_logs_195 rfl
    refine r_iload_n (pc := 196) ?_ dX10_logs_196 rfl
    refine r_bipush (pc := 197) ?_ dX10_logs_197 (by decide)
    refine r_cv0 (pc := 199) ?_ dX10_logs_199 cl_X10 ok_X10_of rfl wd_6_25 ⟨Nat.le_of_ble_eq_true rfl, Nat.le_of_ble_eq_true rfl⟩ ⟨Nat.le_of_ble_eq_true rfl, Nat.le_of_ble_eq_true rfl⟩ rfl rfl
    refine r_lconst (pc := 202) ?_ dX10_logs_202 (by decide)
    refine r_lcmp (pc := 203) ?_ dX10_logs_203
    refine r_ifne (pc := 204) (t := 211) ?_ ?_ dX10_logs_204 (by decide)
    · refine r_lconst (pc := 211) ?_ dX10_logs_211 (by decide)
      refine r_kl ?_
      refine r_kl ?_
      exact Le.rf
    · refine r_lconst (pc := 207) ?_ dX10_logs_207 (by decide)
      refine r_goto (pc := 208) (t := 212) ?_ dX10_logs_208 (by decide)
      refine r_kl ?_
      refine r_kl ?_
      exact Le.rf
  · refine r_aload_n (pc := 111) ?_ dX10_logs_111 rfl
    refine r_iload_n (pc := 112) ?_ dX10_logs_112 rfl
    refine r_bipush (pc := 113) ?_ dX10_logs_113 (by decide)
    refine r_iload (pc := 115) ?_ dX10_logs_115
    refine r_iadd (pc := 117) ?_ dX10_logs_117
    refine r_aload_n (pc := 118) ?_ dX10_logs_118 rfl
    refine r_iload_n (pc := 119) ?_ dX10_logs_119 rfl
    refine r_bipush (pc := 120) ?_ dX10_logs_120 (by decide)
    refine r_iload (pc := 122) ?_ dX10_logs_122
    refine r_iadd (pc := 124) ?_ dX10_logs_124
    refine r_iconst (pc := 125) ?_ dX10_logs_125 (by decide)
    refine r_isub (pc := 126) ?_ dX10_logs_126
    refine r_cv0 (pc := 127) ?_ dX10_logs_127 cl_X10 ok_X10_of rfl wd_6_25 ⟨Nat.le_of_ble_eq_true rfl, Nat.le_of_ble_eq_true rfl⟩ ⟨Nat.le_of_ble_eq_true rfl, Nat.le_of_ble_eq_true rfl⟩ rfl rfl
    refine r_cv0 (pc := 130) ?_ dX10_logs_130 cl_X10 ok_X10_put rfl wd_6_29 ⟨Nat.le_of_ble_eq_true rfl, Nat.le_of_ble_eq_true rfl⟩ ⟨Nat.le_of_ble_eq_true rfl, Nat.le_of_ble_eq_true rfl⟩ rfl rfl
    refine r_iinc (pc := 133) ?_ dX10_logs_133 (by decide) (Nat.le_of_ble_eq_true rfl)
    refine r_goto (pc := 136) (t := 97) ?_ dX10_logs_136 (by decide)
    exact Le.rf
def R_X10_logs_212 (l : Launch) (G : GT) (F : FX) (Q : PQ) (QX : PX) : KT := (I_cv (Tr true l G Y_X10_adds) 8 13 3 QX (I_al 0 (I_il 1 (I_ic 8 (I_il 3 (I_i2l (I_cv (Tr true l G Y_X10_adds) 8 13 3 QX (I_al 0 (I_il 1 (I_ic 15 (I_il 4 (I_cv (Tr true l G Y_X10_putDay) 8 13 3 QX (I_al 0 (I_al 0 (I_il 1 (I_ic 9 (I_cv (Tr true l G Y_X10_of) 8 13 2 QX (I_pl 8 5 13 (I_ic 0 (I_ir Q))))))))))))))))))))
set_option maxRecDepth 100000 in
theorem g_X10_logs_212 {l : Launch} {G : GT} {F : FX} {Q : PQ} {QX : PX} : Le (R_X10_logs_212 l G F Q QX) (Wj true l G F Y_X10_logs Q QX 0 0 212) := by
  unfold R_X10_logs_212
  refine r_cv0 (pc := 212) ?_ dX10_logs_212 cl_X10 ok_X10_adds rfl wd_6_78 ⟨Nat.le_of_ble_eq_true rfl, Nat.le_of_ble_eq_true rfl⟩ ⟨Nat.le_of_ble_eq_true rfl, Nat.le_of_ble_eq_true rfl⟩ rfl rfl
  refine r_aload_n (pc := 215) ?_ dX10_logs_215 rfl
  refine r_iload_n (pc := 216) ?_ dX10_logs_216 rfl
  refine r_bipush (pc := 217) ?_ dX10_logs_217 (by decide)
  refine r_iload_n (pc := 219) ?_ dX10_logs_219 rfl
  refine r_i2l (pc := 220) ?_ dX10_logs_220
  refine r_cv0 (pc := 221) ?_ dX10_logs_221 cl_X10 ok_X10_adds rfl wd_6_78 ⟨Nat.le_of_ble_eq_true rfl, Nat.le_of_ble_eq_true rfl⟩ ⟨Nat.le_of_ble_eq_true rfl, Nat.le_of_ble_eq_true rfl⟩ rfl rfl
  refine r_aload_n (pc := 224) ?_ dX10_logs_224 rfl
  refine r_iload_n (pc := 225) ?_ dX10_logs_225 rfl
  refine r_bipush (pc := 226) ?_ dX10_logs_226 (by decide)
  refine r_iload (pc := 228) ?_ dX10_logs_228
  refine r_cv0 (pc := 230) ?_ dX10_logs_230 cl_X10 ok_X10_putDay rfl wd_6_50 ⟨Nat.le_of_ble_eq_true rfl, Nat.le_of_ble_eq_true rfl⟩ ⟨Nat.le_of_ble_eq_true rfl, Nat.le_of_ble_eq_true rfl⟩ rfl rfl
  refine r_aload_n (pc := 233) ?_ dX10_logs_233 rfl
  refine r_aload_n (pc := 234) ?_ dX10_logs_234 rfl
  refine r_iload_n (pc := 235) ?_ dX10_logs_235 rfl
  refine r_bipush (pc := 236) ?_ dX10_logs_236 (by decide)
  refine r_cv0 (pc := 238) ?_ dX10_logs_238 cl_X10 ok_X10_of rfl wd_6_25 ⟨Nat.le_of_ble_eq_true rfl, Nat.le_of_ble_eq_true rfl⟩ ⟨Nat.le_of_ble_eq_true rfl, Nat.le_of_ble_eq_true rfl⟩ rfl rfl
  refine r_pl (pc := 241) ?_ dX10_logs_241 cl_X10 (Nat.le_of_ble_eq_true rfl) rfl wd_5_142 rfl pd_X10_5
  refine r_iconst (pc := 244) ?_ dX10_logs_244 (by decide)
  exact r_ir dX10_logs_245 rfl (Nat.le_of_ble_eq_true rfl) (Nat.le_of_ble_eq_true rfl)
abbrev Y_X10_confirms : YT := (yX10_confirms, cX10_confirms, 9, (some .int), 3, 68, 0, 0)
theorem ok_X10_confirms : okV Y_X10_confirms 2 := ⟨⟨wd_6_89, wd_1_9, by decide, by decide, by decide +kernel⟩, wd_6_88, wp_65⟩
def R_X10_confirms_0 (l : Launch) (G : GT) (F : FX) (Q : PQ) (QX : PX) : KT := (I_al 0 (I_il 1 (I_cv (Tr true l G Y_X10_isMentor) 8 13 1 QX (I_ifne (I_il 2 (I_i2l (I_lc 1 (I_lc (99 : Int64) (I_cs (Tr true l G Y_X10_in) 3 QX (I_ifne (I_ic 0 (I_is 3 (I_ic 0 (I_is 4 (Wj true l G F Y_X10_confirms Q QX 0 0 29))))) (I_ic 2 (I_ir Q)))))))) (I_ic 1 (I_ir Q))))))
set_option maxRecDepth 100000 in
theorem g_X10_confirms_0 {l : Launch} {G : GT} {F : FX} {Q : PQ} {QX : PX} : Le (R_X10_confirms_0 l G F Q QX) (Wj true l G F Y_X10_confirms Q QX 0 0 0) := by
  unfold R_X10_confirms_0
  refine r_aload_n (pc := 0) ?_ dX10_confirms_0 rfl
  refine r_iload_n (pc := 1) ?_ dX10_confirms_1 rfl
  refine r_cv0 (pc := 2) ?_ dX10_confirms_2 cl_X10 ok_X10_isMentor rfl wd_6_0 ⟨Nat.le_of_ble_eq_true rfl, Nat.le_of_ble_eq_true rfl⟩ ⟨Nat.le_of_ble_eq_true rfl, Nat.le_of_ble_eq_true rfl⟩ rfl rfl
  refine r_ifne (pc := 5) (t := 10) ?_ ?_ dX10_confirms_5 (by decide)
  · refine r_iload_n (pc := 10) ?_ dX10_confirms_10 rfl
    refine r_i2l (pc := 11) ?_ dX10_confirms_11
    refine r_lconst (pc := 12) ?_ dX10_confirms_12 (by decide)
    refine r_ldc2 (pc := 13) ?_ dX10_confirms_13 wd_6_90
    refine r_cs0 (pc := 16) ?_ dX10_confirms_16 ok_X10_in wd_5_194 ⟨Nat.le_of_ble_eq_true rfl, Nat.le_of_ble_eq_true rfl⟩ ⟨Nat.le_of_ble_eq_true rfl, Nat.le_of_ble_eq_true rfl⟩ rfl rfl
    refine r_ifne (pc := 19) (t := 24) ?_ ?_ dX10_confirms_19 (by decide)
    · refine r_iconst (pc := 24) ?_ dX10_confirms_24 (by decide)
      refine r_istore_n (pc := 25) ?_ dX10_confirms_25 rfl (Nat.le_of_ble_eq_true rfl)
      refine r_iconst (pc := 26) ?_ dX10_confirms_26 (by decide)
      refine r_istore (pc := 27) ?_ dX10_confirms_27 (Nat.le_of_ble_eq_true rfl)
      exact Le.rf
    · refine r_iconst (pc := 22) ?_ dX10_confirms_22 (by decide)
      exact r_ir dX10_confirms_23 rfl (Nat.le_of_ble_eq_true rfl) (Nat.le_of_ble_eq_true rfl)
  · refine r_iconst (pc := 8) ?_ dX10_confirms_8 (by decide)
    exact r_ir dX10_confirms_9 rfl (Nat.le_of_ble_eq_true rfl) (Nat.le_of_ble_eq_true rfl)
def R_X10_confirms_29 (l : Launch) (G : GT) (F : FX) (Q : PQ) (QX : PX) : KT := (I_il 4 (I_i2l (I_al 0 (I_gp 8 13 1 (I_ic 2 (I_lal (I_lcmp (I_ifge (I_al 0 (I_gp 8 13 1 (I_ic 19 (I_ic 3 (I_il 1 (I_imul (I_iadd (I_ic 2 (I_iadd (I_dup2 (I_lal (I_il 3 (I_i2l (I_ladd (I_las (I_al 0 (I_il 3 (I_i2l (I_pl 8 5 13 (I_ic 0 (I_ir Q))))))))))))))))))))) (I_ic 0 (I_is 5 (Wj true l G F Y_X10_confirms Q QX 0 0 45)))))))))))
set_option maxRecDepth 100000 in
theorem g_X10_confirms_29 {l : Launch} {G : GT} {F : FX} {Q : PQ} {QX : PX} : Le (R_X10_confirms_29 l G F Q QX) (Wj true l G F Y_X10_confirms Q QX 0 0 29) := by
  unfold R_X10_confirms_29
  refine r_iload (pc := 29) ?_ dX10_confirms_29
  refine r_i2l (pc := 31) ?_ dX10_confirms_31
  refine r_aload_n (pc := 32) ?_ dX10_confirms_32 rfl
  refine r_gp (pc := 33) (kf := 0) ?_ dX10_confirms_33 cl_X10 (Nat.le_of_ble_eq_true rfl) rfl wd_5_137 pv_X10_0
  refine r_iconst (pc := 36) ?_ dX10_confirms_36 (by decide)
  refine r_lal (pc := 37) ?_ dX10_confirms_37
  refine r_lcmp (pc := 38) ?_ dX10_confirms_38
  refine r_ifge (pc := 39) (t := 186) ?_ ?_ dX10_confirms_39 (by decide)
  · refine r_aload_n (pc := 186) ?_ dX10_confirms_186 rfl
    refine r_gp (pc := 187) (kf := 0) ?_ dX10_confirms_187 cl_X10 (Nat.le_of_ble_eq_true rfl) rfl wd_5_137 pv_X10_0
    refine r_bipush (pc := 190) ?_ dX10_confirms_190 (by decide)
    refine r_iconst (pc := 192) ?_ dX10_confirms_192 (by decide)
    refine r_iload_n (pc := 193) ?_ dX10_confirms_193 rfl
    refine r_imul (pc := 194) ?_ dX10_confirms_194
    refine r_iadd (pc := 195) ?_ dX10_confirms_195
    refine r_iconst (pc := 196) ?_ dX10_confirms_196 (by decide)
    refine r_iadd (pc := 197) ?_ dX10_confirms_197
    refine r_dup2 (pc := 198) ?_ dX10_confirms_198
    refine r_lal (pc := 199) ?_ dX10_confirms_199
    refine r_iload_n (pc := 200) ?_ dX10_confirms_200 rfl
    refine r_i2l (pc := 201) ?_ dX10_confirms_201
    refine r_ladd (pc := 202) ?_ dX10_confirms_202
    refine r_las (pc := 203) ?_ dX10_confirms_203
    refine r_aload_n (pc := 204) ?_ dX10_confirms_204 rfl
    refine r_iload_n (pc := 205) ?_ dX10_confirms_205 rfl
    refine r_i2l (pc := 206) ?_ dX10_confirms_206
    refine r_pl (pc := 207) ?_ dX10_confirms_207 cl_X10 (Nat.le_of_ble_eq_true rfl) rfl wd_5_142 rfl pd_X10_5
    refine r_iconst (pc := 210) ?_ dX10_confirms_210 (by decide)
    exact r_ir dX10_confirms_211 rfl (Nat.le_of_ble_eq_true rfl) (Nat.le_of_ble_eq_true rfl)
  · refine r_iconst (pc := 42) ?_ dX10_confirms_42 (by decide)
    refine r_istore (pc := 43) ?_ dX10_confirms_43 (Nat.le_of_ble_eq_true rfl)
    exact Le.rf
def R_X10_confirms_45 (l : Launch) (G : GT) (F : FX) (Q : PQ) (QX : PX) : KT := (I_al 0 (I_il 4 (I_cv (Tr true l G Y_X10_mentorOf) 8 13 1 QX (I_il 1 (I_icne (I_inc 4 1 (I_kl 5 (Wj true l G F Y_X10_confirms Q QX 0 0 29))) (I_il 5 (I_i2l (I_al 0 (I_il 4 (I_ic 9 (I_cv (Tr true l G Y_X10_of) 8 13 2 QX (I_lcmp (I_ifge (I_inc 4 1 (I_kl 5 (Wj true l G F Y_X10_confirms Q QX 0 0 29))) (I_il 3 (I_il 2 (I_icge (I_inc 4 1 (I_kl 5 (Wj true l G F Y_X10_confirms Q QX 0 0 29))) (I_al 0 (I_il 4 (I_il 5 (I_ic 3 (I_cv (Tr true l G Y_X10_entryOf) 8 13 3 QX (I_il 1 (I_icne (I_inc 5 1 (Wj true l G F Y_X10_confirms Q QX 0 0 45)) (I_ic 2 (I_al 0 (I_il 4 (I_il 5 (I_ic 0 (I_cv (Tr true l G Y_X10_entryOf) 8 13 3 QX (I_iadd (I_is 6 (I_al 0 (I_il 4 (I_il 6 (I_al 0 (I_il 4 (I_il 5 (I_ic 1 (I_cv (Tr true l G Y_X10_entryOf) 8 13 3 QX (I_i2l (I_cv (Tr true l G Y_X10_adds) 8 13 3 QX (I_al 0 (I_il 4 (I_il 6 (I_cv (Tr true l G Y_X10_of) 8 13 2 QX (I_lc (2147483647 : Int64) (I_lcmp (I_ifle (I_al 0 (I_il 4 (I_il 5 (I_cv (Tr true l G Y_X10_takesOut) 8 13 2 QX (I_ls 7 (I_al 0 (I_il 4 (I_ic 9 (I_ll 7 (I_lc 0 (I_lcmp (I_ifge (I_lc (-1 : Int64) (I_cv (Tr true l G Y_X10_adds) 8 13 3 QX (I_inc 3 1 (I_kl 7 (I_kl 6 (Wj true l G F Y_X10_confirms Q QX 0 0 45)))))) (I_lc 0 (I_cv (Tr true l G Y_X10_adds) 8 13 3 QX (I_inc 3 1 (I_kl 7 (I_kl 6 (Wj true l G F Y_X10_confirms Q QX 0 0 45)))))))))))))))))) (I_ic 3 (I_ir Q))))))))))))))))))))))))))))))))))))))))))))))))))
set_option maxRecDepth 100000 in
theorem g_X10_confirms_45 {l : Launch} {G : GT} {F : FX} {Q : PQ} {QX : PX} : Le (R_X10_confirms_45 l G F Q QX) (Wj true l G F Y_X10_confirms Q QX 0 0 45) := by
  unfold R_X10_confirms_45
  refine r_aload_n (pc := 45) ?_ dX10_confirms_45 rfl
  refine r_iload (pc := 46) ?_ dX10_confirms_46
  refine r_cv0 (pc := 48) ?_ dX10_confirms_48 cl_X10 ok_X10_mentorOf rfl wd_6_21 ⟨Nat.le_of_ble_eq_true rfl, Nat.le_of_ble_eq_true rfl⟩ ⟨Nat.le_of_ble_eq_true rfl, Nat.le_of_ble_eq_true rfl⟩ rfl rfl
  refine r_iload_n (pc := 51) ?_ dX10_confirms_51 rfl
  refine r_icne (pc := 52) (t := 180) ?_ ?_ dX10_confirms_52 (by decide)
  · refine r_iinc (pc := 180) ?_ dX10_confirms_180 (by decide) (Nat.le_of_ble_eq_true rfl)
    refine r_goto (pc := 183) (t := 29) ?_ dX10_confirms_183 (by decide)
    refine r_kl ?_
    exact Le.rf
  · refine r_iload (pc := 55) ?_ dX10_confirms_55
    refine r_i2l (pc := 57) ?_ dX10_confirms_57
    refine r_aload_n (pc := 58) ?_ dX10_confirms_58 rfl
    refine r_iload (pc := 59) ?_ dX10_confirms_59
    refine r_bipush (pc := 61) ?_ dX10_confirms_61 (by decide)
    refine r_cv0 (pc := 63) ?_ dX10_confirms_63 cl_X10 ok_X10_of rfl wd_6_25 ⟨Nat.le_of_ble_eq_true rfl, Nat.le_of_ble_eq_true rfl⟩ ⟨Nat.le_of_ble_eq_true rfl, Nat.le_of_ble_eq_true rfl⟩ rfl rfl
    refine r_lcmp (pc := 66) ?_ dX10_confirms_66
    refine r_ifge (pc := 67) (t := 180) ?_ ?_ dX10_confirms_67 (by decide)
    · refine r_iinc (pc := 180) ?_ dX10_confirms_180 (by decide) (Nat.le_of_ble_eq_true rfl)
      refine r_goto (pc := 183) (t := 29) ?_ dX10_confirms_183 (by decide)
      refine r_kl ?_
      exact Le.rf
    · refine r_iload_n (pc := 70) ?_ dX10_confirms_70 rfl
      refine r_iload_n (pc := 71) ?_ dX10_confirms_71 rfl
      refine r_icge (pc := 72) (t := 180) ?_ ?_ dX10_confirms_72 (by decide)
      · refine r_iinc (pc := 180) ?_ dX10_confirms_180 (by decide) (Nat.le_of_ble_eq_true rfl)
        refine r_goto (pc := 183) (t := 29) ?_ dX10_confirms_183 (by decide)
        refine r_kl ?_
        exact Le.rf
      · refine r_aload_n (pc := 75) ?_ dX10_confirms_75 rfl
        refine r_iload (pc := 76) ?_ dX10_confirms_76
        refine r_iload (pc := 78) ?_ dX10_confirms_78
        refine r_iconst (pc := 80) ?_ dX10_confirms_80 (by decide)
        refine r_cv0 (pc := 81) ?_ dX10_confirms_81 cl_X10 ok_X10_entryOf rfl wd_6_91 ⟨Nat.le_of_ble_eq_true rfl, Nat.le_of_ble_eq_true rfl⟩ ⟨Nat.le_of_ble_eq_true rfl, Nat.le_of_ble_eq_true rfl⟩ rfl rfl
        refine r_iload_n (pc := 84) ?_ dX10_confirms_84 rfl
        refine r_icne (pc := 85) (t := 174) ?_ ?_ dX10_confirms_85 (by decide)
        · refine r_iinc (pc := 174) ?_ dX10_confirms_174 (by decide) (Nat.le_of_ble_eq_true rfl)
          refine r_goto (pc := 177) (t := 45) ?_ dX10_confirms_177 (by decide)
          exact Le.rf
        · refine r_iconst (pc := 88) ?_ dX10_confirms_88 (by decide)
          refine r_aload_n (pc := 89) ?_ dX10_confirms_89 rfl
          refine r_iload (pc := 90) ?_ dX10_confirms_90
          refine r_iload (pc := 92) ?_ dX10_confirms_92
          refine r_iconst (pc := 94) ?_ dX10_confirms_94 (by decide)
          refine r_cv0 (pc := 95) ?_ dX10_confirms_95 cl_X10 ok_X10_entryOf rfl wd_6_91 ⟨Nat.le_of_ble_eq_true rfl, Nat.le_of_ble_eq_true rfl⟩ ⟨Nat.le_of_ble_eq_true rfl, Nat.le_of_ble_eq_true rfl⟩ rfl rfl
          refine r_iadd (pc := 98) ?_ dX10_confirms_98
          refine r_istore (pc := 99) ?_ dX10_confirms_99 (Nat.le_of_ble_eq_true rfl)
          refine r_aload_n (pc := 101) ?_ dX10_confirms_101 rfl
          refine r_iload (pc := 102) ?_ dX10_confirms_102
          refine r_iload (pc := 104) ?_ dX10_confirms_104
          refine r_aload_n (pc := 106) ?_ dX10_confirms_106 rfl
          refine r_iload (pc := 107) ?_ dX10_confirms_107
          refine r_iload (pc := 109) ?_ dX10_confirms_109
          refine r_iconst (pc := 111) ?_ dX10_confirms_111 (by decide)
          refine r_cv0 (pc := 112) ?_ dX10_confirms_112 cl_X10 ok_X10_entryOf rfl wd_6_91 ⟨Nat.le_of_ble_eq_true rfl, Nat.le_of_ble_eq_true rfl⟩ ⟨Nat.le_of_ble_eq_true rfl, Nat.le_of_ble_eq_true rfl⟩ rfl rfl
          refine r_i2l (pc := 115) ?_ dX10_confirms_115
          refine r_cv0 (pc := 116) ?_ dX10_confirms_116 cl_X10 ok_X10_adds rfl wd_6_78 ⟨Nat.le_of_ble_eq_true rfl, Nat.le_of_ble_eq_true rfl⟩ ⟨Nat.le_of_ble_eq_true rfl, Nat.le_of_ble_eq_true rfl⟩ rfl rfl
          refine r_aload_n (pc := 119) ?_ dX10_confirms_119 rfl
          refine r_iload (pc := 120) ?_ dX10_confirms_120
          refine r_iload (pc := 122) ?_ dX10_confirms_122
          refine r_cv0 (pc := 124) ?_ dX10_confirms_124 cl_X10 ok_X10_of rfl wd_6_25 ⟨Nat.le_of_ble_eq_true rfl, Nat.le_of_ble_eq_true rfl⟩ ⟨Nat.le_of_ble_eq_true rfl, Nat.le_of_ble_eq_true rfl⟩ rfl rfl
          refine r_ldc2 (pc := 127) ?_ dX10_confirms_127 wd_6_95
          refine r_lcmp (pc := 130) ?_ dX10_confirms_130
          refine r_ifle (pc := 131) (t := 136) ?_ ?_ dX10_confirms_131 (by decide)
          · refine r_aload_n (pc := 136) ?_ dX10_confirms_136 rfl
            refine r_iload (pc := 137) ?_ dX10_confirms_137
            refine r_iload (pc := 139) ?_ dX10_confirms_139
            refine r_cv0 (pc := 141) ?_ dX10_confirms_141 cl_X10 ok_X10_takesOut rfl wd_6_96 ⟨Nat.le_of_ble_eq_true rfl, Nat.le_of_ble_eq_true rfl⟩ ⟨Nat.le_of_ble_eq_true rfl, Nat.le_of_ble_eq_true rfl⟩ rfl rfl
            refine r_lstore (pc := 144) ?_ dX10_confirms_144 (Nat.le_of_ble_eq_true rfl)
            refine r_aload_n (pc := 146) ?_ dX10_confirms_146 rfl
            refine r_iload (pc := 147) ?_ dX10_confirms_147
            refine r_bipush (pc := 149) ?_ dX10_confirms_149 (by decide)
            refine r_lload (pc := 151) ?_ dX10_confirms_151
            refine r_lconst (pc := 153) ?_ dX10_confirms_153 (by decide)
            refine r_lcmp (pc := 154) ?_ dX10_confirms_154
            refine r_ifge (pc := 155) (t := 162) ?_ ?_ dX10_confirms_155 (by decide)
            · refine r_ldc2 (pc := 162) ?_ dX10_confirms_162 wd_6_100
              refine r_cv0 (pc := 165) ?_ dX10_confirms_165 cl_X10 ok_X10_adds rfl wd_6_78 ⟨Nat.le_of_ble_eq_true rfl, Nat.le_of_ble_eq_true rfl⟩ ⟨Nat.le_of_ble_eq_true rfl, Nat.le_of_ble_eq_true rfl⟩ rfl rfl
              refine r_iinc (pc := 168) ?_ dX10_confirms_168 (by decide) (Nat.le_of_ble_eq_true rfl)
              refine r_goto (pc := 171) (t := 45) ?_ dX10_confirms_171 (by decide)
              refine r_kl ?_
              refine r_kl ?_
              exact Le.rf
            · refine r_lconst (pc := 158) ?_ dX10_confirms_158 (by decide)
              refine r_goto (pc := 159) (t := 165) ?_ dX10_confirms_159 (by decide)
              refine r_cv0 (pc := 165) ?_ dX10_confirms_165 cl_X10 ok_X10_adds rfl wd_6_78 ⟨Nat.le_of_ble_eq_true rfl, Nat.le_of_ble_eq_true rfl⟩ ⟨Nat.le_of_ble_eq_true rfl, Nat.le_of_ble_eq_true rfl⟩ rfl rfl
              refine r_iinc (pc := 168) ?_ dX10_confirms_168 (by decide) (Nat.le_of_ble_eq_true rfl)
              refine r_goto (pc := 171) (t := 45) ?_ dX10_confirms_171 (by decide)
              refine r_kl ?_
              refine r_kl ?_
              exact Le.rf
          · refine r_iconst (pc := 134) ?_ dX10_confirms_134 (by decide)
            exact r_ir dX10_confirms_135 rfl (Nat.le_of_ble_eq_true rfl) (Nat.le_of_ble_eq_true rfl)
abbrev Y_X10_doubtsOldest : YT := (yX10_doubtsOldest, cX10_doubtsOldest, 2, (some .int), 4, 92, 0, 0)
theorem ok_X10_doubtsOldest : okV Y_X10_doubtsOldest 1 := ⟨⟨wd_6_108, wd_1_9, by decide, by decide, by decide +kernel⟩, wd_6_107, wp_68⟩
def R_X10_doubtsOldest_0 (l : Launch) (G : GT) (F : FX) (Q : PQ) (QX : PX) : KT := (I_al 0 (I_il 1 (I_cv (Tr true l G Y_X10_isApprentice) 8 13 1 QX (I_ifne (I_al 0 (I_il 1 (I_cv (Tr true l G Y_X10_mentorOf) 8 13 1 QX (I_ic (-1) (I_iceq (I_ic 2 (I_ir Q)) (I_al 0 (I_il 1 (I_ic 9 (I_cv (Tr true l G Y_X10_of) 8 13 2 QX (I_lc 0 (I_lcmp (I_ifne (I_al 0 (I_al 0 (I_il 1 (I_ic 0 (I_ic 1 (I_cv (Tr true l G Y_X10_entryOf) 8 13 3 QX (I_i2l (I_pl 8 5 13 (I_al 0 (I_il 1 (I_ic 0 (I_cv (Tr true l G Y_X10_doubts) 8 13 2 QX (I_ic 0 (I_ir Q)))))))))))))) (I_ic 2 (I_ir Q)))))))))))))) (I_ic 1 (I_ir Q))))))
set_option maxRecDepth 100000 in
theorem g_X10_doubtsOldest_0 {l : Launch} {G : GT} {F : FX} {Q : PQ} {QX : PX} : Le (R_X10_doubtsOldest_0 l G F Q QX) (Wj true l G F Y_X10_doubtsOldest Q QX 0 0 0) := by
  unfold R_X10_doubtsOldest_0
  refine r_aload_n (pc := 0) ?_ dX10_doubtsOldest_0 rfl
  refine r_iload_n (pc := 1) ?_ dX10_doubtsOldest_1 rfl
  refine r_cv0 (pc := 2) ?_ dX10_doubtsOldest_2 cl_X10 ok_X10_isApprentice rfl wd_6_41 ⟨Nat.le_of_ble_eq_true rfl, Nat.le_of_ble_eq_true rfl⟩ ⟨Nat.le_of_ble_eq_true rfl, Nat.le_of_ble_eq_true rfl⟩ rfl rfl
  refine r_ifne (pc := 5) (t := 10) ?_ ?_ dX10_doubtsOldest_5 (by decide)
  · refine r_aload_n (pc := 10) ?_ dX10_doubtsOldest_10 rfl
    refine r_iload_n (pc := 11) ?_ dX10_doubtsOldest_11 rfl
    refine r_cv0 (pc := 12) ?_ dX10_doubtsOldest_12 cl_X10 ok_X10_mentorOf rfl wd_6_21 ⟨Nat.le_of_ble_eq_true rfl, Nat.le_of_ble_eq_true rfl⟩ ⟨Nat.le_of_ble_eq_true rfl, Nat.le_of_ble_eq_true rfl⟩ rfl rfl
    refine r_iconst (pc := 15) ?_ dX10_doubtsOldest_15 (by decide)
    refine r_iceq (pc := 16) (t := 31) ?_ ?_ dX10_doubtsOldest_16 (by decide)
    · refine r_iconst (pc := 31) ?_ dX10_doubtsOldest_31 (by decide)
      exact r_ir dX10_doubtsOldest_32 rfl (Nat.le_of_ble_eq_true rfl) (Nat.le_of_ble_eq_true rfl)
    · refine r_aload_n (pc := 19) ?_ dX10_doubtsOldest_19 rfl
      refine r_iload_n (pc := 20) ?_ dX10_doubtsOldest_20 rfl
      refine r_bipush (pc := 21) ?_ dX10_doubtsOldest_21 (by decide)
      refine r_cv0 (pc := 23) ?_ dX10_doubtsOldest_23 cl_X10 ok_X10_of rfl wd_6_25 ⟨Nat.le_of_ble_eq_true rfl, Nat.le_of_ble_eq_true rfl⟩ ⟨Nat.le_of_ble_eq_true rfl, Nat.le_of_ble_eq_true rfl⟩ rfl rfl
      refine r_lconst (pc := 26) ?_ dX10_doubtsOldest_26 (by decide)
      refine r_lcmp (pc := 27) ?_ dX10_doubtsOldest_27
      refine r_ifne (pc := 28) (t := 33) ?_ ?_ dX10_doubtsOldest_28 (by decide)
      · refine r_aload_n (pc := 33) ?_ dX10_doubtsOldest_33 rfl
        refine r_aload_n (pc := 34) ?_ dX10_doubtsOldest_34 rfl
        refine r_iload_n (pc := 35) ?_ dX10_doubtsOldest_35 rfl
        refine r_iconst (pc := 36) ?_ dX10_doubtsOldest_36 (by decide)
        refine r_iconst (pc := 37) ?_ dX10_doubtsOldest_37 (by decide)
        refine r_cv0 (pc := 38) ?_ dX10_doubtsOldest_38 cl_X10 ok_X10_entryOf rfl wd_6_91 ⟨Nat.le_of_ble_eq_true rfl, Nat.le_of_ble_eq_true rfl⟩ ⟨Nat.le_of_ble_eq_true rfl, Nat.le_of_ble_eq_true rfl⟩ rfl rfl
        refine r_i2l (pc := 41) ?_ dX10_doubtsOldest_41
        refine r_pl (pc := 42) ?_ dX10_doubtsOldest_42 cl_X10 (Nat.le_of_ble_eq_true rfl) rfl wd_5_142 rfl pd_X10_5
        refine r_aload_n (pc := 45) ?_ dX10_doubtsOldest_45 rfl
        refine r_iload_n (pc := 46) ?_ dX10_doubtsOldest_46 rfl
        refine r_iconst (pc := 47) ?_ dX10_doubtsOldest_47 (by decide)
        refine r_cv0 (pc := 48) ?_ dX10_doubtsOldest_48 cl_X10 ok_X10_doubts rfl wd_6_109 ⟨Nat.le_of_ble_eq_true rfl, Nat.le_of_ble_eq_true rfl⟩ ⟨Nat.le_of_ble_eq_true rfl, Nat.le_of_ble_eq_true rfl⟩ rfl rfl
        refine r_iconst (pc := 51) ?_ dX10_doubtsOldest_51 (by decide)
        exact r_ir dX10_doubtsOldest_52 rfl (Nat.le_of_ble_eq_true rfl) (Nat.le_of_ble_eq_true rfl)
      · refine r_iconst (pc := 31) ?_ dX10_doubtsOldest_31 (by decide)
        exact r_ir dX10_doubtsOldest_32 rfl (Nat.le_of_ble_eq_true rfl) (Nat.le_of_ble_eq_true rfl)
  · refine r_iconst (pc := 8) ?_ dX10_doubtsOldest_8 (by decide)
    exact r_ir dX10_doubtsOldest_9 rfl (Nat.le_of_ble_eq_true rfl) (Nat.le_of_ble_eq_true rfl)
abbrev Y_X10_settles : YT := (yX10_settles, cX10_settles, 8, (some .int), 3, 68, 0, 0)
theorem ok_X10_settles : okV Y_X10_settles 2 := ⟨⟨wd_6_120, wd_1_9, by decide, by decide, by decide +kernel⟩, wd_6_119, wp_70⟩
def R_X10_settles_0 (l : Launch) (G : GT) (F : FX) (Q : PQ) (QX : PX) : KT := (I_al 0 (I_il 1 (I_cv (Tr true l G Y_X10_isApprentice) 8 13 1 QX (I_ifne (I_al 0 (I_il 1 (I_ic 10 (I_cv (Tr true l G Y_X10_of) 8 13 2 QX (I_lc 0 (I_lcmp (I_ifne (I_al 0 (I_il 1 (I_ic 9 (I_cv (Tr true l G Y_X10_of) 8 13 2 QX (I_l2i (I_is 3 (I_al 0 (I_il 1 (I_il 3 (I_ic 1 (I_cv (Tr true l G Y_X10_entryOf) 8 13 3 QX (I_is 4 (I_il 2 (I_ifeq (I_ic 5 (Wj true l G F Y_X10_settles Q QX 0 0 59)) (I_ic 2 (I_al 0 (I_il 1 (I_il 3 (I_ic 0 (I_cv (Tr true l G Y_X10_entryOf) 8 13 3 QX (I_iadd (Wj true l G F Y_X10_settles Q QX 0 0 59)))))))))))))))))))))) (I_ic 2 (I_ir Q))))))))) (I_ic 1 (I_ir Q))))))
set_option maxRecDepth 100000 in
theorem g_X10_settles_0 {l : Launch} {G : GT} {F : FX} {Q : PQ} {QX : PX} : Le (R_X10_settles_0 l G F Q QX) (Wj true l G F Y_X10_settles Q QX 0 0 0) := by
  unfold R_X10_settles_0
  refine r_aload_n (pc := 0) ?_ dX10_settles_0 rfl
  refine r_iload_n (pc := 1) ?_ dX10_settles_1 rfl
  refine r_cv0 (pc := 2) ?_ dX10_settles_2 cl_X10 ok_X10_isApprentice rfl wd_6_41 ⟨Nat.le_of_ble_eq_true rfl, Nat.le_of_ble_eq_true rfl⟩ ⟨Nat.le_of_ble_eq_true rfl, Nat.le_of_ble_eq_true rfl⟩ rfl rfl
  refine r_ifne (pc := 5) (t := 10) ?_ ?_ dX10_settles_5 (by decide)
  · refine r_aload_n (pc := 10) ?_ dX10_settles_10 rfl
    refine r_iload_n (pc := 11) ?_ dX10_settles_11 rfl
    refine r_bipush (pc := 12) ?_ dX10_settles_12 (by decide)
    refine r_cv0 (pc := 14) ?_ dX10_settles_14 cl_X10 ok_X10_of rfl wd_6_25 ⟨Nat.le_of_ble_eq_true rfl, Nat.le_of_ble_eq_true rfl⟩ ⟨Nat.le_of_ble_eq_true rfl, Nat.le_of_ble_eq_true rfl⟩ rfl rfl
    refine r_lconst (pc := 17) ?_ dX10_settles_17 (by decide)
    refine r_lcmp (pc := 18) ?_ dX10_settles_18
    refine r_ifne (pc := 19) (t := 24) ?_ ?_ dX10_settles_19 (by decide)
    · refine r_aload_n (pc := 24) ?_ dX10_settles_24 rfl
      refine r_iload_n (pc := 25) ?_ dX10_settles_25 rfl
      refine r_bipush (pc := 26) ?_ dX10_settles_26 (by decide)
      refine r_cv0 (pc := 28) ?_ dX10_settles_28 cl_X10 ok_X10_of rfl wd_6_25 ⟨Nat.le_of_ble_eq_true rfl, Nat.le_of_ble_eq_true rfl⟩ ⟨Nat.le_of_ble_eq_true rfl, Nat.le_of_ble_eq_true rfl⟩ rfl rfl
      refine r_l2i (pc := 31) ?_ dX10_settles_31
      refine r_istore_n (pc := 32) ?_ dX10_settles_32 rfl (Nat.le_of_ble_eq_true rfl)
      refine r_aload_n (pc := 33) ?_ dX10_settles_33 rfl
      refine r_iload_n (pc := 34) ?_ dX10_settles_34 rfl
      refine r_iload_n (pc := 35) ?_ dX10_settles_35 rfl
      refine r_iconst (pc := 36) ?_ dX10_settles_36 (by decide)
      refine r_cv0 (pc := 37) ?_ dX10_settles_37 cl_X10 ok_X10_entryOf rfl wd_6_91 ⟨Nat.le_of_ble_eq_true rfl, Nat.le_of_ble_eq_true rfl⟩ ⟨Nat.le_of_ble_eq_true rfl, Nat.le_of_ble_eq_true rfl⟩ rfl rfl
      refine r_istore (pc := 40) ?_ dX10_settles_40 (Nat.le_of_ble_eq_true rfl)
      refine r_iload_n (pc := 42) ?_ dX10_settles_42 rfl
      refine r_ifeq (pc := 43) (t := 58) ?_ ?_ dX10_settles_43 (by decide)
      · refine r_iconst (pc := 58) ?_ dX10_settles_58 (by decide)
        exact Le.rf
      · refine r_iconst (pc := 46) ?_ dX10_settles_46 (by decide)
        refine r_aload_n (pc := 47) ?_ dX10_settles_47 rfl
        refine r_iload_n (pc := 48) ?_ dX10_settles_48 rfl
        refine r_iload_n (pc := 49) ?_ dX10_settles_49 rfl
        refine r_iconst (pc := 50) ?_ dX10_settles_50 (by decide)
        refine r_cv0 (pc := 51) ?_ dX10_settles_51 cl_X10 ok_X10_entryOf rfl wd_6_91 ⟨Nat.le_of_ble_eq_true rfl, Nat.le_of_ble_eq_true rfl⟩ ⟨Nat.le_of_ble_eq_true rfl, Nat.le_of_ble_eq_true rfl⟩ rfl rfl
        refine r_iadd (pc := 54) ?_ dX10_settles_54
        refine r_goto (pc := 55) (t := 59) ?_ dX10_settles_55 (by decide)
        exact Le.rf
    · refine r_iconst (pc := 22) ?_ dX10_settles_22 (by decide)
      exact r_ir dX10_settles_23 rfl (Nat.le_of_ble_eq_true rfl) (Nat.le_of_ble_eq_true rfl)
  · refine r_iconst (pc := 8) ?_ dX10_settles_8 (by decide)
    exact r_ir dX10_settles_9 rfl (Nat.le_of_ble_eq_true rfl) (Nat.le_of_ble_eq_true rfl)
def R_X10_settles_59 (l : Launch) (G : GT) (F : FX) (Q : PQ) (QX : PX) : KT := (I_is 5 (I_il 2 (I_ifeq (I_kl 2 (Wj true l G F Y_X10_settles Q QX 0 0 85)) (I_al 0 (I_il 1 (I_il 5 (I_cv (Tr true l G Y_X10_of) 8 13 2 QX (I_il 4 (I_i2l (I_ladd (I_lc (2147483647 : Int64) (I_lcmp (I_ifle (I_kl 2 (Wj true l G F Y_X10_settles Q QX 0 0 85)) (I_ic 2 (I_ir Q)))))))))))))))
set_option maxRecDepth 100000 in
theorem g_X10_settles_59 {l : Launch} {G : GT} {F : FX} {Q : PQ} {QX : PX} : Le (R_X10_settles_59 l G F Q QX) (Wj true l G F Y_X10_settles Q QX 0 0 59) := by
  unfold R_X10_settles_59
  refine r_istore (pc := 59) ?_ dX10_settles_59 (Nat.le_of_ble_eq_true rfl)
  refine r_iload_n (pc := 61) ?_ dX10_settles_61 rfl
  refine r_ifeq (pc := 62) (t := 85) ?_ ?_ dX10_settles_62 (by decide)
  · refine r_kl ?_
    exact Le.rf
  · refine r_aload_n (pc := 65) ?_ dX10_settles_65 rfl
    refine r_iload_n (pc := 66) ?_ dX10_settles_66 rfl
    refine r_iload (pc := 67) ?_ dX10_settles_67
    refine r_cv0 (pc := 69) ?_ dX10_settles_69 cl_X10 ok_X10_of rfl wd_6_25 ⟨Nat.le_of_ble_eq_true rfl, Nat.le_of_ble_eq_true rfl⟩ ⟨Nat.le_of_ble_eq_true rfl, Nat.le_of_ble_eq_true rfl⟩ rfl rfl
    refine r_iload (pc := 72) ?_ dX10_settles_72
    refine r_i2l (pc := 74) ?_ dX10_settles_74
    refine r_ladd (pc := 75) ?_ dX10_settles_75
    refine r_ldc2 (pc := 76) ?_ dX10_settles_76 wd_6_95
    refine r_lcmp (pc := 79) ?_ dX10_settles_79
    refine r_ifle (pc := 80) (t := 85) ?_ ?_ dX10_settles_80 (by decide)
    · refine r_kl ?_
      exact Le.rf
    · refine r_iconst (pc := 83) ?_ dX10_settles_83 (by decide)
      exact r_ir dX10_settles_84 rfl (Nat.le_of_ble_eq_true rfl) (Nat.le_of_ble_eq_true rfl)
def R_X10_settles_85 (l : Launch) (G : GT) (F : FX) (Q : PQ) (QX : PX) : KT := (I_al 0 (I_il 1 (I_il 3 (I_cv (Tr true l G Y_X10_takesOut) 8 13 2 QX (I_ls 6 (I_al 0 (I_il 1 (I_ic 10 (I_ll 6 (I_lc 0 (I_lcmp (I_ifge (I_lc (-1 : Int64) (I_cv (Tr true l G Y_X10_adds) 8 13 3 QX (I_al 0 (I_il 1 (I_il 5 (I_il 4 (I_i2l (I_cv (Tr true l G Y_X10_adds) 8 13 3 QX (I_al 0 (I_il 4 (I_i2l (I_pl 8 5 13 (I_ic 0 (I_ir Q)))))))))))))) (I_lc 0 (I_cv (Tr true l G Y_X10_adds) 8 13 3 QX (I_al 0 (I_il 1 (I_il 5 (I_il 4 (I_i2l (I_cv (Tr true l G Y_X10_adds) 8 13 3 QX (I_al 0 (I_il 4 (I_i2l (I_pl 8 5 13 (I_ic 0 (I_ir Q))))))))))))))))))))))))))
set_option maxRecDepth 100000 in
theorem g_X10_settles_85 {l : Launch} {G : GT} {F : FX} {Q : PQ} {QX : PX} : Le (R_X10_settles_85 l G F Q QX) (Wj true l G F Y_X10_settles Q QX 0 0 85) := by
  unfold R_X10_settles_85
  refine r_aload_n (pc := 85) ?_ dX10_settles_85 rfl
  refine r_iload_n (pc := 86) ?_ dX10_settles_86 rfl
  refine r_iload_n (pc := 87) ?_ dX10_settles_87 rfl
  refine r_cv0 (pc := 88) ?_ dX10_settles_88 cl_X10 ok_X10_takesOut rfl wd_6_96 ⟨Nat.le_of_ble_eq_true rfl, Nat.le_of_ble_eq_true rfl⟩ ⟨Nat.le_of_ble_eq_true rfl, Nat.le_of_ble_eq_true rfl⟩ rfl rfl
  refine r_lstore (pc := 91) ?_ dX10_settles_91 (Nat.le_of_ble_eq_true rfl)
  refine r_aload_n (pc := 93) ?_ dX10_settles_93 rfl
  refine r_iload_n (pc := 94) ?_ dX10_settles_94 rfl
  refine r_bipush (pc := 95) ?_ dX10_settles_95 (by decide)
  refine r_lload (pc := 97) ?_ dX10_settles_97
  refine r_lconst (pc := 99) ?_ dX10_settles_99 (by decide)
  refine r_lcmp (pc := 100) ?_ dX10_settles_100
  refine r_ifge (pc := 101) (t := 108) ?_ ?_ dX10_settles_101 (by decide)
  · refine r_ldc2 (pc := 108) ?_ dX10_settles_108 wd_6_100
    refine r_cv0 (pc := 111) ?_ dX10_settles_111 cl_X10 ok_X10_adds rfl wd_6_78 ⟨Nat.le_of_ble_eq_true rfl, Nat.le_of_ble_eq_true rfl⟩ ⟨Nat.le_of_ble_eq_true rfl, Nat.le_of_ble_eq_true rfl⟩ rfl rfl
    refine r_aload_n (pc := 114) ?_ dX10_settles_114 rfl
    refine r_iload_n (pc := 115) ?_ dX10_settles_115 rfl
    refine r_iload (pc := 116) ?_ dX10_settles_116
    refine r_iload (pc := 118) ?_ dX10_settles_118
    refine r_i2l (pc := 120) ?_ dX10_settles_120
    refine r_cv0 (pc := 121) ?_ dX10_settles_121 cl_X10 ok_X10_adds rfl wd_6_78 ⟨Nat.le_of_ble_eq_true rfl, Nat.le_of_ble_eq_true rfl⟩ ⟨Nat.le_of_ble_eq_true rfl, Nat.le_of_ble_eq_true rfl⟩ rfl rfl
    refine r_aload_n (pc := 124) ?_ dX10_settles_124 rfl
    refine r_iload (pc := 125) ?_ dX10_settles_125
    refine r_i2l (pc := 127) ?_ dX10_settles_127
    refine r_pl (pc := 128) ?_ dX10_settles_128 cl_X10 (Nat.le_of_ble_eq_true rfl) rfl wd_5_142 rfl pd_X10_5
    refine r_iconst (pc := 131) ?_ dX10_settles_131 (by decide)
    exact r_ir dX10_settles_132 rfl (Nat.le_of_ble_eq_true rfl) (Nat.le_of_ble_eq_true rfl)
  · refine r_lconst (pc := 104) ?_ dX10_settles_104 (by decide)
    refine r_goto (pc := 105) (t := 111) ?_ dX10_settles_105 (by decide)
    refine r_cv0 (pc := 111) ?_ dX10_settles_111 cl_X10 ok_X10_adds rfl wd_6_78 ⟨Nat.le_of_ble_eq_true rfl, Nat.le_of_ble_eq_true rfl⟩ ⟨Nat.le_of_ble_eq_true rfl, Nat.le_of_ble_eq_true rfl⟩ rfl rfl
    refine r_aload_n (pc := 114) ?_ dX10_settles_114 rfl
    refine r_iload_n (pc := 115) ?_ dX10_settles_115 rfl
    refine r_iload (pc := 116) ?_ dX10_settles_116
    refine r_iload (pc := 118) ?_ dX10_settles_118
    refine r_i2l (pc := 120) ?_ dX10_settles_120
    refine r_cv0 (pc := 121) ?_ dX10_settles_121 cl_X10 ok_X10_adds rfl wd_6_78 ⟨Nat.le_of_ble_eq_true rfl, Nat.le_of_ble_eq_true rfl⟩ ⟨Nat.le_of_ble_eq_true rfl, Nat.le_of_ble_eq_true rfl⟩ rfl rfl
    refine r_aload_n (pc := 124) ?_ dX10_settles_124 rfl
    refine r_iload (pc := 125) ?_ dX10_settles_125
    refine r_i2l (pc := 127) ?_ dX10_settles_127
    refine r_pl (pc := 128) ?_ dX10_settles_128 cl_X10 (Nat.le_of_ble_eq_true rfl) rfl wd_5_142 rfl pd_X10_5
    refine r_iconst (pc := 131) ?_ dX10_settles_131 (by decide)
    exact r_ir dX10_settles_132 rfl (Nat.le_of_ble_eq_true rfl) (Nat.le_of_ble_eq_true rfl)
abbrev Y_X10_endsDay : YT := (yX10_endsDay, cX10_endsDay, 4, (some .int), 4, 92, 0, 0)
theorem ok_X10_endsDay : okV Y_X10_endsDay 0 := ⟨⟨wd_6_132, wd_1_9, by decide, by decide, by decide +kernel⟩, wd_6_131, wp_71⟩
def R_X10_endsDay_0 (l : Launch) (G : GT) (F : FX) (Q : PQ) (QX : PX) : KT := (I_al 0 (I_gp 8 13 1 (I_ic 3 (I_lal (I_lc (9999 : Int64) (I_lcmp (I_ifne (I_ic 0 (I_is 1 (I_ic 0 (I_is 2 (Wj true l G F Y_X10_endsDay Q QX 0 0 19))))) (I_ic 1 (I_ir Q)))))))))
set_option maxRecDepth 100000 in
theorem g_X10_endsDay_0 {l : Launch} {G : GT} {F : FX} {Q : PQ} {QX : PX} : Le (R_X10_endsDay_0 l G F Q QX) (Wj true l G F Y_X10_endsDay Q QX 0 0 0) := by
  unfold R_X10_endsDay_0
  refine r_aload_n (pc := 0) ?_ dX10_endsDay_0 rfl
  refine r_gp (pc := 1) (kf := 0) ?_ dX10_endsDay_1 cl_X10 (Nat.le_of_ble_eq_true rfl) rfl wd_5_137 pv_X10_0
  refine r_iconst (pc := 4) ?_ dX10_endsDay_4 (by decide)
  refine r_lal (pc := 5) ?_ dX10_endsDay_5
  refine r_ldc2 (pc := 6) ?_ dX10_endsDay_6 wd_6_133
  refine r_lcmp (pc := 9) ?_ dX10_endsDay_9
  refine r_ifne (pc := 10) (t := 15) ?_ ?_ dX10_endsDay_10 (by decide)
  · refine r_iconst (pc := 15) ?_ dX10_endsDay_15 (by decide)
    refine r_istore_n (pc := 16) ?_ dX10_endsDay_16 rfl (Nat.le_of_ble_eq_true rfl)
    refine r_iconst (pc := 17) ?_ dX10_endsDay_17 (by decide)
    refine r_istore_n (pc := 18) ?_ dX10_endsDay_18 rfl (Nat.le_of_ble_eq_true rfl)
    exact Le.rf
  · refine r_iconst (pc := 13) ?_ dX10_endsDay_13 (by decide)
    exact r_ir dX10_endsDay_14 rfl (Nat.le_of_ble_eq_true rfl) (Nat.le_of_ble_eq_true rfl)
def R_X10_endsDay_19 (l : Launch) (G : GT) (F : FX) (Q : PQ) (QX : PX) : KT := (I_il 2 (I_i2l (I_al 0 (I_gp 8 13 1 (I_ic 2 (I_lal (I_lcmp (I_ifge (I_al 0 (I_gp 8 13 1 (I_ic 3 (I_dup2 (I_lal (I_lc 1 (I_ladd (I_las (I_al 0 (I_il 1 (I_i2l (I_pl 8 5 13 (I_ic 0 (I_ir Q)))))))))))))) (I_ic 0 (I_is 3 (Wj true l G F Y_X10_endsDay Q QX 0 0 33)))))))))))
set_option maxRecDepth 100000 in
theorem g_X10_endsDay_19 {l : Launch} {G : GT} {F : FX} {Q : PQ} {QX : PX} : Le (R_X10_endsDay_19 l G F Q QX) (Wj true l G F Y_X10_endsDay Q QX 0 0 19) := by
  unfold R_X10_endsDay_19
  refine r_iload_n (pc := 19) ?_ dX10_endsDay_19 rfl
  refine r_i2l (pc := 20) ?_ dX10_endsDay_20
  refine r_aload_n (pc := 21) ?_ dX10_endsDay_21 rfl
  refine r_gp (pc := 22) (kf := 0) ?_ dX10_endsDay_22 cl_X10 (Nat.le_of_ble_eq_true rfl) rfl wd_5_137 pv_X10_0
  refine r_iconst (pc := 25) ?_ dX10_endsDay_25 (by decide)
  refine r_lal (pc := 26) ?_ dX10_endsDay_26
  refine r_lcmp (pc := 27) ?_ dX10_endsDay_27
  refine r_ifge (pc := 28) (t := 99) ?_ ?_ dX10_endsDay_28 (by decide)
  · refine r_aload_n (pc := 99) ?_ dX10_endsDay_99 rfl
    refine r_gp (pc := 100) (kf := 0) ?_ dX10_endsDay_100 cl_X10 (Nat.le_of_ble_eq_true rfl) rfl wd_5_137 pv_X10_0
    refine r_iconst (pc := 103) ?_ dX10_endsDay_103 (by decide)
    refine r_dup2 (pc := 104) ?_ dX10_endsDay_104
    refine r_lal (pc := 105) ?_ dX10_endsDay_105
    refine r_lconst (pc := 106) ?_ dX10_endsDay_106 (by decide)
    refine r_ladd (pc := 107) ?_ dX10_endsDay_107
    refine r_las (pc := 108) ?_ dX10_endsDay_108
    refine r_aload_n (pc := 109) ?_ dX10_endsDay_109 rfl
    refine r_iload_n (pc := 110) ?_ dX10_endsDay_110 rfl
    refine r_i2l (pc := 111) ?_ dX10_endsDay_111
    refine r_pl (pc := 112) ?_ dX10_endsDay_112 cl_X10 (Nat.le_of_ble_eq_true rfl) rfl wd_5_142 rfl pd_X10_5
    refine r_iconst (pc := 115) ?_ dX10_endsDay_115 (by decide)
    exact r_ir dX10_endsDay_116 rfl (Nat.le_of_ble_eq_true rfl) (Nat.le_of_ble_eq_true rfl)
  · refine r_iconst (pc := 31) ?_ dX10_endsDay_31 (by decide)
    refine r_istore_n (pc := 32) ?_ dX10_endsDay_32 rfl (Nat.le_of_ble_eq_true rfl)
    exact Le.rf
def R_X10_endsDay_33 (l : Launch) (G : GT) (F : FX) (Q : PQ) (QX : PX) : KT := (I_il 3 (I_i2l (I_al 0 (I_il 2 (I_ic 9 (I_cv (Tr true l G Y_X10_of) 8 13 2 QX (I_lcmp (I_ifge (I_al 0 (I_il 2 (I_ic 8 (I_lc 0 (I_cv (Tr true l G Y_X10_put) 8 13 3 QX (I_inc 2 1 (I_kl 3 (Wj true l G F Y_X10_endsDay Q QX 0 0 19)))))))) (I_al 0 (I_il 2 (I_il 3 (I_ic 2 (I_cv (Tr true l G Y_X10_entryOf) 8 13 3 QX (I_ic 14 (I_iadd (I_i2l (I_al 0 (I_gp 8 13 1 (I_ic 3 (I_lal (I_lcmp (I_ifgt (I_inc 3 1 (Wj true l G F Y_X10_endsDay Q QX 0 0 33)) (I_al 0 (I_il 2 (I_il 3 (I_cv (Tr true l G Y_X10_doubts) 8 13 2 QX (I_inc 1 1 (Wj true l G F Y_X10_endsDay Q QX 0 0 33))))))))))))))))))))))))))))
set_option maxRecDepth 100000 in
theorem g_X10_endsDay_33 {l : Launch} {G : GT} {F : FX} {Q : PQ} {QX : PX} : Le (R_X10_endsDay_33 l G F Q QX) (Wj true l G F Y_X10_endsDay Q QX 0 0 33) := by
  unfold R_X10_endsDay_33
  refine r_iload_n (pc := 33) ?_ dX10_endsDay_33 rfl
  refine r_i2l (pc := 34) ?_ dX10_endsDay_34
  refine r_aload_n (pc := 35) ?_ dX10_endsDay_35 rfl
  refine r_iload_n (pc := 36) ?_ dX10_endsDay_36 rfl
  refine r_bipush (pc := 37) ?_ dX10_endsDay_37 (by decide)
  refine r_cv0 (pc := 39) ?_ dX10_endsDay_39 cl_X10 ok_X10_of rfl wd_6_25 ⟨Nat.le_of_ble_eq_true rfl, Nat.le_of_ble_eq_true rfl⟩ ⟨Nat.le_of_ble_eq_true rfl, Nat.le_of_ble_eq_true rfl⟩ rfl rfl
  refine r_lcmp (pc := 42) ?_ dX10_endsDay_42
  refine r_ifge (pc := 43) (t := 85) ?_ ?_ dX10_endsDay_43 (by decide)
  · refine r_aload_n (pc := 85) ?_ dX10_endsDay_85 rfl
    refine r_iload_n (pc := 86) ?_ dX10_endsDay_86 rfl
    refine r_bipush (pc := 87) ?_ dX10_endsDay_87 (by decide)
    refine r_lconst (pc := 89) ?_ dX10_endsDay_89 (by decide)
    refine r_cv0 (pc := 90) ?_ dX10_endsDay_90 cl_X10 ok_X10_put rfl wd_6_29 ⟨Nat.le_of_ble_eq_true rfl, Nat.le_of_ble_eq_true rfl⟩ ⟨Nat.le_of_ble_eq_true rfl, Nat.le_of_ble_eq_true rfl⟩ rfl rfl
    refine r_iinc (pc := 93) ?_ dX10_endsDay_93 (by decide) (Nat.le_of_ble_eq_true rfl)
    refine r_goto (pc := 96) (t := 19) ?_ dX10_endsDay_96 (by decide)
    refine r_kl ?_
    exact Le.rf
  · refine r_aload_n (pc := 46) ?_ dX10_endsDay_46 rfl
    refine r_iload_n (pc := 47) ?_ dX10_endsDay_47 rfl
    refine r_iload_n (pc := 48) ?_ dX10_endsDay_48 rfl
    refine r_iconst (pc := 49) ?_ dX10_endsDay_49 (by decide)
    refine r_cv0 (pc := 50) ?_ dX10_endsDay_50 cl_X10 ok_X10_entryOf rfl wd_6_91 ⟨Nat.le_of_ble_eq_true rfl, Nat.le_of_ble_eq_true rfl⟩ ⟨Nat.le_of_ble_eq_true rfl, Nat.le_of_ble_eq_true rfl⟩ rfl rfl
    refine r_bipush (pc := 53) ?_ dX10_endsDay_53 (by decide)
    refine r_iadd (pc := 55) ?_ dX10_endsDay_55
    refine r_i2l (pc := 56) ?_ dX10_endsDay_56
    refine r_aload_n (pc := 57) ?_ dX10_endsDay_57 rfl
    refine r_gp (pc := 58) (kf := 0) ?_ dX10_endsDay_58 cl_X10 (Nat.le_of_ble_eq_true rfl) rfl wd_5_137 pv_X10_0
    refine r_iconst (pc := 61) ?_ dX10_endsDay_61 (by decide)
    refine r_lal (pc := 62) ?_ dX10_endsDay_62
    refine r_lcmp (pc := 63) ?_ dX10_endsDay_63
    refine r_ifgt (pc := 64) (t := 79) ?_ ?_ dX10_endsDay_64 (by decide)
    · refine r_iinc (pc := 79) ?_ dX10_endsDay_79 (by decide) (Nat.le_of_ble_eq_true rfl)
      refine r_goto (pc := 82) (t := 33) ?_ dX10_endsDay_82 (by decide)
      exact Le.rf
    · refine r_aload_n (pc := 67) ?_ dX10_endsDay_67 rfl
      refine r_iload_n (pc := 68) ?_ dX10_endsDay_68 rfl
      refine r_iload_n (pc := 69) ?_ dX10_endsDay_69 rfl
      refine r_cv0 (pc := 70) ?_ dX10_endsDay_70 cl_X10 ok_X10_doubts rfl wd_6_109 ⟨Nat.le_of_ble_eq_true rfl, Nat.le_of_ble_eq_true rfl⟩ ⟨Nat.le_of_ble_eq_true rfl, Nat.le_of_ble_eq_true rfl⟩ rfl rfl
      refine r_iinc (pc := 73) ?_ dX10_endsDay_73 (by decide) (Nat.le_of_ble_eq_true rfl)
      refine r_goto (pc := 76) (t := 33) ?_ dX10_endsDay_76 (by decide)
      exact Le.rf
abbrev Y_X10_moves : YT := (yX10_moves, cX10_moves, 3, (some .int), 5, 116, 0, 0)
theorem ok_X10_moves : okV Y_X10_moves 2 := ⟨⟨wd_6_141, wd_1_9, by decide, by decide, by decide +kernel⟩, wd_6_140, wp_72⟩
def R_X10_moves_0 (l : Launch) (G : GT) (F : FX) (Q : PQ) (QX : PX) : KT := (I_al 0 (I_il 1 (I_cv (Tr true l G Y_X10_isApprentice) 8 13 1 QX (I_ifeq (I_ic 1 (I_ir Q)) (I_al 0 (I_il 2 (I_cv (Tr true l G Y_X10_isMentor) 8 13 1 QX (I_ifne (I_al 0 (I_il 1 (I_il 2 (I_cv (Tr true l G Y_X10_reasonOf) 8 13 2 QX (I_ifeq (I_al 0 (I_al 0 (I_il 1 (I_il 2 (I_cv (Tr true l G Y_X10_comesTo) 8 13 2 QX (I_i2l (I_pl 8 5 13 (I_ic 0 (I_ir Q))))))))) (I_ic 2 (I_ir Q))))))) (I_ic 1 (I_ir Q))))))))))
set_option maxRecDepth 100000 in
theorem g_X10_moves_0 {l : Launch} {G : GT} {F : FX} {Q : PQ} {QX : PX} : Le (R_X10_moves_0 l G F Q QX) (Wj true l G F Y_X10_moves Q QX 0 0 0) := by
  unfold R_X10_moves_0
  refine r_aload_n (pc := 0) ?_ dX10_moves_0 rfl
  refine r_iload_n (pc := 1) ?_ dX10_moves_1 rfl
  refine r_cv0 (pc := 2) ?_ dX10_moves_2 cl_X10 ok_X10_isApprentice rfl wd_6_41 ⟨Nat.le_of_ble_eq_true rfl, Nat.le_of_ble_eq_true rfl⟩ ⟨Nat.le_of_ble_eq_true rfl, Nat.le_of_ble_eq_true rfl⟩ rfl rfl
  refine r_ifeq (pc := 5) (t := 16) ?_ ?_ dX10_moves_5 (by decide)
  · refine r_iconst (pc := 16) ?_ dX10_moves_16 (by decide)
    exact r_ir dX10_moves_17 rfl (Nat.le_of_ble_eq_true rfl) (Nat.le_of_ble_eq_true rfl)
  · refine r_aload_n (pc := 8) ?_ dX10_moves_8 rfl
    refine r_iload_n (pc := 9) ?_ dX10_moves_9 rfl
    refine r_cv0 (pc := 10) ?_ dX10_moves_10 cl_X10 ok_X10_isMentor rfl wd_6_0 ⟨Nat.le_of_ble_eq_true rfl, Nat.le_of_ble_eq_true rfl⟩ ⟨Nat.le_of_ble_eq_true rfl, Nat.le_of_ble_eq_true rfl⟩ rfl rfl
    refine r_ifne (pc := 13) (t := 18) ?_ ?_ dX10_moves_13 (by decide)
    · refine r_aload_n (pc := 18) ?_ dX10_moves_18 rfl
      refine r_iload_n (pc := 19) ?_ dX10_moves_19 rfl
      refine r_iload_n (pc := 20) ?_ dX10_moves_20 rfl
      refine r_cv0 (pc := 21) ?_ dX10_moves_21 cl_X10 ok_X10_reasonOf rfl wd_6_142 ⟨Nat.le_of_ble_eq_true rfl, Nat.le_of_ble_eq_true rfl⟩ ⟨Nat.le_of_ble_eq_true rfl, Nat.le_of_ble_eq_true rfl⟩ rfl rfl
      refine r_ifeq (pc := 24) (t := 29) ?_ ?_ dX10_moves_24 (by decide)
      · refine r_aload_n (pc := 29) ?_ dX10_moves_29 rfl
        refine r_aload_n (pc := 30) ?_ dX10_moves_30 rfl
        refine r_iload_n (pc := 31) ?_ dX10_moves_31 rfl
        refine r_iload_n (pc := 32) ?_ dX10_moves_32 rfl
        refine r_cv0 (pc := 33) ?_ dX10_moves_33 cl_X10 ok_X10_comesTo rfl wd_6_146 ⟨Nat.le_of_ble_eq_true rfl, Nat.le_of_ble_eq_true rfl⟩ ⟨Nat.le_of_ble_eq_true rfl, Nat.le_of_ble_eq_true rfl⟩ rfl rfl
        refine r_i2l (pc := 36) ?_ dX10_moves_36
        refine r_pl (pc := 37) ?_ dX10_moves_37 cl_X10 (Nat.le_of_ble_eq_true rfl) rfl wd_5_142 rfl pd_X10_5
        refine r_iconst (pc := 40) ?_ dX10_moves_40 (by decide)
        exact r_ir dX10_moves_41 rfl (Nat.le_of_ble_eq_true rfl) (Nat.le_of_ble_eq_true rfl)
      · refine r_iconst (pc := 27) ?_ dX10_moves_27 (by decide)
        exact r_ir dX10_moves_28 rfl (Nat.le_of_ble_eq_true rfl) (Nat.le_of_ble_eq_true rfl)
    · refine r_iconst (pc := 16) ?_ dX10_moves_16 (by decide)
      exact r_ir dX10_moves_17 rfl (Nat.le_of_ble_eq_true rfl) (Nat.le_of_ble_eq_true rfl)
abbrev Y_X10_swaps : YT := (yX10_swaps, cX10_swaps, 4, (some .int), 5, 116, 0, 0)
theorem ok_X10_swaps : okV Y_X10_swaps 2 := ⟨⟨wd_6_165, wd_1_9, by decide, by decide, by decide +kernel⟩, wd_6_164, wp_76⟩
def R_X10_swaps_0 (l : Launch) (G : GT) (F : FX) (Q : PQ) (QX : PX) : KT := (I_al 0 (I_il 1 (I_cv (Tr true l G Y_X10_isApprentice) 8 13 1 QX (I_ifeq (I_ic 1 (I_ir Q)) (I_al 0 (I_il 2 (I_cv (Tr true l G Y_X10_isApprentice) 8 13 1 QX (I_ifne (I_il 1 (I_il 2 (I_icne (I_al 0 (I_il 1 (I_il 2 (I_cv (Tr true l G Y_X10_canExchange) 8 13 2 QX (I_ifne (I_al 0 (I_il 1 (I_cv (Tr true l G Y_X10_mentorOf) 8 13 1 QX (I_is 3 (I_al 0 (I_al 0 (I_il 1 (I_al 0 (I_il 2 (I_cv (Tr true l G Y_X10_mentorOf) 8 13 1 QX (I_cv (Tr true l G Y_X10_comesTo) 8 13 2 QX (I_i2l (I_pl 8 5 13 (I_al 0 (I_dup (I_gl 8 5 13 (I_al 0 (I_il 2 (I_il 3 (I_cv (Tr true l G Y_X10_comesTo) 8 13 2 QX (I_i2l (I_ladd (I_pl 8 5 13 (I_ic 0 (I_ir Q))))))))))))))))))))))))) (I_ic 3 (I_ir Q))))))) (I_ic 2 (I_ir Q))))) (I_ic 1 (I_ir Q))))))))))
set_option maxRecDepth 100000 in
theorem g_X10_swaps_0 {l : Launch} {G : GT} {F : FX} {Q : PQ} {QX : PX} : Le (R_X10_swaps_0 l G F Q QX) (Wj true l G F Y_X10_swaps Q QX 0 0 0) := by
  unfold R_X10_swaps_0
  refine r_aload_n (pc := 0) ?_ dX10_swaps_0 rfl
  refine r_iload_n (pc := 1) ?_ dX10_swaps_1 rfl
  refine r_cv0 (pc := 2) ?_ dX10_swaps_2 cl_X10 ok_X10_isApprentice rfl wd_6_41 ⟨Nat.le_of_ble_eq_true rfl, Nat.le_of_ble_eq_true rfl⟩ ⟨Nat.le_of_ble_eq_true rfl, Nat.le_of_ble_eq_true rfl⟩ rfl rfl
  refine r_ifeq (pc := 5) (t := 16) ?_ ?_ dX10_swaps_5 (by decide)
  · refine r_iconst (pc := 16) ?_ dX10_swaps_16 (by decide)
    exact r_ir dX10_swaps_17 rfl (Nat.le_of_ble_eq_true rfl) (Nat.le_of_ble_eq_true rfl)
  · refine r_aload_n (pc := 8) ?_ dX10_swaps_8 rfl
    refine r_iload_n (pc := 9) ?_ dX10_swaps_9 rfl
    refine r_cv0 (pc := 10) ?_ dX10_swaps_10 cl_X10 ok_X10_isApprentice rfl wd_6_41 ⟨Nat.le_of_ble_eq_true rfl, Nat.le_of_ble_eq_true rfl⟩ ⟨Nat.le_of_ble_eq_true rfl, Nat.le_of_ble_eq_true rfl⟩ rfl rfl
    refine r_ifne (pc := 13) (t := 18) ?_ ?_ dX10_swaps_13 (by decide)
    · refine r_iload_n (pc := 18) ?_ dX10_swaps_18 rfl
      refine r_iload_n (pc := 19) ?_ dX10_swaps_19 rfl
      refine r_icne (pc := 20) (t := 25) ?_ ?_ dX10_swaps_20 (by decide)
      · refine r_aload_n (pc := 25) ?_ dX10_swaps_25 rfl
        refine r_iload_n (pc := 26) ?_ dX10_swaps_26 rfl
        refine r_iload_n (pc := 27) ?_ dX10_swaps_27 rfl
        refine r_cv0 (pc := 28) ?_ dX10_swaps_28 cl_X10 ok_X10_canExchange rfl wd_6_166 ⟨Nat.le_of_ble_eq_true rfl, Nat.le_of_ble_eq_true rfl⟩ ⟨Nat.le_of_ble_eq_true rfl, Nat.le_of_ble_eq_true rfl⟩ rfl rfl
        refine r_ifne (pc := 31) (t := 36) ?_ ?_ dX10_swaps_31 (by decide)
        · refine r_aload_n (pc := 36) ?_ dX10_swaps_36 rfl
          refine r_iload_n (pc := 37) ?_ dX10_swaps_37 rfl
          refine r_cv0 (pc := 38) ?_ dX10_swaps_38 cl_X10 ok_X10_mentorOf rfl wd_6_21 ⟨Nat.le_of_ble_eq_true rfl, Nat.le_of_ble_eq_true rfl⟩ ⟨Nat.le_of_ble_eq_true rfl, Nat.le_of_ble_eq_true rfl⟩ rfl rfl
          refine r_istore_n (pc := 41) ?_ dX10_swaps_41 rfl (Nat.le_of_ble_eq_true rfl)
          refine r_aload_n (pc := 42) ?_ dX10_swaps_42 rfl
          refine r_aload_n (pc := 43) ?_ dX10_swaps_43 rfl
          refine r_iload_n (pc := 44) ?_ dX10_swaps_44 rfl
          refine r_aload_n (pc := 45) ?_ dX10_swaps_45 rfl
          refine r_iload_n (pc := 46) ?_ dX10_swaps_46 rfl
          refine r_cv0 (pc := 47) ?_ dX10_swaps_47 cl_X10 ok_X10_mentorOf rfl wd_6_21 ⟨Nat.le_of_ble_eq_true rfl, Nat.le_of_ble_eq_true rfl⟩ ⟨Nat.le_of_ble_eq_true rfl, Nat.le_of_ble_eq_true rfl⟩ rfl rfl
          refine r_cv0 (pc := 50) ?_ dX10_swaps_50 cl_X10 ok_X10_comesTo rfl wd_6_146 ⟨Nat.le_of_ble_eq_true rfl, Nat.le_of_ble_eq_true rfl⟩ ⟨Nat.le_of_ble_eq_true rfl, Nat.le_of_ble_eq_true rfl⟩ rfl rfl
          refine r_i2l (pc := 53) ?_ dX10_swaps_53
          refine r_pl (pc := 54) ?_ dX10_swaps_54 cl_X10 (Nat.le_of_ble_eq_true rfl) rfl wd_5_142 rfl pd_X10_5
          refine r_aload_n (pc := 57) ?_ dX10_swaps_57 rfl
          refine r_dup (pc := 58) ?_ dX10_swaps_58
          refine r_gl (pc := 59) ?_ dX10_swaps_59 cl_X10 (Nat.le_of_ble_eq_true rfl) rfl wd_5_142
          refine r_aload_n (pc := 62) ?_ dX10_swaps_62 rfl
          refine r_iload_n (pc := 63) ?_ dX10_swaps_63 rfl
          refine r_iload_n (pc := 64) ?_ dX10_swaps_64 rfl
          refine r_cv0 (pc := 65) ?_ dX10_swaps_65 cl_X10 ok_X10_comesTo rfl wd_6_146 ⟨Nat.le_of_ble_eq_true rfl, Nat.le_of_ble_eq_true rfl⟩ ⟨Nat.le_of_ble_eq_true rfl, Nat.le_of_ble_eq_true rfl⟩ rfl rfl
          refine r_i2l (pc := 68) ?_ dX10_swaps_68
          refine r_ladd (pc := 69) ?_ dX10_swaps_69
          refine r_pl (pc := 70) ?_ dX10_swaps_70 cl_X10 (Nat.le_of_ble_eq_true rfl) rfl wd_5_142 rfl pd_X10_5
          refine r_iconst (pc := 73) ?_ dX10_swaps_73 (by decide)
          exact r_ir dX10_swaps_74 rfl (Nat.le_of_ble_eq_true rfl) (Nat.le_of_ble_eq_true rfl)
        · refine r_iconst (pc := 34) ?_ dX10_swaps_34 (by decide)
          exact r_ir dX10_swaps_35 rfl (Nat.le_of_ble_eq_true rfl) (Nat.le_of_ble_eq_true rfl)
      · refine r_iconst (pc := 23) ?_ dX10_swaps_23 (by decide)
        exact r_ir dX10_swaps_24 rfl (Nat.le_of_ble_eq_true rfl) (Nat.le_of_ble_eq_true rfl)
    · refine r_iconst (pc := 16) ?_ dX10_swaps_16 (by decide)
      exact r_ir dX10_swaps_17 rfl (Nat.le_of_ble_eq_true rfl) (Nat.le_of_ble_eq_true rfl)
abbrev Y_X10_passes : YT := (yX10_passes, cX10_passes, 4, (some .int), 5, 115, 0, 0)
theorem ok_X10_passes : okV Y_X10_passes 1 := ⟨⟨wd_7_70, wd_1_9, by decide, by decide, by decide +kernel⟩, wd_7_69, wp_94⟩
def R_X10_passes_0 (l : Launch) (G : GT) (F : FX) (Q : PQ) (QX : PX) : KT := (I_il 1 (I_i2l (I_lc 1 (I_lc (30 : Int64) (I_cs (Tr true l G Y_X10_in) 3 QX (I_ifne (I_al 0 (I_gp 8 13 1 (I_ic 3 (I_lal (I_il 1 (I_i2l (I_ladd (I_lc (9999 : Int64) (I_lcmp (I_ifle (I_ic 0 (I_is 2 (I_ic 0 (I_is 3 (Wj true l G F Y_X10_passes Q QX 0 0 36))))) (I_ic 2 (I_ir Q)))))))))))) (I_ic 1 (I_ir Q))))))))
set_option maxRecDepth 100000 in
theorem g_X10_passes_0 {l : Launch} {G : GT} {F : FX} {Q : PQ} {QX : PX} : Le (R_X10_passes_0 l G F Q QX) (Wj true l G F Y_X10_passes Q QX 0 0 0) := by
  unfold R_X10_passes_0
  refine r_iload_n (pc := 0) ?_ dX10_passes_0 rfl
  refine r_i2l (pc := 1) ?_ dX10_passes_1
  refine r_lconst (pc := 2) ?_ dX10_passes_2 (by decide)
  refine r_ldc2 (pc := 3) ?_ dX10_passes_3 wd_7_71
  refine r_cs0 (pc := 6) ?_ dX10_passes_6 ok_X10_in wd_5_194 ⟨Nat.le_of_ble_eq_true rfl, Nat.le_of_ble_eq_true rfl⟩ ⟨Nat.le_of_ble_eq_true rfl, Nat.le_of_ble_eq_true rfl⟩ rfl rfl
  refine r_ifne (pc := 9) (t := 14) ?_ ?_ dX10_passes_9 (by decide)
  · refine r_aload_n (pc := 14) ?_ dX10_passes_14 rfl
    refine r_gp (pc := 15) (kf := 0) ?_ dX10_passes_15 cl_X10 (Nat.le_of_ble_eq_true rfl) rfl wd_5_137 pv_X10_0
    refine r_iconst (pc := 18) ?_ dX10_passes_18 (by decide)
    refine r_lal (pc := 19) ?_ dX10_passes_19
    refine r_iload_n (pc := 20) ?_ dX10_passes_20 rfl
    refine r_i2l (pc := 21) ?_ dX10_passes_21
    refine r_ladd (pc := 22) ?_ dX10_passes_22
    refine r_ldc2 (pc := 23) ?_ dX10_passes_23 wd_6_133
    refine r_lcmp (pc := 26) ?_ dX10_passes_26
    refine r_ifle (pc := 27) (t := 32) ?_ ?_ dX10_passes_27 (by decide)
    · refine r_iconst (pc := 32) ?_ dX10_passes_32 (by decide)
      refine r_istore_n (pc := 33) ?_ dX10_passes_33 rfl (Nat.le_of_ble_eq_true rfl)
      refine r_iconst (pc := 34) ?_ dX10_passes_34 (by decide)
      refine r_istore_n (pc := 35) ?_ dX10_passes_35 rfl (Nat.le_of_ble_eq_true rfl)
      exact Le.rf
    · refine r_iconst (pc := 30) ?_ dX10_passes_30 (by decide)
      exact r_ir dX10_passes_31 rfl (Nat.le_of_ble_eq_true rfl) (Nat.le_of_ble_eq_true rfl)
  · refine r_iconst (pc := 12) ?_ dX10_passes_12 (by decide)
    exact r_ir dX10_passes_13 rfl (Nat.le_of_ble_eq_true rfl) (Nat.le_of_ble_eq_true rfl)
def R_X10_passes_36 (l : Launch) (G : GT) (F : FX) (Q : PQ) (QX : PX) : KT := (I_il 3 (I_il 1 (I_icge (I_il 2 (I_ir Q)) (I_il 2 (I_al 0 (I_cv (Tr true l G Y_X10_endsDay) 8 13 0 QX (I_iadd (I_is 2 (I_inc 3 1 (Wj true l G F Y_X10_passes Q QX 0 0 36))))))))))
set_option maxRecDepth 100000 in
theorem g_X10_passes_36 {l : Launch} {G : GT} {F : FX} {Q : PQ} {QX : PX} : Le (R_X10_passes_36 l G F Q QX) (Wj true l G F Y_X10_passes Q QX 0 0 36) := by
  unfold R_X10_passes_36
  refine r_iload_n (pc := 36) ?_ dX10_passes_36 rfl
  refine r_iload_n (pc := 37) ?_ dX10_passes_37 rfl
  refine r_icge (pc := 38) (t := 54) ?_ ?_ dX10_passes_38 (by decide)
  · refine r_iload_n (pc := 54) ?_ dX10_passes_54 rfl
    exact r_ir dX10_passes_55 rfl (Nat.le_of_ble_eq_true rfl) (Nat.le_of_ble_eq_true rfl)
  · refine r_iload_n (pc := 41) ?_ dX10_passes_41 rfl
    refine r_aload_n (pc := 42) ?_ dX10_passes_42 rfl
    refine r_cv0 (pc := 43) ?_ dX10_passes_43 cl_X10 ok_X10_endsDay rfl wd_6_129 ⟨Nat.le_of_ble_eq_true rfl, Nat.le_of_ble_eq_true rfl⟩ ⟨Nat.le_of_ble_eq_true rfl, Nat.le_of_ble_eq_true rfl⟩ rfl rfl
    refine r_iadd (pc := 46) ?_ dX10_passes_46
    refine r_istore_n (pc := 47) ?_ dX10_passes_47 rfl (Nat.le_of_ble_eq_true rfl)
    refine r_iinc (pc := 48) ?_ dX10_passes_48 (by decide) (Nat.le_of_ble_eq_true rfl)
    refine r_goto (pc := 51) (t := 36) ?_ dX10_passes_51 (by decide)
    exact Le.rf
abbrev Y_X10_addTrade : YT := (yX10_addTrade, cX10_addTrade, 5, (some .int), 2, 49, 0, 0)
theorem ok_X10_addTrade : okV Y_X10_addTrade 3 := ⟨⟨wd_5_184, wd_1_9, by decide, by decide, by decide +kernel⟩, wd_5_182, wd_5_183⟩
def R_X10_addTrade_0 (l : Launch) (G : GT) (F : FX) (Q : PQ) (QX : PX) : KT := (I_al 0 (I_cv (Tr true l G Y_X10_laysAside) 8 13 0 QX (I_al 0 (I_il 1 (I_il 2 (I_il 3 (I_cv (Tr true l G Y_X10_trades) 8 13 3 QX (I_is 4 (I_al 0 (I_al 0 (I_gl 8 5 13 (I_il 4 (I_cv (Tr true l G Y_X10_ends) 8 13 2 QX (I_ir Q))))))))))))))
set_option maxRecDepth 100000 in
theorem g_X10_addTrade_0 {l : Launch} {G : GT} {F : FX} {Q : PQ} {QX : PX} : Le (R_X10_addTrade_0 l G F Q QX) (Wj true l G F Y_X10_addTrade Q QX 0 0 0) := by
  unfold R_X10_addTrade_0
  refine r_aload_n (pc := 0) ?_ dX10_addTrade_0 rfl
  refine r_cv0 (pc := 1) ?_ dX10_addTrade_1 cl_X10 ok_X10_laysAside rfl wd_5_185 ⟨Nat.le_of_ble_eq_true rfl, Nat.le_of_ble_eq_true rfl⟩ ⟨Nat.le_of_ble_eq_true rfl, Nat.le_of_ble_eq_true rfl⟩ rfl rfl
  refine r_aload_n (pc := 4) ?_ dX10_addTrade_4 rfl
  refine r_iload_n (pc := 5) ?_ dX10_addTrade_5 rfl
  refine r_iload_n (pc := 6) ?_ dX10_addTrade_6 rfl
  refine r_iload_n (pc := 7) ?_ dX10_addTrade_7 rfl
  refine r_cv0 (pc := 8) ?_ dX10_addTrade_8 cl_X10 ok_X10_trades rfl wd_5_189 ⟨Nat.le_of_ble_eq_true rfl, Nat.le_of_ble_eq_true rfl⟩ ⟨Nat.le_of_ble_eq_true rfl, Nat.le_of_ble_eq_true rfl⟩ rfl rfl
  refine r_istore (pc := 11) ?_ dX10_addTrade_11 (Nat.le_of_ble_eq_true rfl)
  refine r_aload_n (pc := 13) ?_ dX10_addTrade_13 rfl
  refine r_aload_n (pc := 14) ?_ dX10_addTrade_14 rfl
  refine r_gl (pc := 15) ?_ dX10_addTrade_15 cl_X10 (Nat.le_of_ble_eq_true rfl) rfl wd_5_142
  refine r_iload (pc := 18) ?_ dX10_addTrade_18
  refine r_cv0 (pc := 20) ?_ dX10_addTrade_20 cl_X10 ok_X10_ends rfl wd_5_198 ⟨Nat.le_of_ble_eq_true rfl, Nat.le_of_ble_eq_true rfl⟩ ⟨Nat.le_of_ble_eq_true rfl, Nat.le_of_ble_eq_true rfl⟩ rfl rfl
  exact r_ir dX10_addTrade_23 rfl (Nat.le_of_ble_eq_true rfl) (Nat.le_of_ble_eq_true rfl)
abbrev Y_X10_addMentor : YT := (yX10_addMentor, cX10_addMentor, 4, (some .int), 2, 48, 0, 0)
theorem ok_X10_addMentor : okV Y_X10_addMentor 2 := ⟨⟨wd_5_221, wd_1_9, by decide, by decide, by decide +kernel⟩, wd_5_219, wd_5_220⟩
def R_X10_addMentor_0 (l : Launch) (G : GT) (F : FX) (Q : PQ) (QX : PX) : KT := (I_al 0 (I_cv (Tr true l G Y_X10_laysAside) 8 13 0 QX (I_al 0 (I_il 1 (I_il 2 (I_cv (Tr true l G Y_X10_mentors) 8 13 2 QX (I_is 3 (I_al 0 (I_al 0 (I_gl 8 5 13 (I_il 3 (I_cv (Tr true l G Y_X10_ends) 8 13 2 QX (I_ir Q)))))))))))))
set_option maxRecDepth 100000 in
theorem g_X10_addMentor_0 {l : Launch} {G : GT} {F : FX} {Q : PQ} {QX : PX} : Le (R_X10_addMentor_0 l G F Q QX) (Wj true l G F Y_X10_addMentor Q QX 0 0 0) := by
  unfold R_X10_addMentor_0
  refine r_aload_n (pc := 0) ?_ dX10_addMentor_0 rfl
  refine r_cv0 (pc := 1) ?_ dX10_addMentor_1 cl_X10 ok_X10_laysAside rfl wd_5_185 ⟨Nat.le_of_ble_eq_true rfl, Nat.le_of_ble_eq_true rfl⟩ ⟨Nat.le_of_ble_eq_true rfl, Nat.le_of_ble_eq_true rfl⟩ rfl rfl
  refine r_aload_n (pc := 4) ?_ dX10_addMentor_4 rfl
  refine r_iload_n (pc := 5) ?_ dX10_addMentor_5 rfl
  refine r_iload_n (pc := 6) ?_ dX10_addMentor_6 rfl
  refine r_cv0 (pc := 7) ?_ dX10_addMentor_7 cl_X10 ok_X10_mentors rfl wd_5_222 ⟨Nat.le_of_ble_eq_true rfl, Nat.le_of_ble_eq_true rfl⟩ ⟨Nat.le_of_ble_eq_true rfl, Nat.le_of_ble_eq_true rfl⟩ rfl rfl
  refine r_istore_n (pc := 10) ?_ dX10_addMentor_10 rfl (Nat.le_of_ble_eq_true rfl)
  refine r_aload_n (pc := 11) ?_ dX10_addMentor_11 rfl
  refine r_aload_n (pc := 12) ?_ dX10_addMentor_12 rfl
  refine r_gl (pc := 13) ?_ dX10_addMentor_13 cl_X10 (Nat.le_of_ble_eq_true rfl) rfl wd_5_142
  refine r_iload_n (pc := 16) ?_ dX10_addMentor_16 rfl
  refine r_cv0 (pc := 17) ?_ dX10_addMentor_17 cl_X10 ok_X10_ends rfl wd_5_198 ⟨Nat.le_of_ble_eq_true rfl, Nat.le_of_ble_eq_true rfl⟩ ⟨Nat.le_of_ble_eq_true rfl, Nat.le_of_ble_eq_true rfl⟩ rfl rfl
  exact r_ir dX10_addMentor_20 rfl (Nat.le_of_ble_eq_true rfl) (Nat.le_of_ble_eq_true rfl)
abbrev Y_X10_addApprentice : YT := (yX10_addApprentice, cX10_addApprentice, 4, (some .int), 5, 111, 0, 0)
theorem ok_X10_addApprentice : okV Y_X10_addApprentice 2 := ⟨⟨wd_5_231, wd_1_9, by decide, by decide, by decide +kernel⟩, wd_5_229, wd_5_230⟩
def R_X10_addApprentice_0 (l : Launch) (G : GT) (F : FX) (Q : PQ) (QX : PX) : KT := (I_al 0 (I_cv (Tr true l G Y_X10_laysAside) 8 13 0 QX (I_al 0 (I_il 1 (I_il 2 (I_cv (Tr true l G Y_X10_apprentices) 8 13 2 QX (I_is 3 (I_al 0 (I_al 0 (I_gl 8 5 13 (I_il 3 (I_cv (Tr true l G Y_X10_ends) 8 13 2 QX (I_ir Q)))))))))))))
set_option maxRecDepth 100000 in
theorem g_X10_addApprentice_0 {l : Launch} {G : GT} {F : FX} {Q : PQ} {QX : PX} : Le (R_X10_addApprentice_0 l G F Q QX) (Wj true l G F Y_X10_addApprentice Q QX 0 0 0) := by
  unfold R_X10_addApprentice_0
  refine r_aload_n (pc := 0) ?_ dX10_addApprentice_0 rfl
  refine r_cv0 (pc := 1) ?_ dX10_addApprentice_1 cl_X10 ok_X10_laysAside rfl wd_5_185 ⟨Nat.le_of_ble_eq_true rfl, Nat.le_of_ble_eq_true rfl⟩ ⟨Nat.le_of_ble_eq_true rfl, Nat.le_of_ble_eq_true rfl⟩ rfl rfl
  refine r_aload_n (pc := 4) ?_ dX10_addApprentice_4 rfl
  refine r_iload_n (pc := 5) ?_ dX10_addApprentice_5 rfl
  refine r_iload_n (pc := 6) ?_ dX10_addApprentice_6 rfl
  refine r_cv0 (pc := 7) ?_ dX10_addApprentice_7 cl_X10 ok_X10_apprentices rfl wd_5_232 ⟨Nat.le_of_ble_eq_true rfl, Nat.le_of_ble_eq_true rfl⟩ ⟨Nat.le_of_ble_eq_true rfl, Nat.le_of_ble_eq_true rfl⟩ rfl rfl
  refine r_istore_n (pc := 10) ?_ dX10_addApprentice_10 rfl (Nat.le_of_ble_eq_true rfl)
  refine r_aload_n (pc := 11) ?_ dX10_addApprentice_11 rfl
  refine r_aload_n (pc := 12) ?_ dX10_addApprentice_12 rfl
  refine r_gl (pc := 13) ?_ dX10_addApprentice_13 cl_X10 (Nat.le_of_ble_eq_true rfl) rfl wd_5_142
  refine r_iload_n (pc := 16) ?_ dX10_addApprentice_16 rfl
  refine r_cv0 (pc := 17) ?_ dX10_addApprentice_17 cl_X10 ok_X10_ends rfl wd_5_198 ⟨Nat.le_of_ble_eq_true rfl, Nat.le_of_ble_eq_true rfl⟩ ⟨Nat.le_of_ble_eq_true rfl, Nat.le_of_ble_eq_true rfl⟩ rfl rfl
  exact r_ir dX10_addApprentice_20 rfl (Nat.le_of_ble_eq_true rfl) (Nat.le_of_ble_eq_true rfl)
abbrev Y_X10_release : YT := (yX10_release, cX10_release, 4, (some .int), 4, 90, 0, 0)
theorem ok_X10_release : okV Y_X10_release 2 := ⟨⟨wd_6_36, wd_1_9, by decide, by decide, by decide +kernel⟩, wd_6_34, wd_6_35⟩
def R_X10_release_0 (l : Launch) (G : GT) (F : FX) (Q : PQ) (QX : PX) : KT := (I_al 0 (I_cv (Tr true l G Y_X10_laysAside) 8 13 0 QX (I_al 0 (I_il 1 (I_il 2 (I_cv (Tr true l G Y_X10_frees) 8 13 2 QX (I_is 3 (I_al 0 (I_al 0 (I_gl 8 5 13 (I_il 3 (I_cv (Tr true l G Y_X10_ends) 8 13 2 QX (I_ir Q)))))))))))))
set_option maxRecDepth 100000 in
theorem g_X10_release_0 {l : Launch} {G : GT} {F : FX} {Q : PQ} {QX : PX} : Le (R_X10_release_0 l G F Q QX) (Wj true l G F Y_X10_release Q QX 0 0 0) := by
  unfold R_X10_release_0
  refine r_aload_n (pc := 0) ?_ dX10_release_0 rfl
  refine r_cv0 (pc := 1) ?_ dX10_release_1 cl_X10 ok_X10_laysAside rfl wd_5_185 ⟨Nat.le_of_ble_eq_true rfl, Nat.le_of_ble_eq_true rfl⟩ ⟨Nat.le_of_ble_eq_true rfl, Nat.le_of_ble_eq_true rfl⟩ rfl rfl
  refine r_aload_n (pc := 4) ?_ dX10_release_4 rfl
  refine r_iload_n (pc := 5) ?_ dX10_release_5 rfl
  refine r_iload_n (pc := 6) ?_ dX10_release_6 rfl
  refine r_cv0 (pc := 7) ?_ dX10_release_7 cl_X10 ok_X10_frees rfl wd_6_37 ⟨Nat.le_of_ble_eq_true rfl, Nat.le_of_ble_eq_true rfl⟩ ⟨Nat.le_of_ble_eq_true rfl, Nat.le_of_ble_eq_true rfl⟩ rfl rfl
  refine r_istore_n (pc := 10) ?_ dX10_release_10 rfl (Nat.le_of_ble_eq_true rfl)
  refine r_aload_n (pc := 11) ?_ dX10_release_11 rfl
  refine r_aload_n (pc := 12) ?_ dX10_release_12 rfl
  refine r_gl (pc := 13) ?_ dX10_release_13 cl_X10 (Nat.le_of_ble_eq_true rfl) rfl wd_5_142
  refine r_iload_n (pc := 16) ?_ dX10_release_16 rfl
  refine r_cv0 (pc := 17) ?_ dX10_release_17 cl_X10 ok_X10_ends rfl wd_5_198 ⟨Nat.le_of_ble_eq_true rfl, Nat.le_of_ble_eq_true rfl⟩ ⟨Nat.le_of_ble_eq_true rfl, Nat.le_of_ble_eq_true rfl⟩ rfl rfl
  exact r_ir dX10_release_20 rfl (Nat.le_of_ble_eq_true rfl) (Nat.le_of_ble_eq_true rfl)
abbrev Y_X10_log : YT := (yX10_log, cX10_log, 5, (some .int), 3, 72, 0, 0)
theorem ok_X10_log : okV Y_X10_log 3 := ⟨⟨wd_6_61, wd_1_9, by decide, by decide, by decide +kernel⟩, wd_6_59, wd_6_60⟩
def R_X10_log_0 (l : Launch) (G : GT) (F : FX) (Q : PQ) (QX : PX) : KT := (I_al 0 (I_cv (Tr true l G Y_X10_laysAside) 8 13 0 QX (I_al 0 (I_il 1 (I_il 2 (I_il 3 (I_cv (Tr true l G Y_X10_logs) 8 13 3 QX (I_is 4 (I_al 0 (I_al 0 (I_gl 8 5 13 (I_il 4 (I_cv (Tr true l G Y_X10_ends) 8 13 2 QX (I_ir Q))))))))))))))
set_option maxRecDepth 100000 in
theorem g_X10_log_0 {l : Launch} {G : GT} {F : FX} {Q : PQ} {QX : PX} : Le (R_X10_log_0 l G F Q QX) (Wj true l G F Y_X10_log Q QX 0 0 0) := by
  unfold R_X10_log_0
  refine r_aload_n (pc := 0) ?_ dX10_log_0 rfl
  refine r_cv0 (pc := 1) ?_ dX10_log_1 cl_X10 ok_X10_laysAside rfl wd_5_185 ⟨Nat.le_of_ble_eq_true rfl, Nat.le_of_ble_eq_true rfl⟩ ⟨Nat.le_of_ble_eq_true rfl, Nat.le_of_ble_eq_true rfl⟩ rfl rfl
  refine r_aload_n (pc := 4) ?_ dX10_log_4 rfl
  refine r_iload_n (pc := 5) ?_ dX10_log_5 rfl
  refine r_iload_n (pc := 6) ?_ dX10_log_6 rfl
  refine r_iload_n (pc := 7) ?_ dX10_log_7 rfl
  refine r_cv0 (pc := 8) ?_ dX10_log_8 cl_X10 ok_X10_logs rfl wd_6_62 ⟨Nat.le_of_ble_eq_true rfl, Nat.le_of_ble_eq_true rfl⟩ ⟨Nat.le_of_ble_eq_true rfl, Nat.le_of_ble_eq_true rfl⟩ rfl rfl
  refine r_istore (pc := 11) ?_ dX10_log_11 (Nat.le_of_ble_eq_true rfl)
  refine r_aload_n (pc := 13) ?_ dX10_log_13 rfl
  refine r_aload_n (pc := 14) ?_ dX10_log_14 rfl
  refine r_gl (pc := 15) ?_ dX10_log_15 cl_X10 (Nat.le_of_ble_eq_true rfl) rfl wd_5_142
  refine r_iload (pc := 18) ?_ dX10_log_18
  refine r_cv0 (pc := 20) ?_ dX10_log_20 cl_X10 ok_X10_ends rfl wd_5_198 ⟨Nat.le_of_ble_eq_true rfl, Nat.le_of_ble_eq_true rfl⟩ ⟨Nat.le_of_ble_eq_true rfl, Nat.le_of_ble_eq_true rfl⟩ rfl rfl
  exact r_ir dX10_log_23 rfl (Nat.le_of_ble_eq_true rfl) (Nat.le_of_ble_eq_true rfl)
abbrev Y_X10_confirm : YT := (yX10_confirm, cX10_confirm, 4, (some .int), 4, 96, 0, 0)
theorem ok_X10_confirm : okV Y_X10_confirm 2 := ⟨⟨wd_6_85, wd_1_9, by decide, by decide, by decide +kernel⟩, wd_6_83, wd_6_84⟩
def R_X10_confirm_0 (l : Launch) (G : GT) (F : FX) (Q : PQ) (QX : PX) : KT := (I_al 0 (I_cv (Tr true l G Y_X10_laysAside) 8 13 0 QX (I_al 0 (I_il 1 (I_il 2 (I_cv (Tr true l G Y_X10_confirms) 8 13 2 QX (I_is 3 (I_al 0 (I_al 0 (I_gl 8 5 13 (I_il 3 (I_cv (Tr true l G Y_X10_ends) 8 13 2 QX (I_ir Q)))))))))))))
set_option maxRecDepth 100000 in
theorem g_X10_confirm_0 {l : Launch} {G : GT} {F : FX} {Q : PQ} {QX : PX} : Le (R_X10_confirm_0 l G F Q QX) (Wj true l G F Y_X10_confirm Q QX 0 0 0) := by
  unfold R_X10_confirm_0
  refine r_aload_n (pc := 0) ?_ dX10_confirm_0 rfl
  refine r_cv0 (pc := 1) ?_ dX10_confirm_1 cl_X10 ok_X10_laysAside rfl wd_5_185 ⟨Nat.le_of_ble_eq_true rfl, Nat.le_of_ble_eq_true rfl⟩ ⟨Nat.le_of_ble_eq_true rfl, Nat.le_of_ble_eq_true rfl⟩ rfl rfl
  refine r_aload_n (pc := 4) ?_ dX10_confirm_4 rfl
  refine r_iload_n (pc := 5) ?_ dX10_confirm_5 rfl
  refine r_iload_n (pc := 6) ?_ dX10_confirm_6 rfl
  refine r_cv0 (pc := 7) ?_ dX10_confirm_7 cl_X10 ok_X10_confirms rfl wd_6_86 ⟨Nat.le_of_ble_eq_true rfl, Nat.le_of_ble_eq_true rfl⟩ ⟨Nat.le_of_ble_eq_true rfl, Nat.le_of_ble_eq_true rfl⟩ rfl rfl
  refine r_istore_n (pc := 10) ?_ dX10_confirm_10 rfl (Nat.le_of_ble_eq_true rfl)
  refine r_aload_n (pc := 11) ?_ dX10_confirm_11 rfl
  refine r_aload_n (pc := 12) ?_ dX10_confirm_12 rfl
  refine r_gl (pc := 13) ?_ dX10_confirm_13 cl_X10 (Nat.le_of_ble_eq_true rfl) rfl wd_5_142
  refine r_iload_n (pc := 16) ?_ dX10_confirm_16 rfl
  refine r_cv0 (pc := 17) ?_ dX10_confirm_17 cl_X10 ok_X10_ends rfl wd_5_198 ⟨Nat.le_of_ble_eq_true rfl, Nat.le_of_ble_eq_true rfl⟩ ⟨Nat.le_of_ble_eq_true rfl, Nat.le_of_ble_eq_true rfl⟩ rfl rfl
  exact r_ir dX10_confirm_20 rfl (Nat.le_of_ble_eq_true rfl) (Nat.le_of_ble_eq_true rfl)
abbrev Y_X10_doubt : YT := (yX10_doubt, cX10_doubt, 3, (some .int), 5, 113, 0, 0)
theorem ok_X10_doubt : okV Y_X10_doubt 1 := ⟨⟨wd_6_104, wd_1_9, by decide, by decide, by decide +kernel⟩, wd_6_102, wd_6_103⟩
def R_X10_doubt_0 (l : Launch) (G : GT) (F : FX) (Q : PQ) (QX : PX) : KT := (I_al 0 (I_cv (Tr true l G Y_X10_laysAside) 8 13 0 QX (I_al 0 (I_il 1 (I_cv (Tr true l G Y_X10_doubtsOldest) 8 13 1 QX (I_is 2 (I_al 0 (I_al 0 (I_gl 8 5 13 (I_il 2 (I_cv (Tr true l G Y_X10_ends) 8 13 2 QX (I_ir Q))))))))))))
set_option maxRecDepth 100000 in
theorem g_X10_doubt_0 {l : Launch} {G : GT} {F : FX} {Q : PQ} {QX : PX} : Le (R_X10_doubt_0 l G F Q QX) (Wj true l G F Y_X10_doubt Q QX 0 0 0) := by
  unfold R_X10_doubt_0
  refine r_aload_n (pc := 0) ?_ dX10_doubt_0 rfl
  refine r_cv0 (pc := 1) ?_ dX10_doubt_1 cl_X10 ok_X10_laysAside rfl wd_5_185 ⟨Nat.le_of_ble_eq_true rfl, Nat.le_of_ble_eq_true rfl⟩ ⟨Nat.le_of_ble_eq_true rfl, Nat.le_of_ble_eq_true rfl⟩ rfl rfl
  refine r_aload_n (pc := 4) ?_ dX10_doubt_4 rfl
  refine r_iload_n (pc := 5) ?_ dX10_doubt_5 rfl
  refine r_cv0 (pc := 6) ?_ dX10_doubt_6 cl_X10 ok_X10_doubtsOldest rfl wd_6_105 ⟨Nat.le_of_ble_eq_true rfl, Nat.le_of_ble_eq_true rfl⟩ ⟨Nat.le_of_ble_eq_true rfl, Nat.le_of_ble_eq_true rfl⟩ rfl rfl
  refine r_istore_n (pc := 9) ?_ dX10_doubt_9 rfl (Nat.le_of_ble_eq_true rfl)
  refine r_aload_n (pc := 10) ?_ dX10_doubt_10 rfl
  refine r_aload_n (pc := 11) ?_ dX10_doubt_11 rfl
  refine r_gl (pc := 12) ?_ dX10_doubt_12 cl_X10 (Nat.le_of_ble_eq_true rfl) rfl wd_5_142
  refine r_iload_n (pc := 15) ?_ dX10_doubt_15 rfl
  refine r_cv0 (pc := 16) ?_ dX10_doubt_16 cl_X10 ok_X10_ends rfl wd_5_198 ⟨Nat.le_of_ble_eq_true rfl, Nat.le_of_ble_eq_true rfl⟩ ⟨Nat.le_of_ble_eq_true rfl, Nat.le_of_ble_eq_true rfl⟩ rfl rfl
  exact r_ir dX10_doubt_19 rfl (Nat.le_of_ble_eq_true rfl) (Nat.le_of_ble_eq_true rfl)
abbrev Y_X10_settle : YT := (yX10_settle, cX10_settle, 4, (some .int), 4, 95, 0, 0)
theorem ok_X10_settle : okV Y_X10_settle 2 := ⟨⟨wd_6_116, wd_1_9, by decide, by decide, by decide +kernel⟩, wd_6_114, wd_6_115⟩
def R_X10_settle_0 (l : Launch) (G : GT) (F : FX) (Q : PQ) (QX : PX) : KT := (I_al 0 (I_cv (Tr true l G Y_X10_laysAside) 8 13 0 QX (I_al 0 (I_il 1 (I_il 2 (I_cv (Tr true l G Y_X10_settles) 8 13 2 QX (I_is 3 (I_al 0 (I_al 0 (I_gl 8 5 13 (I_il 3 (I_cv (Tr true l G Y_X10_ends) 8 13 2 QX (I_ir Q)))))))))))))
set_option maxRecDepth 100000 in
theorem g_X10_settle_0 {l : Launch} {G : GT} {F : FX} {Q : PQ} {QX : PX} : Le (R_X10_settle_0 l G F Q QX) (Wj true l G F Y_X10_settle Q QX 0 0 0) := by
  unfold R_X10_settle_0
  refine r_aload_n (pc := 0) ?_ dX10_settle_0 rfl
  refine r_cv0 (pc := 1) ?_ dX10_settle_1 cl_X10 ok_X10_laysAside rfl wd_5_185 ⟨Nat.le_of_ble_eq_true rfl, Nat.le_of_ble_eq_true rfl⟩ ⟨Nat.le_of_ble_eq_true rfl, Nat.le_of_ble_eq_true rfl⟩ rfl rfl
  refine r_aload_n (pc := 4) ?_ dX10_settle_4 rfl
  refine r_iload_n (pc := 5) ?_ dX10_settle_5 rfl
  refine r_iload_n (pc := 6) ?_ dX10_settle_6 rfl
  refine r_cv0 (pc := 7) ?_ dX10_settle_7 cl_X10 ok_X10_settles rfl wd_6_117 ⟨Nat.le_of_ble_eq_true rfl, Nat.le_of_ble_eq_true rfl⟩ ⟨Nat.le_of_ble_eq_true rfl, Nat.le_of_ble_eq_true rfl⟩ rfl rfl
  refine r_istore_n (pc := 10) ?_ dX10_settle_10 rfl (Nat.le_of_ble_eq_true rfl)
  refine r_aload_n (pc := 11) ?_ dX10_settle_11 rfl
  refine r_aload_n (pc := 12) ?_ dX10_settle_12 rfl
  refine r_gl (pc := 13) ?_ dX10_settle_13 cl_X10 (Nat.le_of_ble_eq_true rfl) rfl wd_5_142
  refine r_iload_n (pc := 16) ?_ dX10_settle_16 rfl
  refine r_cv0 (pc := 17) ?_ dX10_settle_17 cl_X10 ok_X10_ends rfl wd_5_198 ⟨Nat.le_of_ble_eq_true rfl, Nat.le_of_ble_eq_true rfl⟩ ⟨Nat.le_of_ble_eq_true rfl, Nat.le_of_ble_eq_true rfl⟩ rfl rfl
  exact r_ir dX10_settle_20 rfl (Nat.le_of_ble_eq_true rfl) (Nat.le_of_ble_eq_true rfl)
abbrev Y_X10_credit : YT := (yX10_credit, cX10_credit, 6, (some .int), 2, 46, 0, 0)
theorem ok_X10_credit : okV Y_X10_credit 3 := ⟨⟨wd_6_124, wd_1_9, by decide, by decide, by decide +kernel⟩, wd_6_122, wd_6_123⟩
def R_X10_credit_0 (l : Launch) (G : GT) (F : FX) (Q : PQ) (QX : PX) : KT := (I_al 0 (I_il 1 (I_cv (Tr true l G Y_X10_isApprentice) 8 13 1 QX (I_ifne (I_il 2 (I_cs (Tr true l G Y_X10_isPart) 1 QX (I_ifne (I_al 0 (I_il 1 (I_ic 2 (I_il 2 (I_iadd (I_cv (Tr true l G Y_X10_of) 8 13 2 QX (I_il 3 (I_i2l (I_ladd (I_ls 4 (I_ll 4 (I_lc 0 (I_lc (2147483647 : Int64) (I_cs (Tr true l G Y_X10_in) 3 QX (I_ifne (I_al 0 (I_cv (Tr true l G Y_X10_laysAside) 8 13 0 QX (I_al 0 (I_il 1 (I_ic 2 (I_il 2 (I_iadd (I_ll 4 (I_cv (Tr true l G Y_X10_put) 8 13 3 QX (I_al 0 (I_ll 4 (I_ic 0 (I_cv (Tr true l G Y_X10_ends) 8 13 2 QX (I_ir Q)))))))))))))) (I_al 0 (I_ic 3 (I_cv (Tr true l G Y_X10_fails) 8 13 1 QX (I_ir Q))))))))))))))))))) (I_al 0 (I_ic 2 (I_cv (Tr true l G Y_X10_fails) 8 13 1 QX (I_ir Q))))))) (I_al 0 (I_ic 1 (I_cv (Tr true l G Y_X10_fails) 8 13 1 QX (I_ir Q))))))))
set_option maxRecDepth 100000 in
theorem g_X10_credit_0 {l : Launch} {G : GT} {F : FX} {Q : PQ} {QX : PX} : Le (R_X10_credit_0 l G F Q QX) (Wj true l G F Y_X10_credit Q QX 0 0 0) := by
  unfold R_X10_credit_0
  refine r_aload_n (pc := 0) ?_ dX10_credit_0 rfl
  refine r_iload_n (pc := 1) ?_ dX10_credit_1 rfl
  refine r_cv0 (pc := 2) ?_ dX10_credit_2 cl_X10 ok_X10_isApprentice rfl wd_6_41 ⟨Nat.le_of_ble_eq_true rfl, Nat.le_of_ble_eq_true rfl⟩ ⟨Nat.le_of_ble_eq_true rfl, Nat.le_of_ble_eq_true rfl⟩ rfl rfl
  refine r_ifne (pc := 5) (t := 14) ?_ ?_ dX10_credit_5 (by decide)
  · refine r_iload_n (pc := 14) ?_ dX10_credit_14 rfl
    refine r_cs0 (pc := 15) ?_ dX10_credit_15 ok_X10_isPart wd_6_66 ⟨Nat.le_of_ble_eq_true rfl, Nat.le_of_ble_eq_true rfl⟩ ⟨Nat.le_of_ble_eq_true rfl, Nat.le_of_ble_eq_true rfl⟩ rfl rfl
    refine r_ifne (pc := 18) (t := 27) ?_ ?_ dX10_credit_18 (by decide)
    · refine r_aload_n (pc := 27) ?_ dX10_credit_27 rfl
      refine r_iload_n (pc := 28) ?_ dX10_credit_28 rfl
      refine r_iconst (pc := 29) ?_ dX10_credit_29 (by decide)
      refine r_iload_n (pc := 30) ?_ dX10_credit_30 rfl
      refine r_iadd (pc := 31) ?_ dX10_credit_31
      refine r_cv0 (pc := 32) ?_ dX10_credit_32 cl_X10 ok_X10_of rfl wd_6_25 ⟨Nat.le_of_ble_eq_true rfl, Nat.le_of_ble_eq_true rfl⟩ ⟨Nat.le_of_ble_eq_true rfl, Nat.le_of_ble_eq_true rfl⟩ rfl rfl
      refine r_iload_n (pc := 35) ?_ dX10_credit_35 rfl
      refine r_i2l (pc := 36) ?_ dX10_credit_36
      refine r_ladd (pc := 37) ?_ dX10_credit_37
      refine r_lstore (pc := 38) ?_ dX10_credit_38 (Nat.le_of_ble_eq_true rfl)
      refine r_lload (pc := 40) ?_ dX10_credit_40
      refine r_lconst (pc := 42) ?_ dX10_credit_42 (by decide)
      refine r_ldc2 (pc := 43) ?_ dX10_credit_43 wd_6_95
      refine r_cs0 (pc := 46) ?_ dX10_credit_46 ok_X10_in wd_5_194 ⟨Nat.le_of_ble_eq_true rfl, Nat.le_of_ble_eq_true rfl⟩ ⟨Nat.le_of_ble_eq_true rfl, Nat.le_of_ble_eq_true rfl⟩ rfl rfl
      refine r_ifne (pc := 49) (t := 58) ?_ ?_ dX10_credit_49 (by decide)
      · refine r_aload_n (pc := 58) ?_ dX10_credit_58 rfl
        refine r_cv0 (pc := 59) ?_ dX10_credit_59 cl_X10 ok_X10_laysAside rfl wd_5_185 ⟨Nat.le_of_ble_eq_true rfl, Nat.le_of_ble_eq_true rfl⟩ ⟨Nat.le_of_ble_eq_true rfl, Nat.le_of_ble_eq_true rfl⟩ rfl rfl
        refine r_aload_n (pc := 62) ?_ dX10_credit_62 rfl
        refine r_iload_n (pc := 63) ?_ dX10_credit_63 rfl
        refine r_iconst (pc := 64) ?_ dX10_credit_64 (by decide)
        refine r_iload_n (pc := 65) ?_ dX10_credit_65 rfl
        refine r_iadd (pc := 66) ?_ dX10_credit_66
        refine r_lload (pc := 67) ?_ dX10_credit_67
        refine r_cv0 (pc := 69) ?_ dX10_credit_69 cl_X10 ok_X10_put rfl wd_6_29 ⟨Nat.le_of_ble_eq_true rfl, Nat.le_of_ble_eq_true rfl⟩ ⟨Nat.le_of_ble_eq_true rfl, Nat.le_of_ble_eq_true rfl⟩ rfl rfl
        refine r_aload_n (pc := 72) ?_ dX10_credit_72 rfl
        refine r_lload (pc := 73) ?_ dX10_credit_73
        refine r_iconst (pc := 75) ?_ dX10_credit_75 (by decide)
        refine r_cv0 (pc := 76) ?_ dX10_credit_76 cl_X10 ok_X10_ends rfl wd_5_198 ⟨Nat.le_of_ble_eq_true rfl, Nat.le_of_ble_eq_true rfl⟩ ⟨Nat.le_of_ble_eq_true rfl, Nat.le_of_ble_eq_true rfl⟩ rfl rfl
        exact r_ir dX10_credit_79 rfl (Nat.le_of_ble_eq_true rfl) (Nat.le_of_ble_eq_true rfl)
      · refine r_aload_n (pc := 52) ?_ dX10_credit_52 rfl
        refine r_iconst (pc := 53) ?_ dX10_credit_53 (by decide)
        refine r_cv0 (pc := 54) ?_ dX10_credit_54 cl_X10 ok_X10_fails rfl wd_5_206 ⟨Nat.le_of_ble_eq_true rfl, Nat.le_of_ble_eq_true rfl⟩ ⟨Nat.le_of_ble_eq_true rfl, Nat.le_of_ble_eq_true rfl⟩ rfl rfl
        exact r_ir dX10_credit_57 rfl (Nat.le_of_ble_eq_true rfl) (Nat.le_of_ble_eq_true rfl)
    · refine r_aload_n (pc := 21) ?_ dX10_credit_21 rfl
      refine r_iconst (pc := 22) ?_ dX10_credit_22 (by decide)
      refine r_cv0 (pc := 23) ?_ dX10_credit_23 cl_X10 ok_X10_fails rfl wd_5_206 ⟨Nat.le_of_ble_eq_true rfl, Nat.le_of_ble_eq_true rfl⟩ ⟨Nat.le_of_ble_eq_true rfl, Nat.le_of_ble_eq_true rfl⟩ rfl rfl
      exact r_ir dX10_credit_26 rfl (Nat.le_of_ble_eq_true rfl) (Nat.le_of_ble_eq_true rfl)
  · refine r_aload_n (pc := 8) ?_ dX10_credit_8 rfl
    refine r_iconst (pc := 9) ?_ dX10_credit_9 (by decide)
    refine r_cv0 (pc := 10) ?_ dX10_credit_10 cl_X10 ok_X10_fails rfl wd_5_206 ⟨Nat.le_of_ble_eq_true rfl, Nat.le_of_ble_eq_true rfl⟩ ⟨Nat.le_of_ble_eq_true rfl, Nat.le_of_ble_eq_true rfl⟩ rfl rfl
    exact r_ir dX10_credit_13 rfl (Nat.le_of_ble_eq_true rfl) (Nat.le_of_ble_eq_true rfl)
abbrev Y_X10_endDay : YT := (yX10_endDay, cX10_endDay, 2, (some .int), 5, 115, 0, 0)
theorem ok_X10_endDay : okV Y_X10_endDay 0 := ⟨⟨wd_6_128, wd_1_9, by decide, by decide, by decide +kernel⟩, wd_6_126, wd_6_127⟩
def R_X10_endDay_0 (l : Launch) (G : GT) (F : FX) (Q : PQ) (QX : PX) : KT := (I_al 0 (I_cv (Tr true l G Y_X10_laysAside) 8 13 0 QX (I_al 0 (I_cv (Tr true l G Y_X10_endsDay) 8 13 0 QX (I_is 1 (I_al 0 (I_al 0 (I_gl 8 5 13 (I_il 1 (I_cv (Tr true l G Y_X10_ends) 8 13 2 QX (I_ir Q)))))))))))
set_option maxRecDepth 100000 in
theorem g_X10_endDay_0 {l : Launch} {G : GT} {F : FX} {Q : PQ} {QX : PX} : Le (R_X10_endDay_0 l G F Q QX) (Wj true l G F Y_X10_endDay Q QX 0 0 0) := by
  unfold R_X10_endDay_0
  refine r_aload_n (pc := 0) ?_ dX10_endDay_0 rfl
  refine r_cv0 (pc := 1) ?_ dX10_endDay_1 cl_X10 ok_X10_laysAside rfl wd_5_185 ⟨Nat.le_of_ble_eq_true rfl, Nat.le_of_ble_eq_true rfl⟩ ⟨Nat.le_of_ble_eq_true rfl, Nat.le_of_ble_eq_true rfl⟩ rfl rfl
  refine r_aload_n (pc := 4) ?_ dX10_endDay_4 rfl
  refine r_cv0 (pc := 5) ?_ dX10_endDay_5 cl_X10 ok_X10_endsDay rfl wd_6_129 ⟨Nat.le_of_ble_eq_true rfl, Nat.le_of_ble_eq_true rfl⟩ ⟨Nat.le_of_ble_eq_true rfl, Nat.le_of_ble_eq_true rfl⟩ rfl rfl
  refine r_istore_n (pc := 8) ?_ dX10_endDay_8 rfl (Nat.le_of_ble_eq_true rfl)
  refine r_aload_n (pc := 9) ?_ dX10_endDay_9 rfl
  refine r_aload_n (pc := 10) ?_ dX10_endDay_10 rfl
  refine r_gl (pc := 11) ?_ dX10_endDay_11 cl_X10 (Nat.le_of_ble_eq_true rfl) rfl wd_5_142
  refine r_iload_n (pc := 14) ?_ dX10_endDay_14 rfl
  refine r_cv0 (pc := 15) ?_ dX10_endDay_15 cl_X10 ok_X10_ends rfl wd_5_198 ⟨Nat.le_of_ble_eq_true rfl, Nat.le_of_ble_eq_true rfl⟩ ⟨Nat.le_of_ble_eq_true rfl, Nat.le_of_ble_eq_true rfl⟩ rfl rfl
  exact r_ir dX10_endDay_18 rfl (Nat.le_of_ble_eq_true rfl) (Nat.le_of_ble_eq_true rfl)
abbrev Y_X10_move : YT := (yX10_move, cX10_move, 4, (some .int), 6, 138, 0, 0)
theorem ok_X10_move : okV Y_X10_move 2 := ⟨⟨wd_6_137, wd_1_9, by decide, by decide, by decide +kernel⟩, wd_6_135, wd_6_136⟩
def R_X10_move_0 (l : Launch) (G : GT) (F : FX) (Q : PQ) (QX : PX) : KT := (I_al 0 (I_cv (Tr true l G Y_X10_laysAside) 8 13 0 QX (I_al 0 (I_il 1 (I_il 2 (I_cv (Tr true l G Y_X10_moves) 8 13 2 QX (I_is 3 (I_al 0 (I_al 0 (I_gl 8 5 13 (I_il 3 (I_cv (Tr true l G Y_X10_ends) 8 13 2 QX (I_ir Q)))))))))))))
set_option maxRecDepth 100000 in
theorem g_X10_move_0 {l : Launch} {G : GT} {F : FX} {Q : PQ} {QX : PX} : Le (R_X10_move_0 l G F Q QX) (Wj true l G F Y_X10_move Q QX 0 0 0) := by
  unfold R_X10_move_0
  refine r_aload_n (pc := 0) ?_ dX10_move_0 rfl
  refine r_cv0 (pc := 1) ?_ dX10_move_1 cl_X10 ok_X10_laysAside rfl wd_5_185 ⟨Nat.le_of_ble_eq_true rfl, Nat.le_of_ble_eq_true rfl⟩ ⟨Nat.le_of_ble_eq_true rfl, Nat.le_of_ble_eq_true rfl⟩ rfl rfl
  refine r_aload_n (pc := 4) ?_ dX10_move_4 rfl
  refine r_iload_n (pc := 5) ?_ dX10_move_5 rfl
  refine r_iload_n (pc := 6) ?_ dX10_move_6 rfl
  refine r_cv0 (pc := 7) ?_ dX10_move_7 cl_X10 ok_X10_moves rfl wd_6_138 ⟨Nat.le_of_ble_eq_true rfl, Nat.le_of_ble_eq_true rfl⟩ ⟨Nat.le_of_ble_eq_true rfl, Nat.le_of_ble_eq_true rfl⟩ rfl rfl
  refine r_istore_n (pc := 10) ?_ dX10_move_10 rfl (Nat.le_of_ble_eq_true rfl)
  refine r_aload_n (pc := 11) ?_ dX10_move_11 rfl
  refine r_aload_n (pc := 12) ?_ dX10_move_12 rfl
  refine r_gl (pc := 13) ?_ dX10_move_13 cl_X10 (Nat.le_of_ble_eq_true rfl) rfl wd_5_142
  refine r_iload_n (pc := 16) ?_ dX10_move_16 rfl
  refine r_cv0 (pc := 17) ?_ dX10_move_17 cl_X10 ok_X10_ends rfl wd_5_198 ⟨Nat.le_of_ble_eq_true rfl, Nat.le_of_ble_eq_true rfl⟩ ⟨Nat.le_of_ble_eq_true rfl, Nat.le_of_ble_eq_true rfl⟩ rfl rfl
  exact r_ir dX10_move_20 rfl (Nat.le_of_ble_eq_true rfl) (Nat.le_of_ble_eq_true rfl)
abbrev Y_X10_leave : YT := (yX10_leave, cX10_leave, 3, (some .int), 2, 46, 0, 0)
theorem ok_X10_leave : okV Y_X10_leave 1 := ⟨⟨wd_6_157, wd_1_9, by decide, by decide, by decide +kernel⟩, wd_6_155, wd_6_156⟩
def R_X10_leave_0 (l : Launch) (G : GT) (F : FX) (Q : PQ) (QX : PX) : KT := (I_al 0 (I_il 1 (I_cv (Tr true l G Y_X10_isApprentice) 8 13 1 QX (I_ifne (I_al 0 (I_il 1 (I_cv (Tr true l G Y_X10_mentorOf) 8 13 1 QX (I_is 2 (I_il 2 (I_ic (-1) (I_icne (I_al 0 (I_cv (Tr true l G Y_X10_laysAside) 8 13 0 QX (I_al 0 (I_il 1 (I_ic 1 (I_lc (-1 : Int64) (I_cv (Tr true l G Y_X10_put) 8 13 3 QX (I_al 0 (I_il 2 (I_i2l (I_ic 0 (I_cv (Tr true l G Y_X10_ends) 8 13 2 QX (I_ir Q))))))))))))) (I_al 0 (I_ic 2 (I_cv (Tr true l G Y_X10_fails) 8 13 1 QX (I_ir Q))))))))))) (I_al 0 (I_ic 1 (I_cv (Tr true l G Y_X10_fails) 8 13 1 QX (I_ir Q))))))))
set_option maxRecDepth 100000 in
theorem g_X10_leave_0 {l : Launch} {G : GT} {F : FX} {Q : PQ} {QX : PX} : Le (R_X10_leave_0 l G F Q QX) (Wj true l G F Y_X10_leave Q QX 0 0 0) := by
  unfold R_X10_leave_0
  refine r_aload_n (pc := 0) ?_ dX10_leave_0 rfl
  refine r_iload_n (pc := 1) ?_ dX10_leave_1 rfl
  refine r_cv0 (pc := 2) ?_ dX10_leave_2 cl_X10 ok_X10_isApprentice rfl wd_6_41 ⟨Nat.le_of_ble_eq_true rfl, Nat.le_of_ble_eq_true rfl⟩ ⟨Nat.le_of_ble_eq_true rfl, Nat.le_of_ble_eq_true rfl⟩ rfl rfl
  refine r_ifne (pc := 5) (t := 14) ?_ ?_ dX10_leave_5 (by decide)
  · refine r_aload_n (pc := 14) ?_ dX10_leave_14 rfl
    refine r_iload_n (pc := 15) ?_ dX10_leave_15 rfl
    refine r_cv0 (pc := 16) ?_ dX10_leave_16 cl_X10 ok_X10_mentorOf rfl wd_6_21 ⟨Nat.le_of_ble_eq_true rfl, Nat.le_of_ble_eq_true rfl⟩ ⟨Nat.le_of_ble_eq_true rfl, Nat.le_of_ble_eq_true rfl⟩ rfl rfl
    refine r_istore_n (pc := 19) ?_ dX10_leave_19 rfl (Nat.le_of_ble_eq_true rfl)
    refine r_iload_n (pc := 20) ?_ dX10_leave_20 rfl
    refine r_iconst (pc := 21) ?_ dX10_leave_21 (by decide)
    refine r_icne (pc := 22) (t := 31) ?_ ?_ dX10_leave_22 (by decide)
    · refine r_aload_n (pc := 31) ?_ dX10_leave_31 rfl
      refine r_cv0 (pc := 32) ?_ dX10_leave_32 cl_X10 ok_X10_laysAside rfl wd_5_185 ⟨Nat.le_of_ble_eq_true rfl, Nat.le_of_ble_eq_true rfl⟩ ⟨Nat.le_of_ble_eq_true rfl, Nat.le_of_ble_eq_true rfl⟩ rfl rfl
      refine r_aload_n (pc := 35) ?_ dX10_leave_35 rfl
      refine r_iload_n (pc := 36) ?_ dX10_leave_36 rfl
      refine r_iconst (pc := 37) ?_ dX10_leave_37 (by decide)
      refine r_ldc2 (pc := 38) ?_ dX10_leave_38 wd_6_100
      refine r_cv0 (pc := 41) ?_ dX10_leave_41 cl_X10 ok_X10_put rfl wd_6_29 ⟨Nat.le_of_ble_eq_true rfl, Nat.le_of_ble_eq_true rfl⟩ ⟨Nat.le_of_ble_eq_true rfl, Nat.le_of_ble_eq_true rfl⟩ rfl rfl
      refine r_aload_n (pc := 44) ?_ dX10_leave_44 rfl
      refine r_iload_n (pc := 45) ?_ dX10_leave_45 rfl
      refine r_i2l (pc := 46) ?_ dX10_leave_46
      refine r_iconst (pc := 47) ?_ dX10_leave_47 (by decide)
      refine r_cv0 (pc := 48) ?_ dX10_leave_48 cl_X10 ok_X10_ends rfl wd_5_198 ⟨Nat.le_of_ble_eq_true rfl, Nat.le_of_ble_eq_true rfl⟩ ⟨Nat.le_of_ble_eq_true rfl, Nat.le_of_ble_eq_true rfl⟩ rfl rfl
      exact r_ir dX10_leave_51 rfl (Nat.le_of_ble_eq_true rfl) (Nat.le_of_ble_eq_true rfl)
    · refine r_aload_n (pc := 25) ?_ dX10_leave_25 rfl
      refine r_iconst (pc := 26) ?_ dX10_leave_26 (by decide)
      refine r_cv0 (pc := 27) ?_ dX10_leave_27 cl_X10 ok_X10_fails rfl wd_5_206 ⟨Nat.le_of_ble_eq_true rfl, Nat.le_of_ble_eq_true rfl⟩ ⟨Nat.le_of_ble_eq_true rfl, Nat.le_of_ble_eq_true rfl⟩ rfl rfl
      exact r_ir dX10_leave_30 rfl (Nat.le_of_ble_eq_true rfl) (Nat.le_of_ble_eq_true rfl)
  · refine r_aload_n (pc := 8) ?_ dX10_leave_8 rfl
    refine r_iconst (pc := 9) ?_ dX10_leave_9 (by decide)
    refine r_cv0 (pc := 10) ?_ dX10_leave_10 cl_X10 ok_X10_fails rfl wd_5_206 ⟨Nat.le_of_ble_eq_true rfl, Nat.le_of_ble_eq_true rfl⟩ ⟨Nat.le_of_ble_eq_true rfl, Nat.le_of_ble_eq_true rfl⟩ rfl rfl
    exact r_ir dX10_leave_13 rfl (Nat.le_of_ble_eq_true rfl) (Nat.le_of_ble_eq_true rfl)
abbrev Y_X10_exchange : YT := (yX10_exchange, cX10_exchange, 4, (some .int), 6, 139, 0, 0)
theorem ok_X10_exchange : okV Y_X10_exchange 2 := ⟨⟨wd_6_161, wd_1_9, by decide, by decide, by decide +kernel⟩, wd_6_159, wd_6_160⟩
def R_X10_exchange_0 (l : Launch) (G : GT) (F : FX) (Q : PQ) (QX : PX) : KT := (I_al 0 (I_cv (Tr true l G Y_X10_laysAside) 8 13 0 QX (I_al 0 (I_il 1 (I_il 2 (I_cv (Tr true l G Y_X10_swaps) 8 13 2 QX (I_is 3 (I_al 0 (I_al 0 (I_gl 8 5 13 (I_il 3 (I_cv (Tr true l G Y_X10_ends) 8 13 2 QX (I_ir Q)))))))))))))
set_option maxRecDepth 100000 in
theorem g_X10_exchange_0 {l : Launch} {G : GT} {F : FX} {Q : PQ} {QX : PX} : Le (R_X10_exchange_0 l G F Q QX) (Wj true l G F Y_X10_exchange Q QX 0 0 0) := by
  unfold R_X10_exchange_0
  refine r_aload_n (pc := 0) ?_ dX10_exchange_0 rfl
  refine r_cv0 (pc := 1) ?_ dX10_exchange_1 cl_X10 ok_X10_laysAside rfl wd_5_185 ⟨Nat.le_of_ble_eq_true rfl, Nat.le_of_ble_eq_true rfl⟩ ⟨Nat.le_of_ble_eq_true rfl, Nat.le_of_ble_eq_true rfl⟩ rfl rfl
  refine r_aload_n (pc := 4) ?_ dX10_exchange_4 rfl
  refine r_iload_n (pc := 5) ?_ dX10_exchange_5 rfl
  refine r_iload_n (pc := 6) ?_ dX10_exchange_6 rfl
  refine r_cv0 (pc := 7) ?_ dX10_exchange_7 cl_X10 ok_X10_swaps rfl wd_6_162 ⟨Nat.le_of_ble_eq_true rfl, Nat.le_of_ble_eq_true rfl⟩ ⟨Nat.le_of_ble_eq_true rfl, Nat.le_of_ble_eq_true rfl⟩ rfl rfl
  refine r_istore_n (pc := 10) ?_ dX10_exchange_10 rfl (Nat.le_of_ble_eq_true rfl)
  refine r_aload_n (pc := 11) ?_ dX10_exchange_11 rfl
  refine r_aload_n (pc := 12) ?_ dX10_exchange_12 rfl
  refine r_gl (pc := 13) ?_ dX10_exchange_13 cl_X10 (Nat.le_of_ble_eq_true rfl) rfl wd_5_142
  refine r_iload_n (pc := 16) ?_ dX10_exchange_16 rfl
  refine r_cv0 (pc := 17) ?_ dX10_exchange_17 cl_X10 ok_X10_ends rfl wd_5_198 ⟨Nat.le_of_ble_eq_true rfl, Nat.le_of_ble_eq_true rfl⟩ ⟨Nat.le_of_ble_eq_true rfl, Nat.le_of_ble_eq_true rfl⟩ rfl rfl
  exact r_ir dX10_exchange_20 rfl (Nat.le_of_ble_eq_true rfl) (Nat.le_of_ble_eq_true rfl)
abbrev Y_X10_reason : YT := (yX10_reason, cX10_reason, 3, (some .int), 5, 109, 0, 0)
theorem ok_X10_reason : okV Y_X10_reason 2 := ⟨⟨wd_6_173, wd_1_9, by decide, by decide, by decide +kernel⟩, wd_6_171, wd_6_172⟩
def R_X10_reason_0 (l : Launch) (G : GT) (F : FX) (Q : PQ) (QX : PX) : KT := (I_al 0 (I_il 1 (I_cv (Tr true l G Y_X10_isApprentice) 8 13 1 QX (I_ifeq (I_al 0 (I_ic 1 (I_cv (Tr true l G Y_X10_fails) 8 13 1 QX (I_ir Q)))) (I_al 0 (I_il 2 (I_cv (Tr true l G Y_X10_isMentor) 8 13 1 QX (I_ifeq (I_al 0 (I_ic 1 (I_cv (Tr true l G Y_X10_fails) 8 13 1 QX (I_ir Q)))) (I_al 0 (I_al 0 (I_il 1 (I_il 2 (I_cv (Tr true l G Y_X10_reasonOf) 8 13 2 QX (I_i2l (I_cv (Tr true l G Y_X10_tells) 8 13 1 QX (I_ir Q))))))))))))))))
set_option maxRecDepth 100000 in
theorem g_X10_reason_0 {l : Launch} {G : GT} {F : FX} {Q : PQ} {QX : PX} : Le (R_X10_reason_0 l G F Q QX) (Wj true l G F Y_X10_reason Q QX 0 0 0) := by
  unfold R_X10_reason_0
  refine r_aload_n (pc := 0) ?_ dX10_reason_0 rfl
  refine r_iload_n (pc := 1) ?_ dX10_reason_1 rfl
  refine r_cv0 (pc := 2) ?_ dX10_reason_2 cl_X10 ok_X10_isApprentice rfl wd_6_41 ⟨Nat.le_of_ble_eq_true rfl, Nat.le_of_ble_eq_true rfl⟩ ⟨Nat.le_of_ble_eq_true rfl, Nat.le_of_ble_eq_true rfl⟩ rfl rfl
  refine r_ifeq (pc := 5) (t := 30) ?_ ?_ dX10_reason_5 (by decide)
  · refine r_aload_n (pc := 30) ?_ dX10_reason_30 rfl
    refine r_iconst (pc := 31) ?_ dX10_reason_31 (by decide)
    refine r_cv0 (pc := 32) ?_ dX10_reason_32 cl_X10 ok_X10_fails rfl wd_5_206 ⟨Nat.le_of_ble_eq_true rfl, Nat.le_of_ble_eq_true rfl⟩ ⟨Nat.le_of_ble_eq_true rfl, Nat.le_of_ble_eq_true rfl⟩ rfl rfl
    exact r_ir dX10_reason_35 rfl (Nat.le_of_ble_eq_true rfl) (Nat.le_of_ble_eq_true rfl)
  · refine r_aload_n (pc := 8) ?_ dX10_reason_8 rfl
    refine r_iload_n (pc := 9) ?_ dX10_reason_9 rfl
    refine r_cv0 (pc := 10) ?_ dX10_reason_10 cl_X10 ok_X10_isMentor rfl wd_6_0 ⟨Nat.le_of_ble_eq_true rfl, Nat.le_of_ble_eq_true rfl⟩ ⟨Nat.le_of_ble_eq_true rfl, Nat.le_of_ble_eq_true rfl⟩ rfl rfl
    refine r_ifeq (pc := 13) (t := 30) ?_ ?_ dX10_reason_13 (by decide)
    · refine r_aload_n (pc := 30) ?_ dX10_reason_30 rfl
      refine r_iconst (pc := 31) ?_ dX10_reason_31 (by decide)
      refine r_cv0 (pc := 32) ?_ dX10_reason_32 cl_X10 ok_X10_fails rfl wd_5_206 ⟨Nat.le_of_ble_eq_true rfl, Nat.le_of_ble_eq_true rfl⟩ ⟨Nat.le_of_ble_eq_true rfl, Nat.le_of_ble_eq_true rfl⟩ rfl rfl
      exact r_ir dX10_reason_35 rfl (Nat.le_of_ble_eq_true rfl) (Nat.le_of_ble_eq_true rfl)
    · refine r_aload_n (pc := 16) ?_ dX10_reason_16 rfl
      refine r_aload_n (pc := 17) ?_ dX10_reason_17 rfl
      refine r_iload_n (pc := 18) ?_ dX10_reason_18 rfl
      refine r_iload_n (pc := 19) ?_ dX10_reason_19 rfl
      refine r_cv0 (pc := 20) ?_ dX10_reason_20 cl_X10 ok_X10_reasonOf rfl wd_6_142 ⟨Nat.le_of_ble_eq_true rfl, Nat.le_of_ble_eq_true rfl⟩ ⟨Nat.le_of_ble_eq_true rfl, Nat.le_of_ble_eq_true rfl⟩ rfl rfl
      refine r_i2l (pc := 23) ?_ dX10_reason_23
      refine r_cv0 (pc := 24) ?_ dX10_reason_24 cl_X10 ok_X10_tells rfl wd_5_214 ⟨Nat.le_of_ble_eq_true rfl, Nat.le_of_ble_eq_true rfl⟩ ⟨Nat.le_of_ble_eq_true rfl, Nat.le_of_ble_eq_true rfl⟩ rfl rfl
      refine r_goto (pc := 27) (t := 35) ?_ dX10_reason_27 (by decide)
      exact r_ir dX10_reason_35 rfl (Nat.le_of_ble_eq_true rfl) (Nat.le_of_ble_eq_true rfl)
abbrev Y_X10_mentorTold : YT := (yX10_mentorTold, cX10_mentorTold, 7, (some .long), 3, 70, 0, 0)
theorem ok_X10_mentorTold : okV Y_X10_mentorTold 2 := ⟨⟨wd_6_181, wd_1_9, by decide, by decide, by decide +kernel⟩, wd_6_180, wp_78⟩
def R_X10_mentorTold_0 (l : Launch) (G : GT) (F : FX) (Q : PQ) (QX : PX) : KT := (I_il 2 (I_ic 2 (I_icge (I_il 2 (I_ic 4 (I_icne (I_lc 0 (I_ls 3 (I_ic 0 (I_is 5 (Wj true l G F Y_X10_mentorTold Q QX 0 0 29))))) (I_al 0 (I_il 1 (I_ic 2 (I_cv (Tr true l G Y_X10_ofMentor) 8 13 2 QX (I_lr Q)))))))) (I_al 0 (I_il 1 (I_il 2 (I_cv (Tr true l G Y_X10_ofMentor) 8 13 2 QX (I_lr Q))))))))
set_option maxRecDepth 100000 in
theorem g_X10_mentorTold_0 {l : Launch} {G : GT} {F : FX} {Q : PQ} {QX : PX} : Le (R_X10_mentorTold_0 l G F Q QX) (Wj true l G F Y_X10_mentorTold Q QX 0 0 0) := by
  unfold R_X10_mentorTold_0
  refine r_iload_n (pc := 0) ?_ dX10_mentorTold_0 rfl
  refine r_iconst (pc := 1) ?_ dX10_mentorTold_1 (by decide)
  refine r_icge (pc := 2) (t := 12) ?_ ?_ dX10_mentorTold_2 (by decide)
  · refine r_iload_n (pc := 12) ?_ dX10_mentorTold_12 rfl
    refine r_iconst (pc := 13) ?_ dX10_mentorTold_13 (by decide)
    refine r_icne (pc := 14) (t := 24) ?_ ?_ dX10_mentorTold_14 (by decide)
    · refine r_lconst (pc := 24) ?_ dX10_mentorTold_24 (by decide)
      refine r_lstore_n (pc := 25) ?_ dX10_mentorTold_25 rfl (Nat.le_of_ble_eq_true rfl)
      refine r_iconst (pc := 26) ?_ dX10_mentorTold_26 (by decide)
      refine r_istore (pc := 27) ?_ dX10_mentorTold_27 (Nat.le_of_ble_eq_true rfl)
      exact Le.rf
    · refine r_aload_n (pc := 17) ?_ dX10_mentorTold_17 rfl
      refine r_iload_n (pc := 18) ?_ dX10_mentorTold_18 rfl
      refine r_iconst (pc := 19) ?_ dX10_mentorTold_19 (by decide)
      refine r_cv0 (pc := 20) ?_ dX10_mentorTold_20 cl_X10 ok_X10_ofMentor rfl wd_6_9 ⟨Nat.le_of_ble_eq_true rfl, Nat.le_of_ble_eq_true rfl⟩ ⟨Nat.le_of_ble_eq_true rfl, Nat.le_of_ble_eq_true rfl⟩ rfl rfl
      exact r_lr dX10_mentorTold_23 rfl (Nat.le_of_ble_eq_true rfl) (Nat.le_of_ble_eq_true rfl)
  · refine r_aload_n (pc := 5) ?_ dX10_mentorTold_5 rfl
    refine r_iload_n (pc := 6) ?_ dX10_mentorTold_6 rfl
    refine r_iload_n (pc := 7) ?_ dX10_mentorTold_7 rfl
    refine r_cv0 (pc := 8) ?_ dX10_mentorTold_8 cl_X10 ok_X10_ofMentor rfl wd_6_9 ⟨Nat.le_of_ble_eq_true rfl, Nat.le_of_ble_eq_true rfl⟩ ⟨Nat.le_of_ble_eq_true rfl, Nat.le_of_ble_eq_true rfl⟩ rfl rfl
    exact r_lr dX10_mentorTold_11 rfl (Nat.le_of_ble_eq_true rfl) (Nat.le_of_ble_eq_true rfl)
def R_X10_mentorTold_29 (l : Launch) (G : GT) (F : FX) (Q : PQ) (QX : PX) : KT := (I_il 5 (I_i2l (I_al 0 (I_gp 8 13 1 (I_ic 2 (I_lal (I_lcmp (I_ifge (I_ll 3 (I_lr Q)) (I_al 0 (I_il 5 (I_cv (Tr true l G Y_X10_mentorOf) 8 13 1 QX (I_il 1 (I_icne (I_ic 0 (Wj true l G F Y_X10_mentorTold Q QX 0 0 57)) (I_ic 1 (Wj true l G F Y_X10_mentorTold Q QX 0 0 57)))))))))))))))
set_option maxRecDepth 100000 in
theorem g_X10_mentorTold_29 {l : Launch} {G : GT} {F : FX} {Q : PQ} {QX : PX} : Le (R_X10_mentorTold_29 l G F Q QX) (Wj true l G F Y_X10_mentorTold Q QX 0 0 29) := by
  unfold R_X10_mentorTold_29
  refine r_iload (pc := 29) ?_ dX10_mentorTold_29
  refine r_i2l (pc := 31) ?_ dX10_mentorTold_31
  refine r_aload_n (pc := 32) ?_ dX10_mentorTold_32 rfl
  refine r_gp (pc := 33) (kf := 0) ?_ dX10_mentorTold_33 cl_X10 (Nat.le_of_ble_eq_true rfl) rfl wd_5_137 pv_X10_0
  refine r_iconst (pc := 36) ?_ dX10_mentorTold_36 (by decide)
  refine r_lal (pc := 37) ?_ dX10_mentorTold_37
  refine r_lcmp (pc := 38) ?_ dX10_mentorTold_38
  refine r_ifge (pc := 39) (t := 103) ?_ ?_ dX10_mentorTold_39 (by decide)
  · refine r_lload_n (pc := 103) ?_ dX10_mentorTold_103 rfl
    exact r_lr dX10_mentorTold_104 rfl (Nat.le_of_ble_eq_true rfl) (Nat.le_of_ble_eq_true rfl)
  · refine r_aload_n (pc := 42) ?_ dX10_mentorTold_42 rfl
    refine r_iload (pc := 43) ?_ dX10_mentorTold_43
    refine r_cv0 (pc := 45) ?_ dX10_mentorTold_45 cl_X10 ok_X10_mentorOf rfl wd_6_21 ⟨Nat.le_of_ble_eq_true rfl, Nat.le_of_ble_eq_true rfl⟩ ⟨Nat.le_of_ble_eq_true rfl, Nat.le_of_ble_eq_true rfl⟩ rfl rfl
    refine r_iload_n (pc := 48) ?_ dX10_mentorTold_48 rfl
    refine r_icne (pc := 49) (t := 56) ?_ ?_ dX10_mentorTold_49 (by decide)
    · refine r_iconst (pc := 56) ?_ dX10_mentorTold_56 (by decide)
      exact Le.rf
    · refine r_iconst (pc := 52) ?_ dX10_mentorTold_52 (by decide)
      refine r_goto (pc := 53) (t := 57) ?_ dX10_mentorTold_53 (by decide)
      exact Le.rf
def R_X10_mentorTold_57 (l : Launch) (G : GT) (F : FX) (Q : PQ) (QX : PX) : KT := (I_is 6 (I_ll 3 (I_il 6 (I_ifne (I_il 2 (I_ic 2 (I_icne (I_al 0 (I_il 5 (I_ic 9 (I_cv (Tr true l G Y_X10_of) 8 13 2 QX (I_al 0 (I_il 5 (I_il 1 (I_cv (Tr true l G Y_X10_strange) 8 13 2 QX (I_i2l (I_lsub (I_ladd (I_ls 3 (I_inc 5 1 (I_kl 6 (Wj true l G F Y_X10_mentorTold Q QX 0 0 29))))))))))))))) (I_lc 1 (I_ladd (I_ls 3 (I_inc 5 1 (I_kl 6 (Wj true l G F Y_X10_mentorTold Q QX 0 0 29))))))))) (I_lc 0 (I_ladd (I_ls 3 (I_inc 5 1 (I_kl 6 (Wj true l G F Y_X10_mentorTold Q QX 0 0 29))))))))))
set_option maxRecDepth 100000 in
theorem g_X10_mentorTold_57 {l : Launch} {G : GT} {F : FX} {Q : PQ} {QX : PX} : Le (R_X10_mentorTold_57 l G F Q QX) (Wj true l G F Y_X10_mentorTold Q QX 0 0 57) := by
  unfold R_X10_mentorTold_57
  refine r_istore (pc := 57) ?_ dX10_mentorTold_57 (Nat.le_of_ble_eq_true rfl)
  refine r_lload_n (pc := 59) ?_ dX10_mentorTold_59 rfl
  refine r_iload (pc := 60) ?_ dX10_mentorTold_60
  refine r_ifne (pc := 62) (t := 69) ?_ ?_ dX10_mentorTold_62 (by decide)
  · refine r_iload_n (pc := 69) ?_ dX10_mentorTold_69 rfl
    refine r_iconst (pc := 70) ?_ dX10_mentorTold_70 (by decide)
    refine r_icne (pc := 71) (t := 78) ?_ ?_ dX10_mentorTold_71 (by decide)
    · refine r_aload_n (pc := 78) ?_ dX10_mentorTold_78 rfl
      refine r_iload (pc := 79) ?_ dX10_mentorTold_79
      refine r_bipush (pc := 81) ?_ dX10_mentorTold_81 (by decide)
      refine r_cv0 (pc := 83) ?_ dX10_mentorTold_83 cl_X10 ok_X10_of rfl wd_6_25 ⟨Nat.le_of_ble_eq_true rfl, Nat.le_of_ble_eq_true rfl⟩ ⟨Nat.le_of_ble_eq_true rfl, Nat.le_of_ble_eq_true rfl⟩ rfl rfl
      refine r_aload_n (pc := 86) ?_ dX10_mentorTold_86 rfl
      refine r_iload (pc := 87) ?_ dX10_mentorTold_87
      refine r_iload_n (pc := 89) ?_ dX10_mentorTold_89 rfl
      refine r_cv0 (pc := 90) ?_ dX10_mentorTold_90 cl_X10 ok_X10_strange rfl wd_6_150 ⟨Nat.le_of_ble_eq_true rfl, Nat.le_of_ble_eq_true rfl⟩ ⟨Nat.le_of_ble_eq_true rfl, Nat.le_of_ble_eq_true rfl⟩ rfl rfl
      refine r_i2l (pc := 93) ?_ dX10_mentorTold_93
      refine r_lsub (pc := 94) ?_ dX10_mentorTold_94
      refine r_ladd (pc := 95) ?_ dX10_mentorTold_95
      refine r_lstore_n (pc := 96) ?_ dX10_mentorTold_96 rfl (Nat.le_of_ble_eq_true rfl)
      refine r_iinc (pc := 97) ?_ dX10_mentorTold_97 (by decide) (Nat.le_of_ble_eq_true rfl)
      refine r_goto (pc := 100) (t := 29) ?_ dX10_mentorTold_100 (by decide)
      refine r_kl ?_
      exact Le.rf
    · refine r_lconst (pc := 74) ?_ dX10_mentorTold_74 (by decide)
      refine r_goto (pc := 75) (t := 95) ?_ dX10_mentorTold_75 (by decide)
      refine r_ladd (pc := 95) ?_ dX10_mentorTold_95
      refine r_lstore_n (pc := 96) ?_ dX10_mentorTold_96 rfl (Nat.le_of_ble_eq_true rfl)
      refine r_iinc (pc := 97) ?_ dX10_mentorTold_97 (by decide) (Nat.le_of_ble_eq_true rfl)
      refine r_goto (pc := 100) (t := 29) ?_ dX10_mentorTold_100 (by decide)
      refine r_kl ?_
      exact Le.rf
  · refine r_lconst (pc := 65) ?_ dX10_mentorTold_65 (by decide)
    refine r_goto (pc := 66) (t := 95) ?_ dX10_mentorTold_66 (by decide)
    refine r_ladd (pc := 95) ?_ dX10_mentorTold_95
    refine r_lstore_n (pc := 96) ?_ dX10_mentorTold_96 rfl (Nat.le_of_ble_eq_true rfl)
    refine r_iinc (pc := 97) ?_ dX10_mentorTold_97 (by decide) (Nat.le_of_ble_eq_true rfl)
    refine r_goto (pc := 100) (t := 29) ?_ dX10_mentorTold_100 (by decide)
    refine r_kl ?_
    exact Le.rf
abbrev Y_X10_mentor : YT := (yX10_mentor, cX10_mentor, 3, (some .int), 4, 96, 0, 0)
theorem ok_X10_mentor : okV Y_X10_mentor 2 := ⟨⟨wd_6_177, wd_1_9, by decide, by decide, by decide +kernel⟩, wd_6_175, wd_6_176⟩
def R_X10_mentor_0 (l : Launch) (G : GT) (F : FX) (Q : PQ) (QX : PX) : KT := (I_al 0 (I_il 1 (I_cv (Tr true l G Y_X10_isMentor) 8 13 1 QX (I_ifne (I_il 2 (I_i2l (I_lc 0 (I_lc (4 : Int64) (I_cs (Tr true l G Y_X10_in) 3 QX (I_ifeq (I_al 0 (I_ic 2 (I_cv (Tr true l G Y_X10_fails) 8 13 1 QX (I_ir Q)))) (I_al 0 (I_al 0 (I_il 1 (I_il 2 (I_cv (Tr true l G Y_X10_mentorTold) 8 13 2 QX (I_cv (Tr true l G Y_X10_tells) 8 13 1 QX (I_ir Q))))))))))))) (I_al 0 (I_ic 1 (I_cv (Tr true l G Y_X10_fails) 8 13 1 QX (I_ir Q))))))))
set_option maxRecDepth 100000 in
theorem g_X10_mentor_0 {l : Launch} {G : GT} {F : FX} {Q : PQ} {QX : PX} : Le (R_X10_mentor_0 l G F Q QX) (Wj true l G F Y_X10_mentor Q QX 0 0 0) := by
  unfold R_X10_mentor_0
  refine r_aload_n (pc := 0) ?_ dX10_mentor_0 rfl
  refine r_iload_n (pc := 1) ?_ dX10_mentor_1 rfl
  refine r_cv0 (pc := 2) ?_ dX10_mentor_2 cl_X10 ok_X10_isMentor rfl wd_6_0 ⟨Nat.le_of_ble_eq_true rfl, Nat.le_of_ble_eq_true rfl⟩ ⟨Nat.le_of_ble_eq_true rfl, Nat.le_of_ble_eq_true rfl⟩ rfl rfl
  refine r_ifne (pc := 5) (t := 14) ?_ ?_ dX10_mentor_5 (by decide)
  · refine r_iload_n (pc := 14) ?_ dX10_mentor_14 rfl
    refine r_i2l (pc := 15) ?_ dX10_mentor_15
    refine r_lconst (pc := 16) ?_ dX10_mentor_16 (by decide)
    refine r_ldc2 (pc := 17) ?_ dX10_mentor_17 wd_6_75
    refine r_cs0 (pc := 20) ?_ dX10_mentor_20 ok_X10_in wd_5_194 ⟨Nat.le_of_ble_eq_true rfl, Nat.le_of_ble_eq_true rfl⟩ ⟨Nat.le_of_ble_eq_true rfl, Nat.le_of_ble_eq_true rfl⟩ rfl rfl
    refine r_ifeq (pc := 23) (t := 39) ?_ ?_ dX10_mentor_23 (by decide)
    · refine r_aload_n (pc := 39) ?_ dX10_mentor_39 rfl
      refine r_iconst (pc := 40) ?_ dX10_mentor_40 (by decide)
      refine r_cv0 (pc := 41) ?_ dX10_mentor_41 cl_X10 ok_X10_fails rfl wd_5_206 ⟨Nat.le_of_ble_eq_true rfl, Nat.le_of_ble_eq_true rfl⟩ ⟨Nat.le_of_ble_eq_true rfl, Nat.le_of_ble_eq_true rfl⟩ rfl rfl
      exact r_ir dX10_mentor_44 rfl (Nat.le_of_ble_eq_true rfl) (Nat.le_of_ble_eq_true rfl)
    · refine r_aload_n (pc := 26) ?_ dX10_mentor_26 rfl
      refine r_aload_n (pc := 27) ?_ dX10_mentor_27 rfl
      refine r_iload_n (pc := 28) ?_ dX10_mentor_28 rfl
      refine r_iload_n (pc := 29) ?_ dX10_mentor_29 rfl
      refine r_cv0 (pc := 30) ?_ dX10_mentor_30 cl_X10 ok_X10_mentorTold rfl wd_6_178 ⟨Nat.le_of_ble_eq_true rfl, Nat.le_of_ble_eq_true rfl⟩ ⟨Nat.le_of_ble_eq_true rfl, Nat.le_of_ble_eq_true rfl⟩ rfl rfl
      refine r_cv0 (pc := 33) ?_ dX10_mentor_33 cl_X10 ok_X10_tells rfl wd_5_214 ⟨Nat.le_of_ble_eq_true rfl, Nat.le_of_ble_eq_true rfl⟩ ⟨Nat.le_of_ble_eq_true rfl, Nat.le_of_ble_eq_true rfl⟩ rfl rfl
      refine r_goto (pc := 36) (t := 44) ?_ dX10_mentor_36 (by decide)
      exact r_ir dX10_mentor_44 rfl (Nat.le_of_ble_eq_true rfl) (Nat.le_of_ble_eq_true rfl)
  · refine r_aload_n (pc := 8) ?_ dX10_mentor_8 rfl
    refine r_iconst (pc := 9) ?_ dX10_mentor_9 (by decide)
    refine r_cv0 (pc := 10) ?_ dX10_mentor_10 cl_X10 ok_X10_fails rfl wd_5_206 ⟨Nat.le_of_ble_eq_true rfl, Nat.le_of_ble_eq_true rfl⟩ ⟨Nat.le_of_ble_eq_true rfl, Nat.le_of_ble_eq_true rfl⟩ rfl rfl
    exact r_ir dX10_mentor_13 rfl (Nat.le_of_ble_eq_true rfl) (Nat.le_of_ble_eq_true rfl)
abbrev Y_X10_missing : YT := (yX10_missing, cX10_missing, 5, (some .long), 2, 44, 0, 0)
theorem ok_X10_missing : okV Y_X10_missing 2 := ⟨⟨wd_6_202, wd_1_9, by decide, by decide, by decide +kernel⟩, wd_6_201, wp_82⟩
def R_X10_missing_0 (l : Launch) (G : GT) (F : FX) (Q : PQ) (QX : PX) : KT := (I_al 0 (I_il 1 (I_il 2 (I_cv (Tr true l G Y_X10_needs) 8 13 2 QX (I_al 0 (I_il 1 (I_ic 2 (I_il 2 (I_iadd (I_cv (Tr true l G Y_X10_of) 8 13 2 QX (I_lsub (I_ls 3 (I_ll 3 (I_lc 0 (I_lcmp (I_ifge (I_ll 3 (I_lr Q)) (I_lc 0 (I_lr Q))))))))))))))))))
set_option maxRecDepth 100000 in
theorem g_X10_missing_0 {l : Launch} {G : GT} {F : FX} {Q : PQ} {QX : PX} : Le (R_X10_missing_0 l G F Q QX) (Wj true l G F Y_X10_missing Q QX 0 0 0) := by
  unfold R_X10_missing_0
  refine r_aload_n (pc := 0) ?_ dX10_missing_0 rfl
  refine r_iload_n (pc := 1) ?_ dX10_missing_1 rfl
  refine r_iload_n (pc := 2) ?_ dX10_missing_2 rfl
  refine r_cv0 (pc := 3) ?_ dX10_missing_3 cl_X10 ok_X10_needs rfl wd_6_203 ⟨Nat.le_of_ble_eq_true rfl, Nat.le_of_ble_eq_true rfl⟩ ⟨Nat.le_of_ble_eq_true rfl, Nat.le_of_ble_eq_true rfl⟩ rfl rfl
  refine r_aload_n (pc := 6) ?_ dX10_missing_6 rfl
  refine r_iload_n (pc := 7) ?_ dX10_missing_7 rfl
  refine r_iconst (pc := 8) ?_ dX10_missing_8 (by decide)
  refine r_iload_n (pc := 9) ?_ dX10_missing_9 rfl
  refine r_iadd (pc := 10) ?_ dX10_missing_10
  refine r_cv0 (pc := 11) ?_ dX10_missing_11 cl_X10 ok_X10_of rfl wd_6_25 ⟨Nat.le_of_ble_eq_true rfl, Nat.le_of_ble_eq_true rfl⟩ ⟨Nat.le_of_ble_eq_true rfl, Nat.le_of_ble_eq_true rfl⟩ rfl rfl
  refine r_lsub (pc := 14) ?_ dX10_missing_14
  refine r_lstore_n (pc := 15) ?_ dX10_missing_15 rfl (Nat.le_of_ble_eq_true rfl)
  refine r_lload_n (pc := 16) ?_ dX10_missing_16 rfl
  refine r_lconst (pc := 17) ?_ dX10_missing_17 (by decide)
  refine r_lcmp (pc := 18) ?_ dX10_missing_18
  refine r_ifge (pc := 19) (t := 26) ?_ ?_ dX10_missing_19 (by decide)
  · refine r_lload_n (pc := 26) ?_ dX10_missing_26 rfl
    exact r_lr dX10_missing_27 rfl (Nat.le_of_ble_eq_true rfl) (Nat.le_of_ble_eq_true rfl)
  · refine r_lconst (pc := 22) ?_ dX10_missing_22 (by decide)
    refine r_goto (pc := 23) (t := 27) ?_ dX10_missing_23 (by decide)
    exact r_lr dX10_missing_27 rfl (Nat.le_of_ble_eq_true rfl) (Nat.le_of_ble_eq_true rfl)
abbrev Y_X10_isComplete : YT := (yX10_isComplete, cX10_isComplete, 2, (some .boolean), 3, 68, 0, 0)
theorem ok_X10_isComplete : okV Y_X10_isComplete 1 := ⟨⟨wd_6_198, wd_1_9, by decide, by decide, by decide +kernel⟩, wd_6_197, wp_81⟩
def R_X10_isComplete_0 (l : Launch) (G : GT) (F : FX) (Q : PQ) (QX : PX) : KT := (I_al 0 (I_il 1 (I_ic 0 (I_cv (Tr true l G Y_X10_missing) 8 13 2 QX (I_al 0 (I_il 1 (I_ic 1 (I_cv (Tr true l G Y_X10_missing) 8 13 2 QX (I_ladd (I_al 0 (I_il 1 (I_ic 2 (I_cv (Tr true l G Y_X10_missing) 8 13 2 QX (I_ladd (I_lc 0 (I_lcmp (I_ifne (I_ic 0 (I_zr Q)) (I_ic 1 (I_zr Q)))))))))))))))))))
set_option maxRecDepth 100000 in
theorem g_X10_isComplete_0 {l : Launch} {G : GT} {F : FX} {Q : PQ} {QX : PX} : Le (R_X10_isComplete_0 l G F Q QX) (Wj true l G F Y_X10_isComplete Q QX 0 0 0) := by
  unfold R_X10_isComplete_0
  refine r_aload_n (pc := 0) ?_ dX10_isComplete_0 rfl
  refine r_iload_n (pc := 1) ?_ dX10_isComplete_1 rfl
  refine r_iconst (pc := 2) ?_ dX10_isComplete_2 (by decide)
  refine r_cv0 (pc := 3) ?_ dX10_isComplete_3 cl_X10 ok_X10_missing rfl wd_6_199 ⟨Nat.le_of_ble_eq_true rfl, Nat.le_of_ble_eq_true rfl⟩ ⟨Nat.le_of_ble_eq_true rfl, Nat.le_of_ble_eq_true rfl⟩ rfl rfl
  refine r_aload_n (pc := 6) ?_ dX10_isComplete_6 rfl
  refine r_iload_n (pc := 7) ?_ dX10_isComplete_7 rfl
  refine r_iconst (pc := 8) ?_ dX10_isComplete_8 (by decide)
  refine r_cv0 (pc := 9) ?_ dX10_isComplete_9 cl_X10 ok_X10_missing rfl wd_6_199 ⟨Nat.le_of_ble_eq_true rfl, Nat.le_of_ble_eq_true rfl⟩ ⟨Nat.le_of_ble_eq_true rfl, Nat.le_of_ble_eq_true rfl⟩ rfl rfl
  refine r_ladd (pc := 12) ?_ dX10_isComplete_12
  refine r_aload_n (pc := 13) ?_ dX10_isComplete_13 rfl
  refine r_iload_n (pc := 14) ?_ dX10_isComplete_14 rfl
  refine r_iconst (pc := 15) ?_ dX10_isComplete_15 (by decide)
  refine r_cv0 (pc := 16) ?_ dX10_isComplete_16 cl_X10 ok_X10_missing rfl wd_6_199 ⟨Nat.le_of_ble_eq_true rfl, Nat.le_of_ble_eq_true rfl⟩ ⟨Nat.le_of_ble_eq_true rfl, Nat.le_of_ble_eq_true rfl⟩ rfl rfl
  refine r_ladd (pc := 19) ?_ dX10_isComplete_19
  refine r_lconst (pc := 20) ?_ dX10_isComplete_20 (by decide)
  refine r_lcmp (pc := 21) ?_ dX10_isComplete_21
  refine r_ifne (pc := 22) (t := 29) ?_ ?_ dX10_isComplete_22 (by decide)
  · refine r_iconst (pc := 29) ?_ dX10_isComplete_29 (by decide)
    exact r_zr dX10_isComplete_30 rfl (Nat.le_of_ble_eq_true rfl) (Nat.le_of_ble_eq_true rfl)
  · refine r_iconst (pc := 25) ?_ dX10_isComplete_25 (by decide)
    refine r_goto (pc := 26) (t := 30) ?_ dX10_isComplete_26 (by decide)
    exact r_zr dX10_isComplete_30 rfl (Nat.le_of_ble_eq_true rfl) (Nat.le_of_ble_eq_true rfl)
abbrev Y_X10_apprenticeTold : YT := (yX10_apprenticeTold, cX10_apprenticeTold, 3, (some .long), 4, 89, 0, 0)
theorem ok_X10_apprenticeTold : okV Y_X10_apprenticeTold 2 := ⟨⟨wd_6_190, wd_1_9, by decide, by decide, by decide +kernel⟩, wd_6_189, wp_79⟩
def R_X10_apprenticeTold_0 (l : Launch) (G : GT) (F : FX) (Q : PQ) (QX : PX) : KT := (I_il 2 (I_sw 0 [(I_al 0 (I_il 1 (I_ic 0 (I_cv (Tr true l G Y_X10_of) 8 13 2 QX (I_lr Q))))), (I_al 0 (I_il 1 (I_ic 1 (I_cv (Tr true l G Y_X10_of) 8 13 2 QX (I_lr Q))))), (I_al 0 (I_il 1 (I_ic 9 (I_cv (Tr true l G Y_X10_of) 8 13 2 QX (I_lr Q))))), (I_al 0 (I_il 1 (I_ic 10 (I_cv (Tr true l G Y_X10_of) 8 13 2 QX (I_lr Q))))), (I_al 0 (I_il 1 (I_ic (-1) (I_ic 0 (I_cv (Tr true l G Y_X10_hoursOf) 8 13 3 QX (I_i2l (I_lr Q))))))), (I_al 0 (I_il 1 (I_ic (-1) (I_ic 1 (I_cv (Tr true l G Y_X10_hoursOf) 8 13 3 QX (I_i2l (I_lr Q))))))), (I_al 0 (I_il 1 (I_ic 5 (I_cv (Tr true l G Y_X10_of) 8 13 2 QX (I_lr Q))))), (I_al 0 (I_il 1 (I_cv (Tr true l G Y_X10_releases) 8 13 1 QX (I_i2l (I_lr Q))))), (I_al 0 (I_il 1 (I_ic 7 (I_cv (Tr true l G Y_X10_of) 8 13 2 QX (I_lr Q))))), (I_al 0 (I_il 1 (I_ic 8 (I_cv (Tr true l G Y_X10_of) 8 13 2 QX (I_lr Q))))), (I_al 0 (I_il 1 (I_ic 6 (I_cv (Tr true l G Y_X10_of) 8 13 2 QX (I_lr Q)))))] (I_al 0 (I_il 1 (I_cv (Tr true l G Y_X10_isComplete) 8 13 1 QX (I_ifeq (I_lc 0 (I_lr Q)) (I_lc 1 (I_lr Q))))))))
set_option maxRecDepth 100000 in
theorem g_X10_apprenticeTold_0 {l : Launch} {G : GT} {F : FX} {Q : PQ} {QX : PX} : Le (R_X10_apprenticeTold_0 l G F Q QX) (Wj true l G F Y_X10_apprenticeTold Q QX 0 0 0) := by
  unfold R_X10_apprenticeTold_0
  refine r_iload_n (pc := 0) ?_ dX10_apprenticeTold_0 rfl
  refine r_sw (pc := 1) (t := 146) (os := [59, 66, 73, 81, 89, 98, 107, 114, 121, 129, 137]) ?_ ⟨⟨60, by decide, ?_⟩, ⟨⟨67, by decide, ?_⟩, ⟨⟨74, by decide, ?_⟩, ⟨⟨82, by decide, ?_⟩, ⟨⟨90, by decide, ?_⟩, ⟨⟨99, by decide, ?_⟩, ⟨⟨108, by decide, ?_⟩, ⟨⟨115, by decide, ?_⟩, ⟨⟨122, by decide, ?_⟩, ⟨⟨130, by decide, ?_⟩, ⟨⟨138, by decide, ?_⟩, trivial⟩⟩⟩⟩⟩⟩⟩⟩⟩⟩⟩ dX10_apprenticeTold_1 rfl rfl (by decide)
  · refine r_aload_n (pc := 146) ?_ dX10_apprenticeTold_146 rfl
    refine r_iload_n (pc := 147) ?_ dX10_apprenticeTold_147 rfl
    refine r_cv0 (pc := 148) ?_ dX10_apprenticeTold_148 cl_X10 ok_X10_isComplete rfl wd_6_195 ⟨Nat.le_of_ble_eq_true rfl, Nat.le_of_ble_eq_true rfl⟩ ⟨Nat.le_of_ble_eq_true rfl, Nat.le_of_ble_eq_true rfl⟩ rfl rfl
    refine r_ifeq (pc := 151) (t := 158) ?_ ?_ dX10_apprenticeTold_151 (by decide)
    · refine r_lconst (pc := 158) ?_ dX10_apprenticeTold_158 (by decide)
      exact r_lr dX10_apprenticeTold_159 rfl (Nat.le_of_ble_eq_true rfl) (Nat.le_of_ble_eq_true rfl)
    · refine r_lconst (pc := 154) ?_ dX10_apprenticeTold_154 (by decide)
      refine r_goto (pc := 155) (t := 159) ?_ dX10_apprenticeTold_155 (by decide)
      exact r_lr dX10_apprenticeTold_159 rfl (Nat.le_of_ble_eq_true rfl) (Nat.le_of_ble_eq_true rfl)
  · refine r_aload_n (pc := 60) ?_ dX10_apprenticeTold_60 rfl
    refine r_iload_n (pc := 61) ?_ dX10_apprenticeTold_61 rfl
    refine r_iconst (pc := 62) ?_ dX10_apprenticeTold_62 (by decide)
    refine r_cv0 (pc := 63) ?_ dX10_apprenticeTold_63 cl_X10 ok_X10_of rfl wd_6_25 ⟨Nat.le_of_ble_eq_true rfl, Nat.le_of_ble_eq_true rfl⟩ ⟨Nat.le_of_ble_eq_true rfl, Nat.le_of_ble_eq_true rfl⟩ rfl rfl
    exact r_lr dX10_apprenticeTold_66 rfl (Nat.le_of_ble_eq_true rfl) (Nat.le_of_ble_eq_true rfl)
  · refine r_aload_n (pc := 67) ?_ dX10_apprenticeTold_67 rfl
    refine r_iload_n (pc := 68) ?_ dX10_apprenticeTold_68 rfl
    refine r_iconst (pc := 69) ?_ dX10_apprenticeTold_69 (by decide)
    refine r_cv0 (pc := 70) ?_ dX10_apprenticeTold_70 cl_X10 ok_X10_of rfl wd_6_25 ⟨Nat.le_of_ble_eq_true rfl, Nat.le_of_ble_eq_true rfl⟩ ⟨Nat.le_of_ble_eq_true rfl, Nat.le_of_ble_eq_true rfl⟩ rfl rfl
    exact r_lr dX10_apprenticeTold_73 rfl (Nat.le_of_ble_eq_true rfl) (Nat.le_of_ble_eq_true rfl)
  · refine r_aload_n (pc := 74) ?_ dX10_apprenticeTold_74 rfl
    refine r_iload_n (pc := 75) ?_ dX10_apprenticeTold_75 rfl
    refine r_bipush (pc := 76) ?_ dX10_apprenticeTold_76 (by decide)
    refine r_cv0 (pc := 78) ?_ dX10_apprenticeTold_78 cl_X10 ok_X10_of rfl wd_6_25 ⟨Nat.le_of_ble_eq_true rfl, Nat.le_of_ble_eq_true rfl⟩ ⟨Nat.le_of_ble_eq_true rfl, Nat.le_of_ble_eq_true rfl⟩ rfl rfl
    exact r_lr dX10_apprenticeTold_81 rfl (Nat.le_of_ble_eq_true rfl) (Nat.le_of_ble_eq_true rfl)
  · refine r_aload_n (pc := 82) ?_ dX10_apprenticeTold_82 rfl
    refine r_iload_n (pc := 83) ?_ dX10_apprenticeTold_83 rfl
    refine r_bipush (pc := 84) ?_ dX10_apprenticeTold_84 (by decide)
    refine r_cv0 (pc := 86) ?_ dX10_apprenticeTold_86 cl_X10 ok_X10_of rfl wd_6_25 ⟨Nat.le_of_ble_eq_true rfl, Nat.le_of_ble_eq_true rfl⟩ ⟨Nat.le_of_ble_eq_true rfl, Nat.le_of_ble_eq_true rfl⟩ rfl rfl
    exact r_lr dX10_apprenticeTold_89 rfl (Nat.le_of_ble_eq_true rfl) (Nat.le_of_ble_eq_true rfl)
  · refine r_aload_n (pc := 90) ?_ dX10_apprenticeTold_90 rfl
    refine r_iload_n (pc := 91) ?_ dX10_apprenticeTold_91 rfl
    refine r_iconst (pc := 92) ?_ dX10_apprenticeTold_92 (by decide)
    refine r_iconst (pc := 93) ?_ dX10_apprenticeTold_93 (by decide)
    refine r_cv0 (pc := 94) ?_ dX10_apprenticeTold_94 cl_X10 ok_X10_hoursOf rfl wd_6_191 ⟨Nat.le_of_ble_eq_true rfl, Nat.le_of_ble_eq_true rfl⟩ ⟨Nat.le_of_ble_eq_true rfl, Nat.le_of_ble_eq_true rfl⟩ rfl rfl
    refine r_i2l (pc := 97) ?_ dX10_apprenticeTold_97
    exact r_lr dX10_apprenticeTold_98 rfl (Nat.le_of_ble_eq_true rfl) (Nat.le_of_ble_eq_true rfl)
  · refine r_aload_n (pc := 99) ?_ dX10_apprenticeTold_99 rfl
    refine r_iload_n (pc := 100) ?_ dX10_apprenticeTold_100 rfl
    refine r_iconst (pc := 101) ?_ dX10_apprenticeTold_101 (by decide)
    refine r_iconst (pc := 102) ?_ dX10_apprenticeTold_102 (by decide)
    refine r_cv0 (pc := 103) ?_ dX10_apprenticeTold_103 cl_X10 ok_X10_hoursOf rfl wd_6_191 ⟨Nat.le_of_ble_eq_true rfl, Nat.le_of_ble_eq_true rfl⟩ ⟨Nat.le_of_ble_eq_true rfl, Nat.le_of_ble_eq_true rfl⟩ rfl rfl
    refine r_i2l (pc := 106) ?_ dX10_apprenticeTold_106
    exact r_lr dX10_apprenticeTold_107 rfl (Nat.le_of_ble_eq_true rfl) (Nat.le_of_ble_eq_true rfl)
  · refine r_aload_n (pc := 108) ?_ dX10_apprenticeTold_108 rfl
    refine r_iload_n (pc := 109) ?_ dX10_apprenticeTold_109 rfl
    refine r_iconst (pc := 110) ?_ dX10_apprenticeTold_110 (by decide)
    refine r_cv0 (pc := 111) ?_ dX10_apprenticeTold_111 cl_X10 ok_X10_of rfl wd_6_25 ⟨Nat.le_of_ble_eq_true rfl, Nat.le_of_ble_eq_true rfl⟩ ⟨Nat.le_of_ble_eq_true rfl, Nat.le_of_ble_eq_true rfl⟩ rfl rfl
    exact r_lr dX10_apprenticeTold_114 rfl (Nat.le_of_ble_eq_true rfl) (Nat.le_of_ble_eq_true rfl)
  · refine r_aload_n (pc := 115) ?_ dX10_apprenticeTold_115 rfl
    refine r_iload_n (pc := 116) ?_ dX10_apprenticeTold_116 rfl
    refine r_cv0 (pc := 117) ?_ dX10_apprenticeTold_117 cl_X10 ok_X10_releases rfl wd_6_54 ⟨Nat.le_of_ble_eq_true rfl, Nat.le_of_ble_eq_true rfl⟩ ⟨Nat.le_of_ble_eq_true rfl, Nat.le_of_ble_eq_true rfl⟩ rfl rfl
    refine r_i2l (pc := 120) ?_ dX10_apprenticeTold_120
    exact r_lr dX10_apprenticeTold_121 rfl (Nat.le_of_ble_eq_true rfl) (Nat.le_of_ble_eq_true rfl)
  · refine r_aload_n (pc := 122) ?_ dX10_apprenticeTold_122 rfl
    refine r_iload_n (pc := 123) ?_ dX10_apprenticeTold_123 rfl
    refine r_bipush (pc := 124) ?_ dX10_apprenticeTold_124 (by decide)
    refine r_cv0 (pc := 126) ?_ dX10_apprenticeTold_126 cl_X10 ok_X10_of rfl wd_6_25 ⟨Nat.le_of_ble_eq_true rfl, Nat.le_of_ble_eq_true rfl⟩ ⟨Nat.le_of_ble_eq_true rfl, Nat.le_of_ble_eq_true rfl⟩ rfl rfl
    exact r_lr dX10_apprenticeTold_129 rfl (Nat.le_of_ble_eq_true rfl) (Nat.le_of_ble_eq_true rfl)
  · refine r_aload_n (pc := 130) ?_ dX10_apprenticeTold_130 rfl
    refine r_iload_n (pc := 131) ?_ dX10_apprenticeTold_131 rfl
    refine r_bipush (pc := 132) ?_ dX10_apprenticeTold_132 (by decide)
    refine r_cv0 (pc := 134) ?_ dX10_apprenticeTold_134 cl_X10 ok_X10_of rfl wd_6_25 ⟨Nat.le_of_ble_eq_true rfl, Nat.le_of_ble_eq_true rfl⟩ ⟨Nat.le_of_ble_eq_true rfl, Nat.le_of_ble_eq_true rfl⟩ rfl rfl
    exact r_lr dX10_apprenticeTold_137 rfl (Nat.le_of_ble_eq_true rfl) (Nat.le_of_ble_eq_true rfl)
  · refine r_aload_n (pc := 138) ?_ dX10_apprenticeTold_138 rfl
    refine r_iload_n (pc := 139) ?_ dX10_apprenticeTold_139 rfl
    refine r_bipush (pc := 140) ?_ dX10_apprenticeTold_140 (by decide)
    refine r_cv0 (pc := 142) ?_ dX10_apprenticeTold_142 cl_X10 ok_X10_of rfl wd_6_25 ⟨Nat.le_of_ble_eq_true rfl, Nat.le_of_ble_eq_true rfl⟩ ⟨Nat.le_of_ble_eq_true rfl, Nat.le_of_ble_eq_true rfl⟩ rfl rfl
    exact r_lr dX10_apprenticeTold_145 rfl (Nat.le_of_ble_eq_true rfl) (Nat.le_of_ble_eq_true rfl)
abbrev Y_X10_apprentice : YT := (yX10_apprentice, cX10_apprentice, 3, (some .int), 5, 111, 0, 0)
theorem ok_X10_apprentice : okV Y_X10_apprentice 2 := ⟨⟨wd_6_185, wd_1_9, by decide, by decide, by decide +kernel⟩, wd_6_183, wd_6_184⟩
def R_X10_apprentice_0 (l : Launch) (G : GT) (F : FX) (Q : PQ) (QX : PX) : KT := (I_al 0 (I_il 1 (I_cv (Tr true l G Y_X10_isApprentice) 8 13 1 QX (I_ifne (I_il 2 (I_i2l (I_lc 0 (I_lc (11 : Int64) (I_cs (Tr true l G Y_X10_in) 3 QX (I_ifeq (I_al 0 (I_ic 2 (I_cv (Tr true l G Y_X10_fails) 8 13 1 QX (I_ir Q)))) (I_al 0 (I_al 0 (I_il 1 (I_il 2 (I_cv (Tr true l G Y_X10_apprenticeTold) 8 13 2 QX (I_cv (Tr true l G Y_X10_tells) 8 13 1 QX (I_ir Q))))))))))))) (I_al 0 (I_ic 1 (I_cv (Tr true l G Y_X10_fails) 8 13 1 QX (I_ir Q))))))))
set_option maxRecDepth 100000 in
theorem g_X10_apprentice_0 {l : Launch} {G : GT} {F : FX} {Q : PQ} {QX : PX} : Le (R_X10_apprentice_0 l G F Q QX) (Wj true l G F Y_X10_apprentice Q QX 0 0 0) := by
  unfold R_X10_apprentice_0
  refine r_aload_n (pc := 0) ?_ dX10_apprentice_0 rfl
  refine r_iload_n (pc := 1) ?_ dX10_apprentice_1 rfl
  refine r_cv0 (pc := 2) ?_ dX10_apprentice_2 cl_X10 ok_X10_isApprentice rfl wd_6_41 ⟨Nat.le_of_ble_eq_true rfl, Nat.le_of_ble_eq_true rfl⟩ ⟨Nat.le_of_ble_eq_true rfl, Nat.le_of_ble_eq_true rfl⟩ rfl rfl
  refine r_ifne (pc := 5) (t := 14) ?_ ?_ dX10_apprentice_5 (by decide)
  · refine r_iload_n (pc := 14) ?_ dX10_apprentice_14 rfl
    refine r_i2l (pc := 15) ?_ dX10_apprentice_15
    refine r_lconst (pc := 16) ?_ dX10_apprentice_16 (by decide)
    refine r_ldc2 (pc := 17) ?_ dX10_apprentice_17 wd_6_186
    refine r_cs0 (pc := 20) ?_ dX10_apprentice_20 ok_X10_in wd_5_194 ⟨Nat.le_of_ble_eq_true rfl, Nat.le_of_ble_eq_true rfl⟩ ⟨Nat.le_of_ble_eq_true rfl, Nat.le_of_ble_eq_true rfl⟩ rfl rfl
    refine r_ifeq (pc := 23) (t := 39) ?_ ?_ dX10_apprentice_23 (by decide)
    · refine r_aload_n (pc := 39) ?_ dX10_apprentice_39 rfl
      refine r_iconst (pc := 40) ?_ dX10_apprentice_40 (by decide)
      refine r_cv0 (pc := 41) ?_ dX10_apprentice_41 cl_X10 ok_X10_fails rfl wd_5_206 ⟨Nat.le_of_ble_eq_true rfl, Nat.le_of_ble_eq_true rfl⟩ ⟨Nat.le_of_ble_eq_true rfl, Nat.le_of_ble_eq_true rfl⟩ rfl rfl
      exact r_ir dX10_apprentice_44 rfl (Nat.le_of_ble_eq_true rfl) (Nat.le_of_ble_eq_true rfl)
    · refine r_aload_n (pc := 26) ?_ dX10_apprentice_26 rfl
      refine r_aload_n (pc := 27) ?_ dX10_apprentice_27 rfl
      refine r_iload_n (pc := 28) ?_ dX10_apprentice_28 rfl
      refine r_iload_n (pc := 29) ?_ dX10_apprentice_29 rfl
      refine r_cv0 (pc := 30) ?_ dX10_apprentice_30 cl_X10 ok_X10_apprenticeTold rfl wd_6_187 ⟨Nat.le_of_ble_eq_true rfl, Nat.le_of_ble_eq_true rfl⟩ ⟨Nat.le_of_ble_eq_true rfl, Nat.le_of_ble_eq_true rfl⟩ rfl rfl
      refine r_cv0 (pc := 33) ?_ dX10_apprentice_33 cl_X10 ok_X10_tells rfl wd_5_214 ⟨Nat.le_of_ble_eq_true rfl, Nat.le_of_ble_eq_true rfl⟩ ⟨Nat.le_of_ble_eq_true rfl, Nat.le_of_ble_eq_true rfl⟩ rfl rfl
      refine r_goto (pc := 36) (t := 44) ?_ dX10_apprentice_36 (by decide)
      exact r_ir dX10_apprentice_44 rfl (Nat.le_of_ble_eq_true rfl) (Nat.le_of_ble_eq_true rfl)
  · refine r_aload_n (pc := 8) ?_ dX10_apprentice_8 rfl
    refine r_iconst (pc := 9) ?_ dX10_apprentice_9 (by decide)
    refine r_cv0 (pc := 10) ?_ dX10_apprentice_10 cl_X10 ok_X10_fails rfl wd_5_206 ⟨Nat.le_of_ble_eq_true rfl, Nat.le_of_ble_eq_true rfl⟩ ⟨Nat.le_of_ble_eq_true rfl, Nat.le_of_ble_eq_true rfl⟩ rfl rfl
    exact r_ir dX10_apprentice_13 rfl (Nat.le_of_ble_eq_true rfl) (Nat.le_of_ble_eq_true rfl)
abbrev Y_X10_partTold : YT := (yX10_partTold, cX10_partTold, 4, (some .long), 3, 73, 0, 0)
theorem ok_X10_partTold : okV Y_X10_partTold 3 := ⟨⟨wd_6_214, wd_1_9, by decide, by decide, by decide +kernel⟩, wd_6_213, wp_84⟩
def R_X10_partTold_0 (l : Launch) (G : GT) (F : FX) (Q : PQ) (QX : PX) : KT := (I_il 3 (I_sw 0 [(I_al 0 (I_il 1 (I_il 2 (I_cv (Tr true l G Y_X10_needs) 8 13 2 QX (I_lr Q))))), (I_al 0 (I_il 1 (I_ic 2 (I_il 2 (I_iadd (I_cv (Tr true l G Y_X10_of) 8 13 2 QX (I_lr Q))))))), (I_al 0 (I_il 1 (I_il 2 (I_cv (Tr true l G Y_X10_missing) 8 13 2 QX (I_lr Q)))))] (I_al 0 (I_il 1 (I_il 2 (I_il 3 (I_ic 4 (I_icne (I_ic 0 (I_cv (Tr true l G Y_X10_hoursOf) 8 13 3 QX (I_i2l (I_lr Q)))) (I_ic 1 (I_cv (Tr true l G Y_X10_hoursOf) 8 13 3 QX (I_i2l (I_lr Q))))))))))))
set_option maxRecDepth 100000 in
theorem g_X10_partTold_0 {l : Launch} {G : GT} {F : FX} {Q : PQ} {QX : PX} : Le (R_X10_partTold_0 l G F Q QX) (Wj true l G F Y_X10_partTold Q QX 0 0 0) := by
  unfold R_X10_partTold_0
  refine r_iload_n (pc := 0) ?_ dX10_partTold_0 rfl
  refine r_sw (pc := 1) (t := 51) (os := [27, 34, 43]) ?_ ⟨⟨28, by decide, ?_⟩, ⟨⟨35, by decide, ?_⟩, ⟨⟨44, by decide, ?_⟩, trivial⟩⟩⟩ dX10_partTold_1 rfl rfl (by decide)
  · refine r_aload_n (pc := 51) ?_ dX10_partTold_51 rfl
    refine r_iload_n (pc := 52) ?_ dX10_partTold_52 rfl
    refine r_iload_n (pc := 53) ?_ dX10_partTold_53 rfl
    refine r_iload_n (pc := 54) ?_ dX10_partTold_54 rfl
    refine r_iconst (pc := 55) ?_ dX10_partTold_55 (by decide)
    refine r_icne (pc := 56) (t := 63) ?_ ?_ dX10_partTold_56 (by decide)
    · refine r_iconst (pc := 63) ?_ dX10_partTold_63 (by decide)
      refine r_cv0 (pc := 64) ?_ dX10_partTold_64 cl_X10 ok_X10_hoursOf rfl wd_6_191 ⟨Nat.le_of_ble_eq_true rfl, Nat.le_of_ble_eq_true rfl⟩ ⟨Nat.le_of_ble_eq_true rfl, Nat.le_of_ble_eq_true rfl⟩ rfl rfl
      refine r_i2l (pc := 67) ?_ dX10_partTold_67
      exact r_lr dX10_partTold_68 rfl (Nat.le_of_ble_eq_true rfl) (Nat.le_of_ble_eq_true rfl)
    · refine r_iconst (pc := 59) ?_ dX10_partTold_59 (by decide)
      refine r_goto (pc := 60) (t := 64) ?_ dX10_partTold_60 (by decide)
      refine r_cv0 (pc := 64) ?_ dX10_partTold_64 cl_X10 ok_X10_hoursOf rfl wd_6_191 ⟨Nat.le_of_ble_eq_true rfl, Nat.le_of_ble_eq_true rfl⟩ ⟨Nat.le_of_ble_eq_true rfl, Nat.le_of_ble_eq_true rfl⟩ rfl rfl
      refine r_i2l (pc := 67) ?_ dX10_partTold_67
      exact r_lr dX10_partTold_68 rfl (Nat.le_of_ble_eq_true rfl) (Nat.le_of_ble_eq_true rfl)
  · refine r_aload_n (pc := 28) ?_ dX10_partTold_28 rfl
    refine r_iload_n (pc := 29) ?_ dX10_partTold_29 rfl
    refine r_iload_n (pc := 30) ?_ dX10_partTold_30 rfl
    refine r_cv0 (pc := 31) ?_ dX10_partTold_31 cl_X10 ok_X10_needs rfl wd_6_203 ⟨Nat.le_of_ble_eq_true rfl, Nat.le_of_ble_eq_true rfl⟩ ⟨Nat.le_of_ble_eq_true rfl, Nat.le_of_ble_eq_true rfl⟩ rfl rfl
    exact r_lr dX10_partTold_34 rfl (Nat.le_of_ble_eq_true rfl) (Nat.le_of_ble_eq_true rfl)
  · refine r_aload_n (pc := 35) ?_ dX10_partTold_35 rfl
    refine r_iload_n (pc := 36) ?_ dX10_partTold_36 rfl
    refine r_iconst (pc := 37) ?_ dX10_partTold_37 (by decide)
    refine r_iload_n (pc := 38) ?_ dX10_partTold_38 rfl
    refine r_iadd (pc := 39) ?_ dX10_partTold_39
    refine r_cv0 (pc := 40) ?_ dX10_partTold_40 cl_X10 ok_X10_of rfl wd_6_25 ⟨Nat.le_of_ble_eq_true rfl, Nat.le_of_ble_eq_true rfl⟩ ⟨Nat.le_of_ble_eq_true rfl, Nat.le_of_ble_eq_true rfl⟩ rfl rfl
    exact r_lr dX10_partTold_43 rfl (Nat.le_of_ble_eq_true rfl) (Nat.le_of_ble_eq_true rfl)
  · refine r_aload_n (pc := 44) ?_ dX10_partTold_44 rfl
    refine r_iload_n (pc := 45) ?_ dX10_partTold_45 rfl
    refine r_iload_n (pc := 46) ?_ dX10_partTold_46 rfl
    refine r_cv0 (pc := 47) ?_ dX10_partTold_47 cl_X10 ok_X10_missing rfl wd_6_199 ⟨Nat.le_of_ble_eq_true rfl, Nat.le_of_ble_eq_true rfl⟩ ⟨Nat.le_of_ble_eq_true rfl, Nat.le_of_ble_eq_true rfl⟩ rfl rfl
    exact r_lr dX10_partTold_50 rfl (Nat.le_of_ble_eq_true rfl) (Nat.le_of_ble_eq_true rfl)
abbrev Y_X10_part : YT := (yX10_part, cX10_part, 4, (some .int), 4, 96, 0, 0)
theorem ok_X10_part : okV Y_X10_part 3 := ⟨⟨wd_6_210, wd_1_9, by decide, by decide, by decide +kernel⟩, wd_6_208, wd_6_209⟩
def R_X10_part_0 (l : Launch) (G : GT) (F : FX) (Q : PQ) (QX : PX) : KT := (I_al 0 (I_il 1 (I_cv (Tr true l G Y_X10_isApprentice) 8 13 1 QX (I_ifne (I_il 2 (I_cs (Tr true l G Y_X10_isPart) 1 QX (I_ifeq (I_al 0 (I_ic 2 (I_cv (Tr true l G Y_X10_fails) 8 13 1 QX (I_ir Q)))) (I_il 3 (I_i2l (I_lc 0 (I_lc (4 : Int64) (I_cs (Tr true l G Y_X10_in) 3 QX (I_ifeq (I_al 0 (I_ic 2 (I_cv (Tr true l G Y_X10_fails) 8 13 1 QX (I_ir Q)))) (I_al 0 (I_al 0 (I_il 1 (I_il 2 (I_il 3 (I_cv (Tr true l G Y_X10_partTold) 8 13 3 QX (I_cv (Tr true l G Y_X10_tells) 8 13 1 QX (I_ir Q))))))))))))))))) (I_al 0 (I_ic 1 (I_cv (Tr true l G Y_X10_fails) 8 13 1 QX (I_ir Q))))))))
set_option maxRecDepth 100000 in
theorem g_X10_part_0 {l : Launch} {G : GT} {F : FX} {Q : PQ} {QX : PX} : Le (R_X10_part_0 l G F Q QX) (Wj true l G F Y_X10_part Q QX 0 0 0) := by
  unfold R_X10_part_0
  refine r_aload_n (pc := 0) ?_ dX10_part_0 rfl
  refine r_iload_n (pc := 1) ?_ dX10_part_1 rfl
  refine r_cv0 (pc := 2) ?_ dX10_part_2 cl_X10 ok_X10_isApprentice rfl wd_6_41 ⟨Nat.le_of_ble_eq_true rfl, Nat.le_of_ble_eq_true rfl⟩ ⟨Nat.le_of_ble_eq_true rfl, Nat.le_of_ble_eq_true rfl⟩ rfl rfl
  refine r_ifne (pc := 5) (t := 14) ?_ ?_ dX10_part_5 (by decide)
  · refine r_iload_n (pc := 14) ?_ dX10_part_14 rfl
    refine r_cs0 (pc := 15) ?_ dX10_part_15 ok_X10_isPart wd_6_66 ⟨Nat.le_of_ble_eq_true rfl, Nat.le_of_ble_eq_true rfl⟩ ⟨Nat.le_of_ble_eq_true rfl, Nat.le_of_ble_eq_true rfl⟩ rfl rfl
    refine r_ifeq (pc := 18) (t := 47) ?_ ?_ dX10_part_18 (by decide)
    · refine r_aload_n (pc := 47) ?_ dX10_part_47 rfl
      refine r_iconst (pc := 48) ?_ dX10_part_48 (by decide)
      refine r_cv0 (pc := 49) ?_ dX10_part_49 cl_X10 ok_X10_fails rfl wd_5_206 ⟨Nat.le_of_ble_eq_true rfl, Nat.le_of_ble_eq_true rfl⟩ ⟨Nat.le_of_ble_eq_true rfl, Nat.le_of_ble_eq_true rfl⟩ rfl rfl
      exact r_ir dX10_part_52 rfl (Nat.le_of_ble_eq_true rfl) (Nat.le_of_ble_eq_true rfl)
    · refine r_iload_n (pc := 21) ?_ dX10_part_21 rfl
      refine r_i2l (pc := 22) ?_ dX10_part_22
      refine r_lconst (pc := 23) ?_ dX10_part_23 (by decide)
      refine r_ldc2 (pc := 24) ?_ dX10_part_24 wd_6_75
      refine r_cs0 (pc := 27) ?_ dX10_part_27 ok_X10_in wd_5_194 ⟨Nat.le_of_ble_eq_true rfl, Nat.le_of_ble_eq_true rfl⟩ ⟨Nat.le_of_ble_eq_true rfl, Nat.le_of_ble_eq_true rfl⟩ rfl rfl
      refine r_ifeq (pc := 30) (t := 47) ?_ ?_ dX10_part_30 (by decide)
      · refine r_aload_n (pc := 47) ?_ dX10_part_47 rfl
        refine r_iconst (pc := 48) ?_ dX10_part_48 (by decide)
        refine r_cv0 (pc := 49) ?_ dX10_part_49 cl_X10 ok_X10_fails rfl wd_5_206 ⟨Nat.le_of_ble_eq_true rfl, Nat.le_of_ble_eq_true rfl⟩ ⟨Nat.le_of_ble_eq_true rfl, Nat.le_of_ble_eq_true rfl⟩ rfl rfl
        exact r_ir dX10_part_52 rfl (Nat.le_of_ble_eq_true rfl) (Nat.le_of_ble_eq_true rfl)
      · refine r_aload_n (pc := 33) ?_ dX10_part_33 rfl
        refine r_aload_n (pc := 34) ?_ dX10_part_34 rfl
        refine r_iload_n (pc := 35) ?_ dX10_part_35 rfl
        refine r_iload_n (pc := 36) ?_ dX10_part_36 rfl
        refine r_iload_n (pc := 37) ?_ dX10_part_37 rfl
        refine r_cv0 (pc := 38) ?_ dX10_part_38 cl_X10 ok_X10_partTold rfl wd_6_211 ⟨Nat.le_of_ble_eq_true rfl, Nat.le_of_ble_eq_true rfl⟩ ⟨Nat.le_of_ble_eq_true rfl, Nat.le_of_ble_eq_true rfl⟩ rfl rfl
        refine r_cv0 (pc := 41) ?_ dX10_part_41 cl_X10 ok_X10_tells rfl wd_5_214 ⟨Nat.le_of_ble_eq_true rfl, Nat.le_of_ble_eq_true rfl⟩ ⟨Nat.le_of_ble_eq_true rfl, Nat.le_of_ble_eq_true rfl⟩ rfl rfl
        refine r_goto (pc := 44) (t := 52) ?_ dX10_part_44 (by decide)
        exact r_ir dX10_part_52 rfl (Nat.le_of_ble_eq_true rfl) (Nat.le_of_ble_eq_true rfl)
  · refine r_aload_n (pc := 8) ?_ dX10_part_8 rfl
    refine r_iconst (pc := 9) ?_ dX10_part_9 (by decide)
    refine r_cv0 (pc := 10) ?_ dX10_part_10 cl_X10 ok_X10_fails rfl wd_5_206 ⟨Nat.le_of_ble_eq_true rfl, Nat.le_of_ble_eq_true rfl⟩ ⟨Nat.le_of_ble_eq_true rfl, Nat.le_of_ble_eq_true rfl⟩ rfl rfl
    exact r_ir dX10_part_13 rfl (Nat.le_of_ble_eq_true rfl) (Nat.le_of_ble_eq_true rfl)
abbrev Y_X10_entry : YT := (yX10_entry, cX10_entry, 8, (some .int), 2, 46, 0, 0)
theorem ok_X10_entry : okV Y_X10_entry 4 := ⟨⟨wd_6_218, wd_1_9, by decide, by decide, by decide +kernel⟩, wd_6_216, wd_6_217⟩
def R_X10_entry_0 (l : Launch) (G : GT) (F : FX) (Q : PQ) (QX : PX) : KT := (I_al 0 (I_il 1 (I_cv (Tr true l G Y_X10_isApprentice) 8 13 1 QX (I_ifne (I_il 3 (I_iflt (I_al 0 (I_ic 2 (I_cv (Tr true l G Y_X10_fails) 8 13 1 QX (I_ir Q)))) (I_il 4 (I_i2l (I_lc 0 (I_lc (3 : Int64) (I_cs (Tr true l G Y_X10_in) 3 QX (I_ifne (I_al 0 (I_il 1 (I_il 2 (I_ifeq (I_ic 9 (I_cv (Tr true l G Y_X10_of) 8 13 2 QX (I_ls 5 (I_il 2 (I_ifeq (I_ic 0 (I_kl 2 (Wj true l G F Y_X10_entry Q QX 0 0 71))) (I_al 0 (I_il 1 (I_ic 9 (I_cv (Tr true l G Y_X10_of) 8 13 2 QX (I_l2i (I_kl 2 (Wj true l G F Y_X10_entry Q QX 0 0 71)))))))))))) (I_ic 10 (I_cv (Tr true l G Y_X10_of) 8 13 2 QX (I_ls 5 (I_il 2 (I_ifeq (I_ic 0 (I_kl 2 (Wj true l G F Y_X10_entry Q QX 0 0 71))) (I_al 0 (I_il 1 (I_ic 9 (I_cv (Tr true l G Y_X10_of) 8 13 2 QX (I_l2i (I_kl 2 (Wj true l G F Y_X10_entry Q QX 0 0 71)))))))))))))))) (I_al 0 (I_ic 2 (I_cv (Tr true l G Y_X10_fails) 8 13 1 QX (I_ir Q)))))))))))) (I_al 0 (I_ic 1 (I_cv (Tr true l G Y_X10_fails) 8 13 1 QX (I_ir Q))))))))
set_option maxRecDepth 100000 in
theorem g_X10_entry_0 {l : Launch} {G : GT} {F : FX} {Q : PQ} {QX : PX} : Le (R_X10_entry_0 l G F Q QX) (Wj true l G F Y_X10_entry Q QX 0 0 0) := by
  unfold R_X10_entry_0
  refine r_aload_n (pc := 0) ?_ dX10_entry_0 rfl
  refine r_iload_n (pc := 1) ?_ dX10_entry_1 rfl
  refine r_cv0 (pc := 2) ?_ dX10_entry_2 cl_X10 ok_X10_isApprentice rfl wd_6_41 ⟨Nat.le_of_ble_eq_true rfl, Nat.le_of_ble_eq_true rfl⟩ ⟨Nat.le_of_ble_eq_true rfl, Nat.le_of_ble_eq_true rfl⟩ rfl rfl
  refine r_ifne (pc := 5) (t := 14) ?_ ?_ dX10_entry_5 (by decide)
  · refine r_iload_n (pc := 14) ?_ dX10_entry_14 rfl
    refine r_iflt (pc := 15) (t := 31) ?_ ?_ dX10_entry_15 (by decide)
    · refine r_aload_n (pc := 31) ?_ dX10_entry_31 rfl
      refine r_iconst (pc := 32) ?_ dX10_entry_32 (by decide)
      refine r_cv0 (pc := 33) ?_ dX10_entry_33 cl_X10 ok_X10_fails rfl wd_5_206 ⟨Nat.le_of_ble_eq_true rfl, Nat.le_of_ble_eq_true rfl⟩ ⟨Nat.le_of_ble_eq_true rfl, Nat.le_of_ble_eq_true rfl⟩ rfl rfl
      exact r_ir dX10_entry_36 rfl (Nat.le_of_ble_eq_true rfl) (Nat.le_of_ble_eq_true rfl)
    · refine r_iload (pc := 18) ?_ dX10_entry_18
      refine r_i2l (pc := 20) ?_ dX10_entry_20
      refine r_lconst (pc := 21) ?_ dX10_entry_21 (by decide)
      refine r_ldc2 (pc := 22) ?_ dX10_entry_22 wd_6_219
      refine r_cs0 (pc := 25) ?_ dX10_entry_25 ok_X10_in wd_5_194 ⟨Nat.le_of_ble_eq_true rfl, Nat.le_of_ble_eq_true rfl⟩ ⟨Nat.le_of_ble_eq_true rfl, Nat.le_of_ble_eq_true rfl⟩ rfl rfl
      refine r_ifne (pc := 28) (t := 37) ?_ ?_ dX10_entry_28 (by decide)
      · refine r_aload_n (pc := 37) ?_ dX10_entry_37 rfl
        refine r_iload_n (pc := 38) ?_ dX10_entry_38 rfl
        refine r_iload_n (pc := 39) ?_ dX10_entry_39 rfl
        refine r_ifeq (pc := 40) (t := 48) ?_ ?_ dX10_entry_40 (by decide)
        · refine r_bipush (pc := 48) ?_ dX10_entry_48 (by decide)
          refine r_cv0 (pc := 50) ?_ dX10_entry_50 cl_X10 ok_X10_of rfl wd_6_25 ⟨Nat.le_of_ble_eq_true rfl, Nat.le_of_ble_eq_true rfl⟩ ⟨Nat.le_of_ble_eq_true rfl, Nat.le_of_ble_eq_true rfl⟩ rfl rfl
          refine r_lstore (pc := 53) ?_ dX10_entry_53 (Nat.le_of_ble_eq_true rfl)
          refine r_iload_n (pc := 55) ?_ dX10_entry_55 rfl
          refine r_ifeq (pc := 56) (t := 70) ?_ ?_ dX10_entry_56 (by decide)
          · refine r_iconst (pc := 70) ?_ dX10_entry_70 (by decide)
            refine r_kl ?_
            exact Le.rf
          · refine r_aload_n (pc := 59) ?_ dX10_entry_59 rfl
            refine r_iload_n (pc := 60) ?_ dX10_entry_60 rfl
            refine r_bipush (pc := 61) ?_ dX10_entry_61 (by decide)
            refine r_cv0 (pc := 63) ?_ dX10_entry_63 cl_X10 ok_X10_of rfl wd_6_25 ⟨Nat.le_of_ble_eq_true rfl, Nat.le_of_ble_eq_true rfl⟩ ⟨Nat.le_of_ble_eq_true rfl, Nat.le_of_ble_eq_true rfl⟩ rfl rfl
            refine r_l2i (pc := 66) ?_ dX10_entry_66
            refine r_goto (pc := 67) (t := 71) ?_ dX10_entry_67 (by decide)
            refine r_kl ?_
            exact Le.rf
        · refine r_bipush (pc := 43) ?_ dX10_entry_43 (by decide)
          refine r_goto (pc := 45) (t := 50) ?_ dX10_entry_45 (by decide)
          refine r_cv0 (pc := 50) ?_ dX10_entry_50 cl_X10 ok_X10_of rfl wd_6_25 ⟨Nat.le_of_ble_eq_true rfl, Nat.le_of_ble_eq_true rfl⟩ ⟨Nat.le_of_ble_eq_true rfl, Nat.le_of_ble_eq_true rfl⟩ rfl rfl
          refine r_lstore (pc := 53) ?_ dX10_entry_53 (Nat.le_of_ble_eq_true rfl)
          refine r_iload_n (pc := 55) ?_ dX10_entry_55 rfl
          refine r_ifeq (pc := 56) (t := 70) ?_ ?_ dX10_entry_56 (by decide)
          · refine r_iconst (pc := 70) ?_ dX10_entry_70 (by decide)
            refine r_kl ?_
            exact Le.rf
          · refine r_aload_n (pc := 59) ?_ dX10_entry_59 rfl
            refine r_iload_n (pc := 60) ?_ dX10_entry_60 rfl
            refine r_bipush (pc := 61) ?_ dX10_entry_61 (by decide)
            refine r_cv0 (pc := 63) ?_ dX10_entry_63 cl_X10 ok_X10_of rfl wd_6_25 ⟨Nat.le_of_ble_eq_true rfl, Nat.le_of_ble_eq_true rfl⟩ ⟨Nat.le_of_ble_eq_true rfl, Nat.le_of_ble_eq_true rfl⟩ rfl rfl
            refine r_l2i (pc := 66) ?_ dX10_entry_66
            refine r_goto (pc := 67) (t := 71) ?_ dX10_entry_67 (by decide)
            refine r_kl ?_
            exact Le.rf
      · refine r_aload_n (pc := 31) ?_ dX10_entry_31 rfl
        refine r_iconst (pc := 32) ?_ dX10_entry_32 (by decide)
        refine r_cv0 (pc := 33) ?_ dX10_entry_33 cl_X10 ok_X10_fails rfl wd_5_206 ⟨Nat.le_of_ble_eq_true rfl, Nat.le_of_ble_eq_true rfl⟩ ⟨Nat.le_of_ble_eq_true rfl, Nat.le_of_ble_eq_true rfl⟩ rfl rfl
        exact r_ir dX10_entry_36 rfl (Nat.le_of_ble_eq_true rfl) (Nat.le_of_ble_eq_true rfl)
  · refine r_aload_n (pc := 8) ?_ dX10_entry_8 rfl
    refine r_iconst (pc := 9) ?_ dX10_entry_9 (by decide)
    refine r_cv0 (pc := 10) ?_ dX10_entry_10 cl_X10 ok_X10_fails rfl wd_5_206 ⟨Nat.le_of_ble_eq_true rfl, Nat.le_of_ble_eq_true rfl⟩ ⟨Nat.le_of_ble_eq_true rfl, Nat.le_of_ble_eq_true rfl⟩ rfl rfl
    exact r_ir dX10_entry_13 rfl (Nat.le_of_ble_eq_true rfl) (Nat.le_of_ble_eq_true rfl)
def R_X10_entry_71 (l : Launch) (G : GT) (F : FX) (Q : PQ) (QX : PX) : KT := (I_is 7 (I_al 0 (I_il 3 (I_i2l (I_ll 5 (I_lcmp (I_ifge (I_lc (-1 : Int64) (I_cv (Tr true l G Y_X10_tells) 8 13 1 QX (I_ir Q))) (I_al 0 (I_il 1 (I_il 7 (I_il 3 (I_iadd (I_il 4 (I_cv (Tr true l G Y_X10_entryOf) 8 13 3 QX (I_i2l (I_cv (Tr true l G Y_X10_tells) 8 13 1 QX (I_ir Q)))))))))))))))))
set_option maxRecDepth 100000 in
theorem g_X10_entry_71 {l : Launch} {G : GT} {F : FX} {Q : PQ} {QX : PX} : Le (R_X10_entry_71 l G F Q QX) (Wj true l G F Y_X10_entry Q QX 0 0 71) := by
  unfold R_X10_entry_71
  refine r_istore (pc := 71) ?_ dX10_entry_71 (Nat.le_of_ble_eq_true rfl)
  refine r_aload_n (pc := 73) ?_ dX10_entry_73 rfl
  refine r_iload_n (pc := 74) ?_ dX10_entry_74 rfl
  refine r_i2l (pc := 75) ?_ dX10_entry_75
  refine r_lload (pc := 76) ?_ dX10_entry_76
  refine r_lcmp (pc := 78) ?_ dX10_entry_78
  refine r_ifge (pc := 79) (t := 97) ?_ ?_ dX10_entry_79 (by decide)
  · refine r_ldc2 (pc := 97) ?_ dX10_entry_97 wd_6_100
    refine r_cv0 (pc := 100) ?_ dX10_entry_100 cl_X10 ok_X10_tells rfl wd_5_214 ⟨Nat.le_of_ble_eq_true rfl, Nat.le_of_ble_eq_true rfl⟩ ⟨Nat.le_of_ble_eq_true rfl, Nat.le_of_ble_eq_true rfl⟩ rfl rfl
    exact r_ir dX10_entry_103 rfl (Nat.le_of_ble_eq_true rfl) (Nat.le_of_ble_eq_true rfl)
  · refine r_aload_n (pc := 82) ?_ dX10_entry_82 rfl
    refine r_iload_n (pc := 83) ?_ dX10_entry_83 rfl
    refine r_iload (pc := 84) ?_ dX10_entry_84
    refine r_iload_n (pc := 86) ?_ dX10_entry_86 rfl
    refine r_iadd (pc := 87) ?_ dX10_entry_87
    refine r_iload (pc := 88) ?_ dX10_entry_88
    refine r_cv0 (pc := 90) ?_ dX10_entry_90 cl_X10 ok_X10_entryOf rfl wd_6_91 ⟨Nat.le_of_ble_eq_true rfl, Nat.le_of_ble_eq_true rfl⟩ ⟨Nat.le_of_ble_eq_true rfl, Nat.le_of_ble_eq_true rfl⟩ rfl rfl
    refine r_i2l (pc := 93) ?_ dX10_entry_93
    refine r_goto (pc := 94) (t := 100) ?_ dX10_entry_94 (by decide)
    refine r_cv0 (pc := 100) ?_ dX10_entry_100 cl_X10 ok_X10_tells rfl wd_5_214 ⟨Nat.le_of_ble_eq_true rfl, Nat.le_of_ble_eq_true rfl⟩ ⟨Nat.le_of_ble_eq_true rfl, Nat.le_of_ble_eq_true rfl⟩ rfl rfl
    exact r_ir dX10_entry_103 rfl (Nat.le_of_ble_eq_true rfl) (Nat.le_of_ble_eq_true rfl)
abbrev Y_X10_wholeTold : YT := (yX10_wholeTold, cX10_wholeTold, 5, (some .long), 4, 89, 0, 0)
theorem ok_X10_wholeTold : okV Y_X10_wholeTold 1 := ⟨⟨wd_6_228, wd_1_9, by decide, by decide, by decide +kernel⟩, wd_6_227, wp_85⟩
def R_X10_wholeTold_0 (l : Launch) (G : GT) (F : FX) (Q : PQ) (QX : PX) : KT := (I_il 1 (I_ic 4 (I_icge (I_il 1 (I_ic 9 (I_icne (I_lc 0 (I_ls 2 (I_ic 0 (I_is 4 (Wj true l G F Y_X10_wholeTold Q QX 0 0 29))))) (I_al 0 (I_gi 8 7 13 (I_i2l (I_lr Q))))))) (I_al 0 (I_gp 8 13 1 (I_il 1 (I_lal (I_lr Q))))))))
set_option maxRecDepth 100000 in
theorem g_X10_wholeTold_0 {l : Launch} {G : GT} {F : FX} {Q : PQ} {QX : PX} : Le (R_X10_wholeTold_0 l G F Q QX) (Wj true l G F Y_X10_wholeTold Q QX 0 0 0) := by
  unfold R_X10_wholeTold_0
  refine r_iload_n (pc := 0) ?_ dX10_wholeTold_0 rfl
  refine r_iconst (pc := 1) ?_ dX10_wholeTold_1 (by decide)
  refine r_icge (pc := 2) (t := 12) ?_ ?_ dX10_wholeTold_2 (by decide)
  · refine r_iload_n (pc := 12) ?_ dX10_wholeTold_12 rfl
    refine r_bipush (pc := 13) ?_ dX10_wholeTold_13 (by decide)
    refine r_icne (pc := 15) (t := 24) ?_ ?_ dX10_wholeTold_15 (by decide)
    · refine r_lconst (pc := 24) ?_ dX10_wholeTold_24 (by decide)
      refine r_lstore_n (pc := 25) ?_ dX10_wholeTold_25 rfl (Nat.le_of_ble_eq_true rfl)
      refine r_iconst (pc := 26) ?_ dX10_wholeTold_26 (by decide)
      refine r_istore (pc := 27) ?_ dX10_wholeTold_27 (Nat.le_of_ble_eq_true rfl)
      exact Le.rf
    · refine r_aload_n (pc := 18) ?_ dX10_wholeTold_18 rfl
      refine r_gi (pc := 19) ?_ dX10_wholeTold_19 cl_X10 (Nat.le_of_ble_eq_true rfl) rfl wd_5_144
      refine r_i2l (pc := 22) ?_ dX10_wholeTold_22
      exact r_lr dX10_wholeTold_23 rfl (Nat.le_of_ble_eq_true rfl) (Nat.le_of_ble_eq_true rfl)
  · refine r_aload_n (pc := 5) ?_ dX10_wholeTold_5 rfl
    refine r_gp (pc := 6) (kf := 0) ?_ dX10_wholeTold_6 cl_X10 (Nat.le_of_ble_eq_true rfl) rfl wd_5_137 pv_X10_0
    refine r_iload_n (pc := 9) ?_ dX10_wholeTold_9 rfl
    refine r_lal (pc := 10) ?_ dX10_wholeTold_10
    exact r_lr dX10_wholeTold_11 rfl (Nat.le_of_ble_eq_true rfl) (Nat.le_of_ble_eq_true rfl)
def R_X10_wholeTold_29 (l : Launch) (G : GT) (F : FX) (Q : PQ) (QX : PX) : KT := (I_il 4 (I_i2l (I_al 0 (I_gp 8 13 1 (I_ic 2 (I_lal (I_lcmp (I_ifge (I_ll 2 (I_lr Q)) (I_ll 2 (I_il 1 (I_ic 4 (I_icne (I_il 1 (I_ic 5 (I_icne (I_il 1 (I_ic 6 (I_icne (I_il 1 (I_ic 7 (I_icne (I_al 0 (I_il 4 (I_ic 5 (I_cv (Tr true l G Y_X10_of) 8 13 2 QX (I_kl 2 (Wj true l G F Y_X10_wholeTold Q QX 0 0 129)))))) (I_al 0 (I_il 4 (I_cv (Tr true l G Y_X10_mentorOf) 8 13 1 QX (I_ic (-1) (I_icne (I_lc 0 (I_kl 2 (Wj true l G F Y_X10_wholeTold Q QX 0 0 129))) (I_lc 1 (I_kl 2 (Wj true l G F Y_X10_wholeTold Q QX 0 0 129))))))))))) (I_al 0 (I_il 4 (I_cv (Tr true l G Y_X10_isComplete) 8 13 1 QX (I_ifeq (I_lc 0 (I_kl 2 (Wj true l G F Y_X10_wholeTold Q QX 0 0 129))) (I_lc 1 (I_kl 2 (Wj true l G F Y_X10_wholeTold Q QX 0 0 129)))))))))) (I_al 0 (I_il 4 (I_ic 10 (I_cv (Tr true l G Y_X10_of) 8 13 2 QX (I_kl 2 (Wj true l G F Y_X10_wholeTold Q QX 0 0 129))))))))) (I_al 0 (I_il 4 (I_ic 9 (I_cv (Tr true l G Y_X10_of) 8 13 2 QX (I_kl 2 (Wj true l G F Y_X10_wholeTold Q QX 0 0 129))))))))))))))))))
set_option maxRecDepth 100000 in
theorem g_X10_wholeTold_29 {l : Launch} {G : GT} {F : FX} {Q : PQ} {QX : PX} : Le (R_X10_wholeTold_29 l G F Q QX) (Wj true l G F Y_X10_wholeTold Q QX 0 0 29) := by
  unfold R_X10_wholeTold_29
  refine r_iload (pc := 29) ?_ dX10_wholeTold_29
  refine r_i2l (pc := 31) ?_ dX10_wholeTold_31
  refine r_aload_n (pc := 32) ?_ dX10_wholeTold_32 rfl
  refine r_gp (pc := 33) (kf := 0) ?_ dX10_wholeTold_33 cl_X10 (Nat.le_of_ble_eq_true rfl) rfl wd_5_137 pv_X10_0
  refine r_iconst (pc := 36) ?_ dX10_wholeTold_36 (by decide)
  refine r_lal (pc := 37) ?_ dX10_wholeTold_37
  refine r_lcmp (pc := 38) ?_ dX10_wholeTold_38
  refine r_ifge (pc := 39) (t := 137) ?_ ?_ dX10_wholeTold_39 (by decide)
  · refine r_lload_n (pc := 137) ?_ dX10_wholeTold_137 rfl
    exact r_lr dX10_wholeTold_138 rfl (Nat.le_of_ble_eq_true rfl) (Nat.le_of_ble_eq_true rfl)
  · refine r_lload_n (pc := 42) ?_ dX10_wholeTold_42 rfl
    refine r_iload_n (pc := 43) ?_ dX10_wholeTold_43 rfl
    refine r_iconst (pc := 44) ?_ dX10_wholeTold_44 (by decide)
    refine r_icne (pc := 45) (t := 59) ?_ ?_ dX10_wholeTold_45 (by decide)
    · refine r_iload_n (pc := 59) ?_ dX10_wholeTold_59 rfl
      refine r_iconst (pc := 60) ?_ dX10_wholeTold_60 (by decide)
      refine r_icne (pc := 61) (t := 75) ?_ ?_ dX10_wholeTold_61 (by decide)
      · refine r_iload_n (pc := 75) ?_ dX10_wholeTold_75 rfl
        refine r_bipush (pc := 76) ?_ dX10_wholeTold_76 (by decide)
        refine r_icne (pc := 78) (t := 98) ?_ ?_ dX10_wholeTold_78 (by decide)
        · refine r_iload_n (pc := 98) ?_ dX10_wholeTold_98 rfl
          refine r_bipush (pc := 99) ?_ dX10_wholeTold_99 (by decide)
          refine r_icne (pc := 101) (t := 122) ?_ ?_ dX10_wholeTold_101 (by decide)
          · refine r_aload_n (pc := 122) ?_ dX10_wholeTold_122 rfl
            refine r_iload (pc := 123) ?_ dX10_wholeTold_123
            refine r_iconst (pc := 125) ?_ dX10_wholeTold_125 (by decide)
            refine r_cv0 (pc := 126) ?_ dX10_wholeTold_126 cl_X10 ok_X10_of rfl wd_6_25 ⟨Nat.le_of_ble_eq_true rfl, Nat.le_of_ble_eq_true rfl⟩ ⟨Nat.le_of_ble_eq_true rfl, Nat.le_of_ble_eq_true rfl⟩ rfl rfl
            refine r_kl ?_
            exact Le.rf
          · refine r_aload_n (pc := 104) ?_ dX10_wholeTold_104 rfl
            refine r_iload (pc := 105) ?_ dX10_wholeTold_105
            refine r_cv0 (pc := 107) ?_ dX10_wholeTold_107 cl_X10 ok_X10_mentorOf rfl wd_6_21 ⟨Nat.le_of_ble_eq_true rfl, Nat.le_of_ble_eq_true rfl⟩ ⟨Nat.le_of_ble_eq_true rfl, Nat.le_of_ble_eq_true rfl⟩ rfl rfl
            refine r_iconst (pc := 110) ?_ dX10_wholeTold_110 (by decide)
            refine r_icne (pc := 111) (t := 118) ?_ ?_ dX10_wholeTold_111 (by decide)
            · refine r_lconst (pc := 118) ?_ dX10_wholeTold_118 (by decide)
              refine r_goto (pc := 119) (t := 129) ?_ dX10_wholeTold_119 (by decide)
              refine r_kl ?_
              exact Le.rf
            · refine r_lconst (pc := 114) ?_ dX10_wholeTold_114 (by decide)
              refine r_goto (pc := 115) (t := 129) ?_ dX10_wholeTold_115 (by decide)
              refine r_kl ?_
              exact Le.rf
        · refine r_aload_n (pc := 81) ?_ dX10_wholeTold_81 rfl
          refine r_iload (pc := 82) ?_ dX10_wholeTold_82
          refine r_cv0 (pc := 84) ?_ dX10_wholeTold_84 cl_X10 ok_X10_isComplete rfl wd_6_195 ⟨Nat.le_of_ble_eq_true rfl, Nat.le_of_ble_eq_true rfl⟩ ⟨Nat.le_of_ble_eq_true rfl, Nat.le_of_ble_eq_true rfl⟩ rfl rfl
          refine r_ifeq (pc := 87) (t := 94) ?_ ?_ dX10_wholeTold_87 (by decide)
          · refine r_lconst (pc := 94) ?_ dX10_wholeTold_94 (by decide)
            refine r_goto (pc := 95) (t := 129) ?_ dX10_wholeTold_95 (by decide)
            refine r_kl ?_
            exact Le.rf
          · refine r_lconst (pc := 90) ?_ dX10_wholeTold_90 (by decide)
            refine r_goto (pc := 91) (t := 129) ?_ dX10_wholeTold_91 (by decide)
            refine r_kl ?_
            exact Le.rf
      · refine r_aload_n (pc := 64) ?_ dX10_wholeTold_64 rfl
        refine r_iload (pc := 65) ?_ dX10_wholeTold_65
        refine r_bipush (pc := 67) ?_ dX10_wholeTold_67 (by decide)
        refine r_cv0 (pc := 69) ?_ dX10_wholeTold_69 cl_X10 ok_X10_of rfl wd_6_25 ⟨Nat.le_of_ble_eq_true rfl, Nat.le_of_ble_eq_true rfl⟩ ⟨Nat.le_of_ble_eq_true rfl, Nat.le_of_ble_eq_true rfl⟩ rfl rfl
        refine r_goto (pc := 72) (t := 129) ?_ dX10_wholeTold_72 (by decide)
        refine r_kl ?_
        exact Le.rf
    · refine r_aload_n (pc := 48) ?_ dX10_wholeTold_48 rfl
      refine r_iload (pc := 49) ?_ dX10_wholeTold_49
      refine r_bipush (pc := 51) ?_ dX10_wholeTold_51 (by decide)
      refine r_cv0 (pc := 53) ?_ dX10_wholeTold_53 cl_X10 ok_X10_of rfl wd_6_25 ⟨Nat.le_of_ble_eq_true rfl, Nat.le_of_ble_eq_true rfl⟩ ⟨Nat.le_of_ble_eq_true rfl, Nat.le_of_ble_eq_true rfl⟩ rfl rfl
      refine r_goto (pc := 56) (t := 129) ?_ dX10_wholeTold_56 (by decide)
      refine r_kl ?_
      exact Le.rf
def R_X10_wholeTold_129 (l : Launch) (G : GT) (F : FX) (Q : PQ) (QX : PX) : KT := (I_ladd (I_ls 2 (I_inc 4 1 (Wj true l G F Y_X10_wholeTold Q QX 0 0 29))))
set_option maxRecDepth 100000 in
theorem g_X10_wholeTold_129 {l : Launch} {G : GT} {F : FX} {Q : PQ} {QX : PX} : Le (R_X10_wholeTold_129 l G F Q QX) (Wj true l G F Y_X10_wholeTold Q QX 0 0 129) := by
  unfold R_X10_wholeTold_129
  refine r_ladd (pc := 129) ?_ dX10_wholeTold_129
  refine r_lstore_n (pc := 130) ?_ dX10_wholeTold_130 rfl (Nat.le_of_ble_eq_true rfl)
  refine r_iinc (pc := 131) ?_ dX10_wholeTold_131 (by decide) (Nat.le_of_ble_eq_true rfl)
  refine r_goto (pc := 134) (t := 29) ?_ dX10_wholeTold_134 (by decide)
  exact Le.rf
abbrev Y_X10_whole : YT := (yX10_whole, cX10_whole, 2, (some .int), 5, 113, 0, 0)
theorem ok_X10_whole : okV Y_X10_whole 1 := ⟨⟨wd_6_223, wd_1_9, by decide, by decide, by decide +kernel⟩, wd_6_221, wd_6_222⟩
def R_X10_whole_0 (l : Launch) (G : GT) (F : FX) (Q : PQ) (QX : PX) : KT := (I_il 1 (I_i2l (I_lc 0 (I_lc (9 : Int64) (I_cs (Tr true l G Y_X10_in) 3 QX (I_ifeq (I_al 0 (I_ic 1 (I_cv (Tr true l G Y_X10_fails) 8 13 1 QX (I_ir Q)))) (I_al 0 (I_al 0 (I_il 1 (I_cv (Tr true l G Y_X10_wholeTold) 8 13 1 QX (I_cv (Tr true l G Y_X10_tells) 8 13 1 QX (I_ir Q))))))))))))
set_option maxRecDepth 100000 in
theorem g_X10_whole_0 {l : Launch} {G : GT} {F : FX} {Q : PQ} {QX : PX} : Le (R_X10_whole_0 l G F Q QX) (Wj true l G F Y_X10_whole Q QX 0 0 0) := by
  unfold R_X10_whole_0
  refine r_iload_n (pc := 0) ?_ dX10_whole_0 rfl
  refine r_i2l (pc := 1) ?_ dX10_whole_1
  refine r_lconst (pc := 2) ?_ dX10_whole_2 (by decide)
  refine r_ldc2 (pc := 3) ?_ dX10_whole_3 wd_6_224
  refine r_cs0 (pc := 6) ?_ dX10_whole_6 ok_X10_in wd_5_194 ⟨Nat.le_of_ble_eq_true rfl, Nat.le_of_ble_eq_true rfl⟩ ⟨Nat.le_of_ble_eq_true rfl, Nat.le_of_ble_eq_true rfl⟩ rfl rfl
  refine r_ifeq (pc := 9) (t := 24) ?_ ?_ dX10_whole_9 (by decide)
  · refine r_aload_n (pc := 24) ?_ dX10_whole_24 rfl
    refine r_iconst (pc := 25) ?_ dX10_whole_25 (by decide)
    refine r_cv0 (pc := 26) ?_ dX10_whole_26 cl_X10 ok_X10_fails rfl wd_5_206 ⟨Nat.le_of_ble_eq_true rfl, Nat.le_of_ble_eq_true rfl⟩ ⟨Nat.le_of_ble_eq_true rfl, Nat.le_of_ble_eq_true rfl⟩ rfl rfl
    exact r_ir dX10_whole_29 rfl (Nat.le_of_ble_eq_true rfl) (Nat.le_of_ble_eq_true rfl)
  · refine r_aload_n (pc := 12) ?_ dX10_whole_12 rfl
    refine r_aload_n (pc := 13) ?_ dX10_whole_13 rfl
    refine r_iload_n (pc := 14) ?_ dX10_whole_14 rfl
    refine r_cv0 (pc := 15) ?_ dX10_whole_15 cl_X10 ok_X10_wholeTold rfl wd_6_225 ⟨Nat.le_of_ble_eq_true rfl, Nat.le_of_ble_eq_true rfl⟩ ⟨Nat.le_of_ble_eq_true rfl, Nat.le_of_ble_eq_true rfl⟩ rfl rfl
    refine r_cv0 (pc := 18) ?_ dX10_whole_18 cl_X10 ok_X10_tells rfl wd_5_214 ⟨Nat.le_of_ble_eq_true rfl, Nat.le_of_ble_eq_true rfl⟩ ⟨Nat.le_of_ble_eq_true rfl, Nat.le_of_ble_eq_true rfl⟩ rfl rfl
    refine r_goto (pc := 21) (t := 29) ?_ dX10_whole_21 (by decide)
    exact r_ir dX10_whole_29 rfl (Nat.le_of_ble_eq_true rfl) (Nat.le_of_ble_eq_true rfl)
abbrev Y_X10_completeOn : YT := (yX10_completeOn, cX10_completeOn, 8, (some .int), 3, 73, 0, 0)
theorem ok_X10_completeOn : okV Y_X10_completeOn 2 := ⟨⟨wd_6_232, wd_1_9, by decide, by decide, by decide +kernel⟩, wd_6_230, wd_6_231⟩
def R_X10_completeOn_0 (l : Launch) (G : GT) (F : FX) (Q : PQ) (QX : PX) : KT := (I_al 0 (I_il 1 (I_cv (Tr true l G Y_X10_isApprentice) 8 13 1 QX (I_ifne (I_il 2 (I_i2l (I_lc 1 (I_lc (12 : Int64) (I_cs (Tr true l G Y_X10_in) 3 QX (I_ifne (I_lc 0 (I_ls 3 (I_ic 0 (I_is 5 (Wj true l G F Y_X10_completeOn Q QX 0 0 37))))) (I_al 0 (I_ic 2 (I_cv (Tr true l G Y_X10_fails) 8 13 1 QX (I_ir Q)))))))))) (I_al 0 (I_ic 1 (I_cv (Tr true l G Y_X10_fails) 8 13 1 QX (I_ir Q))))))))
set_option maxRecDepth 100000 in
theorem g_X10_completeOn_0 {l : Launch} {G : GT} {F : FX} {Q : PQ} {QX : PX} : Le (R_X10_completeOn_0 l G F Q QX) (Wj true l G F Y_X10_completeOn Q QX 0 0 0) := by
  unfold R_X10_completeOn_0
  refine r_aload_n (pc := 0) ?_ dX10_completeOn_0 rfl
  refine r_iload_n (pc := 1) ?_ dX10_completeOn_1 rfl
  refine r_cv0 (pc := 2) ?_ dX10_completeOn_2 cl_X10 ok_X10_isApprentice rfl wd_6_41 ⟨Nat.le_of_ble_eq_true rfl, Nat.le_of_ble_eq_true rfl⟩ ⟨Nat.le_of_ble_eq_true rfl, Nat.le_of_ble_eq_true rfl⟩ rfl rfl
  refine r_ifne (pc := 5) (t := 14) ?_ ?_ dX10_completeOn_5 (by decide)
  · refine r_iload_n (pc := 14) ?_ dX10_completeOn_14 rfl
    refine r_i2l (pc := 15) ?_ dX10_completeOn_15
    refine r_lconst (pc := 16) ?_ dX10_completeOn_16 (by decide)
    refine r_ldc2 (pc := 17) ?_ dX10_completeOn_17 wd_6_70
    refine r_cs0 (pc := 20) ?_ dX10_completeOn_20 ok_X10_in wd_5_194 ⟨Nat.le_of_ble_eq_true rfl, Nat.le_of_ble_eq_true rfl⟩ ⟨Nat.le_of_ble_eq_true rfl, Nat.le_of_ble_eq_true rfl⟩ rfl rfl
    refine r_ifne (pc := 23) (t := 32) ?_ ?_ dX10_completeOn_23 (by decide)
    · refine r_lconst (pc := 32) ?_ dX10_completeOn_32 (by decide)
      refine r_lstore_n (pc := 33) ?_ dX10_completeOn_33 rfl (Nat.le_of_ble_eq_true rfl)
      refine r_iconst (pc := 34) ?_ dX10_completeOn_34 (by decide)
      refine r_istore (pc := 35) ?_ dX10_completeOn_35 (Nat.le_of_ble_eq_true rfl)
      exact Le.rf
    · refine r_aload_n (pc := 26) ?_ dX10_completeOn_26 rfl
      refine r_iconst (pc := 27) ?_ dX10_completeOn_27 (by decide)
      refine r_cv0 (pc := 28) ?_ dX10_completeOn_28 cl_X10 ok_X10_fails rfl wd_5_206 ⟨Nat.le_of_ble_eq_true rfl, Nat.le_of_ble_eq_true rfl⟩ ⟨Nat.le_of_ble_eq_true rfl, Nat.le_of_ble_eq_true rfl⟩ rfl rfl
      exact r_ir dX10_completeOn_31 rfl (Nat.le_of_ble_eq_true rfl) (Nat.le_of_ble_eq_true rfl)
  · refine r_aload_n (pc := 8) ?_ dX10_completeOn_8 rfl
    refine r_iconst (pc := 9) ?_ dX10_completeOn_9 (by decide)
    refine r_cv0 (pc := 10) ?_ dX10_completeOn_10 cl_X10 ok_X10_fails rfl wd_5_206 ⟨Nat.le_of_ble_eq_true rfl, Nat.le_of_ble_eq_true rfl⟩ ⟨Nat.le_of_ble_eq_true rfl, Nat.le_of_ble_eq_true rfl⟩ rfl rfl
    exact r_ir dX10_completeOn_13 rfl (Nat.le_of_ble_eq_true rfl) (Nat.le_of_ble_eq_true rfl)
def R_X10_completeOn_37 (l : Launch) (G : GT) (F : FX) (Q : PQ) (QX : PX) : KT := (I_il 5 (I_ic 3 (I_icge (I_al 0 (I_gp 8 13 1 (I_ic 3 (I_lal (I_l2i (I_is 5 (I_ll 3 (I_lc 0 (I_lcmp (I_ifne (I_ic 0 (I_is 6 (Wj true l G F Y_X10_completeOn Q QX 0 0 110))) (I_al 0 (I_il 5 (I_i2l (I_cv (Tr true l G Y_X10_tells) 8 13 1 QX (I_ir Q))))))))))))))) (I_al 0 (I_il 1 (I_il 5 (I_cv (Tr true l G Y_X10_missing) 8 13 2 QX (I_al 0 (I_il 1 (I_il 5 (I_ic 0 (I_cv (Tr true l G Y_X10_hoursOf) 8 13 3 QX (I_i2l (I_lsub (I_ls 6 (I_ll 3 (I_ll 6 (I_lc 0 (I_lcmp (I_ifge (I_ll 6 (I_ladd (I_ls 3 (I_inc 5 1 (I_kl 6 (Wj true l G F Y_X10_completeOn Q QX 0 0 37)))))) (I_lc 0 (I_ladd (I_ls 3 (I_inc 5 1 (I_kl 6 (Wj true l G F Y_X10_completeOn Q QX 0 0 37))))))))))))))))))))))))))
set_option maxRecDepth 100000 in
theorem g_X10_completeOn_37 {l : Launch} {G : GT} {F : FX} {Q : PQ} {QX : PX} : Le (R_X10_completeOn_37 l G F Q QX) (Wj true l G F Y_X10_completeOn Q QX 0 0 37) := by
  unfold R_X10_completeOn_37
  refine r_iload (pc := 37) ?_ dX10_completeOn_37
  refine r_iconst (pc := 39) ?_ dX10_completeOn_39 (by decide)
  refine r_icge (pc := 40) (t := 84) ?_ ?_ dX10_completeOn_40 (by decide)
  · refine r_aload_n (pc := 84) ?_ dX10_completeOn_84 rfl
    refine r_gp (pc := 85) (kf := 0) ?_ dX10_completeOn_85 cl_X10 (Nat.le_of_ble_eq_true rfl) rfl wd_5_137 pv_X10_0
    refine r_iconst (pc := 88) ?_ dX10_completeOn_88 (by decide)
    refine r_lal (pc := 89) ?_ dX10_completeOn_89
    refine r_l2i (pc := 90) ?_ dX10_completeOn_90
    refine r_istore (pc := 91) ?_ dX10_completeOn_91 (Nat.le_of_ble_eq_true rfl)
    refine r_lload_n (pc := 93) ?_ dX10_completeOn_93 rfl
    refine r_lconst (pc := 94) ?_ dX10_completeOn_94 (by decide)
    refine r_lcmp (pc := 95) ?_ dX10_completeOn_95
    refine r_ifne (pc := 96) (t := 107) ?_ ?_ dX10_completeOn_96 (by decide)
    · refine r_iconst (pc := 107) ?_ dX10_completeOn_107 (by decide)
      refine r_istore (pc := 108) ?_ dX10_completeOn_108 (Nat.le_of_ble_eq_true rfl)
      exact Le.rf
    · refine r_aload_n (pc := 99) ?_ dX10_completeOn_99 rfl
      refine r_iload (pc := 100) ?_ dX10_completeOn_100
      refine r_i2l (pc := 102) ?_ dX10_completeOn_102
      refine r_cv0 (pc := 103) ?_ dX10_completeOn_103 cl_X10 ok_X10_tells rfl wd_5_214 ⟨Nat.le_of_ble_eq_true rfl, Nat.le_of_ble_eq_true rfl⟩ ⟨Nat.le_of_ble_eq_true rfl, Nat.le_of_ble_eq_true rfl⟩ rfl rfl
      exact r_ir dX10_completeOn_106 rfl (Nat.le_of_ble_eq_true rfl) (Nat.le_of_ble_eq_true rfl)
  · refine r_aload_n (pc := 43) ?_ dX10_completeOn_43 rfl
    refine r_iload_n (pc := 44) ?_ dX10_completeOn_44 rfl
    refine r_iload (pc := 45) ?_ dX10_completeOn_45
    refine r_cv0 (pc := 47) ?_ dX10_completeOn_47 cl_X10 ok_X10_missing rfl wd_6_199 ⟨Nat.le_of_ble_eq_true rfl, Nat.le_of_ble_eq_true rfl⟩ ⟨Nat.le_of_ble_eq_true rfl, Nat.le_of_ble_eq_true rfl⟩ rfl rfl
    refine r_aload_n (pc := 50) ?_ dX10_completeOn_50 rfl
    refine r_iload_n (pc := 51) ?_ dX10_completeOn_51 rfl
    refine r_iload (pc := 52) ?_ dX10_completeOn_52
    refine r_iconst (pc := 54) ?_ dX10_completeOn_54 (by decide)
    refine r_cv0 (pc := 55) ?_ dX10_completeOn_55 cl_X10 ok_X10_hoursOf rfl wd_6_191 ⟨Nat.le_of_ble_eq_true rfl, Nat.le_of_ble_eq_true rfl⟩ ⟨Nat.le_of_ble_eq_true rfl, Nat.le_of_ble_eq_true rfl⟩ rfl rfl
    refine r_i2l (pc := 58) ?_ dX10_completeOn_58
    refine r_lsub (pc := 59) ?_ dX10_completeOn_59
    refine r_lstore (pc := 60) ?_ dX10_completeOn_60 (Nat.le_of_ble_eq_true rfl)
    refine r_lload_n (pc := 62) ?_ dX10_completeOn_62 rfl
    refine r_lload (pc := 63) ?_ dX10_completeOn_63
    refine r_lconst (pc := 65) ?_ dX10_completeOn_65 (by decide)
    refine r_lcmp (pc := 66) ?_ dX10_completeOn_66
    refine r_ifge (pc := 67) (t := 74) ?_ ?_ dX10_completeOn_67 (by decide)
    · refine r_lload (pc := 74) ?_ dX10_completeOn_74
      refine r_ladd (pc := 76) ?_ dX10_completeOn_76
      refine r_lstore_n (pc := 77) ?_ dX10_completeOn_77 rfl (Nat.le_of_ble_eq_true rfl)
      refine r_iinc (pc := 78) ?_ dX10_completeOn_78 (by decide) (Nat.le_of_ble_eq_true rfl)
      refine r_goto (pc := 81) (t := 37) ?_ dX10_completeOn_81 (by decide)
      refine r_kl ?_
      exact Le.rf
    · refine r_lconst (pc := 70) ?_ dX10_completeOn_70 (by decide)
      refine r_goto (pc := 71) (t := 76) ?_ dX10_completeOn_71 (by decide)
      refine r_ladd (pc := 76) ?_ dX10_completeOn_76
      refine r_lstore_n (pc := 77) ?_ dX10_completeOn_77 rfl (Nat.le_of_ble_eq_true rfl)
      refine r_iinc (pc := 78) ?_ dX10_completeOn_78 (by decide) (Nat.le_of_ble_eq_true rfl)
      refine r_goto (pc := 81) (t := 37) ?_ dX10_completeOn_81 (by decide)
      refine r_kl ?_
      exact Le.rf
def R_X10_completeOn_110 (l : Launch) (G : GT) (F : FX) (Q : PQ) (QX : PX) : KT := (I_il 6 (I_ic 2000 (I_icge (I_al 0 (I_lc (-1 : Int64) (I_cv (Tr true l G Y_X10_tells) 8 13 1 QX (I_ir Q)))) (I_ll 3 (I_al 0 (I_il 1 (I_ic 11 (I_il 5 (I_il 6 (I_iadd (I_cv (Tr true l G Y_X10_isDay) 8 13 3 QX (I_ifeq (I_il 2 (I_i2l (I_kl 3 (Wj true l G F Y_X10_completeOn Q QX 0 0 140)))) (I_lc 0 (I_kl 3 (Wj true l G F Y_X10_completeOn Q QX 0 0 140)))))))))))))))
set_option maxRecDepth 100000 in
theorem g_X10_completeOn_110 {l : Launch} {G : GT} {F : FX} {Q : PQ} {QX : PX} : Le (R_X10_completeOn_110 l G F Q QX) (Wj true l G F Y_X10_completeOn Q QX 0 0 110) := by
  unfold R_X10_completeOn_110
  refine r_iload (pc := 110) ?_ dX10_completeOn_110
  refine r_sipush (pc := 112) ?_ dX10_completeOn_112 (by decide)
  refine r_icge (pc := 115) (t := 165) ?_ ?_ dX10_completeOn_115 (by decide)
  · refine r_aload_n (pc := 165) ?_ dX10_completeOn_165 rfl
    refine r_ldc2 (pc := 166) ?_ dX10_completeOn_166 wd_6_100
    refine r_cv0 (pc := 169) ?_ dX10_completeOn_169 cl_X10 ok_X10_tells rfl wd_5_214 ⟨Nat.le_of_ble_eq_true rfl, Nat.le_of_ble_eq_true rfl⟩ ⟨Nat.le_of_ble_eq_true rfl, Nat.le_of_ble_eq_true rfl⟩ rfl rfl
    exact r_ir dX10_completeOn_172 rfl (Nat.le_of_ble_eq_true rfl) (Nat.le_of_ble_eq_true rfl)
  · refine r_lload_n (pc := 118) ?_ dX10_completeOn_118 rfl
    refine r_aload_n (pc := 119) ?_ dX10_completeOn_119 rfl
    refine r_iload_n (pc := 120) ?_ dX10_completeOn_120 rfl
    refine r_bipush (pc := 121) ?_ dX10_completeOn_121 (by decide)
    refine r_iload (pc := 123) ?_ dX10_completeOn_123
    refine r_iload (pc := 125) ?_ dX10_completeOn_125
    refine r_iadd (pc := 127) ?_ dX10_completeOn_127
    refine r_cv0 (pc := 128) ?_ dX10_completeOn_128 cl_X10 ok_X10_isDay rfl wd_6_46 ⟨Nat.le_of_ble_eq_true rfl, Nat.le_of_ble_eq_true rfl⟩ ⟨Nat.le_of_ble_eq_true rfl, Nat.le_of_ble_eq_true rfl⟩ rfl rfl
    refine r_ifeq (pc := 131) (t := 138) ?_ ?_ dX10_completeOn_131 (by decide)
    · refine r_iload_n (pc := 138) ?_ dX10_completeOn_138 rfl
      refine r_i2l (pc := 139) ?_ dX10_completeOn_139
      refine r_kl ?_
      exact Le.rf
    · refine r_lconst (pc := 134) ?_ dX10_completeOn_134 (by decide)
      refine r_goto (pc := 135) (t := 140) ?_ dX10_completeOn_135 (by decide)
      refine r_kl ?_
      exact Le.rf
def R_X10_completeOn_140 (l : Launch) (G : GT) (F : FX) (Q : PQ) (QX : PX) : KT := (I_lsub (I_ls 3 (I_ll 3 (I_lc 0 (I_lcmp (I_ifgt (I_inc 6 1 (Wj true l G F Y_X10_completeOn Q QX 0 0 110)) (I_al 0 (I_il 5 (I_il 6 (I_iadd (I_i2l (I_cv (Tr true l G Y_X10_tells) 8 13 1 QX (I_ir Q)))))))))))))
set_option maxRecDepth 100000 in
theorem g_X10_completeOn_140 {l : Launch} {G : GT} {F : FX} {Q : PQ} {QX : PX} : Le (R_X10_completeOn_140 l G F Q QX) (Wj true l G F Y_X10_completeOn Q QX 0 0 140) := by
  unfold R_X10_completeOn_140
  refine r_lsub (pc := 140) ?_ dX10_completeOn_140
  refine r_lstore_n (pc := 141) ?_ dX10_completeOn_141 rfl (Nat.le_of_ble_eq_true rfl)
  refine r_lload_n (pc := 142) ?_ dX10_completeOn_142 rfl
  refine r_lconst (pc := 143) ?_ dX10_completeOn_143 (by decide)
  refine r_lcmp (pc := 144) ?_ dX10_completeOn_144
  refine r_ifgt (pc := 145) (t := 159) ?_ ?_ dX10_completeOn_145 (by decide)
  · refine r_iinc (pc := 159) ?_ dX10_completeOn_159 (by decide) (Nat.le_of_ble_eq_true rfl)
    refine r_goto (pc := 162) (t := 110) ?_ dX10_completeOn_162 (by decide)
    exact Le.rf
  · refine r_aload_n (pc := 148) ?_ dX10_completeOn_148 rfl
    refine r_iload (pc := 149) ?_ dX10_completeOn_149
    refine r_iload (pc := 151) ?_ dX10_completeOn_151
    refine r_iadd (pc := 153) ?_ dX10_completeOn_153
    refine r_i2l (pc := 154) ?_ dX10_completeOn_154
    refine r_cv0 (pc := 155) ?_ dX10_completeOn_155 cl_X10 ok_X10_tells rfl wd_5_214 ⟨Nat.le_of_ble_eq_true rfl, Nat.le_of_ble_eq_true rfl⟩ ⟨Nat.le_of_ble_eq_true rfl, Nat.le_of_ble_eq_true rfl⟩ rfl rfl
    exact r_ir dX10_completeOn_158 rfl (Nat.le_of_ble_eq_true rfl) (Nat.le_of_ble_eq_true rfl)
abbrev Y_X10_best : YT := (yX10_best, cX10_best, 13, (some .int), 5, 109, 0, 0)
theorem ok_X10_best : okV Y_X10_best 1 := ⟨⟨wd_7_0, wd_1_9, by decide, by decide, by decide +kernel⟩, wd_6_239, wp_86⟩
def R_X10_best_0 (l : Launch) (G : GT) (F : FX) (Q : PQ) (QX : PX) : KT := (I_ic (-1) (I_is 2 (I_lc 0 (I_ls 3 (I_lc 1 (I_ls 5 (I_ic 0 (I_is 7 (Wj true l G F Y_X10_best Q QX 0 0 10)))))))))
set_option maxRecDepth 100000 in
theorem g_X10_best_0 {l : Launch} {G : GT} {F : FX} {Q : PQ} {QX : PX} : Le (R_X10_best_0 l G F Q QX) (Wj true l G F Y_X10_best Q QX 0 0 0) := by
  unfold R_X10_best_0
  refine r_iconst (pc := 0) ?_ dX10_best_0 (by decide)
  refine r_istore_n (pc := 1) ?_ dX10_best_1 rfl (Nat.le_of_ble_eq_true rfl)
  refine r_lconst (pc := 2) ?_ dX10_best_2 (by decide)
  refine r_lstore_n (pc := 3) ?_ dX10_best_3 rfl (Nat.le_of_ble_eq_true rfl)
  refine r_lconst (pc := 4) ?_ dX10_best_4 (by decide)
  refine r_lstore (pc := 5) ?_ dX10_best_5 (Nat.le_of_ble_eq_true rfl)
  refine r_iconst (pc := 7) ?_ dX10_best_7 (by decide)
  refine r_istore (pc := 8) ?_ dX10_best_8 (Nat.le_of_ble_eq_true rfl)
  exact Le.rf
def R_X10_best_10 (l : Launch) (G : GT) (F : FX) (Q : PQ) (QX : PX) : KT := (I_il 7 (I_i2l (I_al 0 (I_gp 8 13 1 (I_ic 1 (I_lal (I_lcmp (I_ifge (I_il 2 (I_ir Q)) (I_al 0 (I_il 7 (I_cv (Tr true l G Y_X10_apprenticesOf) 8 13 1 QX (I_i2l (I_lc 1 (I_ladd (I_ls 8 (I_al 0 (I_il 7 (I_ic 0 (I_cv (Tr true l G Y_X10_ofMentor) 8 13 2 QX (I_ls 10 (I_al 0 (I_il 1 (I_il 7 (I_cv (Tr true l G Y_X10_reasonOf) 8 13 2 QX (I_ifne (I_ic 0 (I_is 12 (I_il 12 (I_ifeq (I_ll 3 (I_kl 8 (I_kl 3 (Wj true l G F Y_X10_best Q QX 0 0 89)))) (I_ll 8 (I_kl 8 (I_kl 3 (Wj true l G F Y_X10_best Q QX 0 0 89)))))))) (I_il 2 (I_ic (-1) (I_iceq (I_ic 1 (I_is 12 (I_il 12 (I_ifeq (I_ll 3 (I_kl 8 (I_kl 3 (Wj true l G F Y_X10_best Q QX 0 0 89)))) (I_ll 8 (I_kl 8 (I_kl 3 (Wj true l G F Y_X10_best Q QX 0 0 89)))))))) (I_ll 8 (I_ll 5 (I_lmul (I_ll 3 (I_ll 10 (I_lmul (I_lcmp (I_ifge (I_ic 0 (I_is 12 (I_il 12 (I_ifeq (I_ll 3 (I_kl 8 (I_kl 3 (Wj true l G F Y_X10_best Q QX 0 0 89)))) (I_ll 8 (I_kl 8 (I_kl 3 (Wj true l G F Y_X10_best Q QX 0 0 89)))))))) (I_ic 1 (I_is 12 (I_il 12 (I_ifeq (I_ll 3 (I_kl 8 (I_kl 3 (Wj true l G F Y_X10_best Q QX 0 0 89)))) (I_ll 8 (I_kl 8 (I_kl 3 (Wj true l G F Y_X10_best Q QX 0 0 89))))))))))))))))))))))))))))))))))))))))))))
set_option maxRecDepth 100000 in
theorem g_X10_best_10 {l : Launch} {G : GT} {F : FX} {Q : PQ} {QX : PX} : Le (R_X10_best_10 l G F Q QX) (Wj true l G F Y_X10_best Q QX 0 0 10) := by
  unfold R_X10_best_10
  refine r_iload (pc := 10) ?_ dX10_best_10
  refine r_i2l (pc := 12) ?_ dX10_best_12
  refine r_aload_n (pc := 13) ?_ dX10_best_13 rfl
  refine r_gp (pc := 14) (kf := 0) ?_ dX10_best_14 cl_X10 (Nat.le_of_ble_eq_true rfl) rfl wd_5_137 pv_X10_0
  refine r_iconst (pc := 17) ?_ dX10_best_17 (by decide)
  refine r_lal (pc := 18) ?_ dX10_best_18
  refine r_lcmp (pc := 19) ?_ dX10_best_19
  refine r_ifge (pc := 20) (t := 122) ?_ ?_ dX10_best_20 (by decide)
  · refine r_iload_n (pc := 122) ?_ dX10_best_122 rfl
    exact r_ir dX10_best_123 rfl (Nat.le_of_ble_eq_true rfl) (Nat.le_of_ble_eq_true rfl)
  · refine r_aload_n (pc := 23) ?_ dX10_best_23 rfl
    refine r_iload (pc := 24) ?_ dX10_best_24
    refine r_cv0 (pc := 26) ?_ dX10_best_26 cl_X10 ok_X10_apprenticesOf rfl wd_6_17 ⟨Nat.le_of_ble_eq_true rfl, Nat.le_of_ble_eq_true rfl⟩ ⟨Nat.le_of_ble_eq_true rfl, Nat.le_of_ble_eq_true rfl⟩ rfl rfl
    refine r_i2l (pc := 29) ?_ dX10_best_29
    refine r_lconst (pc := 30) ?_ dX10_best_30 (by decide)
    refine r_ladd (pc := 31) ?_ dX10_best_31
    refine r_lstore (pc := 32) ?_ dX10_best_32 (Nat.le_of_ble_eq_true rfl)
    refine r_aload_n (pc := 34) ?_ dX10_best_34 rfl
    refine r_iload (pc := 35) ?_ dX10_best_35
    refine r_iconst (pc := 37) ?_ dX10_best_37 (by decide)
    refine r_cv0 (pc := 38) ?_ dX10_best_38 cl_X10 ok_X10_ofMentor rfl wd_6_9 ⟨Nat.le_of_ble_eq_true rfl, Nat.le_of_ble_eq_true rfl⟩ ⟨Nat.le_of_ble_eq_true rfl, Nat.le_of_ble_eq_true rfl⟩ rfl rfl
    refine r_lstore (pc := 41) ?_ dX10_best_41 (Nat.le_of_ble_eq_true rfl)
    refine r_aload_n (pc := 43) ?_ dX10_best_43 rfl
    refine r_iload_n (pc := 44) ?_ dX10_best_44 rfl
    refine r_iload (pc := 45) ?_ dX10_best_45
    refine r_cv0 (pc := 47) ?_ dX10_best_47 cl_X10 ok_X10_reasonOf rfl wd_6_142 ⟨Nat.le_of_ble_eq_true rfl, Nat.le_of_ble_eq_true rfl⟩ ⟨Nat.le_of_ble_eq_true rfl, Nat.le_of_ble_eq_true rfl⟩ rfl rfl
    refine r_ifne (pc := 50) (t := 75) ?_ ?_ dX10_best_50 (by decide)
    · refine r_iconst (pc := 75) ?_ dX10_best_75 (by decide)
      refine r_istore (pc := 76) ?_ dX10_best_76 (Nat.le_of_ble_eq_true rfl)
      refine r_iload (pc := 78) ?_ dX10_best_78
      refine r_ifeq (pc := 80) (t := 88) ?_ ?_ dX10_best_80 (by decide)
      · refine r_lload_n (pc := 88) ?_ dX10_best_88 rfl
        refine r_kl ?_
        refine r_kl ?_
        exact Le.rf
      · refine r_lload (pc := 83) ?_ dX10_best_83
        refine r_goto (pc := 85) (t := 89) ?_ dX10_best_85 (by decide)
        refine r_kl ?_
        refine r_kl ?_
        exact Le.rf
    · refine r_iload_n (pc := 53) ?_ dX10_best_53 rfl
      refine r_iconst (pc := 54) ?_ dX10_best_54 (by decide)
      refine r_iceq (pc := 55) (t := 71) ?_ ?_ dX10_best_55 (by decide)
      · refine r_iconst (pc := 71) ?_ dX10_best_71 (by decide)
        refine r_goto (pc := 72) (t := 76) ?_ dX10_best_72 (by decide)
        refine r_istore (pc := 76) ?_ dX10_best_76 (Nat.le_of_ble_eq_true rfl)
        refine r_iload (pc := 78) ?_ dX10_best_78
        refine r_ifeq (pc := 80) (t := 88) ?_ ?_ dX10_best_80 (by decide)
        · refine r_lload_n (pc := 88) ?_ dX10_best_88 rfl
          refine r_kl ?_
          refine r_kl ?_
          exact Le.rf
        · refine r_lload (pc := 83) ?_ dX10_best_83
          refine r_goto (pc := 85) (t := 89) ?_ dX10_best_85 (by decide)
          refine r_kl ?_
          refine r_kl ?_
          exact Le.rf
      · refine r_lload (pc := 58) ?_ dX10_best_58
        refine r_lload (pc := 60) ?_ dX10_best_60
        refine r_lmul (pc := 62) ?_ dX10_best_62
        refine r_lload_n (pc := 63) ?_ dX10_best_63 rfl
        refine r_lload (pc := 64) ?_ dX10_best_64
        refine r_lmul (pc := 66) ?_ dX10_best_66
        refine r_lcmp (pc := 67) ?_ dX10_best_67
        refine r_ifge (pc := 68) (t := 75) ?_ ?_ dX10_best_68 (by decide)
        · refine r_iconst (pc := 75) ?_ dX10_best_75 (by decide)
          refine r_istore (pc := 76) ?_ dX10_best_76 (Nat.le_of_ble_eq_true rfl)
          refine r_iload (pc := 78) ?_ dX10_best_78
          refine r_ifeq (pc := 80) (t := 88) ?_ ?_ dX10_best_80 (by decide)
          · refine r_lload_n (pc := 88) ?_ dX10_best_88 rfl
            refine r_kl ?_
            refine r_kl ?_
            exact Le.rf
          · refine r_lload (pc := 83) ?_ dX10_best_83
            refine r_goto (pc := 85) (t := 89) ?_ dX10_best_85 (by decide)
            refine r_kl ?_
            refine r_kl ?_
            exact Le.rf
        · refine r_iconst (pc := 71) ?_ dX10_best_71 (by decide)
          refine r_goto (pc := 72) (t := 76) ?_ dX10_best_72 (by decide)
          refine r_istore (pc := 76) ?_ dX10_best_76 (Nat.le_of_ble_eq_true rfl)
          refine r_iload (pc := 78) ?_ dX10_best_78
          refine r_ifeq (pc := 80) (t := 88) ?_ ?_ dX10_best_80 (by decide)
          · refine r_lload_n (pc := 88) ?_ dX10_best_88 rfl
            refine r_kl ?_
            refine r_kl ?_
            exact Le.rf
          · refine r_lload (pc := 83) ?_ dX10_best_83
            refine r_goto (pc := 85) (t := 89) ?_ dX10_best_85 (by decide)
            refine r_kl ?_
            refine r_kl ?_
            exact Le.rf
def R_X10_best_89 (l : Launch) (G : GT) (F : FX) (Q : PQ) (QX : PX) : KT := (I_ls 3 (I_il 12 (I_ifeq (I_ll 5 (I_ls 5 (I_il 12 (I_ifeq (I_il 2 (I_is 2 (I_inc 7 1 (I_kl 12 (I_kl 10 (Wj true l G F Y_X10_best Q QX 0 0 10)))))) (I_il 7 (I_is 2 (I_inc 7 1 (I_kl 12 (I_kl 10 (Wj true l G F Y_X10_best Q QX 0 0 10)))))))))) (I_ll 10 (I_ls 5 (I_il 12 (I_ifeq (I_il 2 (I_is 2 (I_inc 7 1 (I_kl 12 (I_kl 10 (Wj true l G F Y_X10_best Q QX 0 0 10)))))) (I_il 7 (I_is 2 (I_inc 7 1 (I_kl 12 (I_kl 10 (Wj true l G F Y_X10_best Q QX 0 0 10)))))))))))))
set_option maxRecDepth 100000 in
theorem g_X10_best_89 {l : Launch} {G : GT} {F : FX} {Q : PQ} {QX : PX} : Le (R_X10_best_89 l G F Q QX) (Wj true l G F Y_X10_best Q QX 0 0 89) := by
  unfold R_X10_best_89
  refine r_lstore_n (pc := 89) ?_ dX10_best_89 rfl (Nat.le_of_ble_eq_true rfl)
  refine r_iload (pc := 90) ?_ dX10_best_90
  refine r_ifeq (pc := 92) (t := 100) ?_ ?_ dX10_best_92 (by decide)
  · refine r_lload (pc := 100) ?_ dX10_best_100
    refine r_lstore (pc := 102) ?_ dX10_best_102 (Nat.le_of_ble_eq_true rfl)
    refine r_iload (pc := 104) ?_ dX10_best_104
    refine r_ifeq (pc := 106) (t := 114) ?_ ?_ dX10_best_106 (by decide)
    · refine r_iload_n (pc := 114) ?_ dX10_best_114 rfl
      refine r_istore_n (pc := 115) ?_ dX10_best_115 rfl (Nat.le_of_ble_eq_true rfl)
      refine r_iinc (pc := 116) ?_ dX10_best_116 (by decide) (Nat.le_of_ble_eq_true rfl)
      refine r_goto (pc := 119) (t := 10) ?_ dX10_best_119 (by decide)
      refine r_kl ?_
      refine r_kl ?_
      exact Le.rf
    · refine r_iload (pc := 109) ?_ dX10_best_109
      refine r_goto (pc := 111) (t := 115) ?_ dX10_best_111 (by decide)
      refine r_istore_n (pc := 115) ?_ dX10_best_115 rfl (Nat.le_of_ble_eq_true rfl)
      refine r_iinc (pc := 116) ?_ dX10_best_116 (by decide) (Nat.le_of_ble_eq_true rfl)
      refine r_goto (pc := 119) (t := 10) ?_ dX10_best_119 (by decide)
      refine r_kl ?_
      refine r_kl ?_
      exact Le.rf
  · refine r_lload (pc := 95) ?_ dX10_best_95
    refine r_goto (pc := 97) (t := 102) ?_ dX10_best_97 (by decide)
    refine r_lstore (pc := 102) ?_ dX10_best_102 (Nat.le_of_ble_eq_true rfl)
    refine r_iload (pc := 104) ?_ dX10_best_104
    refine r_ifeq (pc := 106) (t := 114) ?_ ?_ dX10_best_106 (by decide)
    · refine r_iload_n (pc := 114) ?_ dX10_best_114 rfl
      refine r_istore_n (pc := 115) ?_ dX10_best_115 rfl (Nat.le_of_ble_eq_true rfl)
      refine r_iinc (pc := 116) ?_ dX10_best_116 (by decide) (Nat.le_of_ble_eq_true rfl)
      refine r_goto (pc := 119) (t := 10) ?_ dX10_best_119 (by decide)
      refine r_kl ?_
      refine r_kl ?_
      exact Le.rf
    · refine r_iload (pc := 109) ?_ dX10_best_109
      refine r_goto (pc := 111) (t := 115) ?_ dX10_best_111 (by decide)
      refine r_istore_n (pc := 115) ?_ dX10_best_115 rfl (Nat.le_of_ble_eq_true rfl)
      refine r_iinc (pc := 116) ?_ dX10_best_116 (by decide) (Nat.le_of_ble_eq_true rfl)
      refine r_goto (pc := 119) (t := 10) ?_ dX10_best_119 (by decide)
      refine r_kl ?_
      refine r_kl ?_
      exact Le.rf
abbrev Y_X10_bestMentor : YT := (yX10_bestMentor, cX10_bestMentor, 2, (some .int), 6, 141, 0, 0)
theorem ok_X10_bestMentor : okV Y_X10_bestMentor 1 := ⟨⟨wd_6_236, wd_1_9, by decide, by decide, by decide +kernel⟩, wd_6_234, wd_6_235⟩
def R_X10_bestMentor_0 (l : Launch) (G : GT) (F : FX) (Q : PQ) (QX : PX) : KT := (I_al 0 (I_il 1 (I_cv (Tr true l G Y_X10_isApprentice) 8 13 1 QX (I_ifeq (I_al 0 (I_ic 1 (I_cv (Tr true l G Y_X10_fails) 8 13 1 QX (I_ir Q)))) (I_al 0 (I_al 0 (I_il 1 (I_cv (Tr true l G Y_X10_best) 8 13 1 QX (I_i2l (I_cv (Tr true l G Y_X10_tells) 8 13 1 QX (I_ir Q)))))))))))
set_option maxRecDepth 100000 in
theorem g_X10_bestMentor_0 {l : Launch} {G : GT} {F : FX} {Q : PQ} {QX : PX} : Le (R_X10_bestMentor_0 l G F Q QX) (Wj true l G F Y_X10_bestMentor Q QX 0 0 0) := by
  unfold R_X10_bestMentor_0
  refine r_aload_n (pc := 0) ?_ dX10_bestMentor_0 rfl
  refine r_iload_n (pc := 1) ?_ dX10_bestMentor_1 rfl
  refine r_cv0 (pc := 2) ?_ dX10_bestMentor_2 cl_X10 ok_X10_isApprentice rfl wd_6_41 ⟨Nat.le_of_ble_eq_true rfl, Nat.le_of_ble_eq_true rfl⟩ ⟨Nat.le_of_ble_eq_true rfl, Nat.le_of_ble_eq_true rfl⟩ rfl rfl
  refine r_ifeq (pc := 5) (t := 21) ?_ ?_ dX10_bestMentor_5 (by decide)
  · refine r_aload_n (pc := 21) ?_ dX10_bestMentor_21 rfl
    refine r_iconst (pc := 22) ?_ dX10_bestMentor_22 (by decide)
    refine r_cv0 (pc := 23) ?_ dX10_bestMentor_23 cl_X10 ok_X10_fails rfl wd_5_206 ⟨Nat.le_of_ble_eq_true rfl, Nat.le_of_ble_eq_true rfl⟩ ⟨Nat.le_of_ble_eq_true rfl, Nat.le_of_ble_eq_true rfl⟩ rfl rfl
    exact r_ir dX10_bestMentor_26 rfl (Nat.le_of_ble_eq_true rfl) (Nat.le_of_ble_eq_true rfl)
  · refine r_aload_n (pc := 8) ?_ dX10_bestMentor_8 rfl
    refine r_aload_n (pc := 9) ?_ dX10_bestMentor_9 rfl
    refine r_iload_n (pc := 10) ?_ dX10_bestMentor_10 rfl
    refine r_cv0 (pc := 11) ?_ dX10_bestMentor_11 cl_X10 ok_X10_best rfl wd_6_237 ⟨Nat.le_of_ble_eq_true rfl, Nat.le_of_ble_eq_true rfl⟩ ⟨Nat.le_of_ble_eq_true rfl, Nat.le_of_ble_eq_true rfl⟩ rfl rfl
    refine r_i2l (pc := 14) ?_ dX10_bestMentor_14
    refine r_cv0 (pc := 15) ?_ dX10_bestMentor_15 cl_X10 ok_X10_tells rfl wd_5_214 ⟨Nat.le_of_ble_eq_true rfl, Nat.le_of_ble_eq_true rfl⟩ ⟨Nat.le_of_ble_eq_true rfl, Nat.le_of_ble_eq_true rfl⟩ rfl rfl
    refine r_goto (pc := 18) (t := 26) ?_ dX10_bestMentor_18 (by decide)
    exact r_ir dX10_bestMentor_26 rfl (Nat.le_of_ble_eq_true rfl) (Nat.le_of_ble_eq_true rfl)
abbrev Y_X10_doubtsBy : YT := (yX10_doubtsBy, cX10_doubtsBy, 3, (some .int), 3, 70, 0, 0)
theorem ok_X10_doubtsBy : okV Y_X10_doubtsBy 2 := ⟨⟨wd_7_4, wd_1_9, by decide, by decide, by decide +kernel⟩, wd_7_2, wd_7_3⟩
def R_X10_doubtsBy_0 (l : Launch) (G : GT) (F : FX) (Q : PQ) (QX : PX) : KT := (I_al 0 (I_il 1 (I_cv (Tr true l G Y_X10_isApprentice) 8 13 1 QX (I_ifeq (I_al 0 (I_ic 1 (I_cv (Tr true l G Y_X10_fails) 8 13 1 QX (I_ir Q)))) (I_al 0 (I_il 2 (I_cv (Tr true l G Y_X10_isApprentice) 8 13 1 QX (I_ifne (I_al 0 (I_il 1 (I_il 2 (I_iceq (I_lc (-1 : Int64) (I_cv (Tr true l G Y_X10_tells) 8 13 1 QX (I_ir Q))) (I_al 0 (I_il 1 (I_il 2 (I_cv (Tr true l G Y_X10_canExchange) 8 13 2 QX (I_ifeq (I_lc (-1 : Int64) (I_cv (Tr true l G Y_X10_tells) 8 13 1 QX (I_ir Q))) (I_al 0 (I_il 1 (I_al 0 (I_il 2 (I_cv (Tr true l G Y_X10_mentorOf) 8 13 1 QX (I_cv (Tr true l G Y_X10_strange) 8 13 2 QX (I_al 0 (I_il 2 (I_al 0 (I_il 1 (I_cv (Tr true l G Y_X10_mentorOf) 8 13 1 QX (I_cv (Tr true l G Y_X10_strange) 8 13 2 QX (I_iadd (I_i2l (I_cv (Tr true l G Y_X10_tells) 8 13 1 QX (I_ir Q))))))))))))))))))))))))) (I_al 0 (I_ic 1 (I_cv (Tr true l G Y_X10_fails) 8 13 1 QX (I_ir Q))))))))))))
set_option maxRecDepth 100000 in
theorem g_X10_doubtsBy_0 {l : Launch} {G : GT} {F : FX} {Q : PQ} {QX : PX} : Le (R_X10_doubtsBy_0 l G F Q QX) (Wj true l G F Y_X10_doubtsBy Q QX 0 0 0) := by
  unfold R_X10_doubtsBy_0
  refine r_aload_n (pc := 0) ?_ dX10_doubtsBy_0 rfl
  refine r_iload_n (pc := 1) ?_ dX10_doubtsBy_1 rfl
  refine r_cv0 (pc := 2) ?_ dX10_doubtsBy_2 cl_X10 ok_X10_isApprentice rfl wd_6_41 ⟨Nat.le_of_ble_eq_true rfl, Nat.le_of_ble_eq_true rfl⟩ ⟨Nat.le_of_ble_eq_true rfl, Nat.le_of_ble_eq_true rfl⟩ rfl rfl
  refine r_ifeq (pc := 5) (t := 16) ?_ ?_ dX10_doubtsBy_5 (by decide)
  · refine r_aload_n (pc := 16) ?_ dX10_doubtsBy_16 rfl
    refine r_iconst (pc := 17) ?_ dX10_doubtsBy_17 (by decide)
    refine r_cv0 (pc := 18) ?_ dX10_doubtsBy_18 cl_X10 ok_X10_fails rfl wd_5_206 ⟨Nat.le_of_ble_eq_true rfl, Nat.le_of_ble_eq_true rfl⟩ ⟨Nat.le_of_ble_eq_true rfl, Nat.le_of_ble_eq_true rfl⟩ rfl rfl
    exact r_ir dX10_doubtsBy_21 rfl (Nat.le_of_ble_eq_true rfl) (Nat.le_of_ble_eq_true rfl)
  · refine r_aload_n (pc := 8) ?_ dX10_doubtsBy_8 rfl
    refine r_iload_n (pc := 9) ?_ dX10_doubtsBy_9 rfl
    refine r_cv0 (pc := 10) ?_ dX10_doubtsBy_10 cl_X10 ok_X10_isApprentice rfl wd_6_41 ⟨Nat.le_of_ble_eq_true rfl, Nat.le_of_ble_eq_true rfl⟩ ⟨Nat.le_of_ble_eq_true rfl, Nat.le_of_ble_eq_true rfl⟩ rfl rfl
    refine r_ifne (pc := 13) (t := 22) ?_ ?_ dX10_doubtsBy_13 (by decide)
    · refine r_aload_n (pc := 22) ?_ dX10_doubtsBy_22 rfl
      refine r_iload_n (pc := 23) ?_ dX10_doubtsBy_23 rfl
      refine r_iload_n (pc := 24) ?_ dX10_doubtsBy_24 rfl
      refine r_iceq (pc := 25) (t := 62) ?_ ?_ dX10_doubtsBy_25 (by decide)
      · refine r_ldc2 (pc := 62) ?_ dX10_doubtsBy_62 wd_6_100
        refine r_cv0 (pc := 65) ?_ dX10_doubtsBy_65 cl_X10 ok_X10_tells rfl wd_5_214 ⟨Nat.le_of_ble_eq_true rfl, Nat.le_of_ble_eq_true rfl⟩ ⟨Nat.le_of_ble_eq_true rfl, Nat.le_of_ble_eq_true rfl⟩ rfl rfl
        exact r_ir dX10_doubtsBy_68 rfl (Nat.le_of_ble_eq_true rfl) (Nat.le_of_ble_eq_true rfl)
      · refine r_aload_n (pc := 28) ?_ dX10_doubtsBy_28 rfl
        refine r_iload_n (pc := 29) ?_ dX10_doubtsBy_29 rfl
        refine r_iload_n (pc := 30) ?_ dX10_doubtsBy_30 rfl
        refine r_cv0 (pc := 31) ?_ dX10_doubtsBy_31 cl_X10 ok_X10_canExchange rfl wd_6_166 ⟨Nat.le_of_ble_eq_true rfl, Nat.le_of_ble_eq_true rfl⟩ ⟨Nat.le_of_ble_eq_true rfl, Nat.le_of_ble_eq_true rfl⟩ rfl rfl
        refine r_ifeq (pc := 34) (t := 62) ?_ ?_ dX10_doubtsBy_34 (by decide)
        · refine r_ldc2 (pc := 62) ?_ dX10_doubtsBy_62 wd_6_100
          refine r_cv0 (pc := 65) ?_ dX10_doubtsBy_65 cl_X10 ok_X10_tells rfl wd_5_214 ⟨Nat.le_of_ble_eq_true rfl, Nat.le_of_ble_eq_true rfl⟩ ⟨Nat.le_of_ble_eq_true rfl, Nat.le_of_ble_eq_true rfl⟩ rfl rfl
          exact r_ir dX10_doubtsBy_68 rfl (Nat.le_of_ble_eq_true rfl) (Nat.le_of_ble_eq_true rfl)
        · refine r_aload_n (pc := 37) ?_ dX10_doubtsBy_37 rfl
          refine r_iload_n (pc := 38) ?_ dX10_doubtsBy_38 rfl
          refine r_aload_n (pc := 39) ?_ dX10_doubtsBy_39 rfl
          refine r_iload_n (pc := 40) ?_ dX10_doubtsBy_40 rfl
          refine r_cv0 (pc := 41) ?_ dX10_doubtsBy_41 cl_X10 ok_X10_mentorOf rfl wd_6_21 ⟨Nat.le_of_ble_eq_true rfl, Nat.le_of_ble_eq_true rfl⟩ ⟨Nat.le_of_ble_eq_true rfl, Nat.le_of_ble_eq_true rfl⟩ rfl rfl
          refine r_cv0 (pc := 44) ?_ dX10_doubtsBy_44 cl_X10 ok_X10_strange rfl wd_6_150 ⟨Nat.le_of_ble_eq_true rfl, Nat.le_of_ble_eq_true rfl⟩ ⟨Nat.le_of_ble_eq_true rfl, Nat.le_of_ble_eq_true rfl⟩ rfl rfl
          refine r_aload_n (pc := 47) ?_ dX10_doubtsBy_47 rfl
          refine r_iload_n (pc := 48) ?_ dX10_doubtsBy_48 rfl
          refine r_aload_n (pc := 49) ?_ dX10_doubtsBy_49 rfl
          refine r_iload_n (pc := 50) ?_ dX10_doubtsBy_50 rfl
          refine r_cv0 (pc := 51) ?_ dX10_doubtsBy_51 cl_X10 ok_X10_mentorOf rfl wd_6_21 ⟨Nat.le_of_ble_eq_true rfl, Nat.le_of_ble_eq_true rfl⟩ ⟨Nat.le_of_ble_eq_true rfl, Nat.le_of_ble_eq_true rfl⟩ rfl rfl
          refine r_cv0 (pc := 54) ?_ dX10_doubtsBy_54 cl_X10 ok_X10_strange rfl wd_6_150 ⟨Nat.le_of_ble_eq_true rfl, Nat.le_of_ble_eq_true rfl⟩ ⟨Nat.le_of_ble_eq_true rfl, Nat.le_of_ble_eq_true rfl⟩ rfl rfl
          refine r_iadd (pc := 57) ?_ dX10_doubtsBy_57
          refine r_i2l (pc := 58) ?_ dX10_doubtsBy_58
          refine r_goto (pc := 59) (t := 65) ?_ dX10_doubtsBy_59 (by decide)
          refine r_cv0 (pc := 65) ?_ dX10_doubtsBy_65 cl_X10 ok_X10_tells rfl wd_5_214 ⟨Nat.le_of_ble_eq_true rfl, Nat.le_of_ble_eq_true rfl⟩ ⟨Nat.le_of_ble_eq_true rfl, Nat.le_of_ble_eq_true rfl⟩ rfl rfl
          exact r_ir dX10_doubtsBy_68 rfl (Nat.le_of_ble_eq_true rfl) (Nat.le_of_ble_eq_true rfl)
    · refine r_aload_n (pc := 16) ?_ dX10_doubtsBy_16 rfl
      refine r_iconst (pc := 17) ?_ dX10_doubtsBy_17 (by decide)
      refine r_cv0 (pc := 18) ?_ dX10_doubtsBy_18 cl_X10 ok_X10_fails rfl wd_5_206 ⟨Nat.le_of_ble_eq_true rfl, Nat.le_of_ble_eq_true rfl⟩ ⟨Nat.le_of_ble_eq_true rfl, Nat.le_of_ble_eq_true rfl⟩ rfl rfl
      exact r_ir dX10_doubtsBy_21 rfl (Nat.le_of_ble_eq_true rfl) (Nat.le_of_ble_eq_true rfl)
abbrev Y_X10_next : YT := (yX10_next, cX10_next, 4, (some .int), 2, 45, 0, 0)
theorem ok_X10_next : okV Y_X10_next 2 := ⟨⟨wd_7_12, wd_1_9, by decide, by decide, by decide +kernel⟩, wd_7_11, wp_87⟩
def R_X10_next_0 (l : Launch) (G : GT) (F : FX) (Q : PQ) (QX : PX) : KT := (I_il 2 (I_is 3 (I_kl 2 (Wj true l G F Y_X10_next Q QX 0 0 2))))
set_option maxRecDepth 100000 in
theorem g_X10_next_0 {l : Launch} {G : GT} {F : FX} {Q : PQ} {QX : PX} : Le (R_X10_next_0 l G F Q QX) (Wj true l G F Y_X10_next Q QX 0 0 0) := by
  unfold R_X10_next_0
  refine r_iload_n (pc := 0) ?_ dX10_next_0 rfl
  refine r_istore_n (pc := 1) ?_ dX10_next_1 rfl (Nat.le_of_ble_eq_true rfl)
  refine r_kl ?_
  exact Le.rf
def R_X10_next_2 (l : Launch) (G : GT) (F : FX) (Q : PQ) (QX : PX) : KT := (I_il 3 (I_ic 200 (I_icge (I_ic (-1) (I_ir Q)) (I_al 0 (I_il 1 (I_ic 11 (I_il 3 (I_cv (Tr true l G Y_X10_isDay) 8 13 3 QX (I_ifeq (I_inc 3 1 (Wj true l G F Y_X10_next Q QX 0 0 2)) (I_il 3 (I_ir Q)))))))))))
set_option maxRecDepth 100000 in
theorem g_X10_next_2 {l : Launch} {G : GT} {F : FX} {Q : PQ} {QX : PX} : Le (R_X10_next_2 l G F Q QX) (Wj true l G F Y_X10_next Q QX 0 0 2) := by
  unfold R_X10_next_2
  refine r_iload_n (pc := 2) ?_ dX10_next_2 rfl
  refine r_sipush (pc := 3) ?_ dX10_next_3 (by decide)
  refine r_icge (pc := 6) (t := 28) ?_ ?_ dX10_next_6 (by decide)
  · refine r_iconst (pc := 28) ?_ dX10_next_28 (by decide)
    exact r_ir dX10_next_29 rfl (Nat.le_of_ble_eq_true rfl) (Nat.le_of_ble_eq_true rfl)
  · refine r_aload_n (pc := 9) ?_ dX10_next_9 rfl
    refine r_iload_n (pc := 10) ?_ dX10_next_10 rfl
    refine r_bipush (pc := 11) ?_ dX10_next_11 (by decide)
    refine r_iload_n (pc := 13) ?_ dX10_next_13 rfl
    refine r_cv0 (pc := 14) ?_ dX10_next_14 cl_X10 ok_X10_isDay rfl wd_6_46 ⟨Nat.le_of_ble_eq_true rfl, Nat.le_of_ble_eq_true rfl⟩ ⟨Nat.le_of_ble_eq_true rfl, Nat.le_of_ble_eq_true rfl⟩ rfl rfl
    refine r_ifeq (pc := 17) (t := 22) ?_ ?_ dX10_next_17 (by decide)
    · refine r_iinc (pc := 22) ?_ dX10_next_22 (by decide) (Nat.le_of_ble_eq_true rfl)
      refine r_goto (pc := 25) (t := 2) ?_ dX10_next_25 (by decide)
      exact Le.rf
    · refine r_iload_n (pc := 20) ?_ dX10_next_20 rfl
      exact r_ir dX10_next_21 rfl (Nat.le_of_ble_eq_true rfl) (Nat.le_of_ble_eq_true rfl)
abbrev Y_X10_nextRelease : YT := (yX10_nextRelease, cX10_nextRelease, 3, (some .int), 3, 68, 0, 0)
theorem ok_X10_nextRelease : okV Y_X10_nextRelease 2 := ⟨⟨wd_7_8, wd_1_9, by decide, by decide, by decide +kernel⟩, wd_7_6, wd_7_7⟩
def R_X10_nextRelease_0 (l : Launch) (G : GT) (F : FX) (Q : PQ) (QX : PX) : KT := (I_al 0 (I_il 1 (I_cv (Tr true l G Y_X10_isApprentice) 8 13 1 QX (I_ifne (I_il 2 (I_i2l (I_lc 0 (I_lc (9999 : Int64) (I_cs (Tr true l G Y_X10_in) 3 QX (I_ifeq (I_al 0 (I_ic 2 (I_cv (Tr true l G Y_X10_fails) 8 13 1 QX (I_ir Q)))) (I_al 0 (I_al 0 (I_il 1 (I_il 2 (I_cv (Tr true l G Y_X10_next) 8 13 2 QX (I_i2l (I_cv (Tr true l G Y_X10_tells) 8 13 1 QX (I_ir Q)))))))))))))) (I_al 0 (I_ic 1 (I_cv (Tr true l G Y_X10_fails) 8 13 1 QX (I_ir Q))))))))
set_option maxRecDepth 100000 in
theorem g_X10_nextRelease_0 {l : Launch} {G : GT} {F : FX} {Q : PQ} {QX : PX} : Le (R_X10_nextRelease_0 l G F Q QX) (Wj true l G F Y_X10_nextRelease Q QX 0 0 0) := by
  unfold R_X10_nextRelease_0
  refine r_aload_n (pc := 0) ?_ dX10_nextRelease_0 rfl
  refine r_iload_n (pc := 1) ?_ dX10_nextRelease_1 rfl
  refine r_cv0 (pc := 2) ?_ dX10_nextRelease_2 cl_X10 ok_X10_isApprentice rfl wd_6_41 ⟨Nat.le_of_ble_eq_true rfl, Nat.le_of_ble_eq_true rfl⟩ ⟨Nat.le_of_ble_eq_true rfl, Nat.le_of_ble_eq_true rfl⟩ rfl rfl
  refine r_ifne (pc := 5) (t := 14) ?_ ?_ dX10_nextRelease_5 (by decide)
  · refine r_iload_n (pc := 14) ?_ dX10_nextRelease_14 rfl
    refine r_i2l (pc := 15) ?_ dX10_nextRelease_15
    refine r_lconst (pc := 16) ?_ dX10_nextRelease_16 (by decide)
    refine r_ldc2 (pc := 17) ?_ dX10_nextRelease_17 wd_6_133
    refine r_cs0 (pc := 20) ?_ dX10_nextRelease_20 ok_X10_in wd_5_194 ⟨Nat.le_of_ble_eq_true rfl, Nat.le_of_ble_eq_true rfl⟩ ⟨Nat.le_of_ble_eq_true rfl, Nat.le_of_ble_eq_true rfl⟩ rfl rfl
    refine r_ifeq (pc := 23) (t := 40) ?_ ?_ dX10_nextRelease_23 (by decide)
    · refine r_aload_n (pc := 40) ?_ dX10_nextRelease_40 rfl
      refine r_iconst (pc := 41) ?_ dX10_nextRelease_41 (by decide)
      refine r_cv0 (pc := 42) ?_ dX10_nextRelease_42 cl_X10 ok_X10_fails rfl wd_5_206 ⟨Nat.le_of_ble_eq_true rfl, Nat.le_of_ble_eq_true rfl⟩ ⟨Nat.le_of_ble_eq_true rfl, Nat.le_of_ble_eq_true rfl⟩ rfl rfl
      exact r_ir dX10_nextRelease_45 rfl (Nat.le_of_ble_eq_true rfl) (Nat.le_of_ble_eq_true rfl)
    · refine r_aload_n (pc := 26) ?_ dX10_nextRelease_26 rfl
      refine r_aload_n (pc := 27) ?_ dX10_nextRelease_27 rfl
      refine r_iload_n (pc := 28) ?_ dX10_nextRelease_28 rfl
      refine r_iload_n (pc := 29) ?_ dX10_nextRelease_29 rfl
      refine r_cv0 (pc := 30) ?_ dX10_nextRelease_30 cl_X10 ok_X10_next rfl wd_7_9 ⟨Nat.le_of_ble_eq_true rfl, Nat.le_of_ble_eq_true rfl⟩ ⟨Nat.le_of_ble_eq_true rfl, Nat.le_of_ble_eq_true rfl⟩ rfl rfl
      refine r_i2l (pc := 33) ?_ dX10_nextRelease_33
      refine r_cv0 (pc := 34) ?_ dX10_nextRelease_34 cl_X10 ok_X10_tells rfl wd_5_214 ⟨Nat.le_of_ble_eq_true rfl, Nat.le_of_ble_eq_true rfl⟩ ⟨Nat.le_of_ble_eq_true rfl, Nat.le_of_ble_eq_true rfl⟩ rfl rfl
      refine r_goto (pc := 37) (t := 45) ?_ dX10_nextRelease_37 (by decide)
      exact r_ir dX10_nextRelease_45 rfl (Nat.le_of_ble_eq_true rfl) (Nat.le_of_ble_eq_true rfl)
  · refine r_aload_n (pc := 8) ?_ dX10_nextRelease_8 rfl
    refine r_iconst (pc := 9) ?_ dX10_nextRelease_9 (by decide)
    refine r_cv0 (pc := 10) ?_ dX10_nextRelease_10 cl_X10 ok_X10_fails rfl wd_5_206 ⟨Nat.le_of_ble_eq_true rfl, Nat.le_of_ble_eq_true rfl⟩ ⟨Nat.le_of_ble_eq_true rfl, Nat.le_of_ble_eq_true rfl⟩ rfl rfl
    exact r_ir dX10_nextRelease_13 rfl (Nat.le_of_ble_eq_true rfl) (Nat.le_of_ble_eq_true rfl)
abbrev Y_X10_type : YT := (yX10_type, cX10_type, 2, (some .int), 1, 25, 0, 0)
theorem ok_X10_type : okV Y_X10_type 1 := ⟨⟨wd_7_16, wd_1_9, by decide, by decide, by decide +kernel⟩, wd_7_14, wd_7_15⟩
def R_X10_type_0 (l : Launch) (G : GT) (F : FX) (Q : PQ) (QX : PX) : KT := (I_il 1 (I_i2l (I_lc 0 (I_lc (127 : Int64) (I_cs (Tr true l G Y_X10_in) 3 QX (I_ifne (I_al 0 (I_gi 8 7 13 (I_ic 150 (I_icne (I_al 0 (I_gp 8 13 4 (I_al 0 (I_gi 8 7 13 (I_il 1 (I_ias (I_al 0 (I_dup (I_gi 8 7 13 (I_ic 1 (I_iadd (I_pi 8 7 13 (I_al 0 (I_al 0 (I_gi 8 7 13 (I_i2l (I_cv (Tr true l G Y_X10_tells) 8 13 1 QX (I_ir Q)))))))))))))))))) (I_al 0 (I_ic 2 (I_cv (Tr true l G Y_X10_fails) 8 13 1 QX (I_ir Q)))))))) (I_al 0 (I_ic 1 (I_cv (Tr true l G Y_X10_fails) 8 13 1 QX (I_ir Q))))))))))
set_option maxRecDepth 100000 in
theorem g_X10_type_0 {l : Launch} {G : GT} {F : FX} {Q : PQ} {QX : PX} : Le (R_X10_type_0 l G F Q QX) (Wj true l G F Y_X10_type Q QX 0 0 0) := by
  unfold R_X10_type_0
  refine r_iload_n (pc := 0) ?_ dX10_type_0 rfl
  refine r_i2l (pc := 1) ?_ dX10_type_1
  refine r_lconst (pc := 2) ?_ dX10_type_2 (by decide)
  refine r_ldc2 (pc := 3) ?_ dX10_type_3 wd_7_17
  refine r_cs0 (pc := 6) ?_ dX10_type_6 ok_X10_in wd_5_194 ⟨Nat.le_of_ble_eq_true rfl, Nat.le_of_ble_eq_true rfl⟩ ⟨Nat.le_of_ble_eq_true rfl, Nat.le_of_ble_eq_true rfl⟩ rfl rfl
  refine r_ifne (pc := 9) (t := 18) ?_ ?_ dX10_type_9 (by decide)
  · refine r_aload_n (pc := 18) ?_ dX10_type_18 rfl
    refine r_gi (pc := 19) ?_ dX10_type_19 cl_X10 (Nat.le_of_ble_eq_true rfl) rfl wd_5_144
    refine r_sipush (pc := 22) ?_ dX10_type_22 (by decide)
    refine r_icne (pc := 25) (t := 34) ?_ ?_ dX10_type_25 (by decide)
    · refine r_aload_n (pc := 34) ?_ dX10_type_34 rfl
      refine r_gp (pc := 35) (kf := 6) ?_ dX10_type_35 cl_X10 (Nat.le_of_ble_eq_true rfl) rfl wd_5_143 pv_X10_6
      refine r_aload_n (pc := 38) ?_ dX10_type_38 rfl
      refine r_gi (pc := 39) ?_ dX10_type_39 cl_X10 (Nat.le_of_ble_eq_true rfl) rfl wd_5_144
      refine r_iload_n (pc := 42) ?_ dX10_type_42 rfl
      refine r_ias (pc := 43) ?_ dX10_type_43
      refine r_aload_n (pc := 44) ?_ dX10_type_44 rfl
      refine r_dup (pc := 45) ?_ dX10_type_45
      refine r_gi (pc := 46) ?_ dX10_type_46 cl_X10 (Nat.le_of_ble_eq_true rfl) rfl wd_5_144
      refine r_iconst (pc := 49) ?_ dX10_type_49 (by decide)
      refine r_iadd (pc := 50) ?_ dX10_type_50
      refine r_pi (pc := 51) ?_ dX10_type_51 cl_X10 (Nat.le_of_ble_eq_true rfl) rfl wd_5_144 rfl pd_X10_7
      refine r_aload_n (pc := 54) ?_ dX10_type_54 rfl
      refine r_aload_n (pc := 55) ?_ dX10_type_55 rfl
      refine r_gi (pc := 56) ?_ dX10_type_56 cl_X10 (Nat.le_of_ble_eq_true rfl) rfl wd_5_144
      refine r_i2l (pc := 59) ?_ dX10_type_59
      refine r_cv0 (pc := 60) ?_ dX10_type_60 cl_X10 ok_X10_tells rfl wd_5_214 ⟨Nat.le_of_ble_eq_true rfl, Nat.le_of_ble_eq_true rfl⟩ ⟨Nat.le_of_ble_eq_true rfl, Nat.le_of_ble_eq_true rfl⟩ rfl rfl
      exact r_ir dX10_type_63 rfl (Nat.le_of_ble_eq_true rfl) (Nat.le_of_ble_eq_true rfl)
    · refine r_aload_n (pc := 28) ?_ dX10_type_28 rfl
      refine r_iconst (pc := 29) ?_ dX10_type_29 (by decide)
      refine r_cv0 (pc := 30) ?_ dX10_type_30 cl_X10 ok_X10_fails rfl wd_5_206 ⟨Nat.le_of_ble_eq_true rfl, Nat.le_of_ble_eq_true rfl⟩ ⟨Nat.le_of_ble_eq_true rfl, Nat.le_of_ble_eq_true rfl⟩ rfl rfl
      exact r_ir dX10_type_33 rfl (Nat.le_of_ble_eq_true rfl) (Nat.le_of_ble_eq_true rfl)
  · refine r_aload_n (pc := 12) ?_ dX10_type_12 rfl
    refine r_iconst (pc := 13) ?_ dX10_type_13 (by decide)
    refine r_cv0 (pc := 14) ?_ dX10_type_14 cl_X10 ok_X10_fails rfl wd_5_206 ⟨Nat.le_of_ble_eq_true rfl, Nat.le_of_ble_eq_true rfl⟩ ⟨Nat.le_of_ble_eq_true rfl, Nat.le_of_ble_eq_true rfl⟩ rfl rfl
    exact r_ir dX10_type_17 rfl (Nat.le_of_ble_eq_true rfl) (Nat.le_of_ble_eq_true rfl)
abbrev Y_X10_clearCommands : YT := (yX10_clearCommands, cX10_clearCommands, 2, (some .int), 1, 22, 0, 0)
theorem ok_X10_clearCommands : okV Y_X10_clearCommands 0 := ⟨⟨wd_7_21, wd_1_9, by decide, by decide, by decide +kernel⟩, wd_7_19, wd_7_20⟩
def R_X10_clearCommands_0 (l : Launch) (G : GT) (F : FX) (Q : PQ) (QX : PX) : KT := (I_al 0 (I_gi 8 7 13 (I_is 1 (I_al 0 (I_ic 0 (I_pi 8 7 13 (I_al 0 (I_il 1 (I_i2l (I_cv (Tr true l G Y_X10_tells) 8 13 1 QX (I_ir Q)))))))))))
set_option maxRecDepth 100000 in
theorem g_X10_clearCommands_0 {l : Launch} {G : GT} {F : FX} {Q : PQ} {QX : PX} : Le (R_X10_clearCommands_0 l G F Q QX) (Wj true l G F Y_X10_clearCommands Q QX 0 0 0) := by
  unfold R_X10_clearCommands_0
  refine r_aload_n (pc := 0) ?_ dX10_clearCommands_0 rfl
  refine r_gi (pc := 1) ?_ dX10_clearCommands_1 cl_X10 (Nat.le_of_ble_eq_true rfl) rfl wd_5_144
  refine r_istore_n (pc := 4) ?_ dX10_clearCommands_4 rfl (Nat.le_of_ble_eq_true rfl)
  refine r_aload_n (pc := 5) ?_ dX10_clearCommands_5 rfl
  refine r_iconst (pc := 6) ?_ dX10_clearCommands_6 (by decide)
  refine r_pi (pc := 7) ?_ dX10_clearCommands_7 cl_X10 (Nat.le_of_ble_eq_true rfl) rfl wd_5_144 rfl pd_X10_7
  refine r_aload_n (pc := 10) ?_ dX10_clearCommands_10 rfl
  refine r_iload_n (pc := 11) ?_ dX10_clearCommands_11 rfl
  refine r_i2l (pc := 12) ?_ dX10_clearCommands_12
  refine r_cv0 (pc := 13) ?_ dX10_clearCommands_13 cl_X10 ok_X10_tells rfl wd_5_214 ⟨Nat.le_of_ble_eq_true rfl, Nat.le_of_ble_eq_true rfl⟩ ⟨Nat.le_of_ble_eq_true rfl, Nat.le_of_ble_eq_true rfl⟩ rfl rfl
  exact r_ir dX10_clearCommands_16 rfl (Nat.le_of_ble_eq_true rfl) (Nat.le_of_ble_eq_true rfl)
abbrev Y_X10_isAt : YT := (yX10_isAt, cX10_isAt, 3, (some .boolean), 1, 25, 0, 0)
theorem ok_X10_isAt : okV Y_X10_isAt 2 := ⟨⟨wd_7_33, wd_1_9, by decide, by decide, by decide +kernel⟩, wd_7_32, wp_89⟩
def R_X10_isAt_0 (l : Launch) (G : GT) (F : FX) (Q : PQ) (QX : PX) : KT := (I_al 0 (I_gi 8 8 13 (I_al 0 (I_gi 8 7 13 (I_icge (I_ic 0 (I_zr Q)) (I_al 0 (I_gp 8 13 4 (I_al 0 (I_gi 8 8 13 (I_ial (I_i2l (I_il 1 (I_i2l (I_il 2 (I_i2l (I_cs (Tr true l G Y_X10_in) 3 QX (I_ifeq (I_ic 0 (I_zr Q)) (I_ic 1 (I_zr Q)))))))))))))))))))
set_option maxRecDepth 100000 in
theorem g_X10_isAt_0 {l : Launch} {G : GT} {F : FX} {Q : PQ} {QX : PX} : Le (R_X10_isAt_0 l G F Q QX) (Wj true l G F Y_X10_isAt Q QX 0 0 0) := by
  unfold R_X10_isAt_0
  refine r_aload_n (pc := 0) ?_ dX10_isAt_0 rfl
  refine r_gi (pc := 1) ?_ dX10_isAt_1 cl_X10 (Nat.le_of_ble_eq_true rfl) rfl wd_5_145
  refine r_aload_n (pc := 4) ?_ dX10_isAt_4 rfl
  refine r_gi (pc := 5) ?_ dX10_isAt_5 cl_X10 (Nat.le_of_ble_eq_true rfl) rfl wd_5_144
  refine r_icge (pc := 8) (t := 35) ?_ ?_ dX10_isAt_8 (by decide)
  · refine r_iconst (pc := 35) ?_ dX10_isAt_35 (by decide)
    exact r_zr dX10_isAt_36 rfl (Nat.le_of_ble_eq_true rfl) (Nat.le_of_ble_eq_true rfl)
  · refine r_aload_n (pc := 11) ?_ dX10_isAt_11 rfl
    refine r_gp (pc := 12) (kf := 6) ?_ dX10_isAt_12 cl_X10 (Nat.le_of_ble_eq_true rfl) rfl wd_5_143 pv_X10_6
    refine r_aload_n (pc := 15) ?_ dX10_isAt_15 rfl
    refine r_gi (pc := 16) ?_ dX10_isAt_16 cl_X10 (Nat.le_of_ble_eq_true rfl) rfl wd_5_145
    refine r_ial (pc := 19) ?_ dX10_isAt_19
    refine r_i2l (pc := 20) ?_ dX10_isAt_20
    refine r_iload_n (pc := 21) ?_ dX10_isAt_21 rfl
    refine r_i2l (pc := 22) ?_ dX10_isAt_22
    refine r_iload_n (pc := 23) ?_ dX10_isAt_23 rfl
    refine r_i2l (pc := 24) ?_ dX10_isAt_24
    refine r_cs0 (pc := 25) ?_ dX10_isAt_25 ok_X10_in wd_5_194 ⟨Nat.le_of_ble_eq_true rfl, Nat.le_of_ble_eq_true rfl⟩ ⟨Nat.le_of_ble_eq_true rfl, Nat.le_of_ble_eq_true rfl⟩ rfl rfl
    refine r_ifeq (pc := 28) (t := 35) ?_ ?_ dX10_isAt_28 (by decide)
    · refine r_iconst (pc := 35) ?_ dX10_isAt_35 (by decide)
      exact r_zr dX10_isAt_36 rfl (Nat.le_of_ble_eq_true rfl) (Nat.le_of_ble_eq_true rfl)
    · refine r_iconst (pc := 31) ?_ dX10_isAt_31 (by decide)
      refine r_goto (pc := 32) (t := 36) ?_ dX10_isAt_32 (by decide)
      exact r_zr dX10_isAt_36 rfl (Nat.le_of_ble_eq_true rfl) (Nat.le_of_ble_eq_true rfl)
abbrev Y_X10_skips : YT := (yX10_skips, cX10_skips, 1, none, 2, 47, 0, 0)
theorem ok_X10_skips : okV Y_X10_skips 0 := ⟨⟨wd_7_29, wd_1_9, by decide, by decide, by decide +kernel⟩, wd_7_28, wp_88⟩
def R_X10_skips_0 (l : Launch) (G : GT) (F : FX) (Q : PQ) (QX : PX) : KT := (I_al 0 (I_ic 32 (I_ic 32 (I_cv (Tr true l G Y_X10_isAt) 8 13 2 QX (I_ifeq (I_vr Q) (I_al 0 (I_dup (I_gi 8 8 13 (I_ic 1 (I_iadd (I_pi 8 8 13 (Wj true l G F Y_X10_skips Q QX 0 0 0))))))))))))
set_option maxRecDepth 100000 in
theorem g_X10_skips_0 {l : Launch} {G : GT} {F : FX} {Q : PQ} {QX : PX} : Le (R_X10_skips_0 l G F Q QX) (Wj true l G F Y_X10_skips Q QX 0 0 0) := by
  unfold R_X10_skips_0
  refine r_aload_n (pc := 0) ?_ dX10_skips_0 rfl
  refine r_bipush (pc := 1) ?_ dX10_skips_1 (by decide)
  refine r_bipush (pc := 3) ?_ dX10_skips_3 (by decide)
  refine r_cv0 (pc := 5) ?_ dX10_skips_5 cl_X10 ok_X10_isAt rfl wd_7_30 ⟨Nat.le_of_ble_eq_true rfl, Nat.le_of_ble_eq_true rfl⟩ ⟨Nat.le_of_ble_eq_true rfl, Nat.le_of_ble_eq_true rfl⟩ rfl rfl
  refine r_ifeq (pc := 8) (t := 24) ?_ ?_ dX10_skips_8 (by decide)
  · exact r_vr dX10_skips_24 rfl (Nat.le_of_ble_eq_true rfl) (Nat.le_of_ble_eq_true rfl)
  · refine r_aload_n (pc := 11) ?_ dX10_skips_11 rfl
    refine r_dup (pc := 12) ?_ dX10_skips_12
    refine r_gi (pc := 13) ?_ dX10_skips_13 cl_X10 (Nat.le_of_ble_eq_true rfl) rfl wd_5_145
    refine r_iconst (pc := 16) ?_ dX10_skips_16 (by decide)
    refine r_iadd (pc := 17) ?_ dX10_skips_17
    refine r_pi (pc := 18) ?_ dX10_skips_18 cl_X10 (Nat.le_of_ble_eq_true rfl) rfl wd_5_145 rfl pd_X10_8
    refine r_goto (pc := 21) (t := 0) ?_ dX10_skips_21 (by decide)
    exact Le.rf
abbrev Y_X10_wordOf : YT := (yX10_wordOf, cX10_wordOf, 2, (some .int), 0, 0, 0, 0)
theorem ok_X10_wordOf : okS Y_X10_wordOf 1 := ⟨⟨wd_7_42, wd_1_9, by decide, by decide, by decide +kernel⟩, wd_7_41⟩
def R_X10_wordOf_0 (l : Launch) (G : GT) (F : FX) (Q : PQ) (QX : PX) : KT := (I_ll 0 (I_lc (21562501 : Int64) (I_lcmp (I_ifeq (I_ll 0 (I_lc (12775 : Int64) (I_lcmp (I_ifne (I_ic 0 (I_ir Q)) (I_ic 1 (I_ir Q)))))) (I_ll 0 (I_lc (12775 : Int64) (I_lcmp (I_ifne (I_ll 0 (I_lc (441930226 : Int64) (I_lcmp (I_ifeq (I_ll 0 (I_lc (441930226 : Int64) (I_lcmp (I_ifne (I_ic 3 (I_ir Q)) (I_ic 2 (I_ir Q)))))) (I_ll 0 (I_lc (17482028 : Int64) (I_lcmp (I_ifne (I_ll 0 (I_lc (442053 : Int64) (I_lcmp (I_ifeq (I_ll 0 (I_lc (442053 : Int64) (I_lcmp (I_ifne (I_ic 5 (I_ir Q)) (I_ic 4 (I_ir Q)))))) (I_ll 0 (I_lc (646192 : Int64) (I_lcmp (I_ifne (I_ll 0 (I_lc (215205 : Int64) (I_lcmp (I_ifeq (I_ll 0 (I_lc (215205 : Int64) (I_lcmp (I_ifne (I_ic 7 (I_ir Q)) (I_ic 6 (I_ir Q)))))) (I_ll 0 (I_lc (3739428429 : Int64) (I_lcmp (I_ifne (I_ll 0 (I_lc (4707412 : Int64) (I_lcmp (I_ifeq (I_ll 0 (I_lc (4707412 : Int64) (I_lcmp (I_ifne (I_ic 9 (I_ir Q)) (I_ic 8 (I_ir Q)))))) (I_ll 0 (I_lc (36804116 : Int64) (I_lcmp (I_ifne (I_ll 0 (I_lc (609441381 : Int64) (I_lcmp (I_ifne (I_ll 0 (I_lc (132915 : Int64) (I_lcmp (I_ifne (I_ic (-1) (I_ir Q)) (I_ic 11 (I_ir Q)))))) (I_ic 10 (I_ir Q)))))) (I_ll 0 (I_lc (4707412 : Int64) (I_lcmp (I_ifne (I_ic 9 (I_ir Q)) (I_ic 8 (I_ir Q)))))))))))))) (I_ll 0 (I_lc (215205 : Int64) (I_lcmp (I_ifne (I_ic 7 (I_ir Q)) (I_ic 6 (I_ir Q)))))))))))))) (I_ll 0 (I_lc (442053 : Int64) (I_lcmp (I_ifne (I_ic 5 (I_ir Q)) (I_ic 4 (I_ir Q)))))))))))))) (I_ll 0 (I_lc (441930226 : Int64) (I_lcmp (I_ifne (I_ic 3 (I_ir Q)) (I_ic 2 (I_ir Q)))))))))))))) (I_ll 0 (I_lc (12775 : Int64) (I_lcmp (I_ifne (I_ic 0 (I_ir Q)) (I_ic 1 (I_ir Q))))))))))))))
set_option maxRecDepth 100000 in
theorem g_X10_wordOf_0 {l : Launch} {G : GT} {F : FX} {Q : PQ} {QX : PX} : Le (R_X10_wordOf_0 l G F Q QX) (Wj true l G F Y_X10_wordOf Q QX 0 0 0) := by
  unfold R_X10_wordOf_0
  refine r_lload_n (pc := 0) ?_ dX10_wordOf_0 rfl
  refine r_ldc2 (pc := 1) ?_ dX10_wordOf_1 wd_7_43
  refine r_lcmp (pc := 4) ?_ dX10_wordOf_4
  refine r_ifeq (pc := 5) (t := 16) ?_ ?_ dX10_wordOf_5 (by decide)
  · refine r_lload_n (pc := 16) ?_ dX10_wordOf_16 rfl
    refine r_ldc2 (pc := 17) ?_ dX10_wordOf_17 wd_7_44
    refine r_lcmp (pc := 20) ?_ dX10_wordOf_20
    refine r_ifne (pc := 21) (t := 28) ?_ ?_ dX10_wordOf_21 (by decide)
    · refine r_iconst (pc := 28) ?_ dX10_wordOf_28 (by decide)
      exact r_ir dX10_wordOf_29 rfl (Nat.le_of_ble_eq_true rfl) (Nat.le_of_ble_eq_true rfl)
    · refine r_iconst (pc := 24) ?_ dX10_wordOf_24 (by decide)
      refine r_goto (pc := 25) (t := 29) ?_ dX10_wordOf_25 (by decide)
      exact r_ir dX10_wordOf_29 rfl (Nat.le_of_ble_eq_true rfl) (Nat.le_of_ble_eq_true rfl)
  · refine r_lload_n (pc := 8) ?_ dX10_wordOf_8 rfl
    refine r_ldc2 (pc := 9) ?_ dX10_wordOf_9 wd_7_44
    refine r_lcmp (pc := 12) ?_ dX10_wordOf_12
    refine r_ifne (pc := 13) (t := 30) ?_ ?_ dX10_wordOf_13 (by decide)
    · refine r_lload_n (pc := 30) ?_ dX10_wordOf_30 rfl
      refine r_ldc2 (pc := 31) ?_ dX10_wordOf_31 wd_7_45
      refine r_lcmp (pc := 34) ?_ dX10_wordOf_34
      refine r_ifeq (pc := 35) (t := 46) ?_ ?_ dX10_wordOf_35 (by decide)
      · refine r_lload_n (pc := 46) ?_ dX10_wordOf_46 rfl
        refine r_ldc2 (pc := 47) ?_ dX10_wordOf_47 wd_7_45
        refine r_lcmp (pc := 50) ?_ dX10_wordOf_50
        refine r_ifne (pc := 51) (t := 58) ?_ ?_ dX10_wordOf_51 (by decide)
        · refine r_iconst (pc := 58) ?_ dX10_wordOf_58 (by decide)
          exact r_ir dX10_wordOf_59 rfl (Nat.le_of_ble_eq_true rfl) (Nat.le_of_ble_eq_true rfl)
        · refine r_iconst (pc := 54) ?_ dX10_wordOf_54 (by decide)
          refine r_goto (pc := 55) (t := 59) ?_ dX10_wordOf_55 (by decide)
          exact r_ir dX10_wordOf_59 rfl (Nat.le_of_ble_eq_true rfl) (Nat.le_of_ble_eq_true rfl)
      · refine r_lload_n (pc := 38) ?_ dX10_wordOf_38 rfl
        refine r_ldc2 (pc := 39) ?_ dX10_wordOf_39 wd_7_46
        refine r_lcmp (pc := 42) ?_ dX10_wordOf_42
        refine r_ifne (pc := 43) (t := 60) ?_ ?_ dX10_wordOf_43 (by decide)
        · refine r_lload_n (pc := 60) ?_ dX10_wordOf_60 rfl
          refine r_ldc2 (pc := 61) ?_ dX10_wordOf_61 wd_7_47
          refine r_lcmp (pc := 64) ?_ dX10_wordOf_64
          refine r_ifeq (pc := 65) (t := 76) ?_ ?_ dX10_wordOf_65 (by decide)
          · refine r_lload_n (pc := 76) ?_ dX10_wordOf_76 rfl
            refine r_ldc2 (pc := 77) ?_ dX10_wordOf_77 wd_7_47
            refine r_lcmp (pc := 80) ?_ dX10_wordOf_80
            refine r_ifne (pc := 81) (t := 88) ?_ ?_ dX10_wordOf_81 (by decide)
            · refine r_iconst (pc := 88) ?_ dX10_wordOf_88 (by decide)
              exact r_ir dX10_wordOf_89 rfl (Nat.le_of_ble_eq_true rfl) (Nat.le_of_ble_eq_true rfl)
            · refine r_iconst (pc := 84) ?_ dX10_wordOf_84 (by decide)
              refine r_goto (pc := 85) (t := 89) ?_ dX10_wordOf_85 (by decide)
              exact r_ir dX10_wordOf_89 rfl (Nat.le_of_ble_eq_true rfl) (Nat.le_of_ble_eq_true rfl)
          · refine r_lload_n (pc := 68) ?_ dX10_wordOf_68 rfl
            refine r_ldc2 (pc := 69) ?_ dX10_wordOf_69 wd_7_48
            refine r_lcmp (pc := 72) ?_ dX10_wordOf_72
            refine r_ifne (pc := 73) (t := 90) ?_ ?_ dX10_wordOf_73 (by decide)
            · refine r_lload_n (pc := 90) ?_ dX10_wordOf_90 rfl
              refine r_ldc2 (pc := 91) ?_ dX10_wordOf_91 wd_7_49
              refine r_lcmp (pc := 94) ?_ dX10_wordOf_94
              refine r_ifeq (pc := 95) (t := 106) ?_ ?_ dX10_wordOf_95 (by decide)
              · refine r_lload_n (pc := 106) ?_ dX10_wordOf_106 rfl
                refine r_ldc2 (pc := 107) ?_ dX10_wordOf_107 wd_7_49
                refine r_lcmp (pc := 110) ?_ dX10_wordOf_110
                refine r_ifne (pc := 111) (t := 119) ?_ ?_ dX10_wordOf_111 (by decide)
                · refine r_bipush (pc := 119) ?_ dX10_wordOf_119 (by decide)
                  exact r_ir dX10_wordOf_121 rfl (Nat.le_of_ble_eq_true rfl) (Nat.le_of_ble_eq_true rfl)
                · refine r_bipush (pc := 114) ?_ dX10_wordOf_114 (by decide)
                  refine r_goto (pc := 116) (t := 121) ?_ dX10_wordOf_116 (by decide)
                  exact r_ir dX10_wordOf_121 rfl (Nat.le_of_ble_eq_true rfl) (Nat.le_of_ble_eq_true rfl)
              · refine r_lload_n (pc := 98) ?_ dX10_wordOf_98 rfl
                refine r_ldc2 (pc := 99) ?_ dX10_wordOf_99 wd_7_50
                refine r_lcmp (pc := 102) ?_ dX10_wordOf_102
                refine r_ifne (pc := 103) (t := 122) ?_ ?_ dX10_wordOf_103 (by decide)
                · refine r_lload_n (pc := 122) ?_ dX10_wordOf_122 rfl
                  refine r_ldc2 (pc := 123) ?_ dX10_wordOf_123 wd_7_51
                  refine r_lcmp (pc := 126) ?_ dX10_wordOf_126
                  refine r_ifeq (pc := 127) (t := 138) ?_ ?_ dX10_wordOf_127 (by decide)
                  · refine r_lload_n (pc := 138) ?_ dX10_wordOf_138 rfl
                    refine r_ldc2 (pc := 139) ?_ dX10_wordOf_139 wd_7_51
                    refine r_lcmp (pc := 142) ?_ dX10_wordOf_142
                    refine r_ifne (pc := 143) (t := 151) ?_ ?_ dX10_wordOf_143 (by decide)
                    · refine r_bipush (pc := 151) ?_ dX10_wordOf_151 (by decide)
                      exact r_ir dX10_wordOf_153 rfl (Nat.le_of_ble_eq_true rfl) (Nat.le_of_ble_eq_true rfl)
                    · refine r_bipush (pc := 146) ?_ dX10_wordOf_146 (by decide)
                      refine r_goto (pc := 148) (t := 153) ?_ dX10_wordOf_148 (by decide)
                      exact r_ir dX10_wordOf_153 rfl (Nat.le_of_ble_eq_true rfl) (Nat.le_of_ble_eq_true rfl)
                  · refine r_lload_n (pc := 130) ?_ dX10_wordOf_130 rfl
                    refine r_ldc2 (pc := 131) ?_ dX10_wordOf_131 wd_7_52
                    refine r_lcmp (pc := 134) ?_ dX10_wordOf_134
                    refine r_ifne (pc := 135) (t := 154) ?_ ?_ dX10_wordOf_135 (by decide)
                    · refine r_lload_n (pc := 154) ?_ dX10_wordOf_154 rfl
                      refine r_ldc2 (pc := 155) ?_ dX10_wordOf_155 wd_7_53
                      refine r_lcmp (pc := 158) ?_ dX10_wordOf_158
                      refine r_ifne (pc := 159) (t := 167) ?_ ?_ dX10_wordOf_159 (by decide)
                      · refine r_lload_n (pc := 167) ?_ dX10_wordOf_167 rfl
                        refine r_ldc2 (pc := 168) ?_ dX10_wordOf_168 wd_7_54
                        refine r_lcmp (pc := 171) ?_ dX10_wordOf_171
                        refine r_ifne (pc := 172) (t := 180) ?_ ?_ dX10_wordOf_172 (by decide)
                        · refine r_iconst (pc := 180) ?_ dX10_wordOf_180 (by decide)
                          exact r_ir dX10_wordOf_181 rfl (Nat.le_of_ble_eq_true rfl) (Nat.le_of_ble_eq_true rfl)
                        · refine r_bipush (pc := 175) ?_ dX10_wordOf_175 (by decide)
                          refine r_goto (pc := 177) (t := 181) ?_ dX10_wordOf_177 (by decide)
                          exact r_ir dX10_wordOf_181 rfl (Nat.le_of_ble_eq_true rfl) (Nat.le_of_ble_eq_true rfl)
                      · refine r_bipush (pc := 162) ?_ dX10_wordOf_162 (by decide)
                        refine r_goto (pc := 164) (t := 181) ?_ dX10_wordOf_164 (by decide)
                        exact r_ir dX10_wordOf_181 rfl (Nat.le_of_ble_eq_true rfl) (Nat.le_of_ble_eq_true rfl)
                    · refine r_lload_n (pc := 138) ?_ dX10_wordOf_138 rfl
                      refine r_ldc2 (pc := 139) ?_ dX10_wordOf_139 wd_7_51
                      refine r_lcmp (pc := 142) ?_ dX10_wordOf_142
                      refine r_ifne (pc := 143) (t := 151) ?_ ?_ dX10_wordOf_143 (by decide)
                      · refine r_bipush (pc := 151) ?_ dX10_wordOf_151 (by decide)
                        exact r_ir dX10_wordOf_153 rfl (Nat.le_of_ble_eq_true rfl) (Nat.le_of_ble_eq_true rfl)
                      · refine r_bipush (pc := 146) ?_ dX10_wordOf_146 (by decide)
                        refine r_goto (pc := 148) (t := 153) ?_ dX10_wordOf_148 (by decide)
                        exact r_ir dX10_wordOf_153 rfl (Nat.le_of_ble_eq_true rfl) (Nat.le_of_ble_eq_true rfl)
                · refine r_lload_n (pc := 106) ?_ dX10_wordOf_106 rfl
                  refine r_ldc2 (pc := 107) ?_ dX10_wordOf_107 wd_7_49
                  refine r_lcmp (pc := 110) ?_ dX10_wordOf_110
                  refine r_ifne (pc := 111) (t := 119) ?_ ?_ dX10_wordOf_111 (by decide)
                  · refine r_bipush (pc := 119) ?_ dX10_wordOf_119 (by decide)
                    exact r_ir dX10_wordOf_121 rfl (Nat.le_of_ble_eq_true rfl) (Nat.le_of_ble_eq_true rfl)
                  · refine r_bipush (pc := 114) ?_ dX10_wordOf_114 (by decide)
                    refine r_goto (pc := 116) (t := 121) ?_ dX10_wordOf_116 (by decide)
                    exact r_ir dX10_wordOf_121 rfl (Nat.le_of_ble_eq_true rfl) (Nat.le_of_ble_eq_true rfl)
            · refine r_lload_n (pc := 76) ?_ dX10_wordOf_76 rfl
              refine r_ldc2 (pc := 77) ?_ dX10_wordOf_77 wd_7_47
              refine r_lcmp (pc := 80) ?_ dX10_wordOf_80
              refine r_ifne (pc := 81) (t := 88) ?_ ?_ dX10_wordOf_81 (by decide)
              · refine r_iconst (pc := 88) ?_ dX10_wordOf_88 (by decide)
                exact r_ir dX10_wordOf_89 rfl (Nat.le_of_ble_eq_true rfl) (Nat.le_of_ble_eq_true rfl)
              · refine r_iconst (pc := 84) ?_ dX10_wordOf_84 (by decide)
                refine r_goto (pc := 85) (t := 89) ?_ dX10_wordOf_85 (by decide)
                exact r_ir dX10_wordOf_89 rfl (Nat.le_of_ble_eq_true rfl) (Nat.le_of_ble_eq_true rfl)
        · refine r_lload_n (pc := 46) ?_ dX10_wordOf_46 rfl
          refine r_ldc2 (pc := 47) ?_ dX10_wordOf_47 wd_7_45
          refine r_lcmp (pc := 50) ?_ dX10_wordOf_50
          refine r_ifne (pc := 51) (t := 58) ?_ ?_ dX10_wordOf_51 (by decide)
          · refine r_iconst (pc := 58) ?_ dX10_wordOf_58 (by decide)
            exact r_ir dX10_wordOf_59 rfl (Nat.le_of_ble_eq_true rfl) (Nat.le_of_ble_eq_true rfl)
          · refine r_iconst (pc := 54) ?_ dX10_wordOf_54 (by decide)
            refine r_goto (pc := 55) (t := 59) ?_ dX10_wordOf_55 (by decide)
            exact r_ir dX10_wordOf_59 rfl (Nat.le_of_ble_eq_true rfl) (Nat.le_of_ble_eq_true rfl)
    · refine r_lload_n (pc := 16) ?_ dX10_wordOf_16 rfl
      refine r_ldc2 (pc := 17) ?_ dX10_wordOf_17 wd_7_44
      refine r_lcmp (pc := 20) ?_ dX10_wordOf_20
      refine r_ifne (pc := 21) (t := 28) ?_ ?_ dX10_wordOf_21 (by decide)
      · refine r_iconst (pc := 28) ?_ dX10_wordOf_28 (by decide)
        exact r_ir dX10_wordOf_29 rfl (Nat.le_of_ble_eq_true rfl) (Nat.le_of_ble_eq_true rfl)
      · refine r_iconst (pc := 24) ?_ dX10_wordOf_24 (by decide)
        refine r_goto (pc := 25) (t := 29) ?_ dX10_wordOf_25 (by decide)
        exact r_ir dX10_wordOf_29 rfl (Nat.le_of_ble_eq_true rfl) (Nat.le_of_ble_eq_true rfl)
abbrev Y_X10_takesNumber : YT := (yX10_takesNumber, cX10_takesNumber, 3, (some .boolean), 3, 67, 0, 0)
theorem ok_X10_takesNumber : okV Y_X10_takesNumber 1 := ⟨⟨wd_7_58, wd_1_9, by decide, by decide, by decide +kernel⟩, wd_7_57, wp_91⟩
def R_X10_takesNumber_0 (l : Launch) (G : GT) (F : FX) (Q : PQ) (QX : PX) : KT := (I_al 0 (I_ic 32 (I_ic 32 (I_cv (Tr true l G Y_X10_isAt) 8 13 2 QX (I_ifne (I_al 0 (I_cv (Tr true l G Y_X10_skips) 8 13 0 QX (I_al 0 (I_gi 8 8 13 (I_is 2 (I_al 0 (I_gp 8 13 5 (I_il 1 (I_ic 0 (I_ias (Wj true l G F Y_X10_takesNumber Q QX 0 0 29))))))))))) (I_ic 0 (I_zr Q)))))))
set_option maxRecDepth 100000 in
theorem g_X10_takesNumber_0 {l : Launch} {G : GT} {F : FX} {Q : PQ} {QX : PX} : Le (R_X10_takesNumber_0 l G F Q QX) (Wj true l G F Y_X10_takesNumber Q QX 0 0 0) := by
  unfold R_X10_takesNumber_0
  refine r_aload_n (pc := 0) ?_ dX10_takesNumber_0 rfl
  refine r_bipush (pc := 1) ?_ dX10_takesNumber_1 (by decide)
  refine r_bipush (pc := 3) ?_ dX10_takesNumber_3 (by decide)
  refine r_cv0 (pc := 5) ?_ dX10_takesNumber_5 cl_X10 ok_X10_isAt rfl wd_7_30 ⟨Nat.le_of_ble_eq_true rfl, Nat.le_of_ble_eq_true rfl⟩ ⟨Nat.le_of_ble_eq_true rfl, Nat.le_of_ble_eq_true rfl⟩ rfl rfl
  refine r_ifne (pc := 8) (t := 13) ?_ ?_ dX10_takesNumber_8 (by decide)
  · refine r_aload_n (pc := 13) ?_ dX10_takesNumber_13 rfl
    refine r_cv0 (pc := 14) ?_ dX10_takesNumber_14 cl_X10 ok_X10_skips rfl wd_7_26 ⟨Nat.le_of_ble_eq_true rfl, Nat.le_of_ble_eq_true rfl⟩ ⟨Nat.le_of_ble_eq_true rfl, Nat.le_of_ble_eq_true rfl⟩ rfl rfl
    refine r_aload_n (pc := 17) ?_ dX10_takesNumber_17 rfl
    refine r_gi (pc := 18) ?_ dX10_takesNumber_18 cl_X10 (Nat.le_of_ble_eq_true rfl) rfl wd_5_145
    refine r_istore_n (pc := 21) ?_ dX10_takesNumber_21 rfl (Nat.le_of_ble_eq_true rfl)
    refine r_aload_n (pc := 22) ?_ dX10_takesNumber_22 rfl
    refine r_gp (pc := 23) (kf := 10) ?_ dX10_takesNumber_23 cl_X10 (Nat.le_of_ble_eq_true rfl) rfl wd_5_147 pv_X10_10
    refine r_iload_n (pc := 26) ?_ dX10_takesNumber_26 rfl
    refine r_iconst (pc := 27) ?_ dX10_takesNumber_27 (by decide)
    refine r_ias (pc := 28) ?_ dX10_takesNumber_28
    exact Le.rf
  · refine r_iconst (pc := 11) ?_ dX10_takesNumber_11 (by decide)
    exact r_zr dX10_takesNumber_12 rfl (Nat.le_of_ble_eq_true rfl) (Nat.le_of_ble_eq_true rfl)
def R_X10_takesNumber_29 (l : Launch) (G : GT) (F : FX) (Q : PQ) (QX : PX) : KT := (I_al 0 (I_ic 48 (I_ic 57 (I_cv (Tr true l G Y_X10_isAt) 8 13 2 QX (I_ifeq (I_kl 1 (Wj true l G F Y_X10_takesNumber Q QX 0 0 91)) (I_al 0 (I_gi 8 8 13 (I_il 2 (I_ic 4 (I_iadd (I_icge (I_kl 1 (Wj true l G F Y_X10_takesNumber Q QX 0 0 91)) (I_al 0 (I_gp 8 13 5 (I_il 1 (I_ic 10 (I_al 0 (I_gp 8 13 5 (I_il 1 (I_ial (I_imul (I_al 0 (I_gp 8 13 4 (I_al 0 (I_gi 8 8 13 (I_ial (I_iadd (I_ic 48 (I_isub (I_ias (I_al 0 (I_dup (I_gi 8 8 13 (I_ic 1 (I_iadd (I_pi 8 8 13 (Wj true l G F Y_X10_takesNumber Q QX 0 0 29))))))))))))))))))))))))))))))))))))
set_option maxRecDepth 100000 in
theorem g_X10_takesNumber_29 {l : Launch} {G : GT} {F : FX} {Q : PQ} {QX : PX} : Le (R_X10_takesNumber_29 l G F Q QX) (Wj true l G F Y_X10_takesNumber Q QX 0 0 29) := by
  unfold R_X10_takesNumber_29
  refine r_aload_n (pc := 29) ?_ dX10_takesNumber_29 rfl
  refine r_bipush (pc := 30) ?_ dX10_takesNumber_30 (by decide)
  refine r_bipush (pc := 32) ?_ dX10_takesNumber_32 (by decide)
  refine r_cv0 (pc := 34) ?_ dX10_takesNumber_34 cl_X10 ok_X10_isAt rfl wd_7_30 ⟨Nat.le_of_ble_eq_true rfl, Nat.le_of_ble_eq_true rfl⟩ ⟨Nat.le_of_ble_eq_true rfl, Nat.le_of_ble_eq_true rfl⟩ rfl rfl
  refine r_ifeq (pc := 37) (t := 91) ?_ ?_ dX10_takesNumber_37 (by decide)
  · refine r_kl ?_
    exact Le.rf
  · refine r_aload_n (pc := 40) ?_ dX10_takesNumber_40 rfl
    refine r_gi (pc := 41) ?_ dX10_takesNumber_41 cl_X10 (Nat.le_of_ble_eq_true rfl) rfl wd_5_145
    refine r_iload_n (pc := 44) ?_ dX10_takesNumber_44 rfl
    refine r_iconst (pc := 45) ?_ dX10_takesNumber_45 (by decide)
    refine r_iadd (pc := 46) ?_ dX10_takesNumber_46
    refine r_icge (pc := 47) (t := 91) ?_ ?_ dX10_takesNumber_47 (by decide)
    · refine r_kl ?_
      exact Le.rf
    · refine r_aload_n (pc := 50) ?_ dX10_takesNumber_50 rfl
      refine r_gp (pc := 51) (kf := 10) ?_ dX10_takesNumber_51 cl_X10 (Nat.le_of_ble_eq_true rfl) rfl wd_5_147 pv_X10_10
      refine r_iload_n (pc := 54) ?_ dX10_takesNumber_54 rfl
      refine r_bipush (pc := 55) ?_ dX10_takesNumber_55 (by decide)
      refine r_aload_n (pc := 57) ?_ dX10_takesNumber_57 rfl
      refine r_gp (pc := 58) (kf := 10) ?_ dX10_takesNumber_58 cl_X10 (Nat.le_of_ble_eq_true rfl) rfl wd_5_147 pv_X10_10
      refine r_iload_n (pc := 61) ?_ dX10_takesNumber_61 rfl
      refine r_ial (pc := 62) ?_ dX10_takesNumber_62
      refine r_imul (pc := 63) ?_ dX10_takesNumber_63
      refine r_aload_n (pc := 64) ?_ dX10_takesNumber_64 rfl
      refine r_gp (pc := 65) (kf := 6) ?_ dX10_takesNumber_65 cl_X10 (Nat.le_of_ble_eq_true rfl) rfl wd_5_143 pv_X10_6
      refine r_aload_n (pc := 68) ?_ dX10_takesNumber_68 rfl
      refine r_gi (pc := 69) ?_ dX10_takesNumber_69 cl_X10 (Nat.le_of_ble_eq_true rfl) rfl wd_5_145
      refine r_ial (pc := 72) ?_ dX10_takesNumber_72
      refine r_iadd (pc := 73) ?_ dX10_takesNumber_73
      refine r_bipush (pc := 74) ?_ dX10_takesNumber_74 (by decide)
      refine r_isub (pc := 76) ?_ dX10_takesNumber_76
      refine r_ias (pc := 77) ?_ dX10_takesNumber_77
      refine r_aload_n (pc := 78) ?_ dX10_takesNumber_78 rfl
      refine r_dup (pc := 79) ?_ dX10_takesNumber_79
      refine r_gi (pc := 80) ?_ dX10_takesNumber_80 cl_X10 (Nat.le_of_ble_eq_true rfl) rfl wd_5_145
      refine r_iconst (pc := 83) ?_ dX10_takesNumber_83 (by decide)
      refine r_iadd (pc := 84) ?_ dX10_takesNumber_84
      refine r_pi (pc := 85) ?_ dX10_takesNumber_85 cl_X10 (Nat.le_of_ble_eq_true rfl) rfl wd_5_145 rfl pd_X10_8
      refine r_goto (pc := 88) (t := 29) ?_ dX10_takesNumber_88 (by decide)
      exact Le.rf
def R_X10_takesNumber_91 (l : Launch) (G : GT) (F : FX) (Q : PQ) (QX : PX) : KT := (I_al 0 (I_gi 8 8 13 (I_il 2 (I_icle (I_ic 0 (I_zr Q)) (I_al 0 (I_ic 48 (I_ic 57 (I_cv (Tr true l G Y_X10_isAt) 8 13 2 QX (I_ifne (I_ic 0 (I_zr Q)) (I_ic 1 (I_zr Q)))))))))))
set_option maxRecDepth 100000 in
theorem g_X10_takesNumber_91 {l : Launch} {G : GT} {F : FX} {Q : PQ} {QX : PX} : Le (R_X10_takesNumber_91 l G F Q QX) (Wj true l G F Y_X10_takesNumber Q QX 0 0 91) := by
  unfold R_X10_takesNumber_91
  refine r_aload_n (pc := 91) ?_ dX10_takesNumber_91 rfl
  refine r_gi (pc := 92) ?_ dX10_takesNumber_92 cl_X10 (Nat.le_of_ble_eq_true rfl) rfl wd_5_145
  refine r_iload_n (pc := 95) ?_ dX10_takesNumber_95 rfl
  refine r_icle (pc := 96) (t := 114) ?_ ?_ dX10_takesNumber_96 (by decide)
  · refine r_iconst (pc := 114) ?_ dX10_takesNumber_114 (by decide)
    exact r_zr dX10_takesNumber_115 rfl (Nat.le_of_ble_eq_true rfl) (Nat.le_of_ble_eq_true rfl)
  · refine r_aload_n (pc := 99) ?_ dX10_takesNumber_99 rfl
    refine r_bipush (pc := 100) ?_ dX10_takesNumber_100 (by decide)
    refine r_bipush (pc := 102) ?_ dX10_takesNumber_102 (by decide)
    refine r_cv0 (pc := 104) ?_ dX10_takesNumber_104 cl_X10 ok_X10_isAt rfl wd_7_30 ⟨Nat.le_of_ble_eq_true rfl, Nat.le_of_ble_eq_true rfl⟩ ⟨Nat.le_of_ble_eq_true rfl, Nat.le_of_ble_eq_true rfl⟩ rfl rfl
    refine r_ifne (pc := 107) (t := 114) ?_ ?_ dX10_takesNumber_107 (by decide)
    · refine r_iconst (pc := 114) ?_ dX10_takesNumber_114 (by decide)
      exact r_zr dX10_takesNumber_115 rfl (Nat.le_of_ble_eq_true rfl) (Nat.le_of_ble_eq_true rfl)
    · refine r_iconst (pc := 110) ?_ dX10_takesNumber_110 (by decide)
      refine r_goto (pc := 111) (t := 115) ?_ dX10_takesNumber_111 (by decide)
      exact r_zr dX10_takesNumber_115 rfl (Nat.le_of_ble_eq_true rfl) (Nat.le_of_ble_eq_true rfl)
abbrev Y_X10_takesCommand : YT := (yX10_takesCommand, cX10_takesCommand, 6, (some .boolean), 4, 89, 0, 0)
theorem ok_X10_takesCommand : okV Y_X10_takesCommand 0 := ⟨⟨wd_7_37, wd_1_9, by decide, by decide, by decide +kernel⟩, wd_7_36, wp_90⟩
def R_X10_takesCommand_0 (l : Launch) (G : GT) (F : FX) (Q : PQ) (QX : PX) : KT := (I_al 0 (I_gi 8 8 13 (I_is 1 (I_lc 0 (I_ls 2 (Wj true l G F Y_X10_takesCommand Q QX 0 0 7))))))
set_option maxRecDepth 100000 in
theorem g_X10_takesCommand_0 {l : Launch} {G : GT} {F : FX} {Q : PQ} {QX : PX} : Le (R_X10_takesCommand_0 l G F Q QX) (Wj true l G F Y_X10_takesCommand Q QX 0 0 0) := by
  unfold R_X10_takesCommand_0
  refine r_aload_n (pc := 0) ?_ dX10_takesCommand_0 rfl
  refine r_gi (pc := 1) ?_ dX10_takesCommand_1 cl_X10 (Nat.le_of_ble_eq_true rfl) rfl wd_5_145
  refine r_istore_n (pc := 4) ?_ dX10_takesCommand_4 rfl (Nat.le_of_ble_eq_true rfl)
  refine r_lconst (pc := 5) ?_ dX10_takesCommand_5 (by decide)
  refine r_lstore_n (pc := 6) ?_ dX10_takesCommand_6 rfl (Nat.le_of_ble_eq_true rfl)
  exact Le.rf
def R_X10_takesCommand_7 (l : Launch) (G : GT) (F : FX) (Q : PQ) (QX : PX) : KT := (I_al 0 (I_ic 97 (I_ic 122 (I_cv (Tr true l G Y_X10_isAt) 8 13 2 QX (I_ifeq (I_al 0 (I_al 0 (I_gi 8 8 13 (I_il 1 (I_isub (I_ic 8 (I_icle (I_ll 2 (I_cs (Tr true l G Y_X10_wordOf) 1 QX (I_kl 2 (Wj true l G F Y_X10_takesCommand Q QX 0 0 87)))) (I_ic (-1) (I_kl 2 (Wj true l G F Y_X10_takesCommand Q QX 0 0 87)))))))))) (I_al 0 (I_gi 8 8 13 (I_il 1 (I_isub (I_ic 8 (I_icge (I_lc 0 (I_ls 2 (I_al 0 (I_dup (I_gi 8 8 13 (I_ic 1 (I_iadd (I_pi 8 8 13 (Wj true l G F Y_X10_takesCommand Q QX 0 0 7))))))))) (I_lc (32 : Int64) (I_ll 2 (I_lmul (I_al 0 (I_gp 8 13 4 (I_al 0 (I_gi 8 8 13 (I_ial (I_i2l (I_ladd (I_lc (96 : Int64) (I_lsub (I_ls 2 (I_al 0 (I_dup (I_gi 8 8 13 (I_ic 1 (I_iadd (I_pi 8 8 13 (Wj true l G F Y_X10_takesCommand Q QX 0 0 7)))))))))))))))))))))))))))))))
set_option maxRecDepth 100000 in
theorem g_X10_takesCommand_7 {l : Launch} {G : GT} {F : FX} {Q : PQ} {QX : PX} : Le (R_X10_takesCommand_7 l G F Q QX) (Wj true l G F Y_X10_takesCommand Q QX 0 0 7) := by
  unfold R_X10_takesCommand_7
  refine r_aload_n (pc := 7) ?_ dX10_takesCommand_7 rfl
  refine r_bipush (pc := 8) ?_ dX10_takesCommand_8 (by decide)
  refine r_bipush (pc := 10) ?_ dX10_takesCommand_10 (by decide)
  refine r_cv0 (pc := 12) ?_ dX10_takesCommand_12 cl_X10 ok_X10_isAt rfl wd_7_30 ⟨Nat.le_of_ble_eq_true rfl, Nat.le_of_ble_eq_true rfl⟩ ⟨Nat.le_of_ble_eq_true rfl, Nat.le_of_ble_eq_true rfl⟩ rfl rfl
  refine r_ifeq (pc := 15) (t := 67) ?_ ?_ dX10_takesCommand_15 (by decide)
  · refine r_aload_n (pc := 67) ?_ dX10_takesCommand_67 rfl
    refine r_aload_n (pc := 68) ?_ dX10_takesCommand_68 rfl
    refine r_gi (pc := 69) ?_ dX10_takesCommand_69 cl_X10 (Nat.le_of_ble_eq_true rfl) rfl wd_5_145
    refine r_iload_n (pc := 72) ?_ dX10_takesCommand_72 rfl
    refine r_isub (pc := 73) ?_ dX10_takesCommand_73
    refine r_bipush (pc := 74) ?_ dX10_takesCommand_74 (by decide)
    refine r_icle (pc := 76) (t := 83) ?_ ?_ dX10_takesCommand_76 (by decide)
    · refine r_lload_n (pc := 83) ?_ dX10_takesCommand_83 rfl
      refine r_cs0 (pc := 84) ?_ dX10_takesCommand_84 ok_X10_wordOf wd_7_40 ⟨Nat.le_of_ble_eq_true rfl, Nat.le_of_ble_eq_true rfl⟩ ⟨Nat.le_of_ble_eq_true rfl, Nat.le_of_ble_eq_true rfl⟩ rfl rfl
      refine r_kl ?_
      exact Le.rf
    · refine r_iconst (pc := 79) ?_ dX10_takesCommand_79 (by decide)
      refine r_goto (pc := 80) (t := 87) ?_ dX10_takesCommand_80 (by decide)
      refine r_kl ?_
      exact Le.rf
  · refine r_aload_n (pc := 18) ?_ dX10_takesCommand_18 rfl
    refine r_gi (pc := 19) ?_ dX10_takesCommand_19 cl_X10 (Nat.le_of_ble_eq_true rfl) rfl wd_5_145
    refine r_iload_n (pc := 22) ?_ dX10_takesCommand_22 rfl
    refine r_isub (pc := 23) ?_ dX10_takesCommand_23
    refine r_bipush (pc := 24) ?_ dX10_takesCommand_24 (by decide)
    refine r_icge (pc := 26) (t := 52) ?_ ?_ dX10_takesCommand_26 (by decide)
    · refine r_lconst (pc := 52) ?_ dX10_takesCommand_52 (by decide)
      refine r_lstore_n (pc := 53) ?_ dX10_takesCommand_53 rfl (Nat.le_of_ble_eq_true rfl)
      refine r_aload_n (pc := 54) ?_ dX10_takesCommand_54 rfl
      refine r_dup (pc := 55) ?_ dX10_takesCommand_55
      refine r_gi (pc := 56) ?_ dX10_takesCommand_56 cl_X10 (Nat.le_of_ble_eq_true rfl) rfl wd_5_145
      refine r_iconst (pc := 59) ?_ dX10_takesCommand_59 (by decide)
      refine r_iadd (pc := 60) ?_ dX10_takesCommand_60
      refine r_pi (pc := 61) ?_ dX10_takesCommand_61 cl_X10 (Nat.le_of_ble_eq_true rfl) rfl wd_5_145 rfl pd_X10_8
      refine r_goto (pc := 64) (t := 7) ?_ dX10_takesCommand_64 (by decide)
      exact Le.rf
    · refine r_ldc2 (pc := 29) ?_ dX10_takesCommand_29 wd_7_38
      refine r_lload_n (pc := 32) ?_ dX10_takesCommand_32 rfl
      refine r_lmul (pc := 33) ?_ dX10_takesCommand_33
      refine r_aload_n (pc := 34) ?_ dX10_takesCommand_34 rfl
      refine r_gp (pc := 35) (kf := 6) ?_ dX10_takesCommand_35 cl_X10 (Nat.le_of_ble_eq_true rfl) rfl wd_5_143 pv_X10_6
      refine r_aload_n (pc := 38) ?_ dX10_takesCommand_38 rfl
      refine r_gi (pc := 39) ?_ dX10_takesCommand_39 cl_X10 (Nat.le_of_ble_eq_true rfl) rfl wd_5_145
      refine r_ial (pc := 42) ?_ dX10_takesCommand_42
      refine r_i2l (pc := 43) ?_ dX10_takesCommand_43
      refine r_ladd (pc := 44) ?_ dX10_takesCommand_44
      refine r_ldc2 (pc := 45) ?_ dX10_takesCommand_45 wd_7_39
      refine r_lsub (pc := 48) ?_ dX10_takesCommand_48
      refine r_goto (pc := 49) (t := 53) ?_ dX10_takesCommand_49 (by decide)
      refine r_lstore_n (pc := 53) ?_ dX10_takesCommand_53 rfl (Nat.le_of_ble_eq_true rfl)
      refine r_aload_n (pc := 54) ?_ dX10_takesCommand_54 rfl
      refine r_dup (pc := 55) ?_ dX10_takesCommand_55
      refine r_gi (pc := 56) ?_ dX10_takesCommand_56 cl_X10 (Nat.le_of_ble_eq_true rfl) rfl wd_5_145
      refine r_iconst (pc := 59) ?_ dX10_takesCommand_59 (by decide)
      refine r_iadd (pc := 60) ?_ dX10_takesCommand_60
      refine r_pi (pc := 61) ?_ dX10_takesCommand_61 cl_X10 (Nat.le_of_ble_eq_true rfl) rfl wd_5_145 rfl pd_X10_8
      refine r_goto (pc := 64) (t := 7) ?_ dX10_takesCommand_64 (by decide)
      exact Le.rf
def R_X10_takesCommand_87 (l : Launch) (G : GT) (F : FX) (Q : PQ) (QX : PX) : KT := (I_pi 8 9 13 (I_al 0 (I_gi 8 9 13 (I_ic (-1) (I_icne (I_al 0 (I_gi 8 9 13 (I_ic 2 (I_icge (I_al 0 (I_gi 8 9 13 (I_ic 7 (I_icge (I_ic 1 (I_is 4 (I_ic 0 (I_is 5 (I_kl 1 (Wj true l G F Y_X10_takesCommand Q QX 0 0 136)))))) (I_ic 2 (I_is 4 (I_ic 0 (I_is 5 (I_kl 1 (Wj true l G F Y_X10_takesCommand Q QX 0 0 136)))))))))) (I_ic 3 (I_is 4 (I_ic 0 (I_is 5 (I_kl 1 (Wj true l G F Y_X10_takesCommand Q QX 0 0 136)))))))))) (I_al 0 (I_il 1 (I_pi 8 8 13 (I_ic 0 (I_zr Q))))))))))
set_option maxRecDepth 100000 in
theorem g_X10_takesCommand_87 {l : Launch} {G : GT} {F : FX} {Q : PQ} {QX : PX} : Le (R_X10_takesCommand_87 l G F Q QX) (Wj true l G F Y_X10_takesCommand Q QX 0 0 87) := by
  unfold R_X10_takesCommand_87
  refine r_pi (pc := 87) ?_ dX10_takesCommand_87 cl_X10 (Nat.le_of_ble_eq_true rfl) rfl wd_5_146 rfl pd_X10_9
  refine r_aload_n (pc := 90) ?_ dX10_takesCommand_90 rfl
  refine r_gi (pc := 91) ?_ dX10_takesCommand_91 cl_X10 (Nat.le_of_ble_eq_true rfl) rfl wd_5_146
  refine r_iconst (pc := 94) ?_ dX10_takesCommand_94 (by decide)
  refine r_icne (pc := 95) (t := 105) ?_ ?_ dX10_takesCommand_95 (by decide)
  · refine r_aload_n (pc := 105) ?_ dX10_takesCommand_105 rfl
    refine r_gi (pc := 106) ?_ dX10_takesCommand_106 cl_X10 (Nat.le_of_ble_eq_true rfl) rfl wd_5_146
    refine r_iconst (pc := 109) ?_ dX10_takesCommand_109 (by decide)
    refine r_icge (pc := 110) (t := 117) ?_ ?_ dX10_takesCommand_110 (by decide)
    · refine r_aload_n (pc := 117) ?_ dX10_takesCommand_117 rfl
      refine r_gi (pc := 118) ?_ dX10_takesCommand_118 cl_X10 (Nat.le_of_ble_eq_true rfl) rfl wd_5_146
      refine r_bipush (pc := 121) ?_ dX10_takesCommand_121 (by decide)
      refine r_icge (pc := 123) (t := 130) ?_ ?_ dX10_takesCommand_123 (by decide)
      · refine r_iconst (pc := 130) ?_ dX10_takesCommand_130 (by decide)
        refine r_istore (pc := 131) ?_ dX10_takesCommand_131 (Nat.le_of_ble_eq_true rfl)
        refine r_iconst (pc := 133) ?_ dX10_takesCommand_133 (by decide)
        refine r_istore (pc := 134) ?_ dX10_takesCommand_134 (Nat.le_of_ble_eq_true rfl)
        refine r_kl ?_
        exact Le.rf
      · refine r_iconst (pc := 126) ?_ dX10_takesCommand_126 (by decide)
        refine r_goto (pc := 127) (t := 131) ?_ dX10_takesCommand_127 (by decide)
        refine r_istore (pc := 131) ?_ dX10_takesCommand_131 (Nat.le_of_ble_eq_true rfl)
        refine r_iconst (pc := 133) ?_ dX10_takesCommand_133 (by decide)
        refine r_istore (pc := 134) ?_ dX10_takesCommand_134 (Nat.le_of_ble_eq_true rfl)
        refine r_kl ?_
        exact Le.rf
    · refine r_iconst (pc := 113) ?_ dX10_takesCommand_113 (by decide)
      refine r_goto (pc := 114) (t := 131) ?_ dX10_takesCommand_114 (by decide)
      refine r_istore (pc := 131) ?_ dX10_takesCommand_131 (Nat.le_of_ble_eq_true rfl)
      refine r_iconst (pc := 133) ?_ dX10_takesCommand_133 (by decide)
      refine r_istore (pc := 134) ?_ dX10_takesCommand_134 (Nat.le_of_ble_eq_true rfl)
      refine r_kl ?_
      exact Le.rf
  · refine r_aload_n (pc := 98) ?_ dX10_takesCommand_98 rfl
    refine r_iload_n (pc := 99) ?_ dX10_takesCommand_99 rfl
    refine r_pi (pc := 100) ?_ dX10_takesCommand_100 cl_X10 (Nat.le_of_ble_eq_true rfl) rfl wd_5_145 rfl pd_X10_8
    refine r_iconst (pc := 103) ?_ dX10_takesCommand_103 (by decide)
    exact r_zr dX10_takesCommand_104 rfl (Nat.le_of_ble_eq_true rfl) (Nat.le_of_ble_eq_true rfl)
def R_X10_takesCommand_136 (l : Launch) (G : GT) (F : FX) (Q : PQ) (QX : PX) : KT := (I_il 5 (I_il 4 (I_icge (I_al 0 (I_cv (Tr true l G Y_X10_skips) 8 13 0 QX (I_al 0 (I_ic 59 (I_ic 59 (I_cv (Tr true l G Y_X10_isAt) 8 13 2 QX (I_ifne (I_al 0 (I_dup (I_gi 8 8 13 (I_ic 1 (I_iadd (I_pi 8 8 13 (I_al 0 (I_cv (Tr true l G Y_X10_skips) 8 13 0 QX (I_ic 1 (I_zr Q)))))))))) (I_ic 0 (I_zr Q))))))))) (I_al 0 (I_il 5 (I_cv (Tr true l G Y_X10_takesNumber) 8 13 1 QX (I_ifne (I_inc 5 1 (Wj true l G F Y_X10_takesCommand Q QX 0 0 136)) (I_ic 0 (I_zr Q)))))))))
set_option maxRecDepth 100000 in
theorem g_X10_takesCommand_136 {l : Launch} {G : GT} {F : FX} {Q : PQ} {QX : PX} : Le (R_X10_takesCommand_136 l G F Q QX) (Wj true l G F Y_X10_takesCommand Q QX 0 0 136) := by
  unfold R_X10_takesCommand_136
  refine r_iload (pc := 136) ?_ dX10_takesCommand_136
  refine r_iload (pc := 138) ?_ dX10_takesCommand_138
  refine r_icge (pc := 140) (t := 160) ?_ ?_ dX10_takesCommand_140 (by decide)
  · refine r_aload_n (pc := 160) ?_ dX10_takesCommand_160 rfl
    refine r_cv0 (pc := 161) ?_ dX10_takesCommand_161 cl_X10 ok_X10_skips rfl wd_7_26 ⟨Nat.le_of_ble_eq_true rfl, Nat.le_of_ble_eq_true rfl⟩ ⟨Nat.le_of_ble_eq_true rfl, Nat.le_of_ble_eq_true rfl⟩ rfl rfl
    refine r_aload_n (pc := 164) ?_ dX10_takesCommand_164 rfl
    refine r_bipush (pc := 165) ?_ dX10_takesCommand_165 (by decide)
    refine r_bipush (pc := 167) ?_ dX10_takesCommand_167 (by decide)
    refine r_cv0 (pc := 169) ?_ dX10_takesCommand_169 cl_X10 ok_X10_isAt rfl wd_7_30 ⟨Nat.le_of_ble_eq_true rfl, Nat.le_of_ble_eq_true rfl⟩ ⟨Nat.le_of_ble_eq_true rfl, Nat.le_of_ble_eq_true rfl⟩ rfl rfl
    refine r_ifne (pc := 172) (t := 177) ?_ ?_ dX10_takesCommand_172 (by decide)
    · refine r_aload_n (pc := 177) ?_ dX10_takesCommand_177 rfl
      refine r_dup (pc := 178) ?_ dX10_takesCommand_178
      refine r_gi (pc := 179) ?_ dX10_takesCommand_179 cl_X10 (Nat.le_of_ble_eq_true rfl) rfl wd_5_145
      refine r_iconst (pc := 182) ?_ dX10_takesCommand_182 (by decide)
      refine r_iadd (pc := 183) ?_ dX10_takesCommand_183
      refine r_pi (pc := 184) ?_ dX10_takesCommand_184 cl_X10 (Nat.le_of_ble_eq_true rfl) rfl wd_5_145 rfl pd_X10_8
      refine r_aload_n (pc := 187) ?_ dX10_takesCommand_187 rfl
      refine r_cv0 (pc := 188) ?_ dX10_takesCommand_188 cl_X10 ok_X10_skips rfl wd_7_26 ⟨Nat.le_of_ble_eq_true rfl, Nat.le_of_ble_eq_true rfl⟩ ⟨Nat.le_of_ble_eq_true rfl, Nat.le_of_ble_eq_true rfl⟩ rfl rfl
      refine r_iconst (pc := 191) ?_ dX10_takesCommand_191 (by decide)
      exact r_zr dX10_takesCommand_192 rfl (Nat.le_of_ble_eq_true rfl) (Nat.le_of_ble_eq_true rfl)
    · refine r_iconst (pc := 175) ?_ dX10_takesCommand_175 (by decide)
      exact r_zr dX10_takesCommand_176 rfl (Nat.le_of_ble_eq_true rfl) (Nat.le_of_ble_eq_true rfl)
  · refine r_aload_n (pc := 143) ?_ dX10_takesCommand_143 rfl
    refine r_iload (pc := 144) ?_ dX10_takesCommand_144
    refine r_cv0 (pc := 146) ?_ dX10_takesCommand_146 cl_X10 ok_X10_takesNumber rfl wd_7_55 ⟨Nat.le_of_ble_eq_true rfl, Nat.le_of_ble_eq_true rfl⟩ ⟨Nat.le_of_ble_eq_true rfl, Nat.le_of_ble_eq_true rfl⟩ rfl rfl
    refine r_ifne (pc := 149) (t := 154) ?_ ?_ dX10_takesCommand_149 (by decide)
    · refine r_iinc (pc := 154) ?_ dX10_takesCommand_154 (by decide) (Nat.le_of_ble_eq_true rfl)
      refine r_goto (pc := 157) (t := 136) ?_ dX10_takesCommand_157 (by decide)
      exact Le.rf
    · refine r_iconst (pc := 152) ?_ dX10_takesCommand_152 (by decide)
      exact r_zr dX10_takesCommand_153 rfl (Nat.le_of_ble_eq_true rfl) (Nat.le_of_ble_eq_true rfl)
abbrev Y_X10_carriesOut : YT := (yX10_carriesOut, cX10_carriesOut, 4, (some .int), 6, 139, 0, 0)
theorem ok_X10_carriesOut : okV Y_X10_carriesOut 0 := ⟨⟨wd_7_66, wd_1_9, by decide, by decide, by decide +kernel⟩, wd_7_65, wp_93⟩
def R_X10_carriesOut_0 (l : Launch) (G : GT) (F : FX) (Q : PQ) (QX : PX) : KT := (I_al 0 (I_gp 8 13 5 (I_ic 0 (I_ial (I_is 1 (I_al 0 (I_gp 8 13 5 (I_ic 1 (I_ial (I_is 2 (I_al 0 (I_gp 8 13 5 (I_ic 2 (I_ial (I_is 3 (I_al 0 (I_gi 8 9 13 (I_sw 0 [(I_al 0 (I_il 1 (I_il 2 (I_il 3 (I_cv (Tr true l G Y_X10_trades) 8 13 3 QX (I_ir Q)))))), (I_al 0 (I_il 1 (I_il 2 (I_il 3 (I_cv (Tr true l G Y_X10_logs) 8 13 3 QX (I_ir Q)))))), (I_al 0 (I_il 1 (I_il 2 (I_cv (Tr true l G Y_X10_mentors) 8 13 2 QX (I_ir Q))))), (I_al 0 (I_il 1 (I_il 2 (I_cv (Tr true l G Y_X10_apprentices) 8 13 2 QX (I_ir Q))))), (I_al 0 (I_il 1 (I_il 2 (I_cv (Tr true l G Y_X10_moves) 8 13 2 QX (I_ir Q))))), (I_al 0 (I_il 1 (I_il 2 (I_cv (Tr true l G Y_X10_swaps) 8 13 2 QX (I_ir Q))))), (I_al 0 (I_il 1 (I_il 2 (I_cv (Tr true l G Y_X10_frees) 8 13 2 QX (I_ir Q))))), (I_al 0 (I_il 1 (I_ic 99 (I_cv (Tr true l G Y_X10_confirms) 8 13 2 QX (I_ir Q))))), (I_al 0 (I_il 1 (I_cv (Tr true l G Y_X10_doubtsOldest) 8 13 1 QX (I_ir Q)))), (I_al 0 (I_il 1 (I_ic 1 (I_cv (Tr true l G Y_X10_settles) 8 13 2 QX (I_ir Q))))), (I_al 0 (I_il 1 (I_ic 0 (I_cv (Tr true l G Y_X10_settles) 8 13 2 QX (I_ir Q)))))] (I_al 0 (I_il 1 (I_cv (Tr true l G Y_X10_passes) 8 13 1 QX (I_ir Q))))))))))))))))))))))
set_option maxRecDepth 100000 in
theorem g_X10_carriesOut_0 {l : Launch} {G : GT} {F : FX} {Q : PQ} {QX : PX} : Le (R_X10_carriesOut_0 l G F Q QX) (Wj true l G F Y_X10_carriesOut Q QX 0 0 0) := by
  unfold R_X10_carriesOut_0
  refine r_aload_n (pc := 0) ?_ dX10_carriesOut_0 rfl
  refine r_gp (pc := 1) (kf := 10) ?_ dX10_carriesOut_1 cl_X10 (Nat.le_of_ble_eq_true rfl) rfl wd_5_147 pv_X10_10
  refine r_iconst (pc := 4) ?_ dX10_carriesOut_4 (by decide)
  refine r_ial (pc := 5) ?_ dX10_carriesOut_5
  refine r_istore_n (pc := 6) ?_ dX10_carriesOut_6 rfl (Nat.le_of_ble_eq_true rfl)
  refine r_aload_n (pc := 7) ?_ dX10_carriesOut_7 rfl
  refine r_gp (pc := 8) (kf := 10) ?_ dX10_carriesOut_8 cl_X10 (Nat.le_of_ble_eq_true rfl) rfl wd_5_147 pv_X10_10
  refine r_iconst (pc := 11) ?_ dX10_carriesOut_11 (by decide)
  refine r_ial (pc := 12) ?_ dX10_carriesOut_12
  refine r_istore_n (pc := 13) ?_ dX10_carriesOut_13 rfl (Nat.le_of_ble_eq_true rfl)
  refine r_aload_n (pc := 14) ?_ dX10_carriesOut_14 rfl
  refine r_gp (pc := 15) (kf := 10) ?_ dX10_carriesOut_15 cl_X10 (Nat.le_of_ble_eq_true rfl) rfl wd_5_147 pv_X10_10
  refine r_iconst (pc := 18) ?_ dX10_carriesOut_18 (by decide)
  refine r_ial (pc := 19) ?_ dX10_carriesOut_19
  refine r_istore_n (pc := 20) ?_ dX10_carriesOut_20 rfl (Nat.le_of_ble_eq_true rfl)
  refine r_aload_n (pc := 21) ?_ dX10_carriesOut_21 rfl
  refine r_gi (pc := 22) ?_ dX10_carriesOut_22 cl_X10 (Nat.le_of_ble_eq_true rfl) rfl wd_5_146
  refine r_sw (pc := 25) (t := 163) (os := [59, 67, 75, 82, 89, 96, 103, 110, 118, 124, 131]) ?_ ⟨⟨84, by decide, ?_⟩, ⟨⟨92, by decide, ?_⟩, ⟨⟨100, by decide, ?_⟩, ⟨⟨107, by decide, ?_⟩, ⟨⟨114, by decide, ?_⟩, ⟨⟨121, by decide, ?_⟩, ⟨⟨128, by decide, ?_⟩, ⟨⟨135, by decide, ?_⟩, ⟨⟨143, by decide, ?_⟩, ⟨⟨149, by decide, ?_⟩, ⟨⟨156, by decide, ?_⟩, trivial⟩⟩⟩⟩⟩⟩⟩⟩⟩⟩⟩ dX10_carriesOut_25 rfl rfl (by decide)
  · refine r_aload_n (pc := 163) ?_ dX10_carriesOut_163 rfl
    refine r_iload_n (pc := 164) ?_ dX10_carriesOut_164 rfl
    refine r_cv0 (pc := 165) ?_ dX10_carriesOut_165 cl_X10 ok_X10_passes rfl wd_7_67 ⟨Nat.le_of_ble_eq_true rfl, Nat.le_of_ble_eq_true rfl⟩ ⟨Nat.le_of_ble_eq_true rfl, Nat.le_of_ble_eq_true rfl⟩ rfl rfl
    exact r_ir dX10_carriesOut_168 rfl (Nat.le_of_ble_eq_true rfl) (Nat.le_of_ble_eq_true rfl)
  · refine r_aload_n (pc := 84) ?_ dX10_carriesOut_84 rfl
    refine r_iload_n (pc := 85) ?_ dX10_carriesOut_85 rfl
    refine r_iload_n (pc := 86) ?_ dX10_carriesOut_86 rfl
    refine r_iload_n (pc := 87) ?_ dX10_carriesOut_87 rfl
    refine r_cv0 (pc := 88) ?_ dX10_carriesOut_88 cl_X10 ok_X10_trades rfl wd_5_189 ⟨Nat.le_of_ble_eq_true rfl, Nat.le_of_ble_eq_true rfl⟩ ⟨Nat.le_of_ble_eq_true rfl, Nat.le_of_ble_eq_true rfl⟩ rfl rfl
    exact r_ir dX10_carriesOut_91 rfl (Nat.le_of_ble_eq_true rfl) (Nat.le_of_ble_eq_true rfl)
  · refine r_aload_n (pc := 92) ?_ dX10_carriesOut_92 rfl
    refine r_iload_n (pc := 93) ?_ dX10_carriesOut_93 rfl
    refine r_iload_n (pc := 94) ?_ dX10_carriesOut_94 rfl
    refine r_iload_n (pc := 95) ?_ dX10_carriesOut_95 rfl
    refine r_cv0 (pc := 96) ?_ dX10_carriesOut_96 cl_X10 ok_X10_logs rfl wd_6_62 ⟨Nat.le_of_ble_eq_true rfl, Nat.le_of_ble_eq_true rfl⟩ ⟨Nat.le_of_ble_eq_true rfl, Nat.le_of_ble_eq_true rfl⟩ rfl rfl
    exact r_ir dX10_carriesOut_99 rfl (Nat.le_of_ble_eq_true rfl) (Nat.le_of_ble_eq_true rfl)
  · refine r_aload_n (pc := 100) ?_ dX10_carriesOut_100 rfl
    refine r_iload_n (pc := 101) ?_ dX10_carriesOut_101 rfl
    refine r_iload_n (pc := 102) ?_ dX10_carriesOut_102 rfl
    refine r_cv0 (pc := 103) ?_ dX10_carriesOut_103 cl_X10 ok_X10_mentors rfl wd_5_222 ⟨Nat.le_of_ble_eq_true rfl, Nat.le_of_ble_eq_true rfl⟩ ⟨Nat.le_of_ble_eq_true rfl, Nat.le_of_ble_eq_true rfl⟩ rfl rfl
    exact r_ir dX10_carriesOut_106 rfl (Nat.le_of_ble_eq_true rfl) (Nat.le_of_ble_eq_true rfl)
  · refine r_aload_n (pc := 107) ?_ dX10_carriesOut_107 rfl
    refine r_iload_n (pc := 108) ?_ dX10_carriesOut_108 rfl
    refine r_iload_n (pc := 109) ?_ dX10_carriesOut_109 rfl
    refine r_cv0 (pc := 110) ?_ dX10_carriesOut_110 cl_X10 ok_X10_apprentices rfl wd_5_232 ⟨Nat.le_of_ble_eq_true rfl, Nat.le_of_ble_eq_true rfl⟩ ⟨Nat.le_of_ble_eq_true rfl, Nat.le_of_ble_eq_true rfl⟩ rfl rfl
    exact r_ir dX10_carriesOut_113 rfl (Nat.le_of_ble_eq_true rfl) (Nat.le_of_ble_eq_true rfl)
  · refine r_aload_n (pc := 114) ?_ dX10_carriesOut_114 rfl
    refine r_iload_n (pc := 115) ?_ dX10_carriesOut_115 rfl
    refine r_iload_n (pc := 116) ?_ dX10_carriesOut_116 rfl
    refine r_cv0 (pc := 117) ?_ dX10_carriesOut_117 cl_X10 ok_X10_moves rfl wd_6_138 ⟨Nat.le_of_ble_eq_true rfl, Nat.le_of_ble_eq_true rfl⟩ ⟨Nat.le_of_ble_eq_true rfl, Nat.le_of_ble_eq_true rfl⟩ rfl rfl
    exact r_ir dX10_carriesOut_120 rfl (Nat.le_of_ble_eq_true rfl) (Nat.le_of_ble_eq_true rfl)
  · refine r_aload_n (pc := 121) ?_ dX10_carriesOut_121 rfl
    refine r_iload_n (pc := 122) ?_ dX10_carriesOut_122 rfl
    refine r_iload_n (pc := 123) ?_ dX10_carriesOut_123 rfl
    refine r_cv0 (pc := 124) ?_ dX10_carriesOut_124 cl_X10 ok_X10_swaps rfl wd_6_162 ⟨Nat.le_of_ble_eq_true rfl, Nat.le_of_ble_eq_true rfl⟩ ⟨Nat.le_of_ble_eq_true rfl, Nat.le_of_ble_eq_true rfl⟩ rfl rfl
    exact r_ir dX10_carriesOut_127 rfl (Nat.le_of_ble_eq_true rfl) (Nat.le_of_ble_eq_true rfl)
  · refine r_aload_n (pc := 128) ?_ dX10_carriesOut_128 rfl
    refine r_iload_n (pc := 129) ?_ dX10_carriesOut_129 rfl
    refine r_iload_n (pc := 130) ?_ dX10_carriesOut_130 rfl
    refine r_cv0 (pc := 131) ?_ dX10_carriesOut_131 cl_X10 ok_X10_frees rfl wd_6_37 ⟨Nat.le_of_ble_eq_true rfl, Nat.le_of_ble_eq_true rfl⟩ ⟨Nat.le_of_ble_eq_true rfl, Nat.le_of_ble_eq_true rfl⟩ rfl rfl
    exact r_ir dX10_carriesOut_134 rfl (Nat.le_of_ble_eq_true rfl) (Nat.le_of_ble_eq_true rfl)
  · refine r_aload_n (pc := 135) ?_ dX10_carriesOut_135 rfl
    refine r_iload_n (pc := 136) ?_ dX10_carriesOut_136 rfl
    refine r_bipush (pc := 137) ?_ dX10_carriesOut_137 (by decide)
    refine r_cv0 (pc := 139) ?_ dX10_carriesOut_139 cl_X10 ok_X10_confirms rfl wd_6_86 ⟨Nat.le_of_ble_eq_true rfl, Nat.le_of_ble_eq_true rfl⟩ ⟨Nat.le_of_ble_eq_true rfl, Nat.le_of_ble_eq_true rfl⟩ rfl rfl
    exact r_ir dX10_carriesOut_142 rfl (Nat.le_of_ble_eq_true rfl) (Nat.le_of_ble_eq_true rfl)
  · refine r_aload_n (pc := 143) ?_ dX10_carriesOut_143 rfl
    refine r_iload_n (pc := 144) ?_ dX10_carriesOut_144 rfl
    refine r_cv0 (pc := 145) ?_ dX10_carriesOut_145 cl_X10 ok_X10_doubtsOldest rfl wd_6_105 ⟨Nat.le_of_ble_eq_true rfl, Nat.le_of_ble_eq_true rfl⟩ ⟨Nat.le_of_ble_eq_true rfl, Nat.le_of_ble_eq_true rfl⟩ rfl rfl
    exact r_ir dX10_carriesOut_148 rfl (Nat.le_of_ble_eq_true rfl) (Nat.le_of_ble_eq_true rfl)
  · refine r_aload_n (pc := 149) ?_ dX10_carriesOut_149 rfl
    refine r_iload_n (pc := 150) ?_ dX10_carriesOut_150 rfl
    refine r_iconst (pc := 151) ?_ dX10_carriesOut_151 (by decide)
    refine r_cv0 (pc := 152) ?_ dX10_carriesOut_152 cl_X10 ok_X10_settles rfl wd_6_117 ⟨Nat.le_of_ble_eq_true rfl, Nat.le_of_ble_eq_true rfl⟩ ⟨Nat.le_of_ble_eq_true rfl, Nat.le_of_ble_eq_true rfl⟩ rfl rfl
    exact r_ir dX10_carriesOut_155 rfl (Nat.le_of_ble_eq_true rfl) (Nat.le_of_ble_eq_true rfl)
  · refine r_aload_n (pc := 156) ?_ dX10_carriesOut_156 rfl
    refine r_iload_n (pc := 157) ?_ dX10_carriesOut_157 rfl
    refine r_iconst (pc := 158) ?_ dX10_carriesOut_158 (by decide)
    refine r_cv0 (pc := 159) ?_ dX10_carriesOut_159 cl_X10 ok_X10_settles rfl wd_6_117 ⟨Nat.le_of_ble_eq_true rfl, Nat.le_of_ble_eq_true rfl⟩ ⟨Nat.le_of_ble_eq_true rfl, Nat.le_of_ble_eq_true rfl⟩ rfl rfl
    exact r_ir dX10_carriesOut_162 rfl (Nat.le_of_ble_eq_true rfl) (Nat.le_of_ble_eq_true rfl)
abbrev Y_X10_does : YT := (yX10_does, cX10_does, 2, (some .boolean), 7, 162, 0, 0)
theorem ok_X10_does : okV Y_X10_does 0 := ⟨⟨wd_7_62, wd_1_9, by decide, by decide, by decide +kernel⟩, wd_7_61, wp_92⟩
def R_X10_does_0 (l : Launch) (G : GT) (F : FX) (Q : PQ) (QX : PX) : KT := (I_ic 0 (I_is 1 (Wj true l G F Y_X10_does Q QX 0 0 2)))
set_option maxRecDepth 100000 in
theorem g_X10_does_0 {l : Launch} {G : GT} {F : FX} {Q : PQ} {QX : PX} : Le (R_X10_does_0 l G F Q QX) (Wj true l G F Y_X10_does Q QX 0 0 0) := by
  unfold R_X10_does_0
  refine r_iconst (pc := 0) ?_ dX10_does_0 (by decide)
  refine r_istore_n (pc := 1) ?_ dX10_does_1 rfl (Nat.le_of_ble_eq_true rfl)
  exact Le.rf
def R_X10_does_2 (l : Launch) (G : GT) (F : FX) (Q : PQ) (QX : PX) : KT := (I_il 1 (I_ic 427 (I_icge (I_al 0 (I_cv (Tr true l G Y_X10_carriesOut) 8 13 0 QX (I_ifne (I_ic 0 (I_is 1 (Wj true l G F Y_X10_does Q QX 0 0 38))) (I_ic 1 (I_zr Q))))) (I_al 0 (I_gp 8 13 6 (I_il 1 (I_al 0 (I_gp 8 13 1 (I_il 1 (I_lal (I_las (I_inc 1 1 (Wj true l G F Y_X10_does Q QX 0 0 2)))))))))))))
set_option maxRecDepth 100000 in
theorem g_X10_does_2 {l : Launch} {G : GT} {F : FX} {Q : PQ} {QX : PX} : Le (R_X10_does_2 l G F Q QX) (Wj true l G F Y_X10_does Q QX 0 0 2) := by
  unfold R_X10_does_2
  refine r_iload_n (pc := 2) ?_ dX10_does_2 rfl
  refine r_sipush (pc := 3) ?_ dX10_does_3 (by decide)
  refine r_icge (pc := 6) (t := 27) ?_ ?_ dX10_does_6 (by decide)
  · refine r_aload_n (pc := 27) ?_ dX10_does_27 rfl
    refine r_cv0 (pc := 28) ?_ dX10_does_28 cl_X10 ok_X10_carriesOut rfl wd_7_63 ⟨Nat.le_of_ble_eq_true rfl, Nat.le_of_ble_eq_true rfl⟩ ⟨Nat.le_of_ble_eq_true rfl, Nat.le_of_ble_eq_true rfl⟩ rfl rfl
    refine r_ifne (pc := 31) (t := 36) ?_ ?_ dX10_does_31 (by decide)
    · refine r_iconst (pc := 36) ?_ dX10_does_36 (by decide)
      refine r_istore_n (pc := 37) ?_ dX10_does_37 rfl (Nat.le_of_ble_eq_true rfl)
      exact Le.rf
    · refine r_iconst (pc := 34) ?_ dX10_does_34 (by decide)
      exact r_zr dX10_does_35 rfl (Nat.le_of_ble_eq_true rfl) (Nat.le_of_ble_eq_true rfl)
  · refine r_aload_n (pc := 9) ?_ dX10_does_9 rfl
    refine r_gp (pc := 10) (kf := 11) ?_ dX10_does_10 cl_X10 (Nat.le_of_ble_eq_true rfl) rfl wd_5_148 pv_X10_11
    refine r_iload_n (pc := 13) ?_ dX10_does_13 rfl
    refine r_aload_n (pc := 14) ?_ dX10_does_14 rfl
    refine r_gp (pc := 15) (kf := 0) ?_ dX10_does_15 cl_X10 (Nat.le_of_ble_eq_true rfl) rfl wd_5_137 pv_X10_0
    refine r_iload_n (pc := 18) ?_ dX10_does_18 rfl
    refine r_lal (pc := 19) ?_ dX10_does_19
    refine r_las (pc := 20) ?_ dX10_does_20
    refine r_iinc (pc := 21) ?_ dX10_does_21 (by decide) (Nat.le_of_ble_eq_true rfl)
    refine r_goto (pc := 24) (t := 2) ?_ dX10_does_24 (by decide)
    exact Le.rf
def R_X10_does_38 (l : Launch) (G : GT) (F : FX) (Q : PQ) (QX : PX) : KT := (I_il 1 (I_ic 427 (I_icge (I_ic 0 (I_zr Q)) (I_al 0 (I_gp 8 13 1 (I_il 1 (I_al 0 (I_gp 8 13 6 (I_il 1 (I_lal (I_las (I_inc 1 1 (Wj true l G F Y_X10_does Q QX 0 0 38)))))))))))))
set_option maxRecDepth 100000 in
theorem g_X10_does_38 {l : Launch} {G : GT} {F : FX} {Q : PQ} {QX : PX} : Le (R_X10_does_38 l G F Q QX) (Wj true l G F Y_X10_does Q QX 0 0 38) := by
  unfold R_X10_does_38
  refine r_iload_n (pc := 38) ?_ dX10_does_38 rfl
  refine r_sipush (pc := 39) ?_ dX10_does_39 (by decide)
  refine r_icge (pc := 42) (t := 63) ?_ ?_ dX10_does_42 (by decide)
  · refine r_iconst (pc := 63) ?_ dX10_does_63 (by decide)
    exact r_zr dX10_does_64 rfl (Nat.le_of_ble_eq_true rfl) (Nat.le_of_ble_eq_true rfl)
  · refine r_aload_n (pc := 45) ?_ dX10_does_45 rfl
    refine r_gp (pc := 46) (kf := 0) ?_ dX10_does_46 cl_X10 (Nat.le_of_ble_eq_true rfl) rfl wd_5_137 pv_X10_0
    refine r_iload_n (pc := 49) ?_ dX10_does_49 rfl
    refine r_aload_n (pc := 50) ?_ dX10_does_50 rfl
    refine r_gp (pc := 51) (kf := 11) ?_ dX10_does_51 cl_X10 (Nat.le_of_ble_eq_true rfl) rfl wd_5_148 pv_X10_11
    refine r_iload_n (pc := 54) ?_ dX10_does_54 rfl
    refine r_lal (pc := 55) ?_ dX10_does_55
    refine r_las (pc := 56) ?_ dX10_does_56
    refine r_iinc (pc := 57) ?_ dX10_does_57 (by decide) (Nat.le_of_ble_eq_true rfl)
    refine r_goto (pc := 60) (t := 38) ?_ dX10_does_60 (by decide)
    exact Le.rf
abbrev Y_X10_runCommands : YT := (yX10_runCommands, cX10_runCommands, 3, (some .int), 8, 183, 0, 0)
theorem ok_X10_runCommands : okV Y_X10_runCommands 0 := ⟨⟨wd_7_25, wd_1_9, by decide, by decide, by decide +kernel⟩, wd_7_23, wd_7_24⟩
def R_X10_runCommands_0 (l : Launch) (G : GT) (F : FX) (Q : PQ) (QX : PX) : KT := (I_al 0 (I_ic 0 (I_pi 8 8 13 (I_al 0 (I_cv (Tr true l G Y_X10_skips) 8 13 0 QX (Wj true l G F Y_X10_runCommands Q QX 0 0 9))))))
set_option maxRecDepth 100000 in
theorem g_X10_runCommands_0 {l : Launch} {G : GT} {F : FX} {Q : PQ} {QX : PX} : Le (R_X10_runCommands_0 l G F Q QX) (Wj true l G F Y_X10_runCommands Q QX 0 0 0) := by
  unfold R_X10_runCommands_0
  refine r_aload_n (pc := 0) ?_ dX10_runCommands_0 rfl
  refine r_iconst (pc := 1) ?_ dX10_runCommands_1 (by decide)
  refine r_pi (pc := 2) ?_ dX10_runCommands_2 cl_X10 (Nat.le_of_ble_eq_true rfl) rfl wd_5_145 rfl pd_X10_8
  refine r_aload_n (pc := 5) ?_ dX10_runCommands_5 rfl
  refine r_cv0 (pc := 6) ?_ dX10_runCommands_6 cl_X10 ok_X10_skips rfl wd_7_26 ⟨Nat.le_of_ble_eq_true rfl, Nat.le_of_ble_eq_true rfl⟩ ⟨Nat.le_of_ble_eq_true rfl, Nat.le_of_ble_eq_true rfl⟩ rfl rfl
  exact Le.rf
def R_X10_runCommands_9 (l : Launch) (G : GT) (F : FX) (Q : PQ) (QX : PX) : KT := (I_al 0 (I_gi 8 8 13 (I_al 0 (I_gi 8 7 13 (I_icge (I_al 0 (I_cv (Tr true l G Y_X10_laysAside) 8 13 0 QX (I_al 0 (I_ic 0 (I_pi 8 8 13 (I_al 0 (I_cv (Tr true l G Y_X10_skips) 8 13 0 QX (I_ic 0 (I_is 1 (I_ic 1 (I_is 2 (Wj true l G F Y_X10_runCommands Q QX 0 0 57)))))))))))) (I_al 0 (I_cv (Tr true l G Y_X10_takesCommand) 8 13 0 QX (I_ifne (Wj true l G F Y_X10_runCommands Q QX 0 0 9) (I_al 0 (I_ic (-10) (I_al 0 (I_gi 8 8 13 (I_isub (I_i2l (I_cv (Tr true l G Y_X10_tells) 8 13 1 QX (I_ir Q))))))))))))))))
set_option maxRecDepth 100000 in
theorem g_X10_runCommands_9 {l : Launch} {G : GT} {F : FX} {Q : PQ} {QX : PX} : Le (R_X10_runCommands_9 l G F Q QX) (Wj true l G F Y_X10_runCommands Q QX 0 0 9) := by
  unfold R_X10_runCommands_9
  refine r_aload_n (pc := 9) ?_ dX10_runCommands_9 rfl
  refine r_gi (pc := 10) ?_ dX10_runCommands_10 cl_X10 (Nat.le_of_ble_eq_true rfl) rfl wd_5_145
  refine r_aload_n (pc := 13) ?_ dX10_runCommands_13 rfl
  refine r_gi (pc := 14) ?_ dX10_runCommands_14 cl_X10 (Nat.le_of_ble_eq_true rfl) rfl wd_5_144
  refine r_icge (pc := 17) (t := 40) ?_ ?_ dX10_runCommands_17 (by decide)
  · refine r_aload_n (pc := 40) ?_ dX10_runCommands_40 rfl
    refine r_cv0 (pc := 41) ?_ dX10_runCommands_41 cl_X10 ok_X10_laysAside rfl wd_5_185 ⟨Nat.le_of_ble_eq_true rfl, Nat.le_of_ble_eq_true rfl⟩ ⟨Nat.le_of_ble_eq_true rfl, Nat.le_of_ble_eq_true rfl⟩ rfl rfl
    refine r_aload_n (pc := 44) ?_ dX10_runCommands_44 rfl
    refine r_iconst (pc := 45) ?_ dX10_runCommands_45 (by decide)
    refine r_pi (pc := 46) ?_ dX10_runCommands_46 cl_X10 (Nat.le_of_ble_eq_true rfl) rfl wd_5_145 rfl pd_X10_8
    refine r_aload_n (pc := 49) ?_ dX10_runCommands_49 rfl
    refine r_cv0 (pc := 50) ?_ dX10_runCommands_50 cl_X10 ok_X10_skips rfl wd_7_26 ⟨Nat.le_of_ble_eq_true rfl, Nat.le_of_ble_eq_true rfl⟩ ⟨Nat.le_of_ble_eq_true rfl, Nat.le_of_ble_eq_true rfl⟩ rfl rfl
    refine r_iconst (pc := 53) ?_ dX10_runCommands_53 (by decide)
    refine r_istore_n (pc := 54) ?_ dX10_runCommands_54 rfl (Nat.le_of_ble_eq_true rfl)
    refine r_iconst (pc := 55) ?_ dX10_runCommands_55 (by decide)
    refine r_istore_n (pc := 56) ?_ dX10_runCommands_56 rfl (Nat.le_of_ble_eq_true rfl)
    exact Le.rf
  · refine r_aload_n (pc := 20) ?_ dX10_runCommands_20 rfl
    refine r_cv0 (pc := 21) ?_ dX10_runCommands_21 cl_X10 ok_X10_takesCommand rfl wd_7_34 ⟨Nat.le_of_ble_eq_true rfl, Nat.le_of_ble_eq_true rfl⟩ ⟨Nat.le_of_ble_eq_true rfl, Nat.le_of_ble_eq_true rfl⟩ rfl rfl
    refine r_ifne (pc := 24) (t := 9) ?_ ?_ dX10_runCommands_24 (by decide)
    · exact Le.rf
    · refine r_aload_n (pc := 27) ?_ dX10_runCommands_27 rfl
      refine r_bipush (pc := 28) ?_ dX10_runCommands_28 (by decide)
      refine r_aload_n (pc := 30) ?_ dX10_runCommands_30 rfl
      refine r_gi (pc := 31) ?_ dX10_runCommands_31 cl_X10 (Nat.le_of_ble_eq_true rfl) rfl wd_5_145
      refine r_isub (pc := 34) ?_ dX10_runCommands_34
      refine r_i2l (pc := 35) ?_ dX10_runCommands_35
      refine r_cv0 (pc := 36) ?_ dX10_runCommands_36 cl_X10 ok_X10_tells rfl wd_5_214 ⟨Nat.le_of_ble_eq_true rfl, Nat.le_of_ble_eq_true rfl⟩ ⟨Nat.le_of_ble_eq_true rfl, Nat.le_of_ble_eq_true rfl⟩ rfl rfl
      exact r_ir dX10_runCommands_39 rfl (Nat.le_of_ble_eq_true rfl) (Nat.le_of_ble_eq_true rfl)
def R_X10_runCommands_57 (l : Launch) (G : GT) (F : FX) (Q : PQ) (QX : PX) : KT := (I_il 2 (I_ifeq (I_al 0 (I_il 1 (I_i2l (I_ic 0 (I_cv (Tr true l G Y_X10_ends) 8 13 2 QX (I_ir Q)))))) (I_al 0 (I_gi 8 8 13 (I_al 0 (I_gi 8 7 13 (I_icge (I_al 0 (I_il 1 (I_i2l (I_ic 0 (I_cv (Tr true l G Y_X10_ends) 8 13 2 QX (I_ir Q)))))) (I_al 0 (I_cv (Tr true l G Y_X10_takesCommand) 8 13 0 QX (I_ifeq (I_ic 0 (I_kl 2 (Wj true l G F Y_X10_runCommands Q QX 0 0 91))) (I_al 0 (I_cv (Tr true l G Y_X10_does) 8 13 0 QX (I_ifeq (I_ic 0 (I_kl 2 (Wj true l G F Y_X10_runCommands Q QX 0 0 91))) (I_ic 1 (I_kl 2 (Wj true l G F Y_X10_runCommands Q QX 0 0 91))))))))))))))))
set_option maxRecDepth 100000 in
theorem g_X10_runCommands_57 {l : Launch} {G : GT} {F : FX} {Q : PQ} {QX : PX} : Le (R_X10_runCommands_57 l G F Q QX) (Wj true l G F Y_X10_runCommands Q QX 0 0 57) := by
  unfold R_X10_runCommands_57
  refine r_iload_n (pc := 57) ?_ dX10_runCommands_57 rfl
  refine r_ifeq (pc := 58) (t := 107) ?_ ?_ dX10_runCommands_58 (by decide)
  · refine r_aload_n (pc := 107) ?_ dX10_runCommands_107 rfl
    refine r_iload_n (pc := 108) ?_ dX10_runCommands_108 rfl
    refine r_i2l (pc := 109) ?_ dX10_runCommands_109
    refine r_iconst (pc := 110) ?_ dX10_runCommands_110 (by decide)
    refine r_cv0 (pc := 111) ?_ dX10_runCommands_111 cl_X10 ok_X10_ends rfl wd_5_198 ⟨Nat.le_of_ble_eq_true rfl, Nat.le_of_ble_eq_true rfl⟩ ⟨Nat.le_of_ble_eq_true rfl, Nat.le_of_ble_eq_true rfl⟩ rfl rfl
    exact r_ir dX10_runCommands_114 rfl (Nat.le_of_ble_eq_true rfl) (Nat.le_of_ble_eq_true rfl)
  · refine r_aload_n (pc := 61) ?_ dX10_runCommands_61 rfl
    refine r_gi (pc := 62) ?_ dX10_runCommands_62 cl_X10 (Nat.le_of_ble_eq_true rfl) rfl wd_5_145
    refine r_aload_n (pc := 65) ?_ dX10_runCommands_65 rfl
    refine r_gi (pc := 66) ?_ dX10_runCommands_66 cl_X10 (Nat.le_of_ble_eq_true rfl) rfl wd_5_144
    refine r_icge (pc := 69) (t := 107) ?_ ?_ dX10_runCommands_69 (by decide)
    · refine r_aload_n (pc := 107) ?_ dX10_runCommands_107 rfl
      refine r_iload_n (pc := 108) ?_ dX10_runCommands_108 rfl
      refine r_i2l (pc := 109) ?_ dX10_runCommands_109
      refine r_iconst (pc := 110) ?_ dX10_runCommands_110 (by decide)
      refine r_cv0 (pc := 111) ?_ dX10_runCommands_111 cl_X10 ok_X10_ends rfl wd_5_198 ⟨Nat.le_of_ble_eq_true rfl, Nat.le_of_ble_eq_true rfl⟩ ⟨Nat.le_of_ble_eq_true rfl, Nat.le_of_ble_eq_true rfl⟩ rfl rfl
      exact r_ir dX10_runCommands_114 rfl (Nat.le_of_ble_eq_true rfl) (Nat.le_of_ble_eq_true rfl)
    · refine r_aload_n (pc := 72) ?_ dX10_runCommands_72 rfl
      refine r_cv0 (pc := 73) ?_ dX10_runCommands_73 cl_X10 ok_X10_takesCommand rfl wd_7_34 ⟨Nat.le_of_ble_eq_true rfl, Nat.le_of_ble_eq_true rfl⟩ ⟨Nat.le_of_ble_eq_true rfl, Nat.le_of_ble_eq_true rfl⟩ rfl rfl
      refine r_ifeq (pc := 76) (t := 90) ?_ ?_ dX10_runCommands_76 (by decide)
      · refine r_iconst (pc := 90) ?_ dX10_runCommands_90 (by decide)
        refine r_kl ?_
        exact Le.rf
      · refine r_aload_n (pc := 79) ?_ dX10_runCommands_79 rfl
        refine r_cv0 (pc := 80) ?_ dX10_runCommands_80 cl_X10 ok_X10_does rfl wd_7_59 ⟨Nat.le_of_ble_eq_true rfl, Nat.le_of_ble_eq_true rfl⟩ ⟨Nat.le_of_ble_eq_true rfl, Nat.le_of_ble_eq_true rfl⟩ rfl rfl
        refine r_ifeq (pc := 83) (t := 90) ?_ ?_ dX10_runCommands_83 (by decide)
        · refine r_iconst (pc := 90) ?_ dX10_runCommands_90 (by decide)
          refine r_kl ?_
          exact Le.rf
        · refine r_iconst (pc := 86) ?_ dX10_runCommands_86 (by decide)
          refine r_goto (pc := 87) (t := 91) ?_ dX10_runCommands_87 (by decide)
          refine r_kl ?_
          exact Le.rf
def R_X10_runCommands_91 (l : Launch) (G : GT) (F : FX) (Q : PQ) (QX : PX) : KT := (I_is 2 (I_il 1 (I_il 2 (I_ifeq (I_ic 0 (I_iadd (I_is 1 (Wj true l G F Y_X10_runCommands Q QX 0 0 57)))) (I_ic 1 (I_iadd (I_is 1 (Wj true l G F Y_X10_runCommands Q QX 0 0 57))))))))
set_option maxRecDepth 100000 in
theorem g_X10_runCommands_91 {l : Launch} {G : GT} {F : FX} {Q : PQ} {QX : PX} : Le (R_X10_runCommands_91 l G F Q QX) (Wj true l G F Y_X10_runCommands Q QX 0 0 91) := by
  unfold R_X10_runCommands_91
  refine r_istore_n (pc := 91) ?_ dX10_runCommands_91 rfl (Nat.le_of_ble_eq_true rfl)
  refine r_iload_n (pc := 92) ?_ dX10_runCommands_92 rfl
  refine r_iload_n (pc := 93) ?_ dX10_runCommands_93 rfl
  refine r_ifeq (pc := 94) (t := 101) ?_ ?_ dX10_runCommands_94 (by decide)
  · refine r_iconst (pc := 101) ?_ dX10_runCommands_101 (by decide)
    refine r_iadd (pc := 102) ?_ dX10_runCommands_102
    refine r_istore_n (pc := 103) ?_ dX10_runCommands_103 rfl (Nat.le_of_ble_eq_true rfl)
    refine r_goto (pc := 104) (t := 57) ?_ dX10_runCommands_104 (by decide)
    exact Le.rf
  · refine r_iconst (pc := 97) ?_ dX10_runCommands_97 (by decide)
    refine r_goto (pc := 98) (t := 102) ?_ dX10_runCommands_98 (by decide)
    refine r_iadd (pc := 102) ?_ dX10_runCommands_102
    refine r_istore_n (pc := 103) ?_ dX10_runCommands_103 rfl (Nat.le_of_ble_eq_true rfl)
    refine r_goto (pc := 104) (t := 57) ?_ dX10_runCommands_104 (by decide)
    exact Le.rf
abbrev Y_X10_undo : YT := (yX10_undo, cX10_undo, 2, (some .int), 1, 22, 0, 0)
theorem ok_X10_undo : okV Y_X10_undo 0 := ⟨⟨wd_7_75, wd_1_9, by decide, by decide, by decide +kernel⟩, wd_7_73, wd_7_74⟩
def R_X10_undo_0 (l : Launch) (G : GT) (F : FX) (Q : PQ) (QX : PX) : KT := (I_al 0 (I_gi 8 3 13 (I_ifne (I_al 0 (I_dup (I_gi 8 3 13 (I_ic 1 (I_isub (I_pi 8 3 13 (I_ic 0 (I_is 1 (Wj true l G F Y_X10_undo Q QX 0 0 25))))))))) (I_al 0 (I_ic 1 (I_cv (Tr true l G Y_X10_fails) 8 13 1 QX (I_ir Q)))))))
set_option maxRecDepth 100000 in
theorem g_X10_undo_0 {l : Launch} {G : GT} {F : FX} {Q : PQ} {QX : PX} : Le (R_X10_undo_0 l G F Q QX) (Wj true l G F Y_X10_undo Q QX 0 0 0) := by
  unfold R_X10_undo_0
  refine r_aload_n (pc := 0) ?_ dX10_undo_0 rfl
  refine r_gi (pc := 1) ?_ dX10_undo_1 cl_X10 (Nat.le_of_ble_eq_true rfl) rfl wd_5_140
  refine r_ifne (pc := 4) (t := 13) ?_ ?_ dX10_undo_4 (by decide)
  · refine r_aload_n (pc := 13) ?_ dX10_undo_13 rfl
    refine r_dup (pc := 14) ?_ dX10_undo_14
    refine r_gi (pc := 15) ?_ dX10_undo_15 cl_X10 (Nat.le_of_ble_eq_true rfl) rfl wd_5_140
    refine r_iconst (pc := 18) ?_ dX10_undo_18 (by decide)
    refine r_isub (pc := 19) ?_ dX10_undo_19
    refine r_pi (pc := 20) ?_ dX10_undo_20 cl_X10 (Nat.le_of_ble_eq_true rfl) rfl wd_5_140 rfl pd_X10_3
    refine r_iconst (pc := 23) ?_ dX10_undo_23 (by decide)
    refine r_istore_n (pc := 24) ?_ dX10_undo_24 rfl (Nat.le_of_ble_eq_true rfl)
    exact Le.rf
  · refine r_aload_n (pc := 7) ?_ dX10_undo_7 rfl
    refine r_iconst (pc := 8) ?_ dX10_undo_8 (by decide)
    refine r_cv0 (pc := 9) ?_ dX10_undo_9 cl_X10 ok_X10_fails rfl wd_5_206 ⟨Nat.le_of_ble_eq_true rfl, Nat.le_of_ble_eq_true rfl⟩ ⟨Nat.le_of_ble_eq_true rfl, Nat.le_of_ble_eq_true rfl⟩ rfl rfl
    exact r_ir dX10_undo_12 rfl (Nat.le_of_ble_eq_true rfl) (Nat.le_of_ble_eq_true rfl)
def R_X10_undo_25 (l : Launch) (G : GT) (F : FX) (Q : PQ) (QX : PX) : KT := (I_il 1 (I_ic 427 (I_icge (I_al 0 (I_al 0 (I_gi 8 3 13 (I_i2l (I_cv (Tr true l G Y_X10_tells) 8 13 1 QX (I_ir Q)))))) (I_al 0 (I_gp 8 13 1 (I_il 1 (I_al 0 (I_gp 8 13 2 (I_ic 427 (I_al 0 (I_gi 8 3 13 (I_imul (I_il 1 (I_iadd (I_lal (I_las (I_inc 1 1 (Wj true l G F Y_X10_undo Q QX 0 0 25))))))))))))))))))
set_option maxRecDepth 100000 in
theorem g_X10_undo_25 {l : Launch} {G : GT} {F : FX} {Q : PQ} {QX : PX} : Le (R_X10_undo_25 l G F Q QX) (Wj true l G F Y_X10_undo Q QX 0 0 25) := by
  unfold R_X10_undo_25
  refine r_iload_n (pc := 25) ?_ dX10_undo_25 rfl
  refine r_sipush (pc := 26) ?_ dX10_undo_26 (by decide)
  refine r_icge (pc := 29) (t := 59) ?_ ?_ dX10_undo_29 (by decide)
  · refine r_aload_n (pc := 59) ?_ dX10_undo_59 rfl
    refine r_aload_n (pc := 60) ?_ dX10_undo_60 rfl
    refine r_gi (pc := 61) ?_ dX10_undo_61 cl_X10 (Nat.le_of_ble_eq_true rfl) rfl wd_5_140
    refine r_i2l (pc := 64) ?_ dX10_undo_64
    refine r_cv0 (pc := 65) ?_ dX10_undo_65 cl_X10 ok_X10_tells rfl wd_5_214 ⟨Nat.le_of_ble_eq_true rfl, Nat.le_of_ble_eq_true rfl⟩ ⟨Nat.le_of_ble_eq_true rfl, Nat.le_of_ble_eq_true rfl⟩ rfl rfl
    exact r_ir dX10_undo_68 rfl (Nat.le_of_ble_eq_true rfl) (Nat.le_of_ble_eq_true rfl)
  · refine r_aload_n (pc := 32) ?_ dX10_undo_32 rfl
    refine r_gp (pc := 33) (kf := 0) ?_ dX10_undo_33 cl_X10 (Nat.le_of_ble_eq_true rfl) rfl wd_5_137 pv_X10_0
    refine r_iload_n (pc := 36) ?_ dX10_undo_36 rfl
    refine r_aload_n (pc := 37) ?_ dX10_undo_37 rfl
    refine r_gp (pc := 38) (kf := 1) ?_ dX10_undo_38 cl_X10 (Nat.le_of_ble_eq_true rfl) rfl wd_5_138 pv_X10_1
    refine r_sipush (pc := 41) ?_ dX10_undo_41 (by decide)
    refine r_aload_n (pc := 44) ?_ dX10_undo_44 rfl
    refine r_gi (pc := 45) ?_ dX10_undo_45 cl_X10 (Nat.le_of_ble_eq_true rfl) rfl wd_5_140
    refine r_imul (pc := 48) ?_ dX10_undo_48
    refine r_iload_n (pc := 49) ?_ dX10_undo_49 rfl
    refine r_iadd (pc := 50) ?_ dX10_undo_50
    refine r_lal (pc := 51) ?_ dX10_undo_51
    refine r_las (pc := 52) ?_ dX10_undo_52
    refine r_iinc (pc := 53) ?_ dX10_undo_53 (by decide) (Nat.le_of_ble_eq_true rfl)
    refine r_goto (pc := 56) (t := 25) ?_ dX10_undo_56 (by decide)
    exact Le.rf
abbrev Y_X10_mix : YT := (yX10_mix, cX10_mix, 3, none, 0, 0, 0, 0)
theorem ok_X10_mix : okV Y_X10_mix 1 := ⟨⟨wd_7_84, wd_1_9, by decide, by decide, by decide +kernel⟩, wd_7_83, wp_95⟩
def R_X10_mix_0 (l : Launch) (G : GT) (F : FX) (Q : PQ) (QX : PX) : KT := (I_al 0 (I_lc (31 : Int64) (I_al 0 (I_gl 8 12 13 (I_lmul (I_ll 1 (I_ladd (I_pl 8 12 13 (I_vr Q)))))))))
set_option maxRecDepth 100000 in
theorem g_X10_mix_0 {l : Launch} {G : GT} {F : FX} {Q : PQ} {QX : PX} : Le (R_X10_mix_0 l G F Q QX) (Wj true l G F Y_X10_mix Q QX 0 0 0) := by
  unfold R_X10_mix_0
  refine r_aload_n (pc := 0) ?_ dX10_mix_0 rfl
  refine r_ldc2 (pc := 1) ?_ dX10_mix_1 wd_5_227
  refine r_aload_n (pc := 4) ?_ dX10_mix_4 rfl
  refine r_gl (pc := 5) ?_ dX10_mix_5 cl_X10 (Nat.le_of_ble_eq_true rfl) rfl wd_5_149
  refine r_lmul (pc := 8) ?_ dX10_mix_8
  refine r_lload_n (pc := 9) ?_ dX10_mix_9 rfl
  refine r_ladd (pc := 10) ?_ dX10_mix_10
  refine r_pl (pc := 11) ?_ dX10_mix_11 cl_X10 (Nat.le_of_ble_eq_true rfl) rfl wd_5_149 rfl pd_X10_12
  exact r_vr dX10_mix_14 rfl (Nat.le_of_ble_eq_true rfl) (Nat.le_of_ble_eq_true rfl)
abbrev Y_X10_mixApprentice : YT := (yX10_mixApprentice, cX10_mixApprentice, 3, none, 6, 141, 0, 0)
theorem ok_X10_mixApprentice : okV Y_X10_mixApprentice 1 := ⟨⟨wd_7_88, wd_1_9, by decide, by decide, by decide +kernel⟩, wd_7_87, wp_96⟩
def R_X10_mixApprentice_0 (l : Launch) (G : GT) (F : FX) (Q : PQ) (QX : PX) : KT := (I_ic 0 (I_is 2 (Wj true l G F Y_X10_mixApprentice Q QX 0 0 2)))
set_option maxRecDepth 100000 in
theorem g_X10_mixApprentice_0 {l : Launch} {G : GT} {F : FX} {Q : PQ} {QX : PX} : Le (R_X10_mixApprentice_0 l G F Q QX) (Wj true l G F Y_X10_mixApprentice Q QX 0 0 0) := by
  unfold R_X10_mixApprentice_0
  refine r_iconst (pc := 0) ?_ dX10_mixApprentice_0 (by decide)
  refine r_istore_n (pc := 1) ?_ dX10_mixApprentice_1 rfl (Nat.le_of_ble_eq_true rfl)
  exact Le.rf
def R_X10_mixApprentice_2 (l : Launch) (G : GT) (F : FX) (Q : PQ) (QX : PX) : KT := (I_il 2 (I_ic 12 (I_icge (I_ic 0 (I_is 2 (Wj true l G F Y_X10_mixApprentice Q QX 0 0 26))) (I_al 0 (I_al 0 (I_il 1 (I_il 2 (I_cv (Tr true l G Y_X10_apprenticeTold) 8 13 2 QX (I_cv (Tr true l G Y_X10_mix) 8 13 1 QX (I_inc 2 1 (Wj true l G F Y_X10_mixApprentice Q QX 0 0 2)))))))))))
set_option maxRecDepth 100000 in
theorem g_X10_mixApprentice_2 {l : Launch} {G : GT} {F : FX} {Q : PQ} {QX : PX} : Le (R_X10_mixApprentice_2 l G F Q QX) (Wj true l G F Y_X10_mixApprentice Q QX 0 0 2) := by
  unfold R_X10_mixApprentice_2
  refine r_iload_n (pc := 2) ?_ dX10_mixApprentice_2 rfl
  refine r_bipush (pc := 3) ?_ dX10_mixApprentice_3 (by decide)
  refine r_icge (pc := 5) (t := 24) ?_ ?_ dX10_mixApprentice_5 (by decide)
  · refine r_iconst (pc := 24) ?_ dX10_mixApprentice_24 (by decide)
    refine r_istore_n (pc := 25) ?_ dX10_mixApprentice_25 rfl (Nat.le_of_ble_eq_true rfl)
    exact Le.rf
  · refine r_aload_n (pc := 8) ?_ dX10_mixApprentice_8 rfl
    refine r_aload_n (pc := 9) ?_ dX10_mixApprentice_9 rfl
    refine r_iload_n (pc := 10) ?_ dX10_mixApprentice_10 rfl
    refine r_iload_n (pc := 11) ?_ dX10_mixApprentice_11 rfl
    refine r_cv0 (pc := 12) ?_ dX10_mixApprentice_12 cl_X10 ok_X10_apprenticeTold rfl wd_6_187 ⟨Nat.le_of_ble_eq_true rfl, Nat.le_of_ble_eq_true rfl⟩ ⟨Nat.le_of_ble_eq_true rfl, Nat.le_of_ble_eq_true rfl⟩ rfl rfl
    refine r_cv0 (pc := 15) ?_ dX10_mixApprentice_15 cl_X10 ok_X10_mix rfl wd_7_81 ⟨Nat.le_of_ble_eq_true rfl, Nat.le_of_ble_eq_true rfl⟩ ⟨Nat.le_of_ble_eq_true rfl, Nat.le_of_ble_eq_true rfl⟩ rfl rfl
    refine r_iinc (pc := 18) ?_ dX10_mixApprentice_18 (by decide) (Nat.le_of_ble_eq_true rfl)
    refine r_goto (pc := 21) (t := 2) ?_ dX10_mixApprentice_21 (by decide)
    exact Le.rf
def R_X10_mixApprentice_26 (l : Launch) (G : GT) (F : FX) (Q : PQ) (QX : PX) : KT := (I_il 2 (I_ic 15 (I_icge (I_ic 0 (I_is 2 (Wj true l G F Y_X10_mixApprentice Q QX 0 0 55))) (I_al 0 (I_al 0 (I_il 1 (I_il 2 (I_ic 5 (I_idiv (I_il 2 (I_ic 5 (I_irem (I_cv (Tr true l G Y_X10_partTold) 8 13 3 QX (I_cv (Tr true l G Y_X10_mix) 8 13 1 QX (I_inc 2 1 (Wj true l G F Y_X10_mixApprentice Q QX 0 0 26))))))))))))))))
set_option maxRecDepth 100000 in
theorem g_X10_mixApprentice_26 {l : Launch} {G : GT} {F : FX} {Q : PQ} {QX : PX} : Le (R_X10_mixApprentice_26 l G F Q QX) (Wj true l G F Y_X10_mixApprentice Q QX 0 0 26) := by
  unfold R_X10_mixApprentice_26
  refine r_iload_n (pc := 26) ?_ dX10_mixApprentice_26 rfl
  refine r_bipush (pc := 27) ?_ dX10_mixApprentice_27 (by decide)
  refine r_icge (pc := 29) (t := 53) ?_ ?_ dX10_mixApprentice_29 (by decide)
  · refine r_iconst (pc := 53) ?_ dX10_mixApprentice_53 (by decide)
    refine r_istore_n (pc := 54) ?_ dX10_mixApprentice_54 rfl (Nat.le_of_ble_eq_true rfl)
    exact Le.rf
  · refine r_aload_n (pc := 32) ?_ dX10_mixApprentice_32 rfl
    refine r_aload_n (pc := 33) ?_ dX10_mixApprentice_33 rfl
    refine r_iload_n (pc := 34) ?_ dX10_mixApprentice_34 rfl
    refine r_iload_n (pc := 35) ?_ dX10_mixApprentice_35 rfl
    refine r_iconst (pc := 36) ?_ dX10_mixApprentice_36 (by decide)
    refine r_idiv (pc := 37) ?_ dX10_mixApprentice_37
    refine r_iload_n (pc := 38) ?_ dX10_mixApprentice_38 rfl
    refine r_iconst (pc := 39) ?_ dX10_mixApprentice_39 (by decide)
    refine r_irem (pc := 40) ?_ dX10_mixApprentice_40
    refine r_cv0 (pc := 41) ?_ dX10_mixApprentice_41 cl_X10 ok_X10_partTold rfl wd_6_211 ⟨Nat.le_of_ble_eq_true rfl, Nat.le_of_ble_eq_true rfl⟩ ⟨Nat.le_of_ble_eq_true rfl, Nat.le_of_ble_eq_true rfl⟩ rfl rfl
    refine r_cv0 (pc := 44) ?_ dX10_mixApprentice_44 cl_X10 ok_X10_mix rfl wd_7_81 ⟨Nat.le_of_ble_eq_true rfl, Nat.le_of_ble_eq_true rfl⟩ ⟨Nat.le_of_ble_eq_true rfl, Nat.le_of_ble_eq_true rfl⟩ rfl rfl
    refine r_iinc (pc := 47) ?_ dX10_mixApprentice_47 (by decide) (Nat.le_of_ble_eq_true rfl)
    refine r_goto (pc := 50) (t := 26) ?_ dX10_mixApprentice_50 (by decide)
    exact Le.rf
def R_X10_mixApprentice_55 (l : Launch) (G : GT) (F : FX) (Q : PQ) (QX : PX) : KT := (I_il 2 (I_ic 4 (I_al 0 (I_il 1 (I_cv (Tr true l G Y_X10_entries) 8 13 1 QX (I_imul (I_icge (I_al 0 (I_al 0 (I_il 1 (I_cv (Tr true l G Y_X10_best) 8 13 1 QX (I_i2l (I_cv (Tr true l G Y_X10_mix) 8 13 1 QX (I_al 0 (I_al 0 (I_il 1 (I_ic 0 (I_cv (Tr true l G Y_X10_next) 8 13 2 QX (I_i2l (I_cv (Tr true l G Y_X10_mix) 8 13 1 QX (I_vr Q)))))))))))))) (I_al 0 (I_al 0 (I_il 1 (I_il 2 (I_ic 4 (I_idiv (I_il 2 (I_ic 4 (I_irem (I_cv (Tr true l G Y_X10_entryOf) 8 13 3 QX (I_i2l (I_cv (Tr true l G Y_X10_mix) 8 13 1 QX (I_inc 2 1 (Wj true l G F Y_X10_mixApprentice Q QX 0 0 55)))))))))))))))))))))
set_option maxRecDepth 100000 in
theorem g_X10_mixApprentice_55 {l : Launch} {G : GT} {F : FX} {Q : PQ} {QX : PX} : Le (R_X10_mixApprentice_55 l G F Q QX) (Wj true l G F Y_X10_mixApprentice Q QX 0 0 55) := by
  unfold R_X10_mixApprentice_55
  refine r_iload_n (pc := 55) ?_ dX10_mixApprentice_55 rfl
  refine r_iconst (pc := 56) ?_ dX10_mixApprentice_56 (by decide)
  refine r_aload_n (pc := 57) ?_ dX10_mixApprentice_57 rfl
  refine r_iload_n (pc := 58) ?_ dX10_mixApprentice_58 rfl
  refine r_cv0 (pc := 59) ?_ dX10_mixApprentice_59 cl_X10 ok_X10_entries rfl wd_6_71 ⟨Nat.le_of_ble_eq_true rfl, Nat.le_of_ble_eq_true rfl⟩ ⟨Nat.le_of_ble_eq_true rfl, Nat.le_of_ble_eq_true rfl⟩ rfl rfl
  refine r_imul (pc := 62) ?_ dX10_mixApprentice_62
  refine r_icge (pc := 63) (t := 88) ?_ ?_ dX10_mixApprentice_63 (by decide)
  · refine r_aload_n (pc := 88) ?_ dX10_mixApprentice_88 rfl
    refine r_aload_n (pc := 89) ?_ dX10_mixApprentice_89 rfl
    refine r_iload_n (pc := 90) ?_ dX10_mixApprentice_90 rfl
    refine r_cv0 (pc := 91) ?_ dX10_mixApprentice_91 cl_X10 ok_X10_best rfl wd_6_237 ⟨Nat.le_of_ble_eq_true rfl, Nat.le_of_ble_eq_true rfl⟩ ⟨Nat.le_of_ble_eq_true rfl, Nat.le_of_ble_eq_true rfl⟩ rfl rfl
    refine r_i2l (pc := 94) ?_ dX10_mixApprentice_94
    refine r_cv0 (pc := 95) ?_ dX10_mixApprentice_95 cl_X10 ok_X10_mix rfl wd_7_81 ⟨Nat.le_of_ble_eq_true rfl, Nat.le_of_ble_eq_true rfl⟩ ⟨Nat.le_of_ble_eq_true rfl, Nat.le_of_ble_eq_true rfl⟩ rfl rfl
    refine r_aload_n (pc := 98) ?_ dX10_mixApprentice_98 rfl
    refine r_aload_n (pc := 99) ?_ dX10_mixApprentice_99 rfl
    refine r_iload_n (pc := 100) ?_ dX10_mixApprentice_100 rfl
    refine r_iconst (pc := 101) ?_ dX10_mixApprentice_101 (by decide)
    refine r_cv0 (pc := 102) ?_ dX10_mixApprentice_102 cl_X10 ok_X10_next rfl wd_7_9 ⟨Nat.le_of_ble_eq_true rfl, Nat.le_of_ble_eq_true rfl⟩ ⟨Nat.le_of_ble_eq_true rfl, Nat.le_of_ble_eq_true rfl⟩ rfl rfl
    refine r_i2l (pc := 105) ?_ dX10_mixApprentice_105
    refine r_cv0 (pc := 106) ?_ dX10_mixApprentice_106 cl_X10 ok_X10_mix rfl wd_7_81 ⟨Nat.le_of_ble_eq_true rfl, Nat.le_of_ble_eq_true rfl⟩ ⟨Nat.le_of_ble_eq_true rfl, Nat.le_of_ble_eq_true rfl⟩ rfl rfl
    exact r_vr dX10_mixApprentice_109 rfl (Nat.le_of_ble_eq_true rfl) (Nat.le_of_ble_eq_true rfl)
  · refine r_aload_n (pc := 66) ?_ dX10_mixApprentice_66 rfl
    refine r_aload_n (pc := 67) ?_ dX10_mixApprentice_67 rfl
    refine r_iload_n (pc := 68) ?_ dX10_mixApprentice_68 rfl
    refine r_iload_n (pc := 69) ?_ dX10_mixApprentice_69 rfl
    refine r_iconst (pc := 70) ?_ dX10_mixApprentice_70 (by decide)
    refine r_idiv (pc := 71) ?_ dX10_mixApprentice_71
    refine r_iload_n (pc := 72) ?_ dX10_mixApprentice_72 rfl
    refine r_iconst (pc := 73) ?_ dX10_mixApprentice_73 (by decide)
    refine r_irem (pc := 74) ?_ dX10_mixApprentice_74
    refine r_cv0 (pc := 75) ?_ dX10_mixApprentice_75 cl_X10 ok_X10_entryOf rfl wd_6_91 ⟨Nat.le_of_ble_eq_true rfl, Nat.le_of_ble_eq_true rfl⟩ ⟨Nat.le_of_ble_eq_true rfl, Nat.le_of_ble_eq_true rfl⟩ rfl rfl
    refine r_i2l (pc := 78) ?_ dX10_mixApprentice_78
    refine r_cv0 (pc := 79) ?_ dX10_mixApprentice_79 cl_X10 ok_X10_mix rfl wd_7_81 ⟨Nat.le_of_ble_eq_true rfl, Nat.le_of_ble_eq_true rfl⟩ ⟨Nat.le_of_ble_eq_true rfl, Nat.le_of_ble_eq_true rfl⟩ rfl rfl
    refine r_iinc (pc := 82) ?_ dX10_mixApprentice_82 (by decide) (Nat.le_of_ble_eq_true rfl)
    refine r_goto (pc := 85) (t := 55) ?_ dX10_mixApprentice_85 (by decide)
    exact Le.rf
abbrev Y_X10_digest : YT := (yX10_digest, cX10_digest, 2, (some .long), 7, 163, 0, 0)
theorem ok_X10_digest : okV Y_X10_digest 0 := ⟨⟨wd_7_79, wd_1_9, by decide, by decide, by decide +kernel⟩, wd_7_77, wd_7_78⟩
def R_X10_digest_0 (l : Launch) (G : GT) (F : FX) (Q : PQ) (QX : PX) : KT := (I_al 0 (I_ic 0 (I_pi 8 4 13 (I_al 0 (I_lc (43434 : Int64) (I_pl 8 12 13 (I_al 0 (I_al 0 (I_gi 8 3 13 (I_i2l (I_cv (Tr true l G Y_X10_mix) 8 13 1 QX (I_ic 0 (I_is 1 (Wj true l G F Y_X10_digest Q QX 0 0 23))))))))))))))
set_option maxRecDepth 100000 in
theorem g_X10_digest_0 {l : Launch} {G : GT} {F : FX} {Q : PQ} {QX : PX} : Le (R_X10_digest_0 l G F Q QX) (Wj true l G F Y_X10_digest Q QX 0 0 0) := by
  unfold R_X10_digest_0
  refine r_aload_n (pc := 0) ?_ dX10_digest_0 rfl
  refine r_iconst (pc := 1) ?_ dX10_digest_1 (by decide)
  refine r_pi (pc := 2) ?_ dX10_digest_2 cl_X10 (Nat.le_of_ble_eq_true rfl) rfl wd_5_141 rfl pd_X10_4
  refine r_aload_n (pc := 5) ?_ dX10_digest_5 rfl
  refine r_ldc2 (pc := 6) ?_ dX10_digest_6 wd_7_80
  refine r_pl (pc := 9) ?_ dX10_digest_9 cl_X10 (Nat.le_of_ble_eq_true rfl) rfl wd_5_149 rfl pd_X10_12
  refine r_aload_n (pc := 12) ?_ dX10_digest_12 rfl
  refine r_aload_n (pc := 13) ?_ dX10_digest_13 rfl
  refine r_gi (pc := 14) ?_ dX10_digest_14 cl_X10 (Nat.le_of_ble_eq_true rfl) rfl wd_5_140
  refine r_i2l (pc := 17) ?_ dX10_digest_17
  refine r_cv0 (pc := 18) ?_ dX10_digest_18 cl_X10 ok_X10_mix rfl wd_7_81 ⟨Nat.le_of_ble_eq_true rfl, Nat.le_of_ble_eq_true rfl⟩ ⟨Nat.le_of_ble_eq_true rfl, Nat.le_of_ble_eq_true rfl⟩ rfl rfl
  refine r_iconst (pc := 21) ?_ dX10_digest_21 (by decide)
  refine r_istore_n (pc := 22) ?_ dX10_digest_22 rfl (Nat.le_of_ble_eq_true rfl)
  exact Le.rf
def R_X10_digest_23 (l : Launch) (G : GT) (F : FX) (Q : PQ) (QX : PX) : KT := (I_il 1 (I_ic 10 (I_icge (I_ic 0 (I_is 1 (Wj true l G F Y_X10_digest Q QX 0 0 46))) (I_al 0 (I_al 0 (I_il 1 (I_cv (Tr true l G Y_X10_wholeTold) 8 13 1 QX (I_cv (Tr true l G Y_X10_mix) 8 13 1 QX (I_inc 1 1 (Wj true l G F Y_X10_digest Q QX 0 0 23))))))))))
set_option maxRecDepth 100000 in
theorem g_X10_digest_23 {l : Launch} {G : GT} {F : FX} {Q : PQ} {QX : PX} : Le (R_X10_digest_23 l G F Q QX) (Wj true l G F Y_X10_digest Q QX 0 0 23) := by
  unfold R_X10_digest_23
  refine r_iload_n (pc := 23) ?_ dX10_digest_23 rfl
  refine r_bipush (pc := 24) ?_ dX10_digest_24 (by decide)
  refine r_icge (pc := 26) (t := 44) ?_ ?_ dX10_digest_26 (by decide)
  · refine r_iconst (pc := 44) ?_ dX10_digest_44 (by decide)
    refine r_istore_n (pc := 45) ?_ dX10_digest_45 rfl (Nat.le_of_ble_eq_true rfl)
    exact Le.rf
  · refine r_aload_n (pc := 29) ?_ dX10_digest_29 rfl
    refine r_aload_n (pc := 30) ?_ dX10_digest_30 rfl
    refine r_iload_n (pc := 31) ?_ dX10_digest_31 rfl
    refine r_cv0 (pc := 32) ?_ dX10_digest_32 cl_X10 ok_X10_wholeTold rfl wd_6_225 ⟨Nat.le_of_ble_eq_true rfl, Nat.le_of_ble_eq_true rfl⟩ ⟨Nat.le_of_ble_eq_true rfl, Nat.le_of_ble_eq_true rfl⟩ rfl rfl
    refine r_cv0 (pc := 35) ?_ dX10_digest_35 cl_X10 ok_X10_mix rfl wd_7_81 ⟨Nat.le_of_ble_eq_true rfl, Nat.le_of_ble_eq_true rfl⟩ ⟨Nat.le_of_ble_eq_true rfl, Nat.le_of_ble_eq_true rfl⟩ rfl rfl
    refine r_iinc (pc := 38) ?_ dX10_digest_38 (by decide) (Nat.le_of_ble_eq_true rfl)
    refine r_goto (pc := 41) (t := 23) ?_ dX10_digest_41 (by decide)
    exact Le.rf
def R_X10_digest_46 (l : Launch) (G : GT) (F : FX) (Q : PQ) (QX : PX) : KT := (I_il 1 (I_i2l (I_lc (5 : Int64) (I_al 0 (I_gp 8 13 1 (I_ic 1 (I_lal (I_lmul (I_lcmp (I_ifge (I_ic 0 (I_is 1 (Wj true l G F Y_X10_digest Q QX 0 0 84))) (I_al 0 (I_al 0 (I_il 1 (I_ic 5 (I_idiv (I_il 1 (I_ic 5 (I_irem (I_cv (Tr true l G Y_X10_mentorTold) 8 13 2 QX (I_cv (Tr true l G Y_X10_mix) 8 13 1 QX (I_inc 1 1 (Wj true l G F Y_X10_digest Q QX 0 0 46))))))))))))))))))))))
set_option maxRecDepth 100000 in
theorem g_X10_digest_46 {l : Launch} {G : GT} {F : FX} {Q : PQ} {QX : PX} : Le (R_X10_digest_46 l G F Q QX) (Wj true l G F Y_X10_digest Q QX 0 0 46) := by
  unfold R_X10_digest_46
  refine r_iload_n (pc := 46) ?_ dX10_digest_46 rfl
  refine r_i2l (pc := 47) ?_ dX10_digest_47
  refine r_ldc2 (pc := 48) ?_ dX10_digest_48 wd_5_197
  refine r_aload_n (pc := 51) ?_ dX10_digest_51 rfl
  refine r_gp (pc := 52) (kf := 0) ?_ dX10_digest_52 cl_X10 (Nat.le_of_ble_eq_true rfl) rfl wd_5_137 pv_X10_0
  refine r_iconst (pc := 55) ?_ dX10_digest_55 (by decide)
  refine r_lal (pc := 56) ?_ dX10_digest_56
  refine r_lmul (pc := 57) ?_ dX10_digest_57
  refine r_lcmp (pc := 58) ?_ dX10_digest_58
  refine r_ifge (pc := 59) (t := 82) ?_ ?_ dX10_digest_59 (by decide)
  · refine r_iconst (pc := 82) ?_ dX10_digest_82 (by decide)
    refine r_istore_n (pc := 83) ?_ dX10_digest_83 rfl (Nat.le_of_ble_eq_true rfl)
    exact Le.rf
  · refine r_aload_n (pc := 62) ?_ dX10_digest_62 rfl
    refine r_aload_n (pc := 63) ?_ dX10_digest_63 rfl
    refine r_iload_n (pc := 64) ?_ dX10_digest_64 rfl
    refine r_iconst (pc := 65) ?_ dX10_digest_65 (by decide)
    refine r_idiv (pc := 66) ?_ dX10_digest_66
    refine r_iload_n (pc := 67) ?_ dX10_digest_67 rfl
    refine r_iconst (pc := 68) ?_ dX10_digest_68 (by decide)
    refine r_irem (pc := 69) ?_ dX10_digest_69
    refine r_cv0 (pc := 70) ?_ dX10_digest_70 cl_X10 ok_X10_mentorTold rfl wd_6_178 ⟨Nat.le_of_ble_eq_true rfl, Nat.le_of_ble_eq_true rfl⟩ ⟨Nat.le_of_ble_eq_true rfl, Nat.le_of_ble_eq_true rfl⟩ rfl rfl
    refine r_cv0 (pc := 73) ?_ dX10_digest_73 cl_X10 ok_X10_mix rfl wd_7_81 ⟨Nat.le_of_ble_eq_true rfl, Nat.le_of_ble_eq_true rfl⟩ ⟨Nat.le_of_ble_eq_true rfl, Nat.le_of_ble_eq_true rfl⟩ rfl rfl
    refine r_iinc (pc := 76) ?_ dX10_digest_76 (by decide) (Nat.le_of_ble_eq_true rfl)
    refine r_goto (pc := 79) (t := 46) ?_ dX10_digest_79 (by decide)
    exact Le.rf
def R_X10_digest_84 (l : Launch) (G : GT) (F : FX) (Q : PQ) (QX : PX) : KT := (I_il 1 (I_i2l (I_al 0 (I_gp 8 13 1 (I_ic 2 (I_lal (I_lcmp (I_ifge (I_al 0 (I_gl 8 12 13 (I_lr Q))) (I_al 0 (I_il 1 (I_cv (Tr true l G Y_X10_mixApprentice) 8 13 1 QX (I_inc 1 1 (Wj true l G F Y_X10_digest Q QX 0 0 84)))))))))))))
set_option maxRecDepth 100000 in
theorem g_X10_digest_84 {l : Launch} {G : GT} {F : FX} {Q : PQ} {QX : PX} : Le (R_X10_digest_84 l G F Q QX) (Wj true l G F Y_X10_digest Q QX 0 0 84) := by
  unfold R_X10_digest_84
  refine r_iload_n (pc := 84) ?_ dX10_digest_84 rfl
  refine r_i2l (pc := 85) ?_ dX10_digest_85
  refine r_aload_n (pc := 86) ?_ dX10_digest_86 rfl
  refine r_gp (pc := 87) (kf := 0) ?_ dX10_digest_87 cl_X10 (Nat.le_of_ble_eq_true rfl) rfl wd_5_137 pv_X10_0
  refine r_iconst (pc := 90) ?_ dX10_digest_90 (by decide)
  refine r_lal (pc := 91) ?_ dX10_digest_91
  refine r_lcmp (pc := 92) ?_ dX10_digest_92
  refine r_ifge (pc := 93) (t := 107) ?_ ?_ dX10_digest_93 (by decide)
  · refine r_aload_n (pc := 107) ?_ dX10_digest_107 rfl
    refine r_gl (pc := 108) ?_ dX10_digest_108 cl_X10 (Nat.le_of_ble_eq_true rfl) rfl wd_5_149
    exact r_lr dX10_digest_111 rfl (Nat.le_of_ble_eq_true rfl) (Nat.le_of_ble_eq_true rfl)
  · refine r_aload_n (pc := 96) ?_ dX10_digest_96 rfl
    refine r_iload_n (pc := 97) ?_ dX10_digest_97 rfl
    refine r_cv0 (pc := 98) ?_ dX10_digest_98 cl_X10 ok_X10_mixApprentice rfl wd_7_85 ⟨Nat.le_of_ble_eq_true rfl, Nat.le_of_ble_eq_true rfl⟩ ⟨Nat.le_of_ble_eq_true rfl, Nat.le_of_ble_eq_true rfl⟩ rfl rfl
    refine r_iinc (pc := 101) ?_ dX10_digest_101 (by decide) (Nat.le_of_ble_eq_true rfl)
    refine r_goto (pc := 104) (t := 84) ?_ dX10_digest_104 (by decide)
    exact Le.rf
