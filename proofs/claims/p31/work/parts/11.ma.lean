/-! ===== the methods: what they are, their regions ===== -/
abbrev Y_X9_isWithin : YT := (yX9_isWithin, cX9_isWithin, 3, (some .boolean), 0, 0, 0, 0)
theorem ok_X9_isWithin : okS Y_X9_isWithin 3 := ⟨⟨wd_2_18, wd_1_1, by decide, by decide, by decide +kernel⟩, wd_2_17⟩
def R_X9_isWithin_0 (l : Launch) (G : GT) (F : FX) (Q : PQ) (QX : PX) : KT := (I_il 0 (I_il 1 (I_iclt (I_ic 0 (I_zr Q)) (I_il 0 (I_il 2 (I_icgt (I_ic 0 (I_zr Q)) (I_ic 1 (I_zr Q))))))))
set_option maxRecDepth 100000 in
theorem g_X9_isWithin_0 {l : Launch} {G : GT} {F : FX} {Q : PQ} {QX : PX} : Le (R_X9_isWithin_0 l G F Q QX) (Wj true l G F Y_X9_isWithin Q QX 0 0 0) := by
  unfold R_X9_isWithin_0
  refine r_iload_n (pc := 0) ?_ dX9_isWithin_0 rfl
  refine r_iload_n (pc := 1) ?_ dX9_isWithin_1 rfl
  refine r_iclt (pc := 2) (t := 14) ?_ ?_ dX9_isWithin_2 (by decide)
  · refine r_iconst (pc := 14) ?_ dX9_isWithin_14 (by decide)
    exact r_zr dX9_isWithin_15 rfl (Nat.le_of_ble_eq_true rfl) (Nat.le_of_ble_eq_true rfl)
  · refine r_iload_n (pc := 5) ?_ dX9_isWithin_5 rfl
    refine r_iload_n (pc := 6) ?_ dX9_isWithin_6 rfl
    refine r_icgt (pc := 7) (t := 14) ?_ ?_ dX9_isWithin_7 (by decide)
    · refine r_iconst (pc := 14) ?_ dX9_isWithin_14 (by decide)
      exact r_zr dX9_isWithin_15 rfl (Nat.le_of_ble_eq_true rfl) (Nat.le_of_ble_eq_true rfl)
    · refine r_iconst (pc := 10) ?_ dX9_isWithin_10 (by decide)
      refine r_goto (pc := 11) (t := 15) ?_ dX9_isWithin_11 (by decide)
      exact r_zr dX9_isWithin_15 rfl (Nat.le_of_ble_eq_true rfl) (Nat.le_of_ble_eq_true rfl)
abbrev Y_X9_isPart : YT := (yX9_isPart, cX9_isPart, 1, (some .boolean), 0, 0, 0, 0)
theorem ok_X9_isPart : okS Y_X9_isPart 1 := ⟨⟨wd_3_75, wd_1_1, by decide, by decide, by decide +kernel⟩, wd_3_74⟩
def R_X9_isPart_0 (l : Launch) (G : GT) (F : FX) (Q : PQ) (QX : PX) : KT := (I_il 0 (I_iflt (I_ic 0 (I_zr Q)) (I_il 0 (I_ic 3 (I_icge (I_ic 0 (I_zr Q)) (I_ic 1 (I_zr Q)))))))
set_option maxRecDepth 100000 in
theorem g_X9_isPart_0 {l : Launch} {G : GT} {F : FX} {Q : PQ} {QX : PX} : Le (R_X9_isPart_0 l G F Q QX) (Wj true l G F Y_X9_isPart Q QX 0 0 0) := by
  unfold R_X9_isPart_0
  refine r_iload_n (pc := 0) ?_ dX9_isPart_0 rfl
  refine r_iflt (pc := 1) (t := 13) ?_ ?_ dX9_isPart_1 (by decide)
  · refine r_iconst (pc := 13) ?_ dX9_isPart_13 (by decide)
    exact r_zr dX9_isPart_14 rfl (Nat.le_of_ble_eq_true rfl) (Nat.le_of_ble_eq_true rfl)
  · refine r_iload_n (pc := 4) ?_ dX9_isPart_4 rfl
    refine r_iconst (pc := 5) ?_ dX9_isPart_5 (by decide)
    refine r_icge (pc := 6) (t := 13) ?_ ?_ dX9_isPart_6 (by decide)
    · refine r_iconst (pc := 13) ?_ dX9_isPart_13 (by decide)
      exact r_zr dX9_isPart_14 rfl (Nat.le_of_ble_eq_true rfl) (Nat.le_of_ble_eq_true rfl)
    · refine r_iconst (pc := 9) ?_ dX9_isPart_9 (by decide)
      refine r_goto (pc := 10) (t := 14) ?_ dX9_isPart_10 (by decide)
      exact r_zr dX9_isPart_14 rfl (Nat.le_of_ble_eq_true rfl) (Nat.le_of_ble_eq_true rfl)
abbrev Y_X4_clear : YT := (yX4_clear, cX4_clear, 2, none, 0, 0, 0, 0)
theorem ok_X4_clear : okV Y_X4_clear 0 := ⟨⟨wd_3_172, wd_1_6, by decide, by decide, by decide +kernel⟩, wd_3_170, wd_3_171⟩
def R_X4_clear_0 (l : Launch) (G : GT) (F : FX) (Q : PQ) (QX : PX) : KT := (I_ic 0 (I_is 1 (Wj true l G F Y_X4_clear Q QX 0 0 2)))
set_option maxRecDepth 100000 in
theorem g_X4_clear_0 {l : Launch} {G : GT} {F : FX} {Q : PQ} {QX : PX} : Le (R_X4_clear_0 l G F Q QX) (Wj true l G F Y_X4_clear Q QX 0 0 0) := by
  unfold R_X4_clear_0
  refine r_iconst (pc := 0) ?_ dX4_clear_0 (by decide)
  refine r_istore_n (pc := 1) ?_ dX4_clear_1 rfl (Nat.le_of_ble_eq_true rfl)
  exact Le.rf
def R_X4_clear_2 (l : Launch) (G : GT) (F : FX) (Q : PQ) (QX : PX) : KT := (I_il 1 (I_al 0 (I_gp 2 2 1 (I_len (I_icge (I_al 0 (I_ic 0 (I_pi 2 1 2 (I_vr Q)))) (I_al 0 (I_gp 2 2 1 (I_il 1 (I_lc 0 (I_las (I_inc 1 1 (Wj true l G F Y_X4_clear Q QX 0 0 2))))))))))))
set_option maxRecDepth 100000 in
theorem g_X4_clear_2 {l : Launch} {G : GT} {F : FX} {Q : PQ} {QX : PX} : Le (R_X4_clear_2 l G F Q QX) (Wj true l G F Y_X4_clear Q QX 0 0 2) := by
  unfold R_X4_clear_2
  refine r_iload_n (pc := 2) ?_ dX4_clear_2 rfl
  refine r_aload_n (pc := 3) ?_ dX4_clear_3 rfl
  refine r_gp (pc := 4) (kf := 0) ?_ dX4_clear_4 cl_X4 (Nat.le_of_ble_eq_true rfl) rfl wd_1_83 pv_X4_0
  refine r_len (pc := 7) ?_ dX4_clear_7
  refine r_icge (pc := 8) (t := 24) ?_ ?_ dX4_clear_8 (by decide)
  · refine r_aload_n (pc := 24) ?_ dX4_clear_24 rfl
    refine r_iconst (pc := 25) ?_ dX4_clear_25 (by decide)
    refine r_pi (pc := 26) ?_ dX4_clear_26 cl_X4 (Nat.le_of_ble_eq_true rfl) rfl wd_1_84 rfl pd_X4_1
    exact r_vr dX4_clear_29 rfl (Nat.le_of_ble_eq_true rfl) (Nat.le_of_ble_eq_true rfl)
  · refine r_aload_n (pc := 11) ?_ dX4_clear_11 rfl
    refine r_gp (pc := 12) (kf := 0) ?_ dX4_clear_12 cl_X4 (Nat.le_of_ble_eq_true rfl) rfl wd_1_83 pv_X4_0
    refine r_iload_n (pc := 15) ?_ dX4_clear_15 rfl
    refine r_lconst (pc := 16) ?_ dX4_clear_16 (by decide)
    refine r_las (pc := 17) ?_ dX4_clear_17
    refine r_iinc (pc := 18) ?_ dX4_clear_18 (by decide) (Nat.le_of_ble_eq_true rfl)
    refine r_goto (pc := 21) (t := 2) ?_ dX4_clear_21 (by decide)
    exact Le.rf
abbrev Y_X1_begin : YT := (yX1_begin, cX1_begin, 4, none, 1, 21, 0, 0)
theorem ok_X1_begin : okV Y_X1_begin 2 := ⟨⟨wd_3_168, wd_1_4, by decide, by decide, by decide +kernel⟩, wd_3_166, wd_3_167⟩
def R_X1_begin_0 (l : Launch) (G : GT) (F : FX) (Q : PQ) (QX : PX) : KT := (I_ic 0 (I_is 3 (Wj true l G F Y_X1_begin Q QX 0 0 2)))
set_option maxRecDepth 100000 in
theorem g_X1_begin_0 {l : Launch} {G : GT} {F : FX} {Q : PQ} {QX : PX} : Le (R_X1_begin_0 l G F Q QX) (Wj true l G F Y_X1_begin Q QX 0 0 0) := by
  unfold R_X1_begin_0
  refine r_iconst (pc := 0) ?_ dX1_begin_0 (by decide)
  refine r_istore_n (pc := 1) ?_ dX1_begin_1 rfl (Nat.le_of_ble_eq_true rfl)
  exact Le.rf
def R_X1_begin_2 (l : Launch) (G : GT) (F : FX) (Q : PQ) (QX : PX) : KT := (I_il 3 (I_ic 3 (I_icge (I_al 0 (I_gp 0 11 2 (I_ic 0 (I_pi 3 1 2 (I_al 0 (I_gp 0 11 8 (I_ic 0 (I_pi 3 1 2 (I_al 0 (I_gp 0 11 14 (I_cv (Tr true l G Y_X4_clear) 2 2 0 QX (I_al 0 (I_gp 0 11 16 (I_cv (Tr true l G Y_X4_clear) 2 2 0 QX (I_al 0 (I_il 1 (I_pi 0 5 11 (I_al 0 (I_il 2 (I_pi 0 6 11 (I_al 0 (I_ic 0 (I_pi 0 7 11 (I_al 0 (I_ic 0 (I_pi 0 8 11 (I_al 0 (I_ic 0 (I_pi 0 9 11 (I_al 0 (I_ic 0 (I_pi 0 10 11 (I_vr Q))))))))))))))))))))))))))))))))) (I_al 0 (I_gp 0 11 1 (I_il 3 (I_ic 0 (I_ias (I_inc 3 1 (Wj true l G F Y_X1_begin Q QX 0 0 2))))))))))
set_option maxRecDepth 100000 in
theorem g_X1_begin_2 {l : Launch} {G : GT} {F : FX} {Q : PQ} {QX : PX} : Le (R_X1_begin_2 l G F Q QX) (Wj true l G F Y_X1_begin Q QX 0 0 2) := by
  unfold R_X1_begin_2
  refine r_iload_n (pc := 2) ?_ dX1_begin_2 rfl
  refine r_iconst (pc := 3) ?_ dX1_begin_3 (by decide)
  refine r_icge (pc := 4) (t := 20) ?_ ?_ dX1_begin_4 (by decide)
  · refine r_aload_n (pc := 20) ?_ dX1_begin_20 rfl
    refine r_gp (pc := 21) (kf := 1) ?_ dX1_begin_21 cl_X1 (Nat.le_of_ble_eq_true rfl) rfl wd_1_93 pv_X1_1
    refine r_iconst (pc := 24) ?_ dX1_begin_24 (by decide)
    refine r_pi (pc := 25) ?_ dX1_begin_25 cl_X5 (Nat.le_of_ble_eq_true rfl) rfl wd_1_70 rfl pd_X5_1
    refine r_aload_n (pc := 28) ?_ dX1_begin_28 rfl
    refine r_gp (pc := 29) (kf := 2) ?_ dX1_begin_29 cl_X1 (Nat.le_of_ble_eq_true rfl) rfl wd_1_95 pv_X1_2
    refine r_iconst (pc := 32) ?_ dX1_begin_32 (by decide)
    refine r_pi (pc := 33) ?_ dX1_begin_33 cl_X5 (Nat.le_of_ble_eq_true rfl) rfl wd_1_70 rfl pd_X5_1
    refine r_aload_n (pc := 36) ?_ dX1_begin_36 rfl
    refine r_gp (pc := 37) (kf := 3) ?_ dX1_begin_37 cl_X1 (Nat.le_of_ble_eq_true rfl) rfl wd_1_97 pv_X1_3
    refine r_cv0 (pc := 40) ?_ dX1_begin_40 cl_X4 ok_X4_clear rfl wd_3_169 ⟨Nat.le_of_ble_eq_true rfl, Nat.le_of_ble_eq_true rfl⟩ ⟨Nat.le_of_ble_eq_true rfl, Nat.le_of_ble_eq_true rfl⟩ rfl rfl
    refine r_aload_n (pc := 43) ?_ dX1_begin_43 rfl
    refine r_gp (pc := 44) (kf := 4) ?_ dX1_begin_44 cl_X1 (Nat.le_of_ble_eq_true rfl) rfl wd_1_99 pv_X1_4
    refine r_cv0 (pc := 47) ?_ dX1_begin_47 cl_X4 ok_X4_clear rfl wd_3_169 ⟨Nat.le_of_ble_eq_true rfl, Nat.le_of_ble_eq_true rfl⟩ ⟨Nat.le_of_ble_eq_true rfl, Nat.le_of_ble_eq_true rfl⟩ rfl rfl
    refine r_aload_n (pc := 50) ?_ dX1_begin_50 rfl
    refine r_iload_n (pc := 51) ?_ dX1_begin_51 rfl
    refine r_pi (pc := 52) ?_ dX1_begin_52 cl_X1 (Nat.le_of_ble_eq_true rfl) rfl wd_1_101 rfl pd_X1_5
    refine r_aload_n (pc := 55) ?_ dX1_begin_55 rfl
    refine r_iload_n (pc := 56) ?_ dX1_begin_56 rfl
    refine r_pi (pc := 57) ?_ dX1_begin_57 cl_X1 (Nat.le_of_ble_eq_true rfl) rfl wd_1_103 rfl pd_X1_6
    refine r_aload_n (pc := 60) ?_ dX1_begin_60 rfl
    refine r_iconst (pc := 61) ?_ dX1_begin_61 (by decide)
    refine r_pi (pc := 62) ?_ dX1_begin_62 cl_X1 (Nat.le_of_ble_eq_true rfl) rfl wd_1_105 rfl pd_X1_7
    refine r_aload_n (pc := 65) ?_ dX1_begin_65 rfl
    refine r_iconst (pc := 66) ?_ dX1_begin_66 (by decide)
    refine r_pi (pc := 67) ?_ dX1_begin_67 cl_X1 (Nat.le_of_ble_eq_true rfl) rfl wd_1_107 rfl pd_X1_8
    refine r_aload_n (pc := 70) ?_ dX1_begin_70 rfl
    refine r_iconst (pc := 71) ?_ dX1_begin_71 (by decide)
    refine r_pi (pc := 72) ?_ dX1_begin_72 cl_X1 (Nat.le_of_ble_eq_true rfl) rfl wd_1_109 rfl pd_X1_9
    refine r_aload_n (pc := 75) ?_ dX1_begin_75 rfl
    refine r_iconst (pc := 76) ?_ dX1_begin_76 (by decide)
    refine r_pi (pc := 77) ?_ dX1_begin_77 cl_X1 (Nat.le_of_ble_eq_true rfl) rfl wd_1_111 rfl pd_X1_10
    exact r_vr dX1_begin_80 rfl (Nat.le_of_ble_eq_true rfl) (Nat.le_of_ble_eq_true rfl)
  · refine r_aload_n (pc := 7) ?_ dX1_begin_7 rfl
    refine r_gp (pc := 8) (kf := 0) ?_ dX1_begin_8 cl_X1 (Nat.le_of_ble_eq_true rfl) rfl wd_1_92 pv_X1_0
    refine r_iload_n (pc := 11) ?_ dX1_begin_11 rfl
    refine r_iconst (pc := 12) ?_ dX1_begin_12 (by decide)
    refine r_ias (pc := 13) ?_ dX1_begin_13
    refine r_iinc (pc := 14) ?_ dX1_begin_14 (by decide) (Nat.le_of_ble_eq_true rfl)
    refine r_goto (pc := 17) (t := 2) ?_ dX1_begin_17 (by decide)
    exact Le.rf
abbrev Y_X1_doneIn : YT := (yX1_doneIn, cX1_doneIn, 2, (some .int), 0, 0, 0, 0)
theorem ok_X1_doneIn : okV Y_X1_doneIn 1 := ⟨⟨wd_3_7, wd_1_4, by decide, by decide, by decide +kernel⟩, wd_3_5, wd_3_6⟩
def R_X1_doneIn_0 (l : Launch) (G : GT) (F : FX) (Q : PQ) (QX : PX) : KT := (I_il 1 (I_iflt (I_ic 0 (I_ir Q)) (I_il 1 (I_ic 3 (I_icge (I_ic 0 (I_ir Q)) (I_al 0 (I_gp 0 11 1 (I_il 1 (I_ial (I_ir Q))))))))))
set_option maxRecDepth 100000 in
theorem g_X1_doneIn_0 {l : Launch} {G : GT} {F : FX} {Q : PQ} {QX : PX} : Le (R_X1_doneIn_0 l G F Q QX) (Wj true l G F Y_X1_doneIn Q QX 0 0 0) := by
  unfold R_X1_doneIn_0
  refine r_iload_n (pc := 0) ?_ dX1_doneIn_0 rfl
  refine r_iflt (pc := 1) (t := 18) ?_ ?_ dX1_doneIn_1 (by decide)
  · refine r_iconst (pc := 18) ?_ dX1_doneIn_18 (by decide)
    exact r_ir dX1_doneIn_19 rfl (Nat.le_of_ble_eq_true rfl) (Nat.le_of_ble_eq_true rfl)
  · refine r_iload_n (pc := 4) ?_ dX1_doneIn_4 rfl
    refine r_iconst (pc := 5) ?_ dX1_doneIn_5 (by decide)
    refine r_icge (pc := 6) (t := 18) ?_ ?_ dX1_doneIn_6 (by decide)
    · refine r_iconst (pc := 18) ?_ dX1_doneIn_18 (by decide)
      exact r_ir dX1_doneIn_19 rfl (Nat.le_of_ble_eq_true rfl) (Nat.le_of_ble_eq_true rfl)
    · refine r_aload_n (pc := 9) ?_ dX1_doneIn_9 rfl
      refine r_gp (pc := 10) (kf := 0) ?_ dX1_doneIn_10 cl_X1 (Nat.le_of_ble_eq_true rfl) rfl wd_1_92 pv_X1_0
      refine r_iload_n (pc := 13) ?_ dX1_doneIn_13 rfl
      refine r_ial (pc := 14) ?_ dX1_doneIn_14
      refine r_goto (pc := 15) (t := 19) ?_ dX1_doneIn_15 (by decide)
      exact r_ir dX1_doneIn_19 rfl (Nat.le_of_ble_eq_true rfl) (Nat.le_of_ble_eq_true rfl)
abbrev Y_X1_canAdd : YT := (yX1_canAdd, cX1_canAdd, 5, (some .boolean), 1, 21, 0, 0)
theorem ok_X1_canAdd : okV Y_X1_canAdd 2 := ⟨⟨wd_4_12, wd_1_4, by decide, by decide, by decide +kernel⟩, wd_4_10, wd_4_11⟩
def R_X1_canAdd_0 (l : Launch) (G : GT) (F : FX) (Q : PQ) (QX : PX) : KT := (I_al 0 (I_il 1 (I_cv (Tr true l G Y_X1_doneIn) 0 11 1 QX (I_i2l (I_il 2 (I_i2l (I_ladd (I_ls 3 (I_ll 3 (I_lc 0 (I_lcmp (I_iflt (I_ic 0 (I_zr Q)) (I_ll 3 (I_lc (2147483647 : Int64) (I_lcmp (I_ifgt (I_ic 0 (I_zr Q)) (I_ic 1 (I_zr Q))))))))))))))))))
set_option maxRecDepth 100000 in
theorem g_X1_canAdd_0 {l : Launch} {G : GT} {F : FX} {Q : PQ} {QX : PX} : Le (R_X1_canAdd_0 l G F Q QX) (Wj true l G F Y_X1_canAdd Q QX 0 0 0) := by
  unfold R_X1_canAdd_0
  refine r_aload_n (pc := 0) ?_ dX1_canAdd_0 rfl
  refine r_iload_n (pc := 1) ?_ dX1_canAdd_1 rfl
  refine r_cv0 (pc := 2) ?_ dX1_canAdd_2 cl_X1 ok_X1_doneIn rfl wd_4_13 ⟨Nat.le_of_ble_eq_true rfl, Nat.le_of_ble_eq_true rfl⟩ ⟨Nat.le_of_ble_eq_true rfl, Nat.le_of_ble_eq_true rfl⟩ rfl rfl
  refine r_i2l (pc := 5) ?_ dX1_canAdd_5
  refine r_iload_n (pc := 6) ?_ dX1_canAdd_6 rfl
  refine r_i2l (pc := 7) ?_ dX1_canAdd_7
  refine r_ladd (pc := 8) ?_ dX1_canAdd_8
  refine r_lstore_n (pc := 9) ?_ dX1_canAdd_9 rfl (Nat.le_of_ble_eq_true rfl)
  refine r_lload_n (pc := 10) ?_ dX1_canAdd_10 rfl
  refine r_lconst (pc := 11) ?_ dX1_canAdd_11 (by decide)
  refine r_lcmp (pc := 12) ?_ dX1_canAdd_12
  refine r_iflt (pc := 13) (t := 28) ?_ ?_ dX1_canAdd_13 (by decide)
  · refine r_iconst (pc := 28) ?_ dX1_canAdd_28 (by decide)
    exact r_zr dX1_canAdd_29 rfl (Nat.le_of_ble_eq_true rfl) (Nat.le_of_ble_eq_true rfl)
  · refine r_lload_n (pc := 16) ?_ dX1_canAdd_16 rfl
    refine r_ldc2 (pc := 17) ?_ dX1_canAdd_17 wd_4_14
    refine r_lcmp (pc := 20) ?_ dX1_canAdd_20
    refine r_ifgt (pc := 21) (t := 28) ?_ ?_ dX1_canAdd_21 (by decide)
    · refine r_iconst (pc := 28) ?_ dX1_canAdd_28 (by decide)
      exact r_zr dX1_canAdd_29 rfl (Nat.le_of_ble_eq_true rfl) (Nat.le_of_ble_eq_true rfl)
    · refine r_iconst (pc := 24) ?_ dX1_canAdd_24 (by decide)
      refine r_goto (pc := 25) (t := 29) ?_ dX1_canAdd_25 (by decide)
      exact r_zr dX1_canAdd_29 rfl (Nat.le_of_ble_eq_true rfl) (Nat.le_of_ble_eq_true rfl)
abbrev Y_X1_addDone : YT := (yX1_addDone, cX1_addDone, 3, none, 0, 0, 0, 0)
theorem ok_X1_addDone : okV Y_X1_addDone 2 := ⟨⟨wd_4_29, wd_1_4, by decide, by decide, by decide +kernel⟩, wd_4_27, wd_4_28⟩
def R_X1_addDone_0 (l : Launch) (G : GT) (F : FX) (Q : PQ) (QX : PX) : KT := (I_il 1 (I_iflt (I_vr Q) (I_il 1 (I_ic 3 (I_icge (I_vr Q) (I_al 0 (I_gp 0 11 1 (I_il 1 (I_dup2 (I_ial (I_il 2 (I_iadd (I_ias (I_vr Q))))))))))))))
set_option maxRecDepth 100000 in
theorem g_X1_addDone_0 {l : Launch} {G : GT} {F : FX} {Q : PQ} {QX : PX} : Le (R_X1_addDone_0 l G F Q QX) (Wj true l G F Y_X1_addDone Q QX 0 0 0) := by
  unfold R_X1_addDone_0
  refine r_iload_n (pc := 0) ?_ dX1_addDone_0 rfl
  refine r_iflt (pc := 1) (t := 19) ?_ ?_ dX1_addDone_1 (by decide)
  · exact r_vr dX1_addDone_19 rfl (Nat.le_of_ble_eq_true rfl) (Nat.le_of_ble_eq_true rfl)
  · refine r_iload_n (pc := 4) ?_ dX1_addDone_4 rfl
    refine r_iconst (pc := 5) ?_ dX1_addDone_5 (by decide)
    refine r_icge (pc := 6) (t := 19) ?_ ?_ dX1_addDone_6 (by decide)
    · exact r_vr dX1_addDone_19 rfl (Nat.le_of_ble_eq_true rfl) (Nat.le_of_ble_eq_true rfl)
    · refine r_aload_n (pc := 9) ?_ dX1_addDone_9 rfl
      refine r_gp (pc := 10) (kf := 0) ?_ dX1_addDone_10 cl_X1 (Nat.le_of_ble_eq_true rfl) rfl wd_1_92 pv_X1_0
      refine r_iload_n (pc := 13) ?_ dX1_addDone_13 rfl
      refine r_dup2 (pc := 14) ?_ dX1_addDone_14
      refine r_ial (pc := 15) ?_ dX1_addDone_15
      refine r_iload_n (pc := 16) ?_ dX1_addDone_16 rfl
      refine r_iadd (pc := 17) ?_ dX1_addDone_17
      refine r_ias (pc := 18) ?_ dX1_addDone_18
      exact r_vr dX1_addDone_19 rfl (Nat.le_of_ble_eq_true rfl) (Nat.le_of_ble_eq_true rfl)
abbrev Y_X4_has : YT := (yX4_has, cX4_has, 2, (some .boolean), 0, 0, 0, 0)
theorem ok_X4_has : okV Y_X4_has 1 := ⟨⟨wd_3_115, wd_1_6, by decide, by decide, by decide +kernel⟩, wd_3_113, wd_3_114⟩
def R_X4_has_0 (l : Launch) (G : GT) (F : FX) (Q : PQ) (QX : PX) : KT := (I_il 1 (I_iflt (I_ic 0 (I_zr Q)) (I_il 1 (I_ic 200 (I_iclt (I_al 0 (I_gp 2 2 1 (I_il 1 (I_ic 64 (I_idiv (I_lal (I_il 1 (I_ic 64 (I_irem (I_lushr (I_lc 1 (I_land (I_lc 0 (I_lcmp (I_ifeq (I_ic 0 (I_zr Q)) (I_ic 1 (I_zr Q))))))))))))))))) (I_ic 0 (I_zr Q)))))))
set_option maxRecDepth 100000 in
theorem g_X4_has_0 {l : Launch} {G : GT} {F : FX} {Q : PQ} {QX : PX} : Le (R_X4_has_0 l G F Q QX) (Wj true l G F Y_X4_has Q QX 0 0 0) := by
  unfold R_X4_has_0
  refine r_iload_n (pc := 0) ?_ dX4_has_0 rfl
  refine r_iflt (pc := 1) (t := 11) ?_ ?_ dX4_has_1 (by decide)
  · refine r_iconst (pc := 11) ?_ dX4_has_11 (by decide)
    exact r_zr dX4_has_12 rfl (Nat.le_of_ble_eq_true rfl) (Nat.le_of_ble_eq_true rfl)
  · refine r_iload_n (pc := 4) ?_ dX4_has_4 rfl
    refine r_sipush (pc := 5) ?_ dX4_has_5 (by decide)
    refine r_iclt (pc := 8) (t := 13) ?_ ?_ dX4_has_8 (by decide)
    · refine r_aload_n (pc := 13) ?_ dX4_has_13 rfl
      refine r_gp (pc := 14) (kf := 0) ?_ dX4_has_14 cl_X4 (Nat.le_of_ble_eq_true rfl) rfl wd_1_83 pv_X4_0
      refine r_iload_n (pc := 17) ?_ dX4_has_17 rfl
      refine r_bipush (pc := 18) ?_ dX4_has_18 (by decide)
      refine r_idiv (pc := 20) ?_ dX4_has_20
      refine r_lal (pc := 21) ?_ dX4_has_21
      refine r_iload_n (pc := 22) ?_ dX4_has_22 rfl
      refine r_bipush (pc := 23) ?_ dX4_has_23 (by decide)
      refine r_irem (pc := 25) ?_ dX4_has_25
      refine r_lushr (pc := 26) ?_ dX4_has_26
      refine r_lconst (pc := 27) ?_ dX4_has_27 (by decide)
      refine r_land (pc := 28) ?_ dX4_has_28
      refine r_lconst (pc := 29) ?_ dX4_has_29 (by decide)
      refine r_lcmp (pc := 30) ?_ dX4_has_30
      refine r_ifeq (pc := 31) (t := 38) ?_ ?_ dX4_has_31 (by decide)
      · refine r_iconst (pc := 38) ?_ dX4_has_38 (by decide)
        exact r_zr dX4_has_39 rfl (Nat.le_of_ble_eq_true rfl) (Nat.le_of_ble_eq_true rfl)
      · refine r_iconst (pc := 34) ?_ dX4_has_34 (by decide)
        refine r_goto (pc := 35) (t := 39) ?_ dX4_has_35 (by decide)
        exact r_zr dX4_has_39 rfl (Nat.le_of_ble_eq_true rfl) (Nat.le_of_ble_eq_true rfl)
    · refine r_iconst (pc := 11) ?_ dX4_has_11 (by decide)
      exact r_zr dX4_has_12 rfl (Nat.le_of_ble_eq_true rfl) (Nat.le_of_ble_eq_true rfl)
abbrev Y_X1_hasRoomFor : YT := (yX1_hasRoomFor, cX1_hasRoomFor, 3, (some .boolean), 1, 21, 0, 0)
theorem ok_X1_hasRoomFor : okV Y_X1_hasRoomFor 2 := ⟨⟨wd_3_215, wd_1_4, by decide, by decide, by decide +kernel⟩, wd_3_213, wd_3_214⟩
def R_X1_hasRoomFor_0 (l : Launch) (G : GT) (F : FX) (Q : PQ) (QX : PX) : KT := (I_al 0 (I_gi 0 6 11 (I_ic (-1) (I_iceq (I_ic 0 (I_zr Q)) (I_al 0 (I_gp 0 11 14 (I_il 1 (I_cv (Tr true l G Y_X4_has) 2 2 1 QX (I_ifne (I_ic 0 (I_zr Q)) (I_al 0 (I_gi 0 9 11 (I_il 2 (I_iadd (I_ic 12 (I_icgt (I_ic 0 (I_zr Q)) (I_al 0 (I_gp 0 11 2 (I_gi 3 1 2 (I_al 0 (I_gp 0 11 8 (I_gi 3 1 2 (I_iadd (I_ic 20 (I_icge (I_ic 0 (I_zr Q)) (I_ic 1 (I_zr Q))))))))))))))))))))))))))
set_option maxRecDepth 100000 in
theorem g_X1_hasRoomFor_0 {l : Launch} {G : GT} {F : FX} {Q : PQ} {QX : PX} : Le (R_X1_hasRoomFor_0 l G F Q QX) (Wj true l G F Y_X1_hasRoomFor Q QX 0 0 0) := by
  unfold R_X1_hasRoomFor_0
  refine r_aload_n (pc := 0) ?_ dX1_hasRoomFor_0 rfl
  refine r_gi (pc := 1) ?_ dX1_hasRoomFor_1 cl_X1 (Nat.le_of_ble_eq_true rfl) rfl wd_1_103
  refine r_iconst (pc := 4) ?_ dX1_hasRoomFor_4 (by decide)
  refine r_iceq (pc := 5) (t := 54) ?_ ?_ dX1_hasRoomFor_5 (by decide)
  · refine r_iconst (pc := 54) ?_ dX1_hasRoomFor_54 (by decide)
    exact r_zr dX1_hasRoomFor_55 rfl (Nat.le_of_ble_eq_true rfl) (Nat.le_of_ble_eq_true rfl)
  · refine r_aload_n (pc := 8) ?_ dX1_hasRoomFor_8 rfl
    refine r_gp (pc := 9) (kf := 3) ?_ dX1_hasRoomFor_9 cl_X1 (Nat.le_of_ble_eq_true rfl) rfl wd_1_97 pv_X1_3
    refine r_iload_n (pc := 12) ?_ dX1_hasRoomFor_12 rfl
    refine r_cv0 (pc := 13) ?_ dX1_hasRoomFor_13 cl_X4 ok_X4_has rfl wd_3_216 ⟨Nat.le_of_ble_eq_true rfl, Nat.le_of_ble_eq_true rfl⟩ ⟨Nat.le_of_ble_eq_true rfl, Nat.le_of_ble_eq_true rfl⟩ rfl rfl
    refine r_ifne (pc := 16) (t := 54) ?_ ?_ dX1_hasRoomFor_16 (by decide)
    · refine r_iconst (pc := 54) ?_ dX1_hasRoomFor_54 (by decide)
      exact r_zr dX1_hasRoomFor_55 rfl (Nat.le_of_ble_eq_true rfl) (Nat.le_of_ble_eq_true rfl)
    · refine r_aload_n (pc := 19) ?_ dX1_hasRoomFor_19 rfl
      refine r_gi (pc := 20) ?_ dX1_hasRoomFor_20 cl_X1 (Nat.le_of_ble_eq_true rfl) rfl wd_1_109
      refine r_iload_n (pc := 23) ?_ dX1_hasRoomFor_23 rfl
      refine r_iadd (pc := 24) ?_ dX1_hasRoomFor_24
      refine r_bipush (pc := 25) ?_ dX1_hasRoomFor_25 (by decide)
      refine r_icgt (pc := 27) (t := 54) ?_ ?_ dX1_hasRoomFor_27 (by decide)
      · refine r_iconst (pc := 54) ?_ dX1_hasRoomFor_54 (by decide)
        exact r_zr dX1_hasRoomFor_55 rfl (Nat.le_of_ble_eq_true rfl) (Nat.le_of_ble_eq_true rfl)
      · refine r_aload_n (pc := 30) ?_ dX1_hasRoomFor_30 rfl
        refine r_gp (pc := 31) (kf := 1) ?_ dX1_hasRoomFor_31 cl_X1 (Nat.le_of_ble_eq_true rfl) rfl wd_1_93 pv_X1_1
        refine r_gi (pc := 34) ?_ dX1_hasRoomFor_34 cl_X5 (Nat.le_of_ble_eq_true rfl) rfl wd_1_70
        refine r_aload_n (pc := 37) ?_ dX1_hasRoomFor_37 rfl
        refine r_gp (pc := 38) (kf := 2) ?_ dX1_hasRoomFor_38 cl_X1 (Nat.le_of_ble_eq_true rfl) rfl wd_1_95 pv_X1_2
        refine r_gi (pc := 41) ?_ dX1_hasRoomFor_41 cl_X5 (Nat.le_of_ble_eq_true rfl) rfl wd_1_70
        refine r_iadd (pc := 44) ?_ dX1_hasRoomFor_44
        refine r_bipush (pc := 45) ?_ dX1_hasRoomFor_45 (by decide)
        refine r_icge (pc := 47) (t := 54) ?_ ?_ dX1_hasRoomFor_47 (by decide)
        · refine r_iconst (pc := 54) ?_ dX1_hasRoomFor_54 (by decide)
          exact r_zr dX1_hasRoomFor_55 rfl (Nat.le_of_ble_eq_true rfl) (Nat.le_of_ble_eq_true rfl)
        · refine r_iconst (pc := 50) ?_ dX1_hasRoomFor_50 (by decide)
          refine r_goto (pc := 51) (t := 55) ?_ dX1_hasRoomFor_51 (by decide)
          exact r_zr dX1_hasRoomFor_55 rfl (Nat.le_of_ble_eq_true rfl) (Nat.le_of_ble_eq_true rfl)
abbrev Y_X4_put : YT := (yX4_put, cX4_put, 2, none, 1, 21, 0, 0)
theorem ok_X4_put : okV Y_X4_put 1 := ⟨⟨wd_3_196, wd_1_6, by decide, by decide, by decide +kernel⟩, wd_3_194, wd_3_195⟩
def R_X4_put_0 (l : Launch) (G : GT) (F : FX) (Q : PQ) (QX : PX) : KT := (I_il 1 (I_iflt (I_vr Q) (I_il 1 (I_ic 200 (I_icge (I_vr Q) (I_al 0 (I_il 1 (I_cv (Tr true l G Y_X4_has) 2 2 1 QX (I_ifeq (I_al 0 (I_gp 2 2 1 (I_il 1 (I_ic 64 (I_idiv (I_dup2 (I_lal (I_lc 1 (I_il 1 (I_ic 64 (I_irem (I_lshl (I_lor (I_las (I_al 0 (I_dup (I_gi 2 1 2 (I_ic 1 (I_iadd (I_pi 2 1 2 (I_vr Q))))))))))))))))))))) (I_vr Q))))))))))
set_option maxRecDepth 100000 in
theorem g_X4_put_0 {l : Launch} {G : GT} {F : FX} {Q : PQ} {QX : PX} : Le (R_X4_put_0 l G F Q QX) (Wj true l G F Y_X4_put Q QX 0 0 0) := by
  unfold R_X4_put_0
  refine r_iload_n (pc := 0) ?_ dX4_put_0 rfl
  refine r_iflt (pc := 1) (t := 19) ?_ ?_ dX4_put_1 (by decide)
  · exact r_vr dX4_put_19 rfl (Nat.le_of_ble_eq_true rfl) (Nat.le_of_ble_eq_true rfl)
  · refine r_iload_n (pc := 4) ?_ dX4_put_4 rfl
    refine r_sipush (pc := 5) ?_ dX4_put_5 (by decide)
    refine r_icge (pc := 8) (t := 19) ?_ ?_ dX4_put_8 (by decide)
    · exact r_vr dX4_put_19 rfl (Nat.le_of_ble_eq_true rfl) (Nat.le_of_ble_eq_true rfl)
    · refine r_aload_n (pc := 11) ?_ dX4_put_11 rfl
      refine r_iload_n (pc := 12) ?_ dX4_put_12 rfl
      refine r_cv0 (pc := 13) ?_ dX4_put_13 cl_X4 ok_X4_has rfl wd_3_112 ⟨Nat.le_of_ble_eq_true rfl, Nat.le_of_ble_eq_true rfl⟩ ⟨Nat.le_of_ble_eq_true rfl, Nat.le_of_ble_eq_true rfl⟩ rfl rfl
      refine r_ifeq (pc := 16) (t := 20) ?_ ?_ dX4_put_16 (by decide)
      · refine r_aload_n (pc := 20) ?_ dX4_put_20 rfl
        refine r_gp (pc := 21) (kf := 0) ?_ dX4_put_21 cl_X4 (Nat.le_of_ble_eq_true rfl) rfl wd_1_83 pv_X4_0
        refine r_iload_n (pc := 24) ?_ dX4_put_24 rfl
        refine r_bipush (pc := 25) ?_ dX4_put_25 (by decide)
        refine r_idiv (pc := 27) ?_ dX4_put_27
        refine r_dup2 (pc := 28) ?_ dX4_put_28
        refine r_lal (pc := 29) ?_ dX4_put_29
        refine r_lconst (pc := 30) ?_ dX4_put_30 (by decide)
        refine r_iload_n (pc := 31) ?_ dX4_put_31 rfl
        refine r_bipush (pc := 32) ?_ dX4_put_32 (by decide)
        refine r_irem (pc := 34) ?_ dX4_put_34
        refine r_lshl (pc := 35) ?_ dX4_put_35
        refine r_lor (pc := 36) ?_ dX4_put_36
        refine r_las (pc := 37) ?_ dX4_put_37
        refine r_aload_n (pc := 38) ?_ dX4_put_38 rfl
        refine r_dup (pc := 39) ?_ dX4_put_39
        refine r_gi (pc := 40) ?_ dX4_put_40 cl_X4 (Nat.le_of_ble_eq_true rfl) rfl wd_1_84
        refine r_iconst (pc := 43) ?_ dX4_put_43 (by decide)
        refine r_iadd (pc := 44) ?_ dX4_put_44
        refine r_pi (pc := 45) ?_ dX4_put_45 cl_X4 (Nat.le_of_ble_eq_true rfl) rfl wd_1_84 rfl pd_X4_1
        exact r_vr dX4_put_48 rfl (Nat.le_of_ble_eq_true rfl) (Nat.le_of_ble_eq_true rfl)
      · exact r_vr dX4_put_19 rfl (Nat.le_of_ble_eq_true rfl) (Nat.le_of_ble_eq_true rfl)
abbrev Y_X5_append : YT := (yX5_append, cX5_append, 5, none, 0, 0, 0, 0)
theorem ok_X5_append : okV Y_X5_append 4 := ⟨⟨wd_2_188, wd_1_5, by decide, by decide, by decide +kernel⟩, wd_2_186, wd_2_187⟩
def R_X5_append_0 (l : Launch) (G : GT) (F : FX) (Q : PQ) (QX : PX) : KT := (I_al 0 (I_gi 3 1 2 (I_ic 20 (I_icge (I_vr Q) (I_al 0 (I_gp 3 2 1 (I_ic 0 (I_aal 2 1 1 (I_al 0 (I_gi 3 1 2 (I_il 1 (I_ias (I_al 0 (I_gp 3 2 1 (I_ic 1 (I_aal 2 1 1 (I_al 0 (I_gi 3 1 2 (I_il 2 (I_ias (I_al 0 (I_gp 3 2 1 (I_ic 2 (I_aal 2 1 1 (I_al 0 (I_gi 3 1 2 (I_il 3 (I_ias (I_al 0 (I_gp 3 2 1 (I_ic 3 (I_aal 2 1 1 (I_al 0 (I_gi 3 1 2 (I_il 4 (I_ias (I_al 0 (I_dup (I_gi 3 1 2 (I_ic 1 (I_iadd (I_pi 3 1 2 (I_vr Q)))))))))))))))))))))))))))))))))))))))))))
set_option maxRecDepth 100000 in
theorem g_X5_append_0 {l : Launch} {G : GT} {F : FX} {Q : PQ} {QX : PX} : Le (R_X5_append_0 l G F Q QX) (Wj true l G F Y_X5_append Q QX 0 0 0) := by
  unfold R_X5_append_0
  refine r_aload_n (pc := 0) ?_ dX5_append_0 rfl
  refine r_gi (pc := 1) ?_ dX5_append_1 cl_X5 (Nat.le_of_ble_eq_true rfl) rfl wd_1_69
  refine r_bipush (pc := 4) ?_ dX5_append_4 (by decide)
  refine r_icge (pc := 6) (t := 68) ?_ ?_ dX5_append_6 (by decide)
  · exact r_vr dX5_append_68 rfl (Nat.le_of_ble_eq_true rfl) (Nat.le_of_ble_eq_true rfl)
  · refine r_aload_n (pc := 9) ?_ dX5_append_9 rfl
    refine r_gp (pc := 10) (kf := 0) ?_ dX5_append_10 cl_X5 (Nat.le_of_ble_eq_true rfl) rfl wd_1_68 pv_X5_0
    refine r_iconst (pc := 13) ?_ dX5_append_13 (by decide)
    refine r_aal (pc := 14) ?_ dX5_append_14 rfl rfl pa_2
    refine r_aload_n (pc := 15) ?_ dX5_append_15 rfl
    refine r_gi (pc := 16) ?_ dX5_append_16 cl_X5 (Nat.le_of_ble_eq_true rfl) rfl wd_1_69
    refine r_iload_n (pc := 19) ?_ dX5_append_19 rfl
    refine r_ias (pc := 20) ?_ dX5_append_20
    refine r_aload_n (pc := 21) ?_ dX5_append_21 rfl
    refine r_gp (pc := 22) (kf := 0) ?_ dX5_append_22 cl_X5 (Nat.le_of_ble_eq_true rfl) rfl wd_1_68 pv_X5_0
    refine r_iconst (pc := 25) ?_ dX5_append_25 (by decide)
    refine r_aal (pc := 26) ?_ dX5_append_26 rfl rfl pa_2
    refine r_aload_n (pc := 27) ?_ dX5_append_27 rfl
    refine r_gi (pc := 28) ?_ dX5_append_28 cl_X5 (Nat.le_of_ble_eq_true rfl) rfl wd_1_69
    refine r_iload_n (pc := 31) ?_ dX5_append_31 rfl
    refine r_ias (pc := 32) ?_ dX5_append_32
    refine r_aload_n (pc := 33) ?_ dX5_append_33 rfl
    refine r_gp (pc := 34) (kf := 0) ?_ dX5_append_34 cl_X5 (Nat.le_of_ble_eq_true rfl) rfl wd_1_68 pv_X5_0
    refine r_iconst (pc := 37) ?_ dX5_append_37 (by decide)
    refine r_aal (pc := 38) ?_ dX5_append_38 rfl rfl pa_2
    refine r_aload_n (pc := 39) ?_ dX5_append_39 rfl
    refine r_gi (pc := 40) ?_ dX5_append_40 cl_X5 (Nat.le_of_ble_eq_true rfl) rfl wd_1_69
    refine r_iload_n (pc := 43) ?_ dX5_append_43 rfl
    refine r_ias (pc := 44) ?_ dX5_append_44
    refine r_aload_n (pc := 45) ?_ dX5_append_45 rfl
    refine r_gp (pc := 46) (kf := 0) ?_ dX5_append_46 cl_X5 (Nat.le_of_ble_eq_true rfl) rfl wd_1_68 pv_X5_0
    refine r_iconst (pc := 49) ?_ dX5_append_49 (by decide)
    refine r_aal (pc := 50) ?_ dX5_append_50 rfl rfl pa_2
    refine r_aload_n (pc := 51) ?_ dX5_append_51 rfl
    refine r_gi (pc := 52) ?_ dX5_append_52 cl_X5 (Nat.le_of_ble_eq_true rfl) rfl wd_1_69
    refine r_iload (pc := 55) ?_ dX5_append_55
    refine r_ias (pc := 57) ?_ dX5_append_57
    refine r_aload_n (pc := 58) ?_ dX5_append_58 rfl
    refine r_dup (pc := 59) ?_ dX5_append_59
    refine r_gi (pc := 60) ?_ dX5_append_60 cl_X5 (Nat.le_of_ble_eq_true rfl) rfl wd_1_69
    refine r_iconst (pc := 63) ?_ dX5_append_63 (by decide)
    refine r_iadd (pc := 64) ?_ dX5_append_64
    refine r_pi (pc := 65) ?_ dX5_append_65 cl_X5 (Nat.le_of_ble_eq_true rfl) rfl wd_1_69 rfl pd_X5_1
    exact r_vr dX5_append_68 rfl (Nat.le_of_ble_eq_true rfl) (Nat.le_of_ble_eq_true rfl)
abbrev Y_X1_work : YT := (yX1_work, cX1_work, 4, none, 2, 42, 0, 0)
theorem ok_X1_work : okV Y_X1_work 3 := ⟨⟨wd_3_224, wd_1_4, by decide, by decide, by decide +kernel⟩, wd_3_222, wd_3_223⟩
def R_X1_work_0 (l : Launch) (G : GT) (F : FX) (Q : PQ) (QX : PX) : KT := (I_al 0 (I_gi 0 9 11 (I_ifne (Wj true l G F Y_X1_work Q QX 0 0 17) (I_al 0 (I_dup (I_gi 0 8 11 (I_ic 1 (I_iadd (I_pi 0 8 11 (Wj true l G F Y_X1_work Q QX 0 0 17))))))))))
set_option maxRecDepth 100000 in
theorem g_X1_work_0 {l : Launch} {G : GT} {F : FX} {Q : PQ} {QX : PX} : Le (R_X1_work_0 l G F Q QX) (Wj true l G F Y_X1_work Q QX 0 0 0) := by
  unfold R_X1_work_0
  refine r_aload_n (pc := 0) ?_ dX1_work_0 rfl
  refine r_gi (pc := 1) ?_ dX1_work_1 cl_X1 (Nat.le_of_ble_eq_true rfl) rfl wd_1_109
  refine r_ifne (pc := 4) (t := 17) ?_ ?_ dX1_work_4 (by decide)
  · exact Le.rf
  · refine r_aload_n (pc := 7) ?_ dX1_work_7 rfl
    refine r_dup (pc := 8) ?_ dX1_work_8
    refine r_gi (pc := 9) ?_ dX1_work_9 cl_X1 (Nat.le_of_ble_eq_true rfl) rfl wd_1_107
    refine r_iconst (pc := 12) ?_ dX1_work_12 (by decide)
    refine r_iadd (pc := 13) ?_ dX1_work_13
    refine r_pi (pc := 14) ?_ dX1_work_14 cl_X1 (Nat.le_of_ble_eq_true rfl) rfl wd_1_107 rfl pd_X1_8
    exact Le.rf
def R_X1_work_17 (l : Launch) (G : GT) (F : FX) (Q : PQ) (QX : PX) : KT := (I_al 0 (I_dup (I_gi 0 9 11 (I_il 2 (I_iadd (I_pi 0 9 11 (I_al 0 (I_gp 0 11 16 (I_il 3 (I_cv (Tr true l G Y_X4_put) 2 2 1 QX (I_al 0 (I_gp 0 11 2 (I_il 1 (I_il 2 (I_il 3 (I_al 0 (I_gi 0 6 11 (I_cv (Tr true l G Y_X5_append) 3 2 4 QX (I_vr Q)))))))))))))))))))
set_option maxRecDepth 100000 in
theorem g_X1_work_17 {l : Launch} {G : GT} {F : FX} {Q : PQ} {QX : PX} : Le (R_X1_work_17 l G F Q QX) (Wj true l G F Y_X1_work Q QX 0 0 17) := by
  unfold R_X1_work_17
  refine r_aload_n (pc := 17) ?_ dX1_work_17 rfl
  refine r_dup (pc := 18) ?_ dX1_work_18
  refine r_gi (pc := 19) ?_ dX1_work_19 cl_X1 (Nat.le_of_ble_eq_true rfl) rfl wd_1_109
  refine r_iload_n (pc := 22) ?_ dX1_work_22 rfl
  refine r_iadd (pc := 23) ?_ dX1_work_23
  refine r_pi (pc := 24) ?_ dX1_work_24 cl_X1 (Nat.le_of_ble_eq_true rfl) rfl wd_1_109 rfl pd_X1_9
  refine r_aload_n (pc := 27) ?_ dX1_work_27 rfl
  refine r_gp (pc := 28) (kf := 4) ?_ dX1_work_28 cl_X1 (Nat.le_of_ble_eq_true rfl) rfl wd_1_99 pv_X1_4
  refine r_iload_n (pc := 31) ?_ dX1_work_31 rfl
  refine r_cv0 (pc := 32) ?_ dX1_work_32 cl_X4 ok_X4_put rfl wd_3_225 ⟨Nat.le_of_ble_eq_true rfl, Nat.le_of_ble_eq_true rfl⟩ ⟨Nat.le_of_ble_eq_true rfl, Nat.le_of_ble_eq_true rfl⟩ rfl rfl
  refine r_aload_n (pc := 35) ?_ dX1_work_35 rfl
  refine r_gp (pc := 36) (kf := 1) ?_ dX1_work_36 cl_X1 (Nat.le_of_ble_eq_true rfl) rfl wd_1_93 pv_X1_1
  refine r_iload_n (pc := 39) ?_ dX1_work_39 rfl
  refine r_iload_n (pc := 40) ?_ dX1_work_40 rfl
  refine r_iload_n (pc := 41) ?_ dX1_work_41 rfl
  refine r_aload_n (pc := 42) ?_ dX1_work_42 rfl
  refine r_gi (pc := 43) ?_ dX1_work_43 cl_X1 (Nat.le_of_ble_eq_true rfl) rfl wd_1_103
  refine r_cv0 (pc := 46) ?_ dX1_work_46 cl_X5 ok_X5_append rfl wd_2_185 ⟨Nat.le_of_ble_eq_true rfl, Nat.le_of_ble_eq_true rfl⟩ ⟨Nat.le_of_ble_eq_true rfl, Nat.le_of_ble_eq_true rfl⟩ rfl rfl
  exact r_vr dX1_work_49 rfl (Nat.le_of_ble_eq_true rfl) (Nat.le_of_ble_eq_true rfl)
abbrev Y_X5_valueAt : YT := (yX5_valueAt, cX5_valueAt, 4, (some .int), 0, 0, 0, 0)
theorem ok_X5_valueAt : okV Y_X5_valueAt 2 := ⟨⟨wd_2_180, wd_1_5, by decide, by decide, by decide +kernel⟩, wd_2_178, wd_2_179⟩
def R_X5_valueAt_0 (l : Launch) (G : GT) (F : FX) (Q : PQ) (QX : PX) : KT := (I_il 1 (I_iflt (Wj true l G F Y_X5_valueAt Q QX 0 0 31) (I_il 1 (I_al 0 (I_gi 3 1 2 (I_icge (Wj true l G F Y_X5_valueAt Q QX 0 0 31) (I_il 1 (I_ic 20 (I_icge (Wj true l G F Y_X5_valueAt Q QX 0 0 31) (I_il 2 (I_iflt (Wj true l G F Y_X5_valueAt Q QX 0 0 31) (I_il 2 (I_ic 4 (I_icge (Wj true l G F Y_X5_valueAt Q QX 0 0 31) (I_ic 1 (I_is 3 (I_il 3 (I_ifeq (I_ic (-1) (I_ir Q)) (I_al 0 (I_gp 3 2 1 (I_il 2 (I_aal 2 1 1 (I_il 1 (I_ial (I_ir Q)))))))))))))))))))))))))
set_option maxRecDepth 100000 in
theorem g_X5_valueAt_0 {l : Launch} {G : GT} {F : FX} {Q : PQ} {QX : PX} : Le (R_X5_valueAt_0 l G F Q QX) (Wj true l G F Y_X5_valueAt Q QX 0 0 0) := by
  unfold R_X5_valueAt_0
  refine r_iload_n (pc := 0) ?_ dX5_valueAt_0 rfl
  refine r_iflt (pc := 1) (t := 31) ?_ ?_ dX5_valueAt_1 (by decide)
  · exact Le.rf
  · refine r_iload_n (pc := 4) ?_ dX5_valueAt_4 rfl
    refine r_aload_n (pc := 5) ?_ dX5_valueAt_5 rfl
    refine r_gi (pc := 6) ?_ dX5_valueAt_6 cl_X5 (Nat.le_of_ble_eq_true rfl) rfl wd_1_69
    refine r_icge (pc := 9) (t := 31) ?_ ?_ dX5_valueAt_9 (by decide)
    · exact Le.rf
    · refine r_iload_n (pc := 12) ?_ dX5_valueAt_12 rfl
      refine r_bipush (pc := 13) ?_ dX5_valueAt_13 (by decide)
      refine r_icge (pc := 15) (t := 31) ?_ ?_ dX5_valueAt_15 (by decide)
      · exact Le.rf
      · refine r_iload_n (pc := 18) ?_ dX5_valueAt_18 rfl
        refine r_iflt (pc := 19) (t := 31) ?_ ?_ dX5_valueAt_19 (by decide)
        · exact Le.rf
        · refine r_iload_n (pc := 22) ?_ dX5_valueAt_22 rfl
          refine r_iconst (pc := 23) ?_ dX5_valueAt_23 (by decide)
          refine r_icge (pc := 24) (t := 31) ?_ ?_ dX5_valueAt_24 (by decide)
          · exact Le.rf
          · refine r_iconst (pc := 27) ?_ dX5_valueAt_27 (by decide)
            refine r_goto (pc := 28) (t := 32) ?_ dX5_valueAt_28 (by decide)
            refine r_istore_n (pc := 32) ?_ dX5_valueAt_32 rfl (Nat.le_of_ble_eq_true rfl)
            refine r_iload_n (pc := 33) ?_ dX5_valueAt_33 rfl
            refine r_ifeq (pc := 34) (t := 48) ?_ ?_ dX5_valueAt_34 (by decide)
            · refine r_iconst (pc := 48) ?_ dX5_valueAt_48 (by decide)
              exact r_ir dX5_valueAt_49 rfl (Nat.le_of_ble_eq_true rfl) (Nat.le_of_ble_eq_true rfl)
            · refine r_aload_n (pc := 37) ?_ dX5_valueAt_37 rfl
              refine r_gp (pc := 38) (kf := 0) ?_ dX5_valueAt_38 cl_X5 (Nat.le_of_ble_eq_true rfl) rfl wd_1_68 pv_X5_0
              refine r_iload_n (pc := 41) ?_ dX5_valueAt_41 rfl
              refine r_aal (pc := 42) ?_ dX5_valueAt_42 rfl rfl pa_2
              refine r_iload_n (pc := 43) ?_ dX5_valueAt_43 rfl
              refine r_ial (pc := 44) ?_ dX5_valueAt_44
              refine r_goto (pc := 45) (t := 49) ?_ dX5_valueAt_45 (by decide)
              exact r_ir dX5_valueAt_49 rfl (Nat.le_of_ble_eq_true rfl) (Nat.le_of_ble_eq_true rfl)
def R_X5_valueAt_31 (l : Launch) (G : GT) (F : FX) (Q : PQ) (QX : PX) : KT := (I_ic 0 (I_is 3 (I_il 3 (I_ifeq (I_ic (-1) (I_ir Q)) (I_al 0 (I_gp 3 2 1 (I_il 2 (I_aal 2 1 1 (I_il 1 (I_ial (I_ir Q)))))))))))
set_option maxRecDepth 100000 in
theorem g_X5_valueAt_31 {l : Launch} {G : GT} {F : FX} {Q : PQ} {QX : PX} : Le (R_X5_valueAt_31 l G F Q QX) (Wj true l G F Y_X5_valueAt Q QX 0 0 31) := by
  unfold R_X5_valueAt_31
  refine r_iconst (pc := 31) ?_ dX5_valueAt_31 (by decide)
  refine r_istore_n (pc := 32) ?_ dX5_valueAt_32 rfl (Nat.le_of_ble_eq_true rfl)
  refine r_iload_n (pc := 33) ?_ dX5_valueAt_33 rfl
  refine r_ifeq (pc := 34) (t := 48) ?_ ?_ dX5_valueAt_34 (by decide)
  · refine r_iconst (pc := 48) ?_ dX5_valueAt_48 (by decide)
    exact r_ir dX5_valueAt_49 rfl (Nat.le_of_ble_eq_true rfl) (Nat.le_of_ble_eq_true rfl)
  · refine r_aload_n (pc := 37) ?_ dX5_valueAt_37 rfl
    refine r_gp (pc := 38) (kf := 0) ?_ dX5_valueAt_38 cl_X5 (Nat.le_of_ble_eq_true rfl) rfl wd_1_68 pv_X5_0
    refine r_iload_n (pc := 41) ?_ dX5_valueAt_41 rfl
    refine r_aal (pc := 42) ?_ dX5_valueAt_42 rfl rfl pa_2
    refine r_iload_n (pc := 43) ?_ dX5_valueAt_43 rfl
    refine r_ial (pc := 44) ?_ dX5_valueAt_44
    refine r_goto (pc := 45) (t := 49) ?_ dX5_valueAt_45 (by decide)
    exact r_ir dX5_valueAt_49 rfl (Nat.le_of_ble_eq_true rfl) (Nat.le_of_ble_eq_true rfl)
abbrev Y_X5_hoursOfFirst : YT := (yX5_hoursOfFirst, cX5_hoursOfFirst, 7, (some .int), 1, 23, 0, 0)
theorem ok_X5_hoursOfFirst : okV Y_X5_hoursOfFirst 3 := ⟨⟨wd_4_8, wd_1_5, by decide, by decide, by decide +kernel⟩, wd_4_6, wd_4_7⟩
def R_X5_hoursOfFirst_0 (l : Launch) (G : GT) (F : FX) (Q : PQ) (QX : PX) : KT := (I_ic 0 (I_is 4 (I_ic 0 (I_is 5 (I_ic 0 (I_is 6 (Wj true l G F Y_X5_hoursOfFirst Q QX 0 0 9)))))))
set_option maxRecDepth 100000 in
theorem g_X5_hoursOfFirst_0 {l : Launch} {G : GT} {F : FX} {Q : PQ} {QX : PX} : Le (R_X5_hoursOfFirst_0 l G F Q QX) (Wj true l G F Y_X5_hoursOfFirst Q QX 0 0 0) := by
  unfold R_X5_hoursOfFirst_0
  refine r_iconst (pc := 0) ?_ dX5_hoursOfFirst_0 (by decide)
  refine r_istore (pc := 1) ?_ dX5_hoursOfFirst_1 (Nat.le_of_ble_eq_true rfl)
  refine r_iconst (pc := 3) ?_ dX5_hoursOfFirst_3 (by decide)
  refine r_istore (pc := 4) ?_ dX5_hoursOfFirst_4 (Nat.le_of_ble_eq_true rfl)
  refine r_iconst (pc := 6) ?_ dX5_hoursOfFirst_6 (by decide)
  refine r_istore (pc := 7) ?_ dX5_hoursOfFirst_7 (Nat.le_of_ble_eq_true rfl)
  exact Le.rf
def R_X5_hoursOfFirst_9 (l : Launch) (G : GT) (F : FX) (Q : PQ) (QX : PX) : KT := (I_il 6 (I_al 0 (I_gi 3 1 2 (I_icge (I_il 4 (I_ir Q)) (I_il 5 (I_il 1 (I_icge (I_il 4 (I_ir Q)) (I_al 0 (I_il 6 (I_ic 3 (I_cv (Tr true l G Y_X5_valueAt) 3 2 2 QX (I_il 2 (I_icne (I_inc 6 1 (Wj true l G F Y_X5_hoursOfFirst Q QX 0 0 9)) (I_inc 5 1 (I_il 4 (I_al 0 (I_il 6 (I_ic 0 (I_cv (Tr true l G Y_X5_valueAt) 3 2 2 QX (I_il 3 (I_icne (I_ic 0 (I_iadd (I_is 4 (I_inc 6 1 (Wj true l G F Y_X5_hoursOfFirst Q QX 0 0 9))))) (I_al 0 (I_il 6 (I_ic 1 (I_cv (Tr true l G Y_X5_valueAt) 3 2 2 QX (I_iadd (I_is 4 (I_inc 6 1 (Wj true l G F Y_X5_hoursOfFirst Q QX 0 0 9)))))))))))))))))))))))))))))
set_option maxRecDepth 100000 in
theorem g_X5_hoursOfFirst_9 {l : Launch} {G : GT} {F : FX} {Q : PQ} {QX : PX} : Le (R_X5_hoursOfFirst_9 l G F Q QX) (Wj true l G F Y_X5_hoursOfFirst Q QX 0 0 9) := by
  unfold R_X5_hoursOfFirst_9
  refine r_iload (pc := 9) ?_ dX5_hoursOfFirst_9
  refine r_aload_n (pc := 11) ?_ dX5_hoursOfFirst_11 rfl
  refine r_gi (pc := 12) ?_ dX5_hoursOfFirst_12 cl_X5 (Nat.le_of_ble_eq_true rfl) rfl wd_1_69
  refine r_icge (pc := 15) (t := 71) ?_ ?_ dX5_hoursOfFirst_15 (by decide)
  · refine r_iload (pc := 71) ?_ dX5_hoursOfFirst_71
    exact r_ir dX5_hoursOfFirst_73 rfl (Nat.le_of_ble_eq_true rfl) (Nat.le_of_ble_eq_true rfl)
  · refine r_iload (pc := 18) ?_ dX5_hoursOfFirst_18
    refine r_iload_n (pc := 20) ?_ dX5_hoursOfFirst_20 rfl
    refine r_icge (pc := 21) (t := 71) ?_ ?_ dX5_hoursOfFirst_21 (by decide)
    · refine r_iload (pc := 71) ?_ dX5_hoursOfFirst_71
      exact r_ir dX5_hoursOfFirst_73 rfl (Nat.le_of_ble_eq_true rfl) (Nat.le_of_ble_eq_true rfl)
    · refine r_aload_n (pc := 24) ?_ dX5_hoursOfFirst_24 rfl
      refine r_iload (pc := 25) ?_ dX5_hoursOfFirst_25
      refine r_iconst (pc := 27) ?_ dX5_hoursOfFirst_27 (by decide)
      refine r_cv0 (pc := 28) ?_ dX5_hoursOfFirst_28 cl_X5 ok_X5_valueAt rfl wd_3_40 ⟨Nat.le_of_ble_eq_true rfl, Nat.le_of_ble_eq_true rfl⟩ ⟨Nat.le_of_ble_eq_true rfl, Nat.le_of_ble_eq_true rfl⟩ rfl rfl
      refine r_iload_n (pc := 31) ?_ dX5_hoursOfFirst_31 rfl
      refine r_icne (pc := 32) (t := 65) ?_ ?_ dX5_hoursOfFirst_32 (by decide)
      · refine r_iinc (pc := 65) ?_ dX5_hoursOfFirst_65 (by decide) (Nat.le_of_ble_eq_true rfl)
        refine r_goto (pc := 68) (t := 9) ?_ dX5_hoursOfFirst_68 (by decide)
        exact Le.rf
      · refine r_iinc (pc := 35) ?_ dX5_hoursOfFirst_35 (by decide) (Nat.le_of_ble_eq_true rfl)
        refine r_iload (pc := 38) ?_ dX5_hoursOfFirst_38
        refine r_aload_n (pc := 40) ?_ dX5_hoursOfFirst_40 rfl
        refine r_iload (pc := 41) ?_ dX5_hoursOfFirst_41
        refine r_iconst (pc := 43) ?_ dX5_hoursOfFirst_43 (by decide)
        refine r_cv0 (pc := 44) ?_ dX5_hoursOfFirst_44 cl_X5 ok_X5_valueAt rfl wd_3_40 ⟨Nat.le_of_ble_eq_true rfl, Nat.le_of_ble_eq_true rfl⟩ ⟨Nat.le_of_ble_eq_true rfl, Nat.le_of_ble_eq_true rfl⟩ rfl rfl
        refine r_iload_n (pc := 47) ?_ dX5_hoursOfFirst_47 rfl
        refine r_icne (pc := 48) (t := 61) ?_ ?_ dX5_hoursOfFirst_48 (by decide)
        · refine r_iconst (pc := 61) ?_ dX5_hoursOfFirst_61 (by decide)
          refine r_iadd (pc := 62) ?_ dX5_hoursOfFirst_62
          refine r_istore (pc := 63) ?_ dX5_hoursOfFirst_63 (Nat.le_of_ble_eq_true rfl)
          refine r_iinc (pc := 65) ?_ dX5_hoursOfFirst_65 (by decide) (Nat.le_of_ble_eq_true rfl)
          refine r_goto (pc := 68) (t := 9) ?_ dX5_hoursOfFirst_68 (by decide)
          exact Le.rf
        · refine r_aload_n (pc := 51) ?_ dX5_hoursOfFirst_51 rfl
          refine r_iload (pc := 52) ?_ dX5_hoursOfFirst_52
          refine r_iconst (pc := 54) ?_ dX5_hoursOfFirst_54 (by decide)
          refine r_cv0 (pc := 55) ?_ dX5_hoursOfFirst_55 cl_X5 ok_X5_valueAt rfl wd_3_40 ⟨Nat.le_of_ble_eq_true rfl, Nat.le_of_ble_eq_true rfl⟩ ⟨Nat.le_of_ble_eq_true rfl, Nat.le_of_ble_eq_true rfl⟩ rfl rfl
          refine r_goto (pc := 58) (t := 62) ?_ dX5_hoursOfFirst_58 (by decide)
          refine r_iadd (pc := 62) ?_ dX5_hoursOfFirst_62
          refine r_istore (pc := 63) ?_ dX5_hoursOfFirst_63 (Nat.le_of_ble_eq_true rfl)
          refine r_iinc (pc := 65) ?_ dX5_hoursOfFirst_65 (by decide) (Nat.le_of_ble_eq_true rfl)
          refine r_goto (pc := 68) (t := 9) ?_ dX5_hoursOfFirst_68 (by decide)
          exact Le.rf
abbrev Y_X1_canTakeFirst : YT := (yX1_canTakeFirst, cX1_canTakeFirst, 3, (some .boolean), 2, 49, 0, 0)
theorem ok_X1_canTakeFirst : okV Y_X1_canTakeFirst 1 := ⟨⟨wd_4_4, wd_1_4, by decide, by decide, by decide +kernel⟩, wd_4_2, wd_4_3⟩
def R_X1_canTakeFirst_0 (l : Launch) (G : GT) (F : FX) (Q : PQ) (QX : PX) : KT := (I_ic 0 (I_is 2 (Wj true l G F Y_X1_canTakeFirst Q QX 0 0 2)))
set_option maxRecDepth 100000 in
theorem g_X1_canTakeFirst_0 {l : Launch} {G : GT} {F : FX} {Q : PQ} {QX : PX} : Le (R_X1_canTakeFirst_0 l G F Q QX) (Wj true l G F Y_X1_canTakeFirst Q QX 0 0 0) := by
  unfold R_X1_canTakeFirst_0
  refine r_iconst (pc := 0) ?_ dX1_canTakeFirst_0 (by decide)
  refine r_istore_n (pc := 1) ?_ dX1_canTakeFirst_1 rfl (Nat.le_of_ble_eq_true rfl)
  exact Le.rf
def R_X1_canTakeFirst_2 (l : Launch) (G : GT) (F : FX) (Q : PQ) (QX : PX) : KT := (I_il 2 (I_ic 3 (I_icge (I_ic 1 (I_zr Q)) (I_al 0 (I_il 2 (I_al 0 (I_gp 0 11 2 (I_il 1 (I_al 0 (I_gi 0 6 11 (I_il 2 (I_cv (Tr true l G Y_X5_hoursOfFirst) 3 2 3 QX (I_cv (Tr true l G Y_X1_canAdd) 0 11 2 QX (I_ifne (I_inc 2 1 (Wj true l G F Y_X1_canTakeFirst Q QX 0 0 2)) (I_ic 0 (I_zr Q))))))))))))))))
set_option maxRecDepth 100000 in
theorem g_X1_canTakeFirst_2 {l : Launch} {G : GT} {F : FX} {Q : PQ} {QX : PX} : Le (R_X1_canTakeFirst_2 l G F Q QX) (Wj true l G F Y_X1_canTakeFirst Q QX 0 0 2) := by
  unfold R_X1_canTakeFirst_2
  refine r_iload_n (pc := 2) ?_ dX1_canTakeFirst_2 rfl
  refine r_iconst (pc := 3) ?_ dX1_canTakeFirst_3 (by decide)
  refine r_icge (pc := 4) (t := 36) ?_ ?_ dX1_canTakeFirst_4 (by decide)
  · refine r_iconst (pc := 36) ?_ dX1_canTakeFirst_36 (by decide)
    exact r_zr dX1_canTakeFirst_37 rfl (Nat.le_of_ble_eq_true rfl) (Nat.le_of_ble_eq_true rfl)
  · refine r_aload_n (pc := 7) ?_ dX1_canTakeFirst_7 rfl
    refine r_iload_n (pc := 8) ?_ dX1_canTakeFirst_8 rfl
    refine r_aload_n (pc := 9) ?_ dX1_canTakeFirst_9 rfl
    refine r_gp (pc := 10) (kf := 1) ?_ dX1_canTakeFirst_10 cl_X1 (Nat.le_of_ble_eq_true rfl) rfl wd_1_93 pv_X1_1
    refine r_iload_n (pc := 13) ?_ dX1_canTakeFirst_13 rfl
    refine r_aload_n (pc := 14) ?_ dX1_canTakeFirst_14 rfl
    refine r_gi (pc := 15) ?_ dX1_canTakeFirst_15 cl_X1 (Nat.le_of_ble_eq_true rfl) rfl wd_1_103
    refine r_iload_n (pc := 18) ?_ dX1_canTakeFirst_18 rfl
    refine r_cv0 (pc := 19) ?_ dX1_canTakeFirst_19 cl_X5 ok_X5_hoursOfFirst rfl wd_4_5 ⟨Nat.le_of_ble_eq_true rfl, Nat.le_of_ble_eq_true rfl⟩ ⟨Nat.le_of_ble_eq_true rfl, Nat.le_of_ble_eq_true rfl⟩ rfl rfl
    refine r_cv0 (pc := 22) ?_ dX1_canTakeFirst_22 cl_X1 ok_X1_canAdd rfl wd_4_9 ⟨Nat.le_of_ble_eq_true rfl, Nat.le_of_ble_eq_true rfl⟩ ⟨Nat.le_of_ble_eq_true rfl, Nat.le_of_ble_eq_true rfl⟩ rfl rfl
    refine r_ifne (pc := 25) (t := 30) ?_ ?_ dX1_canTakeFirst_25 (by decide)
    · refine r_iinc (pc := 30) ?_ dX1_canTakeFirst_30 (by decide) (Nat.le_of_ble_eq_true rfl)
      refine r_goto (pc := 33) (t := 2) ?_ dX1_canTakeFirst_33 (by decide)
      exact Le.rf
    · refine r_iconst (pc := 28) ?_ dX1_canTakeFirst_28 (by decide)
      exact r_zr dX1_canTakeFirst_29 rfl (Nat.le_of_ble_eq_true rfl) (Nat.le_of_ble_eq_true rfl)
abbrev Y_X5_removeAt : YT := (yX5_removeAt, cX5_removeAt, 3, none, 1, 39, 0, 0)
theorem ok_X5_removeAt : okV Y_X5_removeAt 1 := ⟨⟨wd_2_192, wd_1_5, by decide, by decide, by decide +kernel⟩, wd_2_190, wd_2_191⟩
def R_X5_removeAt_0 (l : Launch) (G : GT) (F : FX) (Q : PQ) (QX : PX) : KT := (I_il 1 (I_iflt (I_vr Q) (I_il 1 (I_al 0 (I_gi 3 1 2 (I_icge (I_vr Q) (I_al 0 (I_gi 3 1 2 (I_ic 20 (I_icle (I_ic 0 (I_is 2 (Wj true l G F Y_X5_removeAt Q QX 0 0 24))) (I_vr Q)))))))))))
set_option maxRecDepth 100000 in
theorem g_X5_removeAt_0 {l : Launch} {G : GT} {F : FX} {Q : PQ} {QX : PX} : Le (R_X5_removeAt_0 l G F Q QX) (Wj true l G F Y_X5_removeAt Q QX 0 0 0) := by
  unfold R_X5_removeAt_0
  refine r_iload_n (pc := 0) ?_ dX5_removeAt_0 rfl
  refine r_iflt (pc := 1) (t := 21) ?_ ?_ dX5_removeAt_1 (by decide)
  · exact r_vr dX5_removeAt_21 rfl (Nat.le_of_ble_eq_true rfl) (Nat.le_of_ble_eq_true rfl)
  · refine r_iload_n (pc := 4) ?_ dX5_removeAt_4 rfl
    refine r_aload_n (pc := 5) ?_ dX5_removeAt_5 rfl
    refine r_gi (pc := 6) ?_ dX5_removeAt_6 cl_X5 (Nat.le_of_ble_eq_true rfl) rfl wd_1_69
    refine r_icge (pc := 9) (t := 21) ?_ ?_ dX5_removeAt_9 (by decide)
    · exact r_vr dX5_removeAt_21 rfl (Nat.le_of_ble_eq_true rfl) (Nat.le_of_ble_eq_true rfl)
    · refine r_aload_n (pc := 12) ?_ dX5_removeAt_12 rfl
      refine r_gi (pc := 13) ?_ dX5_removeAt_13 cl_X5 (Nat.le_of_ble_eq_true rfl) rfl wd_1_69
      refine r_bipush (pc := 16) ?_ dX5_removeAt_16 (by decide)
      refine r_icle (pc := 18) (t := 22) ?_ ?_ dX5_removeAt_18 (by decide)
      · refine r_iconst (pc := 22) ?_ dX5_removeAt_22 (by decide)
        refine r_istore_n (pc := 23) ?_ dX5_removeAt_23 rfl (Nat.le_of_ble_eq_true rfl)
        exact Le.rf
      · exact r_vr dX5_removeAt_21 rfl (Nat.le_of_ble_eq_true rfl) (Nat.le_of_ble_eq_true rfl)
def R_X5_removeAt_24 (l : Launch) (G : GT) (F : FX) (Q : PQ) (QX : PX) : KT := (I_il 2 (I_ic 4 (I_icge (I_al 0 (I_dup (I_gi 3 1 2 (I_ic 1 (I_isub (I_pi 3 1 2 (I_vr Q))))))) (I_al 0 (I_gp 3 2 1 (I_il 2 (I_aal 2 1 1 (I_il 1 (I_ic 1 (I_iadd (I_al 0 (I_gp 3 2 1 (I_il 2 (I_aal 2 1 1 (I_il 1 (I_al 0 (I_gi 3 1 2 (I_il 1 (I_isub (I_ic 1 (I_isub (I_cpi (I_inc 2 1 (Wj true l G F Y_X5_removeAt Q QX 0 0 24))))))))))))))))))))))))
set_option maxRecDepth 100000 in
theorem g_X5_removeAt_24 {l : Launch} {G : GT} {F : FX} {Q : PQ} {QX : PX} : Le (R_X5_removeAt_24 l G F Q QX) (Wj true l G F Y_X5_removeAt Q QX 0 0 24) := by
  unfold R_X5_removeAt_24
  refine r_iload_n (pc := 24) ?_ dX5_removeAt_24 rfl
  refine r_iconst (pc := 25) ?_ dX5_removeAt_25 (by decide)
  refine r_icge (pc := 26) (t := 62) ?_ ?_ dX5_removeAt_26 (by decide)
  · refine r_aload_n (pc := 62) ?_ dX5_removeAt_62 rfl
    refine r_dup (pc := 63) ?_ dX5_removeAt_63
    refine r_gi (pc := 64) ?_ dX5_removeAt_64 cl_X5 (Nat.le_of_ble_eq_true rfl) rfl wd_1_69
    refine r_iconst (pc := 67) ?_ dX5_removeAt_67 (by decide)
    refine r_isub (pc := 68) ?_ dX5_removeAt_68
    refine r_pi (pc := 69) ?_ dX5_removeAt_69 cl_X5 (Nat.le_of_ble_eq_true rfl) rfl wd_1_69 rfl pd_X5_1
    exact r_vr dX5_removeAt_72 rfl (Nat.le_of_ble_eq_true rfl) (Nat.le_of_ble_eq_true rfl)
  · refine r_aload_n (pc := 29) ?_ dX5_removeAt_29 rfl
    refine r_gp (pc := 30) (kf := 0) ?_ dX5_removeAt_30 cl_X5 (Nat.le_of_ble_eq_true rfl) rfl wd_1_68 pv_X5_0
    refine r_iload_n (pc := 33) ?_ dX5_removeAt_33 rfl
    refine r_aal (pc := 34) ?_ dX5_removeAt_34 rfl rfl pa_2
    refine r_iload_n (pc := 35) ?_ dX5_removeAt_35 rfl
    refine r_iconst (pc := 36) ?_ dX5_removeAt_36 (by decide)
    refine r_iadd (pc := 37) ?_ dX5_removeAt_37
    refine r_aload_n (pc := 38) ?_ dX5_removeAt_38 rfl
    refine r_gp (pc := 39) (kf := 0) ?_ dX5_removeAt_39 cl_X5 (Nat.le_of_ble_eq_true rfl) rfl wd_1_68 pv_X5_0
    refine r_iload_n (pc := 42) ?_ dX5_removeAt_42 rfl
    refine r_aal (pc := 43) ?_ dX5_removeAt_43 rfl rfl pa_2
    refine r_iload_n (pc := 44) ?_ dX5_removeAt_44 rfl
    refine r_aload_n (pc := 45) ?_ dX5_removeAt_45 rfl
    refine r_gi (pc := 46) ?_ dX5_removeAt_46 cl_X5 (Nat.le_of_ble_eq_true rfl) rfl wd_1_69
    refine r_iload_n (pc := 49) ?_ dX5_removeAt_49 rfl
    refine r_isub (pc := 50) ?_ dX5_removeAt_50
    refine r_iconst (pc := 51) ?_ dX5_removeAt_51 (by decide)
    refine r_isub (pc := 52) ?_ dX5_removeAt_52
    refine r_cpi (pc := 53) ?_ dX5_removeAt_53 wd_2_146 wd_2_132 wd_2_131 wd_1_15 ⟨Nat.le_of_ble_eq_true rfl, Nat.le_of_ble_eq_true rfl⟩
    refine r_iinc (pc := 56) ?_ dX5_removeAt_56 (by decide) (Nat.le_of_ble_eq_true rfl)
    refine r_goto (pc := 59) (t := 24) ?_ dX5_removeAt_59 (by decide)
    exact Le.rf
abbrev Y_X1_takeFirst : YT := (yX1_takeFirst, cX1_takeFirst, 5, (some .int), 2, 61, 0, 0)
theorem ok_X1_takeFirst : okV Y_X1_takeFirst 1 := ⟨⟨wd_4_25, wd_1_4, by decide, by decide, by decide +kernel⟩, wd_4_23, wd_4_24⟩
def R_X1_takeFirst_0 (l : Launch) (G : GT) (F : FX) (Q : PQ) (QX : PX) : KT := (I_ic 0 (I_is 2 (I_ic 0 (I_is 3 (I_al 0 (I_gp 0 11 2 (I_gi 3 1 2 (I_is 4 (Wj true l G F Y_X1_takeFirst Q QX 0 0 13)))))))))
set_option maxRecDepth 100000 in
theorem g_X1_takeFirst_0 {l : Launch} {G : GT} {F : FX} {Q : PQ} {QX : PX} : Le (R_X1_takeFirst_0 l G F Q QX) (Wj true l G F Y_X1_takeFirst Q QX 0 0 0) := by
  unfold R_X1_takeFirst_0
  refine r_iconst (pc := 0) ?_ dX1_takeFirst_0 (by decide)
  refine r_istore_n (pc := 1) ?_ dX1_takeFirst_1 rfl (Nat.le_of_ble_eq_true rfl)
  refine r_iconst (pc := 2) ?_ dX1_takeFirst_2 (by decide)
  refine r_istore_n (pc := 3) ?_ dX1_takeFirst_3 rfl (Nat.le_of_ble_eq_true rfl)
  refine r_aload_n (pc := 4) ?_ dX1_takeFirst_4 rfl
  refine r_gp (pc := 5) (kf := 1) ?_ dX1_takeFirst_5 cl_X1 (Nat.le_of_ble_eq_true rfl) rfl wd_1_93 pv_X1_1
  refine r_gi (pc := 8) ?_ dX1_takeFirst_8 cl_X5 (Nat.le_of_ble_eq_true rfl) rfl wd_1_70
  refine r_istore (pc := 11) ?_ dX1_takeFirst_11 (Nat.le_of_ble_eq_true rfl)
  exact Le.rf
def R_X1_takeFirst_13 (l : Launch) (G : GT) (F : FX) (Q : PQ) (QX : PX) : KT := (I_il 4 (I_ifle (I_il 2 (I_ir Q)) (I_il 2 (I_il 1 (I_icge (I_il 2 (I_ir Q)) (I_al 0 (I_gp 0 11 2 (I_il 3 (I_ic 3 (I_cv (Tr true l G Y_X5_valueAt) 3 2 2 QX (I_al 0 (I_gi 0 6 11 (I_icne (I_inc 3 1 (I_inc 4 (-1) (Wj true l G F Y_X1_takeFirst Q QX 0 0 13))) (I_al 0 (I_al 0 (I_gp 0 11 2 (I_il 3 (I_ic 0 (I_cv (Tr true l G Y_X5_valueAt) 3 2 2 QX (I_al 0 (I_gp 0 11 2 (I_il 3 (I_ic 1 (I_cv (Tr true l G Y_X5_valueAt) 3 2 2 QX (I_cv (Tr true l G Y_X1_addDone) 0 11 2 QX (I_al 0 (I_gp 0 11 2 (I_il 3 (I_cv (Tr true l G Y_X5_removeAt) 3 2 1 QX (I_inc 2 1 (I_inc 4 (-1) (Wj true l G F Y_X1_takeFirst Q QX 0 0 13))))))))))))))))))))))))))))))))
set_option maxRecDepth 100000 in
theorem g_X1_takeFirst_13 {l : Launch} {G : GT} {F : FX} {Q : PQ} {QX : PX} : Le (R_X1_takeFirst_13 l G F Q QX) (Wj true l G F Y_X1_takeFirst Q QX 0 0 13) := by
  unfold R_X1_takeFirst_13
  refine r_iload (pc := 13) ?_ dX1_takeFirst_13
  refine r_ifle (pc := 15) (t := 84) ?_ ?_ dX1_takeFirst_15 (by decide)
  · refine r_iload_n (pc := 84) ?_ dX1_takeFirst_84 rfl
    exact r_ir dX1_takeFirst_85 rfl (Nat.le_of_ble_eq_true rfl) (Nat.le_of_ble_eq_true rfl)
  · refine r_iload_n (pc := 18) ?_ dX1_takeFirst_18 rfl
    refine r_iload_n (pc := 19) ?_ dX1_takeFirst_19 rfl
    refine r_icge (pc := 20) (t := 84) ?_ ?_ dX1_takeFirst_20 (by decide)
    · refine r_iload_n (pc := 84) ?_ dX1_takeFirst_84 rfl
      exact r_ir dX1_takeFirst_85 rfl (Nat.le_of_ble_eq_true rfl) (Nat.le_of_ble_eq_true rfl)
    · refine r_aload_n (pc := 23) ?_ dX1_takeFirst_23 rfl
      refine r_gp (pc := 24) (kf := 1) ?_ dX1_takeFirst_24 cl_X1 (Nat.le_of_ble_eq_true rfl) rfl wd_1_93 pv_X1_1
      refine r_iload_n (pc := 27) ?_ dX1_takeFirst_27 rfl
      refine r_iconst (pc := 28) ?_ dX1_takeFirst_28 (by decide)
      refine r_cv0 (pc := 29) ?_ dX1_takeFirst_29 cl_X5 ok_X5_valueAt rfl wd_2_177 ⟨Nat.le_of_ble_eq_true rfl, Nat.le_of_ble_eq_true rfl⟩ ⟨Nat.le_of_ble_eq_true rfl, Nat.le_of_ble_eq_true rfl⟩ rfl rfl
      refine r_aload_n (pc := 32) ?_ dX1_takeFirst_32 rfl
      refine r_gi (pc := 33) ?_ dX1_takeFirst_33 cl_X1 (Nat.le_of_ble_eq_true rfl) rfl wd_1_103
      refine r_icne (pc := 36) (t := 75) ?_ ?_ dX1_takeFirst_36 (by decide)
      · refine r_iinc (pc := 75) ?_ dX1_takeFirst_75 (by decide) (Nat.le_of_ble_eq_true rfl)
        refine r_iinc (pc := 78) ?_ dX1_takeFirst_78 (by decide) (Nat.le_of_ble_eq_true rfl)
        refine r_goto (pc := 81) (t := 13) ?_ dX1_takeFirst_81 (by decide)
        exact Le.rf
      · refine r_aload_n (pc := 39) ?_ dX1_takeFirst_39 rfl
        refine r_aload_n (pc := 40) ?_ dX1_takeFirst_40 rfl
        refine r_gp (pc := 41) (kf := 1) ?_ dX1_takeFirst_41 cl_X1 (Nat.le_of_ble_eq_true rfl) rfl wd_1_93 pv_X1_1
        refine r_iload_n (pc := 44) ?_ dX1_takeFirst_44 rfl
        refine r_iconst (pc := 45) ?_ dX1_takeFirst_45 (by decide)
        refine r_cv0 (pc := 46) ?_ dX1_takeFirst_46 cl_X5 ok_X5_valueAt rfl wd_2_177 ⟨Nat.le_of_ble_eq_true rfl, Nat.le_of_ble_eq_true rfl⟩ ⟨Nat.le_of_ble_eq_true rfl, Nat.le_of_ble_eq_true rfl⟩ rfl rfl
        refine r_aload_n (pc := 49) ?_ dX1_takeFirst_49 rfl
        refine r_gp (pc := 50) (kf := 1) ?_ dX1_takeFirst_50 cl_X1 (Nat.le_of_ble_eq_true rfl) rfl wd_1_93 pv_X1_1
        refine r_iload_n (pc := 53) ?_ dX1_takeFirst_53 rfl
        refine r_iconst (pc := 54) ?_ dX1_takeFirst_54 (by decide)
        refine r_cv0 (pc := 55) ?_ dX1_takeFirst_55 cl_X5 ok_X5_valueAt rfl wd_2_177 ⟨Nat.le_of_ble_eq_true rfl, Nat.le_of_ble_eq_true rfl⟩ ⟨Nat.le_of_ble_eq_true rfl, Nat.le_of_ble_eq_true rfl⟩ rfl rfl
        refine r_cv0 (pc := 58) ?_ dX1_takeFirst_58 cl_X1 ok_X1_addDone rfl wd_4_26 ⟨Nat.le_of_ble_eq_true rfl, Nat.le_of_ble_eq_true rfl⟩ ⟨Nat.le_of_ble_eq_true rfl, Nat.le_of_ble_eq_true rfl⟩ rfl rfl
        refine r_aload_n (pc := 61) ?_ dX1_takeFirst_61 rfl
        refine r_gp (pc := 62) (kf := 1) ?_ dX1_takeFirst_62 cl_X1 (Nat.le_of_ble_eq_true rfl) rfl wd_1_93 pv_X1_1
        refine r_iload_n (pc := 65) ?_ dX1_takeFirst_65 rfl
        refine r_cv0 (pc := 66) ?_ dX1_takeFirst_66 cl_X5 ok_X5_removeAt rfl wd_2_189 ⟨Nat.le_of_ble_eq_true rfl, Nat.le_of_ble_eq_true rfl⟩ ⟨Nat.le_of_ble_eq_true rfl, Nat.le_of_ble_eq_true rfl⟩ rfl rfl
        refine r_iinc (pc := 69) ?_ dX1_takeFirst_69 (by decide) (Nat.le_of_ble_eq_true rfl)
        refine r_goto (pc := 72) (t := 78) ?_ dX1_takeFirst_72 (by decide)
        refine r_iinc (pc := 78) ?_ dX1_takeFirst_78 (by decide) (Nat.le_of_ble_eq_true rfl)
        refine r_goto (pc := 81) (t := 13) ?_ dX1_takeFirst_81 (by decide)
        exact Le.rf
abbrev Y_X1_doubtAt : YT := (yX1_doubtAt, cX1_doubtAt, 2, none, 2, 61, 0, 0)
theorem ok_X1_doubtAt : okV Y_X1_doubtAt 1 := ⟨⟨wd_2_184, wd_1_4, by decide, by decide, by decide +kernel⟩, wd_2_182, wd_2_183⟩
def R_X1_doubtAt_0 (l : Launch) (G : GT) (F : FX) (Q : PQ) (QX : PX) : KT := (I_al 0 (I_gp 0 11 8 (I_al 0 (I_gp 0 11 2 (I_il 1 (I_ic 0 (I_cv (Tr true l G Y_X5_valueAt) 3 2 2 QX (I_al 0 (I_gp 0 11 2 (I_il 1 (I_ic 1 (I_cv (Tr true l G Y_X5_valueAt) 3 2 2 QX (I_al 0 (I_gp 0 11 2 (I_il 1 (I_ic 2 (I_cv (Tr true l G Y_X5_valueAt) 3 2 2 QX (I_al 0 (I_gp 0 11 2 (I_il 1 (I_ic 3 (I_cv (Tr true l G Y_X5_valueAt) 3 2 2 QX (I_cv (Tr true l G Y_X5_append) 3 2 4 QX (I_al 0 (I_gp 0 11 2 (I_il 1 (I_cv (Tr true l G Y_X5_removeAt) 3 2 1 QX (I_vr Q))))))))))))))))))))))))))))
set_option maxRecDepth 100000 in
theorem g_X1_doubtAt_0 {l : Launch} {G : GT} {F : FX} {Q : PQ} {QX : PX} : Le (R_X1_doubtAt_0 l G F Q QX) (Wj true l G F Y_X1_doubtAt Q QX 0 0 0) := by
  unfold R_X1_doubtAt_0
  refine r_aload_n (pc := 0) ?_ dX1_doubtAt_0 rfl
  refine r_gp (pc := 1) (kf := 2) ?_ dX1_doubtAt_1 cl_X1 (Nat.le_of_ble_eq_true rfl) rfl wd_1_95 pv_X1_2
  refine r_aload_n (pc := 4) ?_ dX1_doubtAt_4 rfl
  refine r_gp (pc := 5) (kf := 1) ?_ dX1_doubtAt_5 cl_X1 (Nat.le_of_ble_eq_true rfl) rfl wd_1_93 pv_X1_1
  refine r_iload_n (pc := 8) ?_ dX1_doubtAt_8 rfl
  refine r_iconst (pc := 9) ?_ dX1_doubtAt_9 (by decide)
  refine r_cv0 (pc := 10) ?_ dX1_doubtAt_10 cl_X5 ok_X5_valueAt rfl wd_2_177 ⟨Nat.le_of_ble_eq_true rfl, Nat.le_of_ble_eq_true rfl⟩ ⟨Nat.le_of_ble_eq_true rfl, Nat.le_of_ble_eq_true rfl⟩ rfl rfl
  refine r_aload_n (pc := 13) ?_ dX1_doubtAt_13 rfl
  refine r_gp (pc := 14) (kf := 1) ?_ dX1_doubtAt_14 cl_X1 (Nat.le_of_ble_eq_true rfl) rfl wd_1_93 pv_X1_1
  refine r_iload_n (pc := 17) ?_ dX1_doubtAt_17 rfl
  refine r_iconst (pc := 18) ?_ dX1_doubtAt_18 (by decide)
  refine r_cv0 (pc := 19) ?_ dX1_doubtAt_19 cl_X5 ok_X5_valueAt rfl wd_2_177 ⟨Nat.le_of_ble_eq_true rfl, Nat.le_of_ble_eq_true rfl⟩ ⟨Nat.le_of_ble_eq_true rfl, Nat.le_of_ble_eq_true rfl⟩ rfl rfl
  refine r_aload_n (pc := 22) ?_ dX1_doubtAt_22 rfl
  refine r_gp (pc := 23) (kf := 1) ?_ dX1_doubtAt_23 cl_X1 (Nat.le_of_ble_eq_true rfl) rfl wd_1_93 pv_X1_1
  refine r_iload_n (pc := 26) ?_ dX1_doubtAt_26 rfl
  refine r_iconst (pc := 27) ?_ dX1_doubtAt_27 (by decide)
  refine r_cv0 (pc := 28) ?_ dX1_doubtAt_28 cl_X5 ok_X5_valueAt rfl wd_2_177 ⟨Nat.le_of_ble_eq_true rfl, Nat.le_of_ble_eq_true rfl⟩ ⟨Nat.le_of_ble_eq_true rfl, Nat.le_of_ble_eq_true rfl⟩ rfl rfl
  refine r_aload_n (pc := 31) ?_ dX1_doubtAt_31 rfl
  refine r_gp (pc := 32) (kf := 1) ?_ dX1_doubtAt_32 cl_X1 (Nat.le_of_ble_eq_true rfl) rfl wd_1_93 pv_X1_1
  refine r_iload_n (pc := 35) ?_ dX1_doubtAt_35 rfl
  refine r_iconst (pc := 36) ?_ dX1_doubtAt_36 (by decide)
  refine r_cv0 (pc := 37) ?_ dX1_doubtAt_37 cl_X5 ok_X5_valueAt rfl wd_2_177 ⟨Nat.le_of_ble_eq_true rfl, Nat.le_of_ble_eq_true rfl⟩ ⟨Nat.le_of_ble_eq_true rfl, Nat.le_of_ble_eq_true rfl⟩ rfl rfl
  refine r_cv0 (pc := 40) ?_ dX1_doubtAt_40 cl_X5 ok_X5_append rfl wd_2_185 ⟨Nat.le_of_ble_eq_true rfl, Nat.le_of_ble_eq_true rfl⟩ ⟨Nat.le_of_ble_eq_true rfl, Nat.le_of_ble_eq_true rfl⟩ rfl rfl
  refine r_aload_n (pc := 43) ?_ dX1_doubtAt_43 rfl
  refine r_gp (pc := 44) (kf := 1) ?_ dX1_doubtAt_44 cl_X1 (Nat.le_of_ble_eq_true rfl) rfl wd_1_93 pv_X1_1
  refine r_iload_n (pc := 47) ?_ dX1_doubtAt_47 rfl
  refine r_cv0 (pc := 48) ?_ dX1_doubtAt_48 cl_X5 ok_X5_removeAt rfl wd_2_189 ⟨Nat.le_of_ble_eq_true rfl, Nat.le_of_ble_eq_true rfl⟩ ⟨Nat.le_of_ble_eq_true rfl, Nat.le_of_ble_eq_true rfl⟩ rfl rfl
  exact r_vr dX1_doubtAt_51 rfl (Nat.le_of_ble_eq_true rfl) (Nat.le_of_ble_eq_true rfl)
abbrev Y_X1_doubtUntil : YT := (yX1_doubtUntil, cX1_doubtUntil, 5, (some .int), 3, 82, 0, 0)
theorem ok_X1_doubtUntil : okV Y_X1_doubtUntil 1 := ⟨⟨wd_2_176, wd_1_4, by decide, by decide, by decide +kernel⟩, wd_2_174, wd_2_175⟩
def R_X1_doubtUntil_0 (l : Launch) (G : GT) (F : FX) (Q : PQ) (QX : PX) : KT := (I_ic 0 (I_is 2 (I_ic 0 (I_is 3 (I_al 0 (I_gp 0 11 2 (I_gi 3 1 2 (I_is 4 (Wj true l G F Y_X1_doubtUntil Q QX 0 0 13)))))))))
set_option maxRecDepth 100000 in
theorem g_X1_doubtUntil_0 {l : Launch} {G : GT} {F : FX} {Q : PQ} {QX : PX} : Le (R_X1_doubtUntil_0 l G F Q QX) (Wj true l G F Y_X1_doubtUntil Q QX 0 0 0) := by
  unfold R_X1_doubtUntil_0
  refine r_iconst (pc := 0) ?_ dX1_doubtUntil_0 (by decide)
  refine r_istore_n (pc := 1) ?_ dX1_doubtUntil_1 rfl (Nat.le_of_ble_eq_true rfl)
  refine r_iconst (pc := 2) ?_ dX1_doubtUntil_2 (by decide)
  refine r_istore_n (pc := 3) ?_ dX1_doubtUntil_3 rfl (Nat.le_of_ble_eq_true rfl)
  refine r_aload_n (pc := 4) ?_ dX1_doubtUntil_4 rfl
  refine r_gp (pc := 5) (kf := 1) ?_ dX1_doubtUntil_5 cl_X1 (Nat.le_of_ble_eq_true rfl) rfl wd_1_93 pv_X1_1
  refine r_gi (pc := 8) ?_ dX1_doubtUntil_8 cl_X5 (Nat.le_of_ble_eq_true rfl) rfl wd_1_70
  refine r_istore (pc := 11) ?_ dX1_doubtUntil_11 (Nat.le_of_ble_eq_true rfl)
  exact Le.rf
def R_X1_doubtUntil_13 (l : Launch) (G : GT) (F : FX) (Q : PQ) (QX : PX) : KT := (I_il 4 (I_ifle (I_il 2 (I_ir Q)) (I_al 0 (I_gp 0 11 2 (I_il 3 (I_ic 2 (I_cv (Tr true l G Y_X5_valueAt) 3 2 2 QX (I_il 1 (I_icgt (I_inc 3 1 (I_inc 4 (-1) (Wj true l G F Y_X1_doubtUntil Q QX 0 0 13))) (I_al 0 (I_il 3 (I_cv (Tr true l G Y_X1_doubtAt) 0 11 1 QX (I_inc 2 1 (I_inc 4 (-1) (Wj true l G F Y_X1_doubtUntil Q QX 0 0 13)))))))))))))))
set_option maxRecDepth 100000 in
theorem g_X1_doubtUntil_13 {l : Launch} {G : GT} {F : FX} {Q : PQ} {QX : PX} : Le (R_X1_doubtUntil_13 l G F Q QX) (Wj true l G F Y_X1_doubtUntil Q QX 0 0 13) := by
  unfold R_X1_doubtUntil_13
  refine r_iload (pc := 13) ?_ dX1_doubtUntil_13
  refine r_ifle (pc := 15) (t := 51) ?_ ?_ dX1_doubtUntil_15 (by decide)
  · refine r_iload_n (pc := 51) ?_ dX1_doubtUntil_51 rfl
    exact r_ir dX1_doubtUntil_52 rfl (Nat.le_of_ble_eq_true rfl) (Nat.le_of_ble_eq_true rfl)
  · refine r_aload_n (pc := 18) ?_ dX1_doubtUntil_18 rfl
    refine r_gp (pc := 19) (kf := 1) ?_ dX1_doubtUntil_19 cl_X1 (Nat.le_of_ble_eq_true rfl) rfl wd_1_93 pv_X1_1
    refine r_iload_n (pc := 22) ?_ dX1_doubtUntil_22 rfl
    refine r_iconst (pc := 23) ?_ dX1_doubtUntil_23 (by decide)
    refine r_cv0 (pc := 24) ?_ dX1_doubtUntil_24 cl_X5 ok_X5_valueAt rfl wd_2_177 ⟨Nat.le_of_ble_eq_true rfl, Nat.le_of_ble_eq_true rfl⟩ ⟨Nat.le_of_ble_eq_true rfl, Nat.le_of_ble_eq_true rfl⟩ rfl rfl
    refine r_iload_n (pc := 27) ?_ dX1_doubtUntil_27 rfl
    refine r_icgt (pc := 28) (t := 42) ?_ ?_ dX1_doubtUntil_28 (by decide)
    · refine r_iinc (pc := 42) ?_ dX1_doubtUntil_42 (by decide) (Nat.le_of_ble_eq_true rfl)
      refine r_iinc (pc := 45) ?_ dX1_doubtUntil_45 (by decide) (Nat.le_of_ble_eq_true rfl)
      refine r_goto (pc := 48) (t := 13) ?_ dX1_doubtUntil_48 (by decide)
      exact Le.rf
    · refine r_aload_n (pc := 31) ?_ dX1_doubtUntil_31 rfl
      refine r_iload_n (pc := 32) ?_ dX1_doubtUntil_32 rfl
      refine r_cv0 (pc := 33) ?_ dX1_doubtUntil_33 cl_X1 ok_X1_doubtAt rfl wd_2_181 ⟨Nat.le_of_ble_eq_true rfl, Nat.le_of_ble_eq_true rfl⟩ ⟨Nat.le_of_ble_eq_true rfl, Nat.le_of_ble_eq_true rfl⟩ rfl rfl
      refine r_iinc (pc := 36) ?_ dX1_doubtUntil_36 (by decide) (Nat.le_of_ble_eq_true rfl)
      refine r_goto (pc := 39) (t := 45) ?_ dX1_doubtUntil_39 (by decide)
      refine r_iinc (pc := 45) ?_ dX1_doubtUntil_45 (by decide) (Nat.le_of_ble_eq_true rfl)
      refine r_goto (pc := 48) (t := 13) ?_ dX1_doubtUntil_48 (by decide)
      exact Le.rf
abbrev Y_X5_countWith : YT := (yX5_countWith, cX5_countWith, 4, (some .int), 1, 23, 0, 0)
theorem ok_X5_countWith : okV Y_X5_countWith 1 := ⟨⟨wd_3_39, wd_1_5, by decide, by decide, by decide +kernel⟩, wd_3_37, wd_3_38⟩
def R_X5_countWith_0 (l : Launch) (G : GT) (F : FX) (Q : PQ) (QX : PX) : KT := (I_ic 0 (I_is 2 (I_ic 0 (I_is 3 (Wj true l G F Y_X5_countWith Q QX 0 0 4)))))
set_option maxRecDepth 100000 in
theorem g_X5_countWith_0 {l : Launch} {G : GT} {F : FX} {Q : PQ} {QX : PX} : Le (R_X5_countWith_0 l G F Q QX) (Wj true l G F Y_X5_countWith Q QX 0 0 0) := by
  unfold R_X5_countWith_0
  refine r_iconst (pc := 0) ?_ dX5_countWith_0 (by decide)
  refine r_istore_n (pc := 1) ?_ dX5_countWith_1 rfl (Nat.le_of_ble_eq_true rfl)
  refine r_iconst (pc := 2) ?_ dX5_countWith_2 (by decide)
  refine r_istore_n (pc := 3) ?_ dX5_countWith_3 rfl (Nat.le_of_ble_eq_true rfl)
  exact Le.rf
def R_X5_countWith_4 (l : Launch) (G : GT) (F : FX) (Q : PQ) (QX : PX) : KT := (I_il 3 (I_al 0 (I_gi 3 1 2 (I_icge (I_il 2 (I_ir Q)) (I_al 0 (I_il 3 (I_ic 3 (I_cv (Tr true l G Y_X5_valueAt) 3 2 2 QX (I_il 1 (I_icne (I_inc 3 1 (Wj true l G F Y_X5_countWith Q QX 0 0 4)) (I_inc 2 1 (I_inc 3 1 (Wj true l G F Y_X5_countWith Q QX 0 0 4)))))))))))))
set_option maxRecDepth 100000 in
theorem g_X5_countWith_4 {l : Launch} {G : GT} {F : FX} {Q : PQ} {QX : PX} : Le (R_X5_countWith_4 l G F Q QX) (Wj true l G F Y_X5_countWith Q QX 0 0 4) := by
  unfold R_X5_countWith_4
  refine r_iload_n (pc := 4) ?_ dX5_countWith_4 rfl
  refine r_aload_n (pc := 5) ?_ dX5_countWith_5 rfl
  refine r_gi (pc := 6) ?_ dX5_countWith_6 cl_X5 (Nat.le_of_ble_eq_true rfl) rfl wd_1_69
  refine r_icge (pc := 9) (t := 31) ?_ ?_ dX5_countWith_9 (by decide)
  · refine r_iload_n (pc := 31) ?_ dX5_countWith_31 rfl
    exact r_ir dX5_countWith_32 rfl (Nat.le_of_ble_eq_true rfl) (Nat.le_of_ble_eq_true rfl)
  · refine r_aload_n (pc := 12) ?_ dX5_countWith_12 rfl
    refine r_iload_n (pc := 13) ?_ dX5_countWith_13 rfl
    refine r_iconst (pc := 14) ?_ dX5_countWith_14 (by decide)
    refine r_cv0 (pc := 15) ?_ dX5_countWith_15 cl_X5 ok_X5_valueAt rfl wd_3_40 ⟨Nat.le_of_ble_eq_true rfl, Nat.le_of_ble_eq_true rfl⟩ ⟨Nat.le_of_ble_eq_true rfl, Nat.le_of_ble_eq_true rfl⟩ rfl rfl
    refine r_iload_n (pc := 18) ?_ dX5_countWith_18 rfl
    refine r_icne (pc := 19) (t := 25) ?_ ?_ dX5_countWith_19 (by decide)
    · refine r_iinc (pc := 25) ?_ dX5_countWith_25 (by decide) (Nat.le_of_ble_eq_true rfl)
      refine r_goto (pc := 28) (t := 4) ?_ dX5_countWith_28 (by decide)
      exact Le.rf
    · refine r_iinc (pc := 22) ?_ dX5_countWith_22 (by decide) (Nat.le_of_ble_eq_true rfl)
      refine r_iinc (pc := 25) ?_ dX5_countWith_25 (by decide) (Nat.le_of_ble_eq_true rfl)
      refine r_goto (pc := 28) (t := 4) ?_ dX5_countWith_28 (by decide)
      exact Le.rf
abbrev Y_X1_doubtsWith : YT := (yX1_doubtsWith, cX1_doubtsWith, 2, (some .int), 2, 46, 0, 0)
theorem ok_X1_doubtsWith : okV Y_X1_doubtsWith 1 := ⟨⟨wd_4_195, wd_1_4, by decide, by decide, by decide +kernel⟩, wd_4_193, wd_4_194⟩
def R_X1_doubtsWith_0 (l : Launch) (G : GT) (F : FX) (Q : PQ) (QX : PX) : KT := (I_al 0 (I_gp 0 11 2 (I_gi 3 1 2 (I_al 0 (I_gp 0 11 2 (I_il 1 (I_cv (Tr true l G Y_X5_countWith) 3 2 1 QX (I_isub (I_ir Q)))))))))
set_option maxRecDepth 100000 in
theorem g_X1_doubtsWith_0 {l : Launch} {G : GT} {F : FX} {Q : PQ} {QX : PX} : Le (R_X1_doubtsWith_0 l G F Q QX) (Wj true l G F Y_X1_doubtsWith Q QX 0 0 0) := by
  unfold R_X1_doubtsWith_0
  refine r_aload_n (pc := 0) ?_ dX1_doubtsWith_0 rfl
  refine r_gp (pc := 1) (kf := 1) ?_ dX1_doubtsWith_1 cl_X1 (Nat.le_of_ble_eq_true rfl) rfl wd_1_93 pv_X1_1
  refine r_gi (pc := 4) ?_ dX1_doubtsWith_4 cl_X5 (Nat.le_of_ble_eq_true rfl) rfl wd_1_70
  refine r_aload_n (pc := 7) ?_ dX1_doubtsWith_7 rfl
  refine r_gp (pc := 8) (kf := 1) ?_ dX1_doubtsWith_8 cl_X1 (Nat.le_of_ble_eq_true rfl) rfl wd_1_93 pv_X1_1
  refine r_iload_n (pc := 11) ?_ dX1_doubtsWith_11 rfl
  refine r_cv0 (pc := 12) ?_ dX1_doubtsWith_12 cl_X5 ok_X5_countWith rfl wd_4_196 ⟨Nat.le_of_ble_eq_true rfl, Nat.le_of_ble_eq_true rfl⟩ ⟨Nat.le_of_ble_eq_true rfl, Nat.le_of_ble_eq_true rfl⟩ rfl rfl
  refine r_isub (pc := 15) ?_ dX1_doubtsWith_15
  exact r_ir dX1_doubtsWith_16 rfl (Nat.le_of_ble_eq_true rfl) (Nat.le_of_ble_eq_true rfl)
abbrev Y_X1_leadTo : YT := (yX1_leadTo, cX1_leadTo, 5, (some .int), 3, 82, 0, 0)
theorem ok_X1_leadTo : okV Y_X1_leadTo 1 := ⟨⟨wd_4_123, wd_1_4, by decide, by decide, by decide +kernel⟩, wd_4_121, wd_4_122⟩
def R_X1_leadTo_0 (l : Launch) (G : GT) (F : FX) (Q : PQ) (QX : PX) : KT := (I_ic 0 (I_is 2 (I_ic 0 (I_is 3 (I_al 0 (I_gp 0 11 2 (I_gi 3 1 2 (I_is 4 (Wj true l G F Y_X1_leadTo Q QX 0 0 13)))))))))
set_option maxRecDepth 100000 in
theorem g_X1_leadTo_0 {l : Launch} {G : GT} {F : FX} {Q : PQ} {QX : PX} : Le (R_X1_leadTo_0 l G F Q QX) (Wj true l G F Y_X1_leadTo Q QX 0 0 0) := by
  unfold R_X1_leadTo_0
  refine r_iconst (pc := 0) ?_ dX1_leadTo_0 (by decide)
  refine r_istore_n (pc := 1) ?_ dX1_leadTo_1 rfl (Nat.le_of_ble_eq_true rfl)
  refine r_iconst (pc := 2) ?_ dX1_leadTo_2 (by decide)
  refine r_istore_n (pc := 3) ?_ dX1_leadTo_3 rfl (Nat.le_of_ble_eq_true rfl)
  refine r_aload_n (pc := 4) ?_ dX1_leadTo_4 rfl
  refine r_gp (pc := 5) (kf := 1) ?_ dX1_leadTo_5 cl_X1 (Nat.le_of_ble_eq_true rfl) rfl wd_1_93 pv_X1_1
  refine r_gi (pc := 8) ?_ dX1_leadTo_8 cl_X5 (Nat.le_of_ble_eq_true rfl) rfl wd_1_70
  refine r_istore (pc := 11) ?_ dX1_leadTo_11 (Nat.le_of_ble_eq_true rfl)
  exact Le.rf
def R_X1_leadTo_13 (l : Launch) (G : GT) (F : FX) (Q : PQ) (QX : PX) : KT := (I_il 4 (I_ifle (I_al 0 (I_il 1 (I_pi 0 6 11 (I_al 0 (I_dup (I_gi 0 10 11 (I_ic 1 (I_iadd (I_pi 0 10 11 (I_il 2 (I_ir Q))))))))))) (I_al 0 (I_gp 0 11 2 (I_il 3 (I_ic 3 (I_cv (Tr true l G Y_X5_valueAt) 3 2 2 QX (I_il 1 (I_iceq (I_inc 3 1 (I_inc 4 (-1) (Wj true l G F Y_X1_leadTo Q QX 0 0 13))) (I_al 0 (I_il 3 (I_cv (Tr true l G Y_X1_doubtAt) 0 11 1 QX (I_inc 2 1 (I_inc 4 (-1) (Wj true l G F Y_X1_leadTo Q QX 0 0 13)))))))))))))))
set_option maxRecDepth 100000 in
theorem g_X1_leadTo_13 {l : Launch} {G : GT} {F : FX} {Q : PQ} {QX : PX} : Le (R_X1_leadTo_13 l G F Q QX) (Wj true l G F Y_X1_leadTo Q QX 0 0 13) := by
  unfold R_X1_leadTo_13
  refine r_iload (pc := 13) ?_ dX1_leadTo_13
  refine r_ifle (pc := 15) (t := 51) ?_ ?_ dX1_leadTo_15 (by decide)
  · refine r_aload_n (pc := 51) ?_ dX1_leadTo_51 rfl
    refine r_iload_n (pc := 52) ?_ dX1_leadTo_52 rfl
    refine r_pi (pc := 53) ?_ dX1_leadTo_53 cl_X1 (Nat.le_of_ble_eq_true rfl) rfl wd_1_103 rfl pd_X1_6
    refine r_aload_n (pc := 56) ?_ dX1_leadTo_56 rfl
    refine r_dup (pc := 57) ?_ dX1_leadTo_57
    refine r_gi (pc := 58) ?_ dX1_leadTo_58 cl_X1 (Nat.le_of_ble_eq_true rfl) rfl wd_1_111
    refine r_iconst (pc := 61) ?_ dX1_leadTo_61 (by decide)
    refine r_iadd (pc := 62) ?_ dX1_leadTo_62
    refine r_pi (pc := 63) ?_ dX1_leadTo_63 cl_X1 (Nat.le_of_ble_eq_true rfl) rfl wd_1_111 rfl pd_X1_10
    refine r_iload_n (pc := 66) ?_ dX1_leadTo_66 rfl
    exact r_ir dX1_leadTo_67 rfl (Nat.le_of_ble_eq_true rfl) (Nat.le_of_ble_eq_true rfl)
  · refine r_aload_n (pc := 18) ?_ dX1_leadTo_18 rfl
    refine r_gp (pc := 19) (kf := 1) ?_ dX1_leadTo_19 cl_X1 (Nat.le_of_ble_eq_true rfl) rfl wd_1_93 pv_X1_1
    refine r_iload_n (pc := 22) ?_ dX1_leadTo_22 rfl
    refine r_iconst (pc := 23) ?_ dX1_leadTo_23 (by decide)
    refine r_cv0 (pc := 24) ?_ dX1_leadTo_24 cl_X5 ok_X5_valueAt rfl wd_2_177 ⟨Nat.le_of_ble_eq_true rfl, Nat.le_of_ble_eq_true rfl⟩ ⟨Nat.le_of_ble_eq_true rfl, Nat.le_of_ble_eq_true rfl⟩ rfl rfl
    refine r_iload_n (pc := 27) ?_ dX1_leadTo_27 rfl
    refine r_iceq (pc := 28) (t := 42) ?_ ?_ dX1_leadTo_28 (by decide)
    · refine r_iinc (pc := 42) ?_ dX1_leadTo_42 (by decide) (Nat.le_of_ble_eq_true rfl)
      refine r_iinc (pc := 45) ?_ dX1_leadTo_45 (by decide) (Nat.le_of_ble_eq_true rfl)
      refine r_goto (pc := 48) (t := 13) ?_ dX1_leadTo_48 (by decide)
      exact Le.rf
    · refine r_aload_n (pc := 31) ?_ dX1_leadTo_31 rfl
      refine r_iload_n (pc := 32) ?_ dX1_leadTo_32 rfl
      refine r_cv0 (pc := 33) ?_ dX1_leadTo_33 cl_X1 ok_X1_doubtAt rfl wd_2_181 ⟨Nat.le_of_ble_eq_true rfl, Nat.le_of_ble_eq_true rfl⟩ ⟨Nat.le_of_ble_eq_true rfl, Nat.le_of_ble_eq_true rfl⟩ rfl rfl
      refine r_iinc (pc := 36) ?_ dX1_leadTo_36 (by decide) (Nat.le_of_ble_eq_true rfl)
      refine r_goto (pc := 39) (t := 45) ?_ dX1_leadTo_39 (by decide)
      refine r_iinc (pc := 45) ?_ dX1_leadTo_45 (by decide) (Nat.le_of_ble_eq_true rfl)
      refine r_goto (pc := 48) (t := 13) ?_ dX1_leadTo_48 (by decide)
      exact Le.rf
abbrev Y_X5_copyEntries : YT := (yX5_copyEntries, cX5_copyEntries, 3, none, 1, 39, 0, 0)
theorem ok_X5_copyEntries : okV Y_X5_copyEntries 1 := ⟨⟨wd_2_145, wd_1_5, by decide, by decide, by decide +kernel⟩, wd_2_143, wd_2_144⟩
def R_X5_copyEntries_0 (l : Launch) (G : GT) (F : FX) (Q : PQ) (QX : PX) : KT := (I_ic 0 (I_is 2 (Wj true l G F Y_X5_copyEntries Q QX 0 0 2)))
set_option maxRecDepth 100000 in
theorem g_X5_copyEntries_0 {l : Launch} {G : GT} {F : FX} {Q : PQ} {QX : PX} : Le (R_X5_copyEntries_0 l G F Q QX) (Wj true l G F Y_X5_copyEntries Q QX 0 0 0) := by
  unfold R_X5_copyEntries_0
  refine r_iconst (pc := 0) ?_ dX5_copyEntries_0 (by decide)
  refine r_istore_n (pc := 1) ?_ dX5_copyEntries_1 rfl (Nat.le_of_ble_eq_true rfl)
  exact Le.rf
def R_X5_copyEntries_2 (l : Launch) (G : GT) (F : FX) (Q : PQ) (QX : PX) : KT := (I_il 2 (I_ic 4 (I_icge (I_al 0 (I_al 1 (I_gi 3 1 2 (I_pi 3 1 2 (I_vr Q))))) (I_al 1 (I_gp 3 2 1 (I_il 2 (I_aal 2 1 1 (I_ic 0 (I_al 0 (I_gp 3 2 1 (I_il 2 (I_aal 2 1 1 (I_ic 0 (I_ic 20 (I_cpi (I_inc 2 1 (Wj true l G F Y_X5_copyEntries Q QX 0 0 2)))))))))))))))))
set_option maxRecDepth 100000 in
theorem g_X5_copyEntries_2 {l : Launch} {G : GT} {F : FX} {Q : PQ} {QX : PX} : Le (R_X5_copyEntries_2 l G F Q QX) (Wj true l G F Y_X5_copyEntries Q QX 0 0 2) := by
  unfold R_X5_copyEntries_2
  refine r_iload_n (pc := 2) ?_ dX5_copyEntries_2 rfl
  refine r_iconst (pc := 3) ?_ dX5_copyEntries_3 (by decide)
  refine r_icge (pc := 4) (t := 32) ?_ ?_ dX5_copyEntries_4 (by decide)
  · refine r_aload_n (pc := 32) ?_ dX5_copyEntries_32 rfl
    refine r_aload_n (pc := 33) ?_ dX5_copyEntries_33 rfl
    refine r_gi (pc := 34) ?_ dX5_copyEntries_34 cl_X5 (Nat.le_of_ble_eq_true rfl) rfl wd_1_69
    refine r_pi (pc := 37) ?_ dX5_copyEntries_37 cl_X5 (Nat.le_of_ble_eq_true rfl) rfl wd_1_69 rfl pd_X5_1
    exact r_vr dX5_copyEntries_40 rfl (Nat.le_of_ble_eq_true rfl) (Nat.le_of_ble_eq_true rfl)
  · refine r_aload_n (pc := 7) ?_ dX5_copyEntries_7 rfl
    refine r_gp (pc := 8) (kf := 0) ?_ dX5_copyEntries_8 cl_X5 (Nat.le_of_ble_eq_true rfl) rfl wd_1_68 pv_X5_0
    refine r_iload_n (pc := 11) ?_ dX5_copyEntries_11 rfl
    refine r_aal (pc := 12) ?_ dX5_copyEntries_12 rfl rfl pa_2
    refine r_iconst (pc := 13) ?_ dX5_copyEntries_13 (by decide)
    refine r_aload_n (pc := 14) ?_ dX5_copyEntries_14 rfl
    refine r_gp (pc := 15) (kf := 0) ?_ dX5_copyEntries_15 cl_X5 (Nat.le_of_ble_eq_true rfl) rfl wd_1_68 pv_X5_0
    refine r_iload_n (pc := 18) ?_ dX5_copyEntries_18 rfl
    refine r_aal (pc := 19) ?_ dX5_copyEntries_19 rfl rfl pa_2
    refine r_iconst (pc := 20) ?_ dX5_copyEntries_20 (by decide)
    refine r_bipush (pc := 21) ?_ dX5_copyEntries_21 (by decide)
    refine r_cpi (pc := 23) ?_ dX5_copyEntries_23 wd_2_146 wd_2_132 wd_2_131 wd_1_15 ⟨Nat.le_of_ble_eq_true rfl, Nat.le_of_ble_eq_true rfl⟩
    refine r_iinc (pc := 26) ?_ dX5_copyEntries_26 (by decide) (Nat.le_of_ble_eq_true rfl)
    refine r_goto (pc := 29) (t := 2) ?_ dX5_copyEntries_29 (by decide)
    exact Le.rf
abbrev Y_X4_copyDays : YT := (yX4_copyDays, cX4_copyDays, 2, none, 1, 39, 0, 0)
theorem ok_X4_copyDays : okV Y_X4_copyDays 1 := ⟨⟨wd_2_150, wd_1_6, by decide, by decide, by decide +kernel⟩, wd_2_148, wd_2_149⟩
def R_X4_copyDays_0 (l : Launch) (G : GT) (F : FX) (Q : PQ) (QX : PX) : KT := (I_al 1 (I_gp 2 2 1 (I_ic 0 (I_al 0 (I_gp 2 2 1 (I_ic 0 (I_al 0 (I_gp 2 2 1 (I_len (I_cpl (I_al 0 (I_al 1 (I_gi 2 1 2 (I_pi 2 1 2 (I_vr Q)))))))))))))))
set_option maxRecDepth 100000 in
theorem g_X4_copyDays_0 {l : Launch} {G : GT} {F : FX} {Q : PQ} {QX : PX} : Le (R_X4_copyDays_0 l G F Q QX) (Wj true l G F Y_X4_copyDays Q QX 0 0 0) := by
  unfold R_X4_copyDays_0
  refine r_aload_n (pc := 0) ?_ dX4_copyDays_0 rfl
  refine r_gp (pc := 1) (kf := 0) ?_ dX4_copyDays_1 cl_X4 (Nat.le_of_ble_eq_true rfl) rfl wd_1_83 pv_X4_0
  refine r_iconst (pc := 4) ?_ dX4_copyDays_4 (by decide)
  refine r_aload_n (pc := 5) ?_ dX4_copyDays_5 rfl
  refine r_gp (pc := 6) (kf := 0) ?_ dX4_copyDays_6 cl_X4 (Nat.le_of_ble_eq_true rfl) rfl wd_1_83 pv_X4_0
  refine r_iconst (pc := 9) ?_ dX4_copyDays_9 (by decide)
  refine r_aload_n (pc := 10) ?_ dX4_copyDays_10 rfl
  refine r_gp (pc := 11) (kf := 0) ?_ dX4_copyDays_11 cl_X4 (Nat.le_of_ble_eq_true rfl) rfl wd_1_83 pv_X4_0
  refine r_len (pc := 14) ?_ dX4_copyDays_14
  refine r_cpl (pc := 15) ?_ dX4_copyDays_15 wd_2_151 wd_2_132 wd_2_131 wd_1_15 ⟨Nat.le_of_ble_eq_true rfl, Nat.le_of_ble_eq_true rfl⟩
  refine r_aload_n (pc := 18) ?_ dX4_copyDays_18 rfl
  refine r_aload_n (pc := 19) ?_ dX4_copyDays_19 rfl
  refine r_gi (pc := 20) ?_ dX4_copyDays_20 cl_X4 (Nat.le_of_ble_eq_true rfl) rfl wd_1_84
  refine r_pi (pc := 23) ?_ dX4_copyDays_23 cl_X4 (Nat.le_of_ble_eq_true rfl) rfl wd_1_84 rfl pd_X4_1
  exact r_vr dX4_copyDays_26 rfl (Nat.le_of_ble_eq_true rfl) (Nat.le_of_ble_eq_true rfl)
abbrev Y_X1_copyApprentice : YT := (yX1_copyApprentice, cX1_copyApprentice, 2, none, 2, 61, 0, 0)
theorem ok_X1_copyApprentice : okV Y_X1_copyApprentice 1 := ⟨⟨wd_2_140, wd_1_4, by decide, by decide, by decide +kernel⟩, wd_2_138, wd_2_139⟩
def R_X1_copyApprentice_0 (l : Launch) (G : GT) (F : FX) (Q : PQ) (QX : PX) : KT := (I_al 1 (I_gp 0 11 1 (I_ic 0 (I_al 0 (I_gp 0 11 1 (I_ic 0 (I_ic 3 (I_cpi (I_al 0 (I_gp 0 11 2 (I_al 1 (I_gp 0 11 2 (I_cv (Tr true l G Y_X5_copyEntries) 3 2 1 QX (I_al 0 (I_gp 0 11 8 (I_al 1 (I_gp 0 11 8 (I_cv (Tr true l G Y_X5_copyEntries) 3 2 1 QX (I_al 0 (I_gp 0 11 14 (I_al 1 (I_gp 0 11 14 (I_cv (Tr true l G Y_X4_copyDays) 2 2 1 QX (I_al 0 (I_gp 0 11 16 (I_al 1 (I_gp 0 11 16 (I_cv (Tr true l G Y_X4_copyDays) 2 2 1 QX (I_al 0 (I_al 1 (I_gi 0 5 11 (I_pi 0 5 11 (I_al 0 (I_al 1 (I_gi 0 6 11 (I_pi 0 6 11 (I_al 0 (I_al 1 (I_gi 0 7 11 (I_pi 0 7 11 (I_al 0 (I_al 1 (I_gi 0 8 11 (I_pi 0 8 11 (I_al 0 (I_al 1 (I_gi 0 9 11 (I_pi 0 9 11 (I_al 0 (I_al 1 (I_gi 0 10 11 (I_pi 0 10 11 (I_vr Q)))))))))))))))))))))))))))))))))))))))))))))))))))))
set_option maxRecDepth 100000 in
theorem g_X1_copyApprentice_0 {l : Launch} {G : GT} {F : FX} {Q : PQ} {QX : PX} : Le (R_X1_copyApprentice_0 l G F Q QX) (Wj true l G F Y_X1_copyApprentice Q QX 0 0 0) := by
  unfold R_X1_copyApprentice_0
  refine r_aload_n (pc := 0) ?_ dX1_copyApprentice_0 rfl
  refine r_gp (pc := 1) (kf := 0) ?_ dX1_copyApprentice_1 cl_X1 (Nat.le_of_ble_eq_true rfl) rfl wd_1_92 pv_X1_0
  refine r_iconst (pc := 4) ?_ dX1_copyApprentice_4 (by decide)
  refine r_aload_n (pc := 5) ?_ dX1_copyApprentice_5 rfl
  refine r_gp (pc := 6) (kf := 0) ?_ dX1_copyApprentice_6 cl_X1 (Nat.le_of_ble_eq_true rfl) rfl wd_1_92 pv_X1_0
  refine r_iconst (pc := 9) ?_ dX1_copyApprentice_9 (by decide)
  refine r_iconst (pc := 10) ?_ dX1_copyApprentice_10 (by decide)
  refine r_cpi (pc := 11) ?_ dX1_copyApprentice_11 wd_2_141 wd_2_132 wd_2_131 wd_1_15 ⟨Nat.le_of_ble_eq_true rfl, Nat.le_of_ble_eq_true rfl⟩
  refine r_aload_n (pc := 14) ?_ dX1_copyApprentice_14 rfl
  refine r_gp (pc := 15) (kf := 1) ?_ dX1_copyApprentice_15 cl_X1 (Nat.le_of_ble_eq_true rfl) rfl wd_1_93 pv_X1_1
  refine r_aload_n (pc := 18) ?_ dX1_copyApprentice_18 rfl
  refine r_gp (pc := 19) (kf := 1) ?_ dX1_copyApprentice_19 cl_X1 (Nat.le_of_ble_eq_true rfl) rfl wd_1_93 pv_X1_1
  refine r_cv0 (pc := 22) ?_ dX1_copyApprentice_22 cl_X5 ok_X5_copyEntries rfl wd_2_142 ⟨Nat.le_of_ble_eq_true rfl, Nat.le_of_ble_eq_true rfl⟩ ⟨Nat.le_of_ble_eq_true rfl, Nat.le_of_ble_eq_true rfl⟩ rfl rfl
  refine r_aload_n (pc := 25) ?_ dX1_copyApprentice_25 rfl
  refine r_gp (pc := 26) (kf := 2) ?_ dX1_copyApprentice_26 cl_X1 (Nat.le_of_ble_eq_true rfl) rfl wd_1_95 pv_X1_2
  refine r_aload_n (pc := 29) ?_ dX1_copyApprentice_29 rfl
  refine r_gp (pc := 30) (kf := 2) ?_ dX1_copyApprentice_30 cl_X1 (Nat.le_of_ble_eq_true rfl) rfl wd_1_95 pv_X1_2
  refine r_cv0 (pc := 33) ?_ dX1_copyApprentice_33 cl_X5 ok_X5_copyEntries rfl wd_2_142 ⟨Nat.le_of_ble_eq_true rfl, Nat.le_of_ble_eq_true rfl⟩ ⟨Nat.le_of_ble_eq_true rfl, Nat.le_of_ble_eq_true rfl⟩ rfl rfl
  refine r_aload_n (pc := 36) ?_ dX1_copyApprentice_36 rfl
  refine r_gp (pc := 37) (kf := 3) ?_ dX1_copyApprentice_37 cl_X1 (Nat.le_of_ble_eq_true rfl) rfl wd_1_97 pv_X1_3
  refine r_aload_n (pc := 40) ?_ dX1_copyApprentice_40 rfl
  refine r_gp (pc := 41) (kf := 3) ?_ dX1_copyApprentice_41 cl_X1 (Nat.le_of_ble_eq_true rfl) rfl wd_1_97 pv_X1_3
  refine r_cv0 (pc := 44) ?_ dX1_copyApprentice_44 cl_X4 ok_X4_copyDays rfl wd_2_147 ⟨Nat.le_of_ble_eq_true rfl, Nat.le_of_ble_eq_true rfl⟩ ⟨Nat.le_of_ble_eq_true rfl, Nat.le_of_ble_eq_true rfl⟩ rfl rfl
  refine r_aload_n (pc := 47) ?_ dX1_copyApprentice_47 rfl
  refine r_gp (pc := 48) (kf := 4) ?_ dX1_copyApprentice_48 cl_X1 (Nat.le_of_ble_eq_true rfl) rfl wd_1_99 pv_X1_4
  refine r_aload_n (pc := 51) ?_ dX1_copyApprentice_51 rfl
  refine r_gp (pc := 52) (kf := 4) ?_ dX1_copyApprentice_52 cl_X1 (Nat.le_of_ble_eq_true rfl) rfl wd_1_99 pv_X1_4
  refine r_cv0 (pc := 55) ?_ dX1_copyApprentice_55 cl_X4 ok_X4_copyDays rfl wd_2_147 ⟨Nat.le_of_ble_eq_true rfl, Nat.le_of_ble_eq_true rfl⟩ ⟨Nat.le_of_ble_eq_true rfl, Nat.le_of_ble_eq_true rfl⟩ rfl rfl
  refine r_aload_n (pc := 58) ?_ dX1_copyApprentice_58 rfl
  refine r_aload_n (pc := 59) ?_ dX1_copyApprentice_59 rfl
  refine r_gi (pc := 60) ?_ dX1_copyApprentice_60 cl_X1 (Nat.le_of_ble_eq_true rfl) rfl wd_1_101
  refine r_pi (pc := 63) ?_ dX1_copyApprentice_63 cl_X1 (Nat.le_of_ble_eq_true rfl) rfl wd_1_101 rfl pd_X1_5
  refine r_aload_n (pc := 66) ?_ dX1_copyApprentice_66 rfl
  refine r_aload_n (pc := 67) ?_ dX1_copyApprentice_67 rfl
  refine r_gi (pc := 68) ?_ dX1_copyApprentice_68 cl_X1 (Nat.le_of_ble_eq_true rfl) rfl wd_1_103
  refine r_pi (pc := 71) ?_ dX1_copyApprentice_71 cl_X1 (Nat.le_of_ble_eq_true rfl) rfl wd_1_103 rfl pd_X1_6
  refine r_aload_n (pc := 74) ?_ dX1_copyApprentice_74 rfl
  refine r_aload_n (pc := 75) ?_ dX1_copyApprentice_75 rfl
  refine r_gi (pc := 76) ?_ dX1_copyApprentice_76 cl_X1 (Nat.le_of_ble_eq_true rfl) rfl wd_1_105
  refine r_pi (pc := 79) ?_ dX1_copyApprentice_79 cl_X1 (Nat.le_of_ble_eq_true rfl) rfl wd_1_105 rfl pd_X1_7
  refine r_aload_n (pc := 82) ?_ dX1_copyApprentice_82 rfl
  refine r_aload_n (pc := 83) ?_ dX1_copyApprentice_83 rfl
  refine r_gi (pc := 84) ?_ dX1_copyApprentice_84 cl_X1 (Nat.le_of_ble_eq_true rfl) rfl wd_1_107
  refine r_pi (pc := 87) ?_ dX1_copyApprentice_87 cl_X1 (Nat.le_of_ble_eq_true rfl) rfl wd_1_107 rfl pd_X1_8
  refine r_aload_n (pc := 90) ?_ dX1_copyApprentice_90 rfl
  refine r_aload_n (pc := 91) ?_ dX1_copyApprentice_91 rfl
  refine r_gi (pc := 92) ?_ dX1_copyApprentice_92 cl_X1 (Nat.le_of_ble_eq_true rfl) rfl wd_1_109
  refine r_pi (pc := 95) ?_ dX1_copyApprentice_95 cl_X1 (Nat.le_of_ble_eq_true rfl) rfl wd_1_109 rfl pd_X1_9
  refine r_aload_n (pc := 98) ?_ dX1_copyApprentice_98 rfl
  refine r_aload_n (pc := 99) ?_ dX1_copyApprentice_99 rfl
  refine r_gi (pc := 100) ?_ dX1_copyApprentice_100 cl_X1 (Nat.le_of_ble_eq_true rfl) rfl wd_1_111
  refine r_pi (pc := 103) ?_ dX1_copyApprentice_103 cl_X1 (Nat.le_of_ble_eq_true rfl) rfl wd_1_111 rfl pd_X1_10
  exact r_vr dX1_copyApprentice_106 rfl (Nat.le_of_ble_eq_true rfl) (Nat.le_of_ble_eq_true rfl)
abbrev Y_X4_firstFrom : YT := (yX4_firstFrom, cX4_firstFrom, 3, (some .int), 1, 21, 0, 0)
theorem ok_X4_firstFrom : okV Y_X4_firstFrom 1 := ⟨⟨wd_3_110, wd_1_6, by decide, by decide, by decide +kernel⟩, wd_3_108, wd_3_109⟩
def R_X4_firstFrom_0 (l : Launch) (G : GT) (F : FX) (Q : PQ) (QX : PX) : KT := (I_il 1 (I_ic 0 (I_max (I_is 2 (I_kl 1 (Wj true l G F Y_X4_firstFrom Q QX 0 0 6))))))
set_option maxRecDepth 100000 in
theorem g_X4_firstFrom_0 {l : Launch} {G : GT} {F : FX} {Q : PQ} {QX : PX} : Le (R_X4_firstFrom_0 l G F Q QX) (Wj true l G F Y_X4_firstFrom Q QX 0 0 0) := by
  unfold R_X4_firstFrom_0
  refine r_iload_n (pc := 0) ?_ dX4_firstFrom_0 rfl
  refine r_iconst (pc := 1) ?_ dX4_firstFrom_1 (by decide)
  refine r_max (pc := 2) ?_ dX4_firstFrom_2 wd_3_111 wd_3_9 wd_1_16 wd_3_10 ⟨Nat.le_of_ble_eq_true rfl, Nat.le_of_ble_eq_true rfl⟩ ⟨Nat.le_of_ble_eq_true rfl, Nat.le_of_ble_eq_true rfl⟩
  refine r_istore_n (pc := 5) ?_ dX4_firstFrom_5 rfl (Nat.le_of_ble_eq_true rfl)
  refine r_kl ?_
  exact Le.rf
def R_X4_firstFrom_6 (l : Launch) (G : GT) (F : FX) (Q : PQ) (QX : PX) : KT := (I_il 2 (I_ic 200 (I_icge (I_ic (-1) (I_ir Q)) (I_al 0 (I_il 2 (I_cv (Tr true l G Y_X4_has) 2 2 1 QX (I_ifeq (I_inc 2 1 (Wj true l G F Y_X4_firstFrom Q QX 0 0 6)) (I_il 2 (I_ir Q)))))))))
set_option maxRecDepth 100000 in
theorem g_X4_firstFrom_6 {l : Launch} {G : GT} {F : FX} {Q : PQ} {QX : PX} : Le (R_X4_firstFrom_6 l G F Q QX) (Wj true l G F Y_X4_firstFrom Q QX 0 0 6) := by
  unfold R_X4_firstFrom_6
  refine r_iload_n (pc := 6) ?_ dX4_firstFrom_6 rfl
  refine r_sipush (pc := 7) ?_ dX4_firstFrom_7 (by decide)
  refine r_icge (pc := 10) (t := 29) ?_ ?_ dX4_firstFrom_10 (by decide)
  · refine r_iconst (pc := 29) ?_ dX4_firstFrom_29 (by decide)
    exact r_ir dX4_firstFrom_30 rfl (Nat.le_of_ble_eq_true rfl) (Nat.le_of_ble_eq_true rfl)
  · refine r_aload_n (pc := 13) ?_ dX4_firstFrom_13 rfl
    refine r_iload_n (pc := 14) ?_ dX4_firstFrom_14 rfl
    refine r_cv0 (pc := 15) ?_ dX4_firstFrom_15 cl_X4 ok_X4_has rfl wd_3_112 ⟨Nat.le_of_ble_eq_true rfl, Nat.le_of_ble_eq_true rfl⟩ ⟨Nat.le_of_ble_eq_true rfl, Nat.le_of_ble_eq_true rfl⟩ rfl rfl
    refine r_ifeq (pc := 18) (t := 23) ?_ ?_ dX4_firstFrom_18 (by decide)
    · refine r_iinc (pc := 23) ?_ dX4_firstFrom_23 (by decide) (Nat.le_of_ble_eq_true rfl)
      refine r_goto (pc := 26) (t := 6) ?_ dX4_firstFrom_26 (by decide)
      exact Le.rf
    · refine r_iload_n (pc := 21) ?_ dX4_firstFrom_21 rfl
      exact r_ir dX4_firstFrom_22 rfl (Nat.le_of_ble_eq_true rfl) (Nat.le_of_ble_eq_true rfl)
abbrev Y_X5_hoursInAll : YT := (yX5_hoursInAll, cX5_hoursInAll, 3, (some .int), 1, 23, 0, 0)
theorem ok_X5_hoursInAll : okV Y_X5_hoursInAll 0 := ⟨⟨wd_3_65, wd_1_5, by decide, by decide, by decide +kernel⟩, wd_3_63, wd_3_64⟩
def R_X5_hoursInAll_0 (l : Launch) (G : GT) (F : FX) (Q : PQ) (QX : PX) : KT := (I_ic 0 (I_is 1 (I_ic 0 (I_is 2 (Wj true l G F Y_X5_hoursInAll Q QX 0 0 4)))))
set_option maxRecDepth 100000 in
theorem g_X5_hoursInAll_0 {l : Launch} {G : GT} {F : FX} {Q : PQ} {QX : PX} : Le (R_X5_hoursInAll_0 l G F Q QX) (Wj true l G F Y_X5_hoursInAll Q QX 0 0 0) := by
  unfold R_X5_hoursInAll_0
  refine r_iconst (pc := 0) ?_ dX5_hoursInAll_0 (by decide)
  refine r_istore_n (pc := 1) ?_ dX5_hoursInAll_1 rfl (Nat.le_of_ble_eq_true rfl)
  refine r_iconst (pc := 2) ?_ dX5_hoursInAll_2 (by decide)
  refine r_istore_n (pc := 3) ?_ dX5_hoursInAll_3 rfl (Nat.le_of_ble_eq_true rfl)
  exact Le.rf
def R_X5_hoursInAll_4 (l : Launch) (G : GT) (F : FX) (Q : PQ) (QX : PX) : KT := (I_il 2 (I_al 0 (I_gi 3 1 2 (I_icge (I_il 1 (I_ir Q)) (I_il 1 (I_al 0 (I_il 2 (I_ic 1 (I_cv (Tr true l G Y_X5_valueAt) 3 2 2 QX (I_iadd (I_is 1 (I_inc 2 1 (Wj true l G F Y_X5_hoursInAll Q QX 0 0 4)))))))))))))
set_option maxRecDepth 100000 in
theorem g_X5_hoursInAll_4 {l : Launch} {G : GT} {F : FX} {Q : PQ} {QX : PX} : Le (R_X5_hoursInAll_4 l G F Q QX) (Wj true l G F Y_X5_hoursInAll Q QX 0 0 4) := by
  unfold R_X5_hoursInAll_4
  refine r_iload_n (pc := 4) ?_ dX5_hoursInAll_4 rfl
  refine r_aload_n (pc := 5) ?_ dX5_hoursInAll_5 rfl
  refine r_gi (pc := 6) ?_ dX5_hoursInAll_6 cl_X5 (Nat.le_of_ble_eq_true rfl) rfl wd_1_69
  refine r_icge (pc := 9) (t := 27) ?_ ?_ dX5_hoursInAll_9 (by decide)
  · refine r_iload_n (pc := 27) ?_ dX5_hoursInAll_27 rfl
    exact r_ir dX5_hoursInAll_28 rfl (Nat.le_of_ble_eq_true rfl) (Nat.le_of_ble_eq_true rfl)
  · refine r_iload_n (pc := 12) ?_ dX5_hoursInAll_12 rfl
    refine r_aload_n (pc := 13) ?_ dX5_hoursInAll_13 rfl
    refine r_iload_n (pc := 14) ?_ dX5_hoursInAll_14 rfl
    refine r_iconst (pc := 15) ?_ dX5_hoursInAll_15 (by decide)
    refine r_cv0 (pc := 16) ?_ dX5_hoursInAll_16 cl_X5 ok_X5_valueAt rfl wd_3_40 ⟨Nat.le_of_ble_eq_true rfl, Nat.le_of_ble_eq_true rfl⟩ ⟨Nat.le_of_ble_eq_true rfl, Nat.le_of_ble_eq_true rfl⟩ rfl rfl
    refine r_iadd (pc := 19) ?_ dX5_hoursInAll_19
    refine r_istore_n (pc := 20) ?_ dX5_hoursInAll_20 rfl (Nat.le_of_ble_eq_true rfl)
    refine r_iinc (pc := 21) ?_ dX5_hoursInAll_21 (by decide) (Nat.le_of_ble_eq_true rfl)
    refine r_goto (pc := 24) (t := 4) ?_ dX5_hoursInAll_24 (by decide)
    exact Le.rf
abbrev Y_X5_hoursOfPart : YT := (yX5_hoursOfPart, cX5_hoursOfPart, 4, (some .int), 1, 23, 0, 0)
theorem ok_X5_hoursOfPart : okV Y_X5_hoursOfPart 1 := ⟨⟨wd_3_83, wd_1_5, by decide, by decide, by decide +kernel⟩, wd_3_81, wd_3_82⟩
def R_X5_hoursOfPart_0 (l : Launch) (G : GT) (F : FX) (Q : PQ) (QX : PX) : KT := (I_ic 0 (I_is 2 (I_ic 0 (I_is 3 (Wj true l G F Y_X5_hoursOfPart Q QX 0 0 4)))))
set_option maxRecDepth 100000 in
theorem g_X5_hoursOfPart_0 {l : Launch} {G : GT} {F : FX} {Q : PQ} {QX : PX} : Le (R_X5_hoursOfPart_0 l G F Q QX) (Wj true l G F Y_X5_hoursOfPart Q QX 0 0 0) := by
  unfold R_X5_hoursOfPart_0
  refine r_iconst (pc := 0) ?_ dX5_hoursOfPart_0 (by decide)
  refine r_istore_n (pc := 1) ?_ dX5_hoursOfPart_1 rfl (Nat.le_of_ble_eq_true rfl)
  refine r_iconst (pc := 2) ?_ dX5_hoursOfPart_2 (by decide)
  refine r_istore_n (pc := 3) ?_ dX5_hoursOfPart_3 rfl (Nat.le_of_ble_eq_true rfl)
  exact Le.rf
def R_X5_hoursOfPart_4 (l : Launch) (G : GT) (F : FX) (Q : PQ) (QX : PX) : KT := (I_il 3 (I_al 0 (I_gi 3 1 2 (I_icge (I_il 2 (I_ir Q)) (I_al 0 (I_il 3 (I_ic 0 (I_cv (Tr true l G Y_X5_valueAt) 3 2 2 QX (I_il 1 (I_icne (I_inc 3 1 (Wj true l G F Y_X5_hoursOfPart Q QX 0 0 4)) (I_il 2 (I_al 0 (I_il 3 (I_ic 1 (I_cv (Tr true l G Y_X5_valueAt) 3 2 2 QX (I_iadd (I_is 2 (I_inc 3 1 (Wj true l G F Y_X5_hoursOfPart Q QX 0 0 4)))))))))))))))))))
set_option maxRecDepth 100000 in
theorem g_X5_hoursOfPart_4 {l : Launch} {G : GT} {F : FX} {Q : PQ} {QX : PX} : Le (R_X5_hoursOfPart_4 l G F Q QX) (Wj true l G F Y_X5_hoursOfPart Q QX 0 0 4) := by
  unfold R_X5_hoursOfPart_4
  refine r_iload_n (pc := 4) ?_ dX5_hoursOfPart_4 rfl
  refine r_aload_n (pc := 5) ?_ dX5_hoursOfPart_5 rfl
  refine r_gi (pc := 6) ?_ dX5_hoursOfPart_6 cl_X5 (Nat.le_of_ble_eq_true rfl) rfl wd_1_69
  refine r_icge (pc := 9) (t := 37) ?_ ?_ dX5_hoursOfPart_9 (by decide)
  · refine r_iload_n (pc := 37) ?_ dX5_hoursOfPart_37 rfl
    exact r_ir dX5_hoursOfPart_38 rfl (Nat.le_of_ble_eq_true rfl) (Nat.le_of_ble_eq_true rfl)
  · refine r_aload_n (pc := 12) ?_ dX5_hoursOfPart_12 rfl
    refine r_iload_n (pc := 13) ?_ dX5_hoursOfPart_13 rfl
    refine r_iconst (pc := 14) ?_ dX5_hoursOfPart_14 (by decide)
    refine r_cv0 (pc := 15) ?_ dX5_hoursOfPart_15 cl_X5 ok_X5_valueAt rfl wd_3_40 ⟨Nat.le_of_ble_eq_true rfl, Nat.le_of_ble_eq_true rfl⟩ ⟨Nat.le_of_ble_eq_true rfl, Nat.le_of_ble_eq_true rfl⟩ rfl rfl
    refine r_iload_n (pc := 18) ?_ dX5_hoursOfPart_18 rfl
    refine r_icne (pc := 19) (t := 31) ?_ ?_ dX5_hoursOfPart_19 (by decide)
    · refine r_iinc (pc := 31) ?_ dX5_hoursOfPart_31 (by decide) (Nat.le_of_ble_eq_true rfl)
      refine r_goto (pc := 34) (t := 4) ?_ dX5_hoursOfPart_34 (by decide)
      exact Le.rf
    · refine r_iload_n (pc := 22) ?_ dX5_hoursOfPart_22 rfl
      refine r_aload_n (pc := 23) ?_ dX5_hoursOfPart_23 rfl
      refine r_iload_n (pc := 24) ?_ dX5_hoursOfPart_24 rfl
      refine r_iconst (pc := 25) ?_ dX5_hoursOfPart_25 (by decide)
      refine r_cv0 (pc := 26) ?_ dX5_hoursOfPart_26 cl_X5 ok_X5_valueAt rfl wd_3_40 ⟨Nat.le_of_ble_eq_true rfl, Nat.le_of_ble_eq_true rfl⟩ ⟨Nat.le_of_ble_eq_true rfl, Nat.le_of_ble_eq_true rfl⟩ rfl rfl
      refine r_iadd (pc := 29) ?_ dX5_hoursOfPart_29
      refine r_istore_n (pc := 30) ?_ dX5_hoursOfPart_30 rfl (Nat.le_of_ble_eq_true rfl)
      refine r_iinc (pc := 31) ?_ dX5_hoursOfPart_31 (by decide) (Nat.le_of_ble_eq_true rfl)
      refine r_goto (pc := 34) (t := 4) ?_ dX5_hoursOfPart_34 (by decide)
      exact Le.rf
abbrev Y_X6_begin : YT := (yX6_begin, cX6_begin, 3, none, 0, 0, 0, 0)
theorem ok_X6_begin : okV Y_X6_begin 2 := ⟨⟨wd_3_137, wd_1_3, by decide, by decide, by decide +kernel⟩, wd_3_135, wd_3_136⟩
def R_X6_begin_0 (l : Launch) (G : GT) (F : FX) (Q : PQ) (QX : PX) : KT := (I_al 0 (I_il 1 (I_pi 4 0 3 (I_al 0 (I_il 2 (I_pi 4 1 3 (I_al 0 (I_ic 0 (I_pi 4 2 3 (I_vr Q))))))))))
set_option maxRecDepth 100000 in
theorem g_X6_begin_0 {l : Launch} {G : GT} {F : FX} {Q : PQ} {QX : PX} : Le (R_X6_begin_0 l G F Q QX) (Wj true l G F Y_X6_begin Q QX 0 0 0) := by
  unfold R_X6_begin_0
  refine r_aload_n (pc := 0) ?_ dX6_begin_0 rfl
  refine r_iload_n (pc := 1) ?_ dX6_begin_1 rfl
  refine r_pi (pc := 2) ?_ dX6_begin_2 cl_X6 (Nat.le_of_ble_eq_true rfl) rfl wd_1_42 rfl pd_X6_0
  refine r_aload_n (pc := 5) ?_ dX6_begin_5 rfl
  refine r_iload_n (pc := 6) ?_ dX6_begin_6 rfl
  refine r_pi (pc := 7) ?_ dX6_begin_7 cl_X6 (Nat.le_of_ble_eq_true rfl) rfl wd_1_44 rfl pd_X6_1
  refine r_aload_n (pc := 10) ?_ dX6_begin_10 rfl
  refine r_iconst (pc := 11) ?_ dX6_begin_11 (by decide)
  refine r_pi (pc := 12) ?_ dX6_begin_12 cl_X6 (Nat.le_of_ble_eq_true rfl) rfl wd_1_46 rfl pd_X6_2
  exact r_vr dX6_begin_15 rfl (Nat.le_of_ble_eq_true rfl) (Nat.le_of_ble_eq_true rfl)
abbrev Y_X6_copyMentor : YT := (yX6_copyMentor, cX6_copyMentor, 2, none, 0, 0, 0, 0)
theorem ok_X6_copyMentor : okV Y_X6_copyMentor 1 := ⟨⟨wd_2_136, wd_1_3, by decide, by decide, by decide +kernel⟩, wd_2_134, wd_2_135⟩
def R_X6_copyMentor_0 (l : Launch) (G : GT) (F : FX) (Q : PQ) (QX : PX) : KT := (I_al 0 (I_al 1 (I_gi 4 0 3 (I_pi 4 0 3 (I_al 0 (I_al 1 (I_gi 4 1 3 (I_pi 4 1 3 (I_al 0 (I_al 1 (I_gi 4 2 3 (I_pi 4 2 3 (I_vr Q)))))))))))))
set_option maxRecDepth 100000 in
theorem g_X6_copyMentor_0 {l : Launch} {G : GT} {F : FX} {Q : PQ} {QX : PX} : Le (R_X6_copyMentor_0 l G F Q QX) (Wj true l G F Y_X6_copyMentor Q QX 0 0 0) := by
  unfold R_X6_copyMentor_0
  refine r_aload_n (pc := 0) ?_ dX6_copyMentor_0 rfl
  refine r_aload_n (pc := 1) ?_ dX6_copyMentor_1 rfl
  refine r_gi (pc := 2) ?_ dX6_copyMentor_2 cl_X6 (Nat.le_of_ble_eq_true rfl) rfl wd_1_42
  refine r_pi (pc := 5) ?_ dX6_copyMentor_5 cl_X6 (Nat.le_of_ble_eq_true rfl) rfl wd_1_42 rfl pd_X6_0
  refine r_aload_n (pc := 8) ?_ dX6_copyMentor_8 rfl
  refine r_aload_n (pc := 9) ?_ dX6_copyMentor_9 rfl
  refine r_gi (pc := 10) ?_ dX6_copyMentor_10 cl_X6 (Nat.le_of_ble_eq_true rfl) rfl wd_1_44
  refine r_pi (pc := 13) ?_ dX6_copyMentor_13 cl_X6 (Nat.le_of_ble_eq_true rfl) rfl wd_1_44 rfl pd_X6_1
  refine r_aload_n (pc := 16) ?_ dX6_copyMentor_16 rfl
  refine r_aload_n (pc := 17) ?_ dX6_copyMentor_17 rfl
  refine r_gi (pc := 18) ?_ dX6_copyMentor_18 cl_X6 (Nat.le_of_ble_eq_true rfl) rfl wd_1_46
  refine r_pi (pc := 21) ?_ dX6_copyMentor_21 cl_X6 (Nat.le_of_ble_eq_true rfl) rfl wd_1_46 rfl pd_X6_2
  exact r_vr dX6_copyMentor_24 rfl (Nat.le_of_ble_eq_true rfl) (Nat.le_of_ble_eq_true rfl)
