/-! ===== the methods: what they are, their regions ===== -/
abbrev Y_X3_append : YT := (yX3_append, cX3_append, 2, (some .int), 0, 0, 0, 0)
theorem ok_X3_append : okV Y_X3_append 1 := ⟨⟨wd_4_207, wd_1_8, by decide, by decide, by decide +kernel⟩, wd_4_205, wd_4_206⟩
def R_X3_append_0 (l : Launch) (G : GT) (F : FX) (Q : PQ) (QX : PX) : KT := (I_al 0 (I_gi 1 3 11 (I_ic 150 (I_icge (I_al 0 (I_gi 1 3 11 (I_ir Q))) (I_al 0 (I_gp 1 11 1 (I_al 0 (I_gi 1 3 11 (I_il 1 (I_ias (I_al 0 (I_dup (I_gi 1 3 11 (I_ic 1 (I_iadd (I_pi 1 3 11 (I_al 0 (I_gi 1 3 11 (I_ir Q)))))))))))))))))))
set_option maxRecDepth 100000 in
theorem g_X3_append_0 {l : Launch} {G : GT} {F : FX} {Q : PQ} {QX : PX} : Le (R_X3_append_0 l G F Q QX) (Wj true l G F Y_X3_append Q QX 0 0 0) := by
  unfold R_X3_append_0
  refine r_aload_n (pc := 0) ?_ dX3_append_0 rfl
  refine r_gi (pc := 1) ?_ dX3_append_1 cl_X3 (Nat.le_of_ble_eq_true rfl) rfl wd_1_200
  refine r_sipush (pc := 4) ?_ dX3_append_4 (by decide)
  refine r_icge (pc := 7) (t := 30) ?_ ?_ dX3_append_7 (by decide)
  · refine r_aload_n (pc := 30) ?_ dX3_append_30 rfl
    refine r_gi (pc := 31) ?_ dX3_append_31 cl_X3 (Nat.le_of_ble_eq_true rfl) rfl wd_1_200
    exact r_ir dX3_append_34 rfl (Nat.le_of_ble_eq_true rfl) (Nat.le_of_ble_eq_true rfl)
  · refine r_aload_n (pc := 10) ?_ dX3_append_10 rfl
    refine r_gp (pc := 11) (kf := 0) ?_ dX3_append_11 cl_X3 (Nat.le_of_ble_eq_true rfl) rfl wd_1_197 pv_X3_0
    refine r_aload_n (pc := 14) ?_ dX3_append_14 rfl
    refine r_gi (pc := 15) ?_ dX3_append_15 cl_X3 (Nat.le_of_ble_eq_true rfl) rfl wd_1_200
    refine r_iload_n (pc := 18) ?_ dX3_append_18 rfl
    refine r_ias (pc := 19) ?_ dX3_append_19
    refine r_aload_n (pc := 20) ?_ dX3_append_20 rfl
    refine r_dup (pc := 21) ?_ dX3_append_21
    refine r_gi (pc := 22) ?_ dX3_append_22 cl_X3 (Nat.le_of_ble_eq_true rfl) rfl wd_1_200
    refine r_iconst (pc := 25) ?_ dX3_append_25 (by decide)
    refine r_iadd (pc := 26) ?_ dX3_append_26
    refine r_pi (pc := 27) ?_ dX3_append_27 cl_X3 (Nat.le_of_ble_eq_true rfl) rfl wd_1_200 rfl pd_X3_3
    refine r_aload_n (pc := 30) ?_ dX3_append_30 rfl
    refine r_gi (pc := 31) ?_ dX3_append_31 cl_X3 (Nat.le_of_ble_eq_true rfl) rfl wd_1_200
    exact r_ir dX3_append_34 rfl (Nat.le_of_ble_eq_true rfl) (Nat.le_of_ble_eq_true rfl)
abbrev Y_X8_save : YT := (yX8_save, cX8_save, 2, none, 4, 104, 0, 0)
theorem ok_X8_save : okV Y_X8_save 1 := ⟨⟨wd_2_125, wd_1_7, by decide, by decide, by decide +kernel⟩, wd_2_123, wd_2_124⟩
def R_X8_save_0 (l : Launch) (G : GT) (F : FX) (Q : PQ) (QX : PX) : KT := (I_al 0 (I_gp 6 3 1 (I_al 0 (I_gi 6 1 3 (I_al 0 (I_gi 6 2 3 (I_iadd (I_ic 4 (I_irem (I_aal 5 1 214 (I_al 1 (I_cv (Tr true l G Y_X7_copyState) 5 9 1 QX (I_al 0 (I_gi 6 2 3 (I_ic 4 (I_icge (I_al 0 (I_al 0 (I_gi 6 1 3 (I_ic 1 (I_iadd (I_ic 4 (I_irem (I_pi 6 1 3 (I_vr Q))))))))) (I_al 0 (I_dup (I_gi 6 2 3 (I_ic 1 (I_iadd (I_pi 6 2 3 (I_vr Q)))))))))))))))))))))))
set_option maxRecDepth 100000 in
theorem g_X8_save_0 {l : Launch} {G : GT} {F : FX} {Q : PQ} {QX : PX} : Le (R_X8_save_0 l G F Q QX) (Wj true l G F Y_X8_save Q QX 0 0 0) := by
  unfold R_X8_save_0
  refine r_aload_n (pc := 0) ?_ dX8_save_0 rfl
  refine r_gp (pc := 1) (kf := 0) ?_ dX8_save_1 cl_X8 (Nat.le_of_ble_eq_true rfl) rfl wd_1_177 pv_X8_0
  refine r_aload_n (pc := 4) ?_ dX8_save_4 rfl
  refine r_gi (pc := 5) ?_ dX8_save_5 cl_X8 (Nat.le_of_ble_eq_true rfl) rfl wd_1_178
  refine r_aload_n (pc := 8) ?_ dX8_save_8 rfl
  refine r_gi (pc := 9) ?_ dX8_save_9 cl_X8 (Nat.le_of_ble_eq_true rfl) rfl wd_1_179
  refine r_iadd (pc := 12) ?_ dX8_save_12
  refine r_iconst (pc := 13) ?_ dX8_save_13 (by decide)
  refine r_irem (pc := 14) ?_ dX8_save_14
  refine r_aal (pc := 15) ?_ dX8_save_15 rfl rfl pa_5
  refine r_aload_n (pc := 16) ?_ dX8_save_16 rfl
  refine r_cv0 (pc := 17) ?_ dX8_save_17 cl_X7 ok_X7_copyState rfl wd_2_126 ⟨Nat.le_of_ble_eq_true rfl, Nat.le_of_ble_eq_true rfl⟩ ⟨Nat.le_of_ble_eq_true rfl, Nat.le_of_ble_eq_true rfl⟩ rfl rfl
  refine r_aload_n (pc := 20) ?_ dX8_save_20 rfl
  refine r_gi (pc := 21) ?_ dX8_save_21 cl_X8 (Nat.le_of_ble_eq_true rfl) rfl wd_1_179
  refine r_iconst (pc := 24) ?_ dX8_save_24 (by decide)
  refine r_icge (pc := 25) (t := 41) ?_ ?_ dX8_save_25 (by decide)
  · refine r_aload_n (pc := 41) ?_ dX8_save_41 rfl
    refine r_aload_n (pc := 42) ?_ dX8_save_42 rfl
    refine r_gi (pc := 43) ?_ dX8_save_43 cl_X8 (Nat.le_of_ble_eq_true rfl) rfl wd_1_178
    refine r_iconst (pc := 46) ?_ dX8_save_46 (by decide)
    refine r_iadd (pc := 47) ?_ dX8_save_47
    refine r_iconst (pc := 48) ?_ dX8_save_48 (by decide)
    refine r_irem (pc := 49) ?_ dX8_save_49
    refine r_pi (pc := 50) ?_ dX8_save_50 cl_X8 (Nat.le_of_ble_eq_true rfl) rfl wd_1_178 rfl pd_X8_1
    exact r_vr dX8_save_53 rfl (Nat.le_of_ble_eq_true rfl) (Nat.le_of_ble_eq_true rfl)
  · refine r_aload_n (pc := 28) ?_ dX8_save_28 rfl
    refine r_dup (pc := 29) ?_ dX8_save_29
    refine r_gi (pc := 30) ?_ dX8_save_30 cl_X8 (Nat.le_of_ble_eq_true rfl) rfl wd_1_179
    refine r_iconst (pc := 33) ?_ dX8_save_33 (by decide)
    refine r_iadd (pc := 34) ?_ dX8_save_34
    refine r_pi (pc := 35) ?_ dX8_save_35 cl_X8 (Nat.le_of_ble_eq_true rfl) rfl wd_1_179 rfl pd_X8_2
    refine r_goto (pc := 38) (t := 53) ?_ dX8_save_38 (by decide)
    exact r_vr dX8_save_53 rfl (Nat.le_of_ble_eq_true rfl) (Nat.le_of_ble_eq_true rfl)
abbrev Y_X8_restore : YT := (yX8_restore, cX8_restore, 2, (some .int), 4, 104, 0, 0)
theorem ok_X8_restore : okV Y_X8_restore 1 := ⟨⟨wd_2_203, wd_1_7, by decide, by decide, by decide +kernel⟩, wd_2_201, wd_2_202⟩
def R_X8_restore_0 (l : Launch) (G : GT) (F : FX) (Q : PQ) (QX : PX) : KT := (I_al 0 (I_gi 6 2 3 (I_ifle (I_al 0 (I_gi 6 2 3 (I_ir Q))) (I_al 0 (I_dup (I_gi 6 2 3 (I_ic 1 (I_isub (I_pi 6 2 3 (I_al 1 (I_al 0 (I_gp 6 3 1 (I_al 0 (I_gi 6 1 3 (I_al 0 (I_gi 6 2 3 (I_iadd (I_ic 4 (I_irem (I_aal 5 1 214 (I_cv (Tr true l G Y_X7_copyState) 5 9 1 QX (I_al 0 (I_gi 6 2 3 (I_ir Q))))))))))))))))))))))))
set_option maxRecDepth 100000 in
theorem g_X8_restore_0 {l : Launch} {G : GT} {F : FX} {Q : PQ} {QX : PX} : Le (R_X8_restore_0 l G F Q QX) (Wj true l G F Y_X8_restore Q QX 0 0 0) := by
  unfold R_X8_restore_0
  refine r_aload_n (pc := 0) ?_ dX8_restore_0 rfl
  refine r_gi (pc := 1) ?_ dX8_restore_1 cl_X8 (Nat.le_of_ble_eq_true rfl) rfl wd_1_179
  refine r_ifle (pc := 4) (t := 37) ?_ ?_ dX8_restore_4 (by decide)
  · refine r_aload_n (pc := 37) ?_ dX8_restore_37 rfl
    refine r_gi (pc := 38) ?_ dX8_restore_38 cl_X8 (Nat.le_of_ble_eq_true rfl) rfl wd_1_179
    exact r_ir dX8_restore_41 rfl (Nat.le_of_ble_eq_true rfl) (Nat.le_of_ble_eq_true rfl)
  · refine r_aload_n (pc := 7) ?_ dX8_restore_7 rfl
    refine r_dup (pc := 8) ?_ dX8_restore_8
    refine r_gi (pc := 9) ?_ dX8_restore_9 cl_X8 (Nat.le_of_ble_eq_true rfl) rfl wd_1_179
    refine r_iconst (pc := 12) ?_ dX8_restore_12 (by decide)
    refine r_isub (pc := 13) ?_ dX8_restore_13
    refine r_pi (pc := 14) ?_ dX8_restore_14 cl_X8 (Nat.le_of_ble_eq_true rfl) rfl wd_1_179 rfl pd_X8_2
    refine r_aload_n (pc := 17) ?_ dX8_restore_17 rfl
    refine r_aload_n (pc := 18) ?_ dX8_restore_18 rfl
    refine r_gp (pc := 19) (kf := 0) ?_ dX8_restore_19 cl_X8 (Nat.le_of_ble_eq_true rfl) rfl wd_1_177 pv_X8_0
    refine r_aload_n (pc := 22) ?_ dX8_restore_22 rfl
    refine r_gi (pc := 23) ?_ dX8_restore_23 cl_X8 (Nat.le_of_ble_eq_true rfl) rfl wd_1_178
    refine r_aload_n (pc := 26) ?_ dX8_restore_26 rfl
    refine r_gi (pc := 27) ?_ dX8_restore_27 cl_X8 (Nat.le_of_ble_eq_true rfl) rfl wd_1_179
    refine r_iadd (pc := 30) ?_ dX8_restore_30
    refine r_iconst (pc := 31) ?_ dX8_restore_31 (by decide)
    refine r_irem (pc := 32) ?_ dX8_restore_32
    refine r_aal (pc := 33) ?_ dX8_restore_33 rfl rfl pa_5
    refine r_cv0 (pc := 34) ?_ dX8_restore_34 cl_X7 ok_X7_copyState rfl wd_2_126 ⟨Nat.le_of_ble_eq_true rfl, Nat.le_of_ble_eq_true rfl⟩ ⟨Nat.le_of_ble_eq_true rfl, Nat.le_of_ble_eq_true rfl⟩ rfl rfl
    refine r_aload_n (pc := 37) ?_ dX8_restore_37 rfl
    refine r_gi (pc := 38) ?_ dX8_restore_38 cl_X8 (Nat.le_of_ble_eq_true rfl) rfl wd_1_179
    exact r_ir dX8_restore_41 rfl (Nat.le_of_ble_eq_true rfl) (Nat.le_of_ble_eq_true rfl)
