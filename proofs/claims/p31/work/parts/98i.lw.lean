/-! ===== the property's own larger methods: what they are, their regions ===== -/
theorem cw_trade : hC1 Y_L_trade hh_trade ∈ WS := ws_in (List.mem_of_getElem? (i := 269) (by decide +kernel)) rfl
theorem cw_ends : hC1 Y_L_ends hh_ends ∈ WS := ws_in (List.mem_of_getElem? (i := 424) (by decide +kernel)) rfl
theorem cw_back : hC1 Y_L_back hh_back ∈ WS := ws_in (List.mem_of_getElem? (i := 459) (by decide +kernel)) rfl
theorem cw_whole : hC1 Y_L_whole hh_whole ∈ WS := ws_in (List.mem_of_getElem? (i := 475) (by decide +kernel)) rfl
theorem cw_mentor : hC1 Y_L_mentor hh_mentor ∈ WS := ws_in (List.mem_of_getElem? (i := 517) (by decide +kernel)) rfl
theorem cw_one : hC1 Y_L_one hh_one ∈ WS := ws_in (List.mem_of_getElem? (i := 548) (by decide +kernel)) rfl
theorem cw_part : hC1 Y_L_part hh_part ∈ WS := ws_in (List.mem_of_getElem? (i := 572) (by decide +kernel)) rfl
theorem cw_entry : hC1 Y_L_entry hh_entry ∈ WS := ws_in (List.mem_of_getElem? (i := 590) (by decide +kernel)) rfl
theorem cw_next : hC1 Y_L_next hh_next ∈ WS := ws_in (List.mem_of_getElem? (i := 602) (by decide +kernel)) rfl
theorem cw_mentors : hC1 Y_L_mentors hh_mentors ∈ WS := ws_in (List.mem_of_getElem? (i := 625) (by decide +kernel)) rfl
theorem cw_pupil : hC1 Y_L_pupil hh_pupil ∈ WS := ws_in (List.mem_of_getElem? (i := 644) (by decide +kernel)) rfl
theorem cw_frees : hC1 Y_L_frees hh_frees ∈ WS := ws_in (List.mem_of_getElem? (i := 679) (by decide +kernel)) rfl
theorem cw_logs : hC1 Y_L_logs hh_logs ∈ WS := ws_in (List.mem_of_getElem? (i := 703) (by decide +kernel)) rfl
theorem cw_confirms : hC1 Y_L_confirms hh_confirms ∈ WS := ws_in (List.mem_of_getElem? (i := 732) (by decide +kernel)) rfl
theorem cw_doubts : hC1 Y_L_doubts hh_doubts ∈ WS := ws_in (List.mem_of_getElem? (i := 776) (by decide +kernel)) rfl
theorem cw_settles : hC1 Y_L_settles hh_settles ∈ WS := ws_in (List.mem_of_getElem? (i := 800) (by decide +kernel)) rfl
theorem cw_credits : hC1 Y_L_credits hh_credits ∈ WS := ws_in (List.mem_of_getElem? (i := 822) (by decide +kernel)) rfl
theorem cw_moves : hC1 Y_L_moves hh_moves ∈ WS := ws_in (List.mem_of_getElem? (i := 841) (by decide +kernel)) rfl
theorem cw_leaves : hC1 Y_L_leaves hh_leaves ∈ WS := ws_in (List.mem_of_getElem? (i := 870) (by decide +kernel)) rfl
theorem cw_swaps : hC1 Y_L_swaps hh_swaps ∈ WS := ws_in (List.mem_of_getElem? (i := 885) (by decide +kernel)) rfl
theorem cw_why : hC1 Y_L_why hh_why ∈ WS := ws_in (List.mem_of_getElem? (i := 904) (by decide +kernel)) rfl
theorem cw_best : hC1 Y_L_best hh_best ∈ WS := ws_in (List.mem_of_getElem? (i := 911) (by decide +kernel)) rfl
theorem cw_doubted : hC1 Y_L_doubted hh_doubted ∈ WS := ws_in (List.mem_of_getElem? (i := 927) (by decide +kernel)) rfl
theorem cw_types : hC1 Y_L_types hh_types ∈ WS := ws_in (List.mem_of_getElem? (i := 943) (by decide +kernel)) rfl
theorem cw_full : hC1 Y_L_full hh_full ∈ WS := ws_in (List.mem_of_getElem? (i := 963) (by decide +kernel)) rfl
abbrev Y_L_low : YT := (yL_low, cL_low, 2, (some .int), 0, 0, 0, 0)
theorem ok_L_low : okS Y_L_low 2 := ⟨⟨wd_2_1, wd_1_0, by decide, by decide, by decide +kernel⟩, wd_2_0⟩
def R_L_low_0 (l : Launch) (G : GT) (F : FX) (Q : PQ) (QX : PX) : KT := (I_il 0 (I_ic 2147483647 (I_iand (I_il 1 (I_irem (I_ir Q))))))
set_option maxRecDepth 100000 in
theorem g_L_low_0 {l : Launch} {G : GT} {F : FX} {Q : PQ} {QX : PX} : Le (R_L_low_0 l G F Q QX) (Wj true l G F Y_L_low Q QX 0 0 0) := by
  unfold R_L_low_0
  refine r_iload_n (pc := 0) ?_ dL_low_0 rfl
  refine r_ldc (pc := 1) ?_ dL_low_1 wd_2_2
  refine r_iand (pc := 3) ?_ dL_low_3
  refine r_iload_n (pc := 4) ?_ dL_low_4 rfl
  refine r_irem (pc := 5) ?_ dL_low_5
  exact r_ir dL_low_6 rfl (Nat.le_of_ble_eq_true rfl) (Nat.le_of_ble_eq_true rfl)
abbrev Y_L_cell : YT := (yL_cell, cL_cell, 3, (some .int), 0, 0, 0, 0)
theorem ok_L_cell : okS Y_L_cell 2 := ⟨⟨wd_1_237, wd_1_0, by decide, by decide, by decide +kernel⟩, wd_1_236⟩
def R_L_cell_0 (l : Launch) (G : GT) (F : FX) (Q : PQ) (QX : PX) : KT := (I_il 1 (I_al 0 (I_sln G (I_icge (I_ic 916318735 (I_il 1 (I_ic 3 (I_iadd (I_imul (I_is 2 (I_il 2 (I_il 2 (I_ic 15 (I_iushr (I_ixor (I_ir Q)))))))))))) (I_al 0 (I_il 1 (I_sil G (I_is 2 (I_il 2 (I_il 2 (I_ic 15 (I_iushr (I_ixor (I_ir Q))))))))))))))
set_option maxRecDepth 100000 in
theorem g_L_cell_0 {l : Launch} {G : GT} {F : FX} {Q : PQ} {QX : PX} : Le (R_L_cell_0 l G F Q QX) (Wj true l G F Y_L_cell Q QX 0 0 0) := by
  unfold R_L_cell_0
  refine r_iload_n (pc := 0) ?_ dL_cell_0 rfl
  refine r_aload_n (pc := 1) ?_ dL_cell_1 rfl
  refine r_sln (pc := 2) ?_ dL_cell_2
  refine r_icge (pc := 3) (t := 12) ?_ ?_ dL_cell_3 (by decide)
  · refine r_ldc (pc := 12) ?_ dL_cell_12 wd_1_238
    refine r_iload_n (pc := 14) ?_ dL_cell_14 rfl
    refine r_iconst (pc := 15) ?_ dL_cell_15 (by decide)
    refine r_iadd (pc := 16) ?_ dL_cell_16
    refine r_imul (pc := 17) ?_ dL_cell_17
    refine r_istore_n (pc := 18) ?_ dL_cell_18 rfl (Nat.le_of_ble_eq_true rfl)
    refine r_iload_n (pc := 19) ?_ dL_cell_19 rfl
    refine r_iload_n (pc := 20) ?_ dL_cell_20 rfl
    refine r_bipush (pc := 21) ?_ dL_cell_21 (by decide)
    refine r_iushr (pc := 23) ?_ dL_cell_23
    refine r_ixor (pc := 24) ?_ dL_cell_24
    exact r_ir dL_cell_25 rfl (Nat.le_of_ble_eq_true rfl) (Nat.le_of_ble_eq_true rfl)
  · refine r_aload_n (pc := 6) ?_ dL_cell_6 rfl
    refine r_iload_n (pc := 7) ?_ dL_cell_7 rfl
    refine r_sil (pc := 8) ?_ dL_cell_8
    refine r_goto (pc := 9) (t := 18) ?_ dL_cell_9 (by decide)
    refine r_istore_n (pc := 18) ?_ dL_cell_18 rfl (Nat.le_of_ble_eq_true rfl)
    refine r_iload_n (pc := 19) ?_ dL_cell_19 rfl
    refine r_iload_n (pc := 20) ?_ dL_cell_20 rfl
    refine r_bipush (pc := 21) ?_ dL_cell_21 (by decide)
    refine r_iushr (pc := 23) ?_ dL_cell_23
    refine r_ixor (pc := 24) ?_ dL_cell_24
    exact r_ir dL_cell_25 rfl (Nat.le_of_ble_eq_true rfl) (Nat.le_of_ble_eq_true rfl)
abbrev Y_L_sum : YT := (yL_sum, cL_sum, 5, (some .long), 9, 176, 0, 0)
theorem ok_L_sum : okS Y_L_sum 1 := ⟨⟨wd_2_206, wd_1_0, by decide, by decide, by decide +kernel⟩, wd_2_205⟩
def R_L_sum_0 (l : Launch) (G : GT) (F : FX) (Q : PQ) (QX : PX) : KT := (I_lc 17 (I_ls 1 (I_ic 0 (I_is 3 (Wj true l G F Y_L_sum Q QX 0 0 6)))))
set_option maxRecDepth 100000 in
theorem g_L_sum_0 {l : Launch} {G : GT} {F : FX} {Q : PQ} {QX : PX} : Le (R_L_sum_0 l G F Q QX) (Wj true l G F Y_L_sum Q QX 0 0 0) := by
  unfold R_L_sum_0
  refine r_ldc2 (pc := 0) ?_ dL_sum_0 wd_2_207
  refine r_lstore_n (pc := 3) ?_ dL_sum_3 rfl (Nat.le_of_ble_eq_true rfl)
  refine r_iconst (pc := 4) ?_ dL_sum_4 (by decide)
  refine r_istore_n (pc := 5) ?_ dL_sum_5 rfl (Nat.le_of_ble_eq_true rfl)
  exact Le.rf
def R_L_sum_6 (l : Launch) (G : GT) (F : FX) (Q : PQ) (QX : PX) : KT := (I_il 3 (I_ic 10 (I_icge (I_ic 0 (I_is 3 (Wj true l G F Y_L_sum Q QX 0 0 33))) (I_lc 31 (I_ll 1 (I_lmul (I_al 0 (I_il 3 (I_csH (fun As M Q => TrH l G Y_L_whole0 hh_whole As M Q) 2 (I_i2l (I_ladd (I_ls 1 (I_inc 3 1 (Wj true l G F Y_L_sum Q QX 0 0 6))))))))))))))
set_option maxRecDepth 100000 in
theorem g_L_sum_6 {l : Launch} {G : GT} {F : FX} {Q : PQ} {QX : PX} : Le (R_L_sum_6 l G F Q QX) (Wj true l G F Y_L_sum Q QX 0 0 6) := by
  unfold R_L_sum_6
  refine r_iload_n (pc := 6) ?_ dL_sum_6 rfl
  refine r_bipush (pc := 7) ?_ dL_sum_7 (by decide)
  refine r_icge (pc := 9) (t := 31) ?_ ?_ dL_sum_9 (by decide)
  · refine r_iconst (pc := 31) ?_ dL_sum_31 (by decide)
    refine r_istore_n (pc := 32) ?_ dL_sum_32 rfl (Nat.le_of_ble_eq_true rfl)
    exact Le.rf
  · refine r_ldc2 (pc := 12) ?_ dL_sum_12 wd_2_208
    refine r_lload_n (pc := 15) ?_ dL_sum_15 rfl
    refine r_lmul (pc := 16) ?_ dL_sum_16
    refine r_aload_n (pc := 17) ?_ dL_sum_17 rfl
    refine r_iload_n (pc := 18) ?_ dL_sum_18 rfl
    refine r_csH (pc := 19) (k := 0) (n := 0) (Yc := Y_L_whole0) ?_ dL_sum_19 cw_whole wd_1_0 wd_2_210 wd_2_209 ⟨by decide, by decide⟩ (by decide +kernel) ⟨Nat.le_of_ble_eq_true rfl, Nat.le_of_ble_eq_true rfl⟩ ⟨Nat.le_of_ble_eq_true rfl, Nat.le_of_ble_eq_true rfl⟩
    refine r_i2l (pc := 22) ?_ dL_sum_22
    refine r_ladd (pc := 23) ?_ dL_sum_23
    refine r_lstore_n (pc := 24) ?_ dL_sum_24 rfl (Nat.le_of_ble_eq_true rfl)
    refine r_iinc (pc := 25) ?_ dL_sum_25 (by decide) (Nat.le_of_ble_eq_true rfl)
    refine r_goto (pc := 28) (t := 6) ?_ dL_sum_28 (by decide)
    exact Le.rf
def R_L_sum_33 (l : Launch) (G : GT) (F : FX) (Q : PQ) (QX : PX) : KT := (I_il 3 (I_ic 5 (I_al 0 (I_ic 1 (I_csH (fun As M Q => TrH l G Y_L_whole0 hh_whole As M Q) 2 (I_imul (I_icge (I_ic 0 (I_is 3 (Wj true l G F Y_L_sum Q QX 0 0 70))) (I_lc 31 (I_ll 1 (I_lmul (I_al 0 (I_il 3 (I_ic 5 (I_idiv (I_il 3 (I_ic 5 (I_irem (I_csH (fun As M Q => TrH l G Y_L_mentor0 hh_mentor As M Q) 3 (I_i2l (I_ladd (I_ls 1 (I_inc 3 1 (Wj true l G F Y_L_sum Q QX 0 0 33)))))))))))))))))))))))
set_option maxRecDepth 100000 in
theorem g_L_sum_33 {l : Launch} {G : GT} {F : FX} {Q : PQ} {QX : PX} : Le (R_L_sum_33 l G F Q QX) (Wj true l G F Y_L_sum Q QX 0 0 33) := by
  unfold R_L_sum_33
  refine r_iload_n (pc := 33) ?_ dL_sum_33 rfl
  refine r_iconst (pc := 34) ?_ dL_sum_34 (by decide)
  refine r_aload_n (pc := 35) ?_ dL_sum_35 rfl
  refine r_iconst (pc := 36) ?_ dL_sum_36 (by decide)
  refine r_csH (pc := 37) (k := 0) (n := 0) (Yc := Y_L_whole0) ?_ dL_sum_37 cw_whole wd_1_0 wd_2_210 wd_2_209 ⟨by decide, by decide⟩ (by decide +kernel) ⟨Nat.le_of_ble_eq_true rfl, Nat.le_of_ble_eq_true rfl⟩ ⟨Nat.le_of_ble_eq_true rfl, Nat.le_of_ble_eq_true rfl⟩
  refine r_imul (pc := 40) ?_ dL_sum_40
  refine r_icge (pc := 41) (t := 68) ?_ ?_ dL_sum_41 (by decide)
  · refine r_iconst (pc := 68) ?_ dL_sum_68 (by decide)
    refine r_istore_n (pc := 69) ?_ dL_sum_69 rfl (Nat.le_of_ble_eq_true rfl)
    exact Le.rf
  · refine r_ldc2 (pc := 44) ?_ dL_sum_44 wd_2_208
    refine r_lload_n (pc := 47) ?_ dL_sum_47 rfl
    refine r_lmul (pc := 48) ?_ dL_sum_48
    refine r_aload_n (pc := 49) ?_ dL_sum_49 rfl
    refine r_iload_n (pc := 50) ?_ dL_sum_50 rfl
    refine r_iconst (pc := 51) ?_ dL_sum_51 (by decide)
    refine r_idiv (pc := 52) ?_ dL_sum_52
    refine r_iload_n (pc := 53) ?_ dL_sum_53 rfl
    refine r_iconst (pc := 54) ?_ dL_sum_54 (by decide)
    refine r_irem (pc := 55) ?_ dL_sum_55
    refine r_csH (pc := 56) (k := 0) (n := 0) (Yc := Y_L_mentor0) ?_ dL_sum_56 cw_mentor wd_1_0 wd_3_12 wd_3_11 ⟨by decide, by decide⟩ (by decide +kernel) ⟨Nat.le_of_ble_eq_true rfl, Nat.le_of_ble_eq_true rfl⟩ ⟨Nat.le_of_ble_eq_true rfl, Nat.le_of_ble_eq_true rfl⟩
    refine r_i2l (pc := 59) ?_ dL_sum_59
    refine r_ladd (pc := 60) ?_ dL_sum_60
    refine r_lstore_n (pc := 61) ?_ dL_sum_61 rfl (Nat.le_of_ble_eq_true rfl)
    refine r_iinc (pc := 62) ?_ dL_sum_62 (by decide) (Nat.le_of_ble_eq_true rfl)
    refine r_goto (pc := 65) (t := 33) ?_ dL_sum_65 (by decide)
    exact Le.rf
def R_L_sum_70 (l : Launch) (G : GT) (F : FX) (Q : PQ) (QX : PX) : KT := (I_il 3 (I_al 0 (I_ic 2 (I_csH (fun As M Q => TrH l G Y_L_whole0 hh_whole As M Q) 2 (I_icge (I_ll 1 (I_lr Q)) (I_ic 0 (I_is 4 (Wj true l G F Y_L_sum Q QX 0 0 82))))))))
set_option maxRecDepth 100000 in
theorem g_L_sum_70 {l : Launch} {G : GT} {F : FX} {Q : PQ} {QX : PX} : Le (R_L_sum_70 l G F Q QX) (Wj true l G F Y_L_sum Q QX 0 0 70) := by
  unfold R_L_sum_70
  refine r_iload_n (pc := 70) ?_ dL_sum_70 rfl
  refine r_aload_n (pc := 71) ?_ dL_sum_71 rfl
  refine r_iconst (pc := 72) ?_ dL_sum_72 (by decide)
  refine r_csH (pc := 73) (k := 0) (n := 0) (Yc := Y_L_whole0) ?_ dL_sum_73 cw_whole wd_1_0 wd_2_210 wd_2_209 ⟨by decide, by decide⟩ (by decide +kernel) ⟨Nat.le_of_ble_eq_true rfl, Nat.le_of_ble_eq_true rfl⟩ ⟨Nat.le_of_ble_eq_true rfl, Nat.le_of_ble_eq_true rfl⟩
  refine r_icge (pc := 76) (t := 255) ?_ ?_ dL_sum_76 (by decide)
  · refine r_lload_n (pc := 255) ?_ dL_sum_255 rfl
    exact r_lr dL_sum_256 rfl (Nat.le_of_ble_eq_true rfl) (Nat.le_of_ble_eq_true rfl)
  · refine r_iconst (pc := 79) ?_ dL_sum_79 (by decide)
    refine r_istore (pc := 80) ?_ dL_sum_80 (Nat.le_of_ble_eq_true rfl)
    exact Le.rf
def R_L_sum_82 (l : Launch) (G : GT) (F : FX) (Q : PQ) (QX : PX) : KT := (I_il 4 (I_ic 12 (I_icge (I_ic 0 (I_is 4 (Wj true l G F Y_L_sum Q QX 0 0 113))) (I_lc 31 (I_ll 1 (I_lmul (I_al 0 (I_il 3 (I_il 4 (I_csH (fun As M Q => TrH l G Y_L_one0 hh_one As M Q) 3 (I_i2l (I_ladd (I_ls 1 (I_inc 4 1 (Wj true l G F Y_L_sum Q QX 0 0 82)))))))))))))))
set_option maxRecDepth 100000 in
theorem g_L_sum_82 {l : Launch} {G : GT} {F : FX} {Q : PQ} {QX : PX} : Le (R_L_sum_82 l G F Q QX) (Wj true l G F Y_L_sum Q QX 0 0 82) := by
  unfold R_L_sum_82
  refine r_iload (pc := 82) ?_ dL_sum_82
  refine r_bipush (pc := 84) ?_ dL_sum_84 (by decide)
  refine r_icge (pc := 86) (t := 110) ?_ ?_ dL_sum_86 (by decide)
  · refine r_iconst (pc := 110) ?_ dL_sum_110 (by decide)
    refine r_istore (pc := 111) ?_ dL_sum_111 (Nat.le_of_ble_eq_true rfl)
    exact Le.rf
  · refine r_ldc2 (pc := 89) ?_ dL_sum_89 wd_2_208
    refine r_lload_n (pc := 92) ?_ dL_sum_92 rfl
    refine r_lmul (pc := 93) ?_ dL_sum_93
    refine r_aload_n (pc := 94) ?_ dL_sum_94 rfl
    refine r_iload_n (pc := 95) ?_ dL_sum_95 rfl
    refine r_iload (pc := 96) ?_ dL_sum_96
    refine r_csH (pc := 98) (k := 0) (n := 0) (Yc := Y_L_one0) ?_ dL_sum_98 cw_one wd_1_0 wd_3_43 wd_3_42 ⟨by decide, by decide⟩ (by decide +kernel) ⟨Nat.le_of_ble_eq_true rfl, Nat.le_of_ble_eq_true rfl⟩ ⟨Nat.le_of_ble_eq_true rfl, Nat.le_of_ble_eq_true rfl⟩
    refine r_i2l (pc := 101) ?_ dL_sum_101
    refine r_ladd (pc := 102) ?_ dL_sum_102
    refine r_lstore_n (pc := 103) ?_ dL_sum_103 rfl (Nat.le_of_ble_eq_true rfl)
    refine r_iinc (pc := 104) ?_ dL_sum_104 (by decide) (Nat.le_of_ble_eq_true rfl)
    refine r_goto (pc := 107) (t := 82) ?_ dL_sum_107 (by decide)
    exact Le.rf
def R_L_sum_113 (l : Launch) (G : GT) (F : FX) (Q : PQ) (QX : PX) : KT := (I_il 4 (I_ic 15 (I_icge (I_ic 0 (I_is 4 (Wj true l G F Y_L_sum Q QX 0 0 150))) (I_lc 31 (I_ll 1 (I_lmul (I_al 0 (I_il 3 (I_il 4 (I_ic 5 (I_idiv (I_il 4 (I_ic 5 (I_irem (I_csH (fun As M Q => TrH l G Y_L_part0 hh_part As M Q) 4 (I_i2l (I_ladd (I_ls 1 (I_inc 4 1 (Wj true l G F Y_L_sum Q QX 0 0 113))))))))))))))))))))
set_option maxRecDepth 100000 in
theorem g_L_sum_113 {l : Launch} {G : GT} {F : FX} {Q : PQ} {QX : PX} : Le (R_L_sum_113 l G F Q QX) (Wj true l G F Y_L_sum Q QX 0 0 113) := by
  unfold R_L_sum_113
  refine r_iload (pc := 113) ?_ dL_sum_113
  refine r_bipush (pc := 115) ?_ dL_sum_115 (by decide)
  refine r_icge (pc := 117) (t := 147) ?_ ?_ dL_sum_117 (by decide)
  · refine r_iconst (pc := 147) ?_ dL_sum_147 (by decide)
    refine r_istore (pc := 148) ?_ dL_sum_148 (Nat.le_of_ble_eq_true rfl)
    exact Le.rf
  · refine r_ldc2 (pc := 120) ?_ dL_sum_120 wd_2_208
    refine r_lload_n (pc := 123) ?_ dL_sum_123 rfl
    refine r_lmul (pc := 124) ?_ dL_sum_124
    refine r_aload_n (pc := 125) ?_ dL_sum_125 rfl
    refine r_iload_n (pc := 126) ?_ dL_sum_126 rfl
    refine r_iload (pc := 127) ?_ dL_sum_127
    refine r_iconst (pc := 129) ?_ dL_sum_129 (by decide)
    refine r_idiv (pc := 130) ?_ dL_sum_130
    refine r_iload (pc := 131) ?_ dL_sum_131
    refine r_iconst (pc := 133) ?_ dL_sum_133 (by decide)
    refine r_irem (pc := 134) ?_ dL_sum_134
    refine r_csH (pc := 135) (k := 0) (n := 0) (Yc := Y_L_part0) ?_ dL_sum_135 cw_part wd_1_0 wd_3_67 wd_3_66 ⟨by decide, by decide⟩ (by decide +kernel) ⟨Nat.le_of_ble_eq_true rfl, Nat.le_of_ble_eq_true rfl⟩ ⟨Nat.le_of_ble_eq_true rfl, Nat.le_of_ble_eq_true rfl⟩
    refine r_i2l (pc := 138) ?_ dL_sum_138
    refine r_ladd (pc := 139) ?_ dL_sum_139
    refine r_lstore_n (pc := 140) ?_ dL_sum_140 rfl (Nat.le_of_ble_eq_true rfl)
    refine r_iinc (pc := 141) ?_ dL_sum_141 (by decide) (Nat.le_of_ble_eq_true rfl)
    refine r_goto (pc := 144) (t := 113) ?_ dL_sum_144 (by decide)
    exact Le.rf
def R_L_sum_150 (l : Launch) (G : GT) (F : FX) (Q : PQ) (QX : PX) : KT := (I_il 4 (I_ic 4 (I_al 0 (I_il 3 (I_ic 2 (I_csH (fun As M Q => TrH l G Y_L_one0 hh_one As M Q) 3 (I_imul (I_icge (I_ic 0 (I_is 4 (Wj true l G F Y_L_sum Q QX 0 0 194))) (I_lc 31 (I_ll 1 (I_lmul (I_al 0 (I_il 3 (I_ic 0 (I_il 4 (I_ic 4 (I_idiv (I_il 4 (I_ic 4 (I_irem (I_csH (fun As M Q => TrH l G Y_L_entry0 hh_entry As M Q) 5 (I_i2l (I_ladd (I_ls 1 (I_inc 4 1 (Wj true l G F Y_L_sum Q QX 0 0 150))))))))))))))))))))))))))
set_option maxRecDepth 100000 in
theorem g_L_sum_150 {l : Launch} {G : GT} {F : FX} {Q : PQ} {QX : PX} : Le (R_L_sum_150 l G F Q QX) (Wj true l G F Y_L_sum Q QX 0 0 150) := by
  unfold R_L_sum_150
  refine r_iload (pc := 150) ?_ dL_sum_150
  refine r_iconst (pc := 152) ?_ dL_sum_152 (by decide)
  refine r_aload_n (pc := 153) ?_ dL_sum_153 rfl
  refine r_iload_n (pc := 154) ?_ dL_sum_154 rfl
  refine r_iconst (pc := 155) ?_ dL_sum_155 (by decide)
  refine r_csH (pc := 156) (k := 0) (n := 0) (Yc := Y_L_one0) ?_ dL_sum_156 cw_one wd_1_0 wd_3_43 wd_3_42 ⟨by decide, by decide⟩ (by decide +kernel) ⟨Nat.le_of_ble_eq_true rfl, Nat.le_of_ble_eq_true rfl⟩ ⟨Nat.le_of_ble_eq_true rfl, Nat.le_of_ble_eq_true rfl⟩
  refine r_imul (pc := 159) ?_ dL_sum_159
  refine r_icge (pc := 160) (t := 191) ?_ ?_ dL_sum_160 (by decide)
  · refine r_iconst (pc := 191) ?_ dL_sum_191 (by decide)
    refine r_istore (pc := 192) ?_ dL_sum_192 (Nat.le_of_ble_eq_true rfl)
    exact Le.rf
  · refine r_ldc2 (pc := 163) ?_ dL_sum_163 wd_2_208
    refine r_lload_n (pc := 166) ?_ dL_sum_166 rfl
    refine r_lmul (pc := 167) ?_ dL_sum_167
    refine r_aload_n (pc := 168) ?_ dL_sum_168 rfl
    refine r_iload_n (pc := 169) ?_ dL_sum_169 rfl
    refine r_iconst (pc := 170) ?_ dL_sum_170 (by decide)
    refine r_iload (pc := 171) ?_ dL_sum_171
    refine r_iconst (pc := 173) ?_ dL_sum_173 (by decide)
    refine r_idiv (pc := 174) ?_ dL_sum_174
    refine r_iload (pc := 175) ?_ dL_sum_175
    refine r_iconst (pc := 177) ?_ dL_sum_177 (by decide)
    refine r_irem (pc := 178) ?_ dL_sum_178
    refine r_csH (pc := 179) (k := 0) (n := 0) (Yc := Y_L_entry0) ?_ dL_sum_179 cw_entry wd_1_0 wd_3_85 wd_3_84 ⟨by decide, by decide⟩ (by decide +kernel) ⟨Nat.le_of_ble_eq_true rfl, Nat.le_of_ble_eq_true rfl⟩ ⟨Nat.le_of_ble_eq_true rfl, Nat.le_of_ble_eq_true rfl⟩
    refine r_i2l (pc := 182) ?_ dL_sum_182
    refine r_ladd (pc := 183) ?_ dL_sum_183
    refine r_lstore_n (pc := 184) ?_ dL_sum_184 rfl (Nat.le_of_ble_eq_true rfl)
    refine r_iinc (pc := 185) ?_ dL_sum_185 (by decide) (Nat.le_of_ble_eq_true rfl)
    refine r_goto (pc := 188) (t := 150) ?_ dL_sum_188 (by decide)
    exact Le.rf
def R_L_sum_194 (l : Launch) (G : GT) (F : FX) (Q : PQ) (QX : PX) : KT := (I_il 4 (I_ic 4 (I_al 0 (I_il 3 (I_ic 3 (I_csH (fun As M Q => TrH l G Y_L_one0 hh_one As M Q) 3 (I_imul (I_icge (I_lc 31 (I_ll 1 (I_lmul (I_al 0 (I_il 3 (I_ic 0 (I_csH (fun As M Q => TrH l G Y_L_next0 hh_next As M Q) 3 (I_i2l (I_ladd (I_ls 1 (I_inc 3 1 (I_kl 4 (Wj true l G F Y_L_sum Q QX 0 0 70))))))))))))) (I_lc 31 (I_ll 1 (I_lmul (I_al 0 (I_il 3 (I_ic 1 (I_il 4 (I_ic 4 (I_idiv (I_il 4 (I_ic 4 (I_irem (I_csH (fun As M Q => TrH l G Y_L_entry0 hh_entry As M Q) 5 (I_i2l (I_ladd (I_ls 1 (I_inc 4 1 (Wj true l G F Y_L_sum Q QX 0 0 194))))))))))))))))))))))))))
set_option maxRecDepth 100000 in
theorem g_L_sum_194 {l : Launch} {G : GT} {F : FX} {Q : PQ} {QX : PX} : Le (R_L_sum_194 l G F Q QX) (Wj true l G F Y_L_sum Q QX 0 0 194) := by
  unfold R_L_sum_194
  refine r_iload (pc := 194) ?_ dL_sum_194
  refine r_iconst (pc := 196) ?_ dL_sum_196 (by decide)
  refine r_aload_n (pc := 197) ?_ dL_sum_197 rfl
  refine r_iload_n (pc := 198) ?_ dL_sum_198 rfl
  refine r_iconst (pc := 199) ?_ dL_sum_199 (by decide)
  refine r_csH (pc := 200) (k := 0) (n := 0) (Yc := Y_L_one0) ?_ dL_sum_200 cw_one wd_1_0 wd_3_43 wd_3_42 ⟨by decide, by decide⟩ (by decide +kernel) ⟨Nat.le_of_ble_eq_true rfl, Nat.le_of_ble_eq_true rfl⟩ ⟨Nat.le_of_ble_eq_true rfl, Nat.le_of_ble_eq_true rfl⟩
  refine r_imul (pc := 203) ?_ dL_sum_203
  refine r_icge (pc := 204) (t := 235) ?_ ?_ dL_sum_204 (by decide)
  · refine r_ldc2 (pc := 235) ?_ dL_sum_235 wd_2_208
    refine r_lload_n (pc := 238) ?_ dL_sum_238 rfl
    refine r_lmul (pc := 239) ?_ dL_sum_239
    refine r_aload_n (pc := 240) ?_ dL_sum_240 rfl
    refine r_iload_n (pc := 241) ?_ dL_sum_241 rfl
    refine r_iconst (pc := 242) ?_ dL_sum_242 (by decide)
    refine r_csH (pc := 243) (k := 0) (n := 0) (Yc := Y_L_next0) ?_ dL_sum_243 cw_next wd_1_0 wd_3_97 wd_3_96 ⟨by decide, by decide⟩ (by decide +kernel) ⟨Nat.le_of_ble_eq_true rfl, Nat.le_of_ble_eq_true rfl⟩ ⟨Nat.le_of_ble_eq_true rfl, Nat.le_of_ble_eq_true rfl⟩
    refine r_i2l (pc := 246) ?_ dL_sum_246
    refine r_ladd (pc := 247) ?_ dL_sum_247
    refine r_lstore_n (pc := 248) ?_ dL_sum_248 rfl (Nat.le_of_ble_eq_true rfl)
    refine r_iinc (pc := 249) ?_ dL_sum_249 (by decide) (Nat.le_of_ble_eq_true rfl)
    refine r_goto (pc := 252) (t := 70) ?_ dL_sum_252 (by decide)
    refine r_kl ?_
    exact Le.rf
  · refine r_ldc2 (pc := 207) ?_ dL_sum_207 wd_2_208
    refine r_lload_n (pc := 210) ?_ dL_sum_210 rfl
    refine r_lmul (pc := 211) ?_ dL_sum_211
    refine r_aload_n (pc := 212) ?_ dL_sum_212 rfl
    refine r_iload_n (pc := 213) ?_ dL_sum_213 rfl
    refine r_iconst (pc := 214) ?_ dL_sum_214 (by decide)
    refine r_iload (pc := 215) ?_ dL_sum_215
    refine r_iconst (pc := 217) ?_ dL_sum_217 (by decide)
    refine r_idiv (pc := 218) ?_ dL_sum_218
    refine r_iload (pc := 219) ?_ dL_sum_219
    refine r_iconst (pc := 221) ?_ dL_sum_221 (by decide)
    refine r_irem (pc := 222) ?_ dL_sum_222
    refine r_csH (pc := 223) (k := 0) (n := 0) (Yc := Y_L_entry0) ?_ dL_sum_223 cw_entry wd_1_0 wd_3_85 wd_3_84 ⟨by decide, by decide⟩ (by decide +kernel) ⟨Nat.le_of_ble_eq_true rfl, Nat.le_of_ble_eq_true rfl⟩ ⟨Nat.le_of_ble_eq_true rfl, Nat.le_of_ble_eq_true rfl⟩
    refine r_i2l (pc := 226) ?_ dL_sum_226
    refine r_ladd (pc := 227) ?_ dL_sum_227
    refine r_lstore_n (pc := 228) ?_ dL_sum_228 rfl (Nat.le_of_ble_eq_true rfl)
    refine r_iinc (pc := 229) ?_ dL_sum_229 (by decide) (Nat.le_of_ble_eq_true rfl)
    refine r_goto (pc := 232) (t := 194) ?_ dL_sum_232 (by decide)
    exact Le.rf
abbrev Y_L_isFit : YT := (yL_isFit, cL_isFit, 14, (some .boolean), 9, 176, 0, 0)
theorem ok_L_isFit : okS Y_L_isFit 2 := ⟨⟨wd_4_213, wd_1_0, by decide, by decide, by decide +kernel⟩, wd_4_212⟩
def R_L_isFit_0 (l : Launch) (G : GT) (F : FX) (Q : PQ) (QX : PX) : KT := (I_al 0 (I_il 1 (I_ic 0 (I_csH (fun As M Q => TrH l G Y_L_one0 hh_one As M Q) 3 (I_is 2 (I_al 0 (I_il 1 (I_ic 1 (I_csH (fun As M Q => TrH l G Y_L_one0 hh_one As M Q) 3 (I_is 3 (I_al 0 (I_il 1 (I_ic 2 (I_csH (fun As M Q => TrH l G Y_L_one0 hh_one As M Q) 3 (I_is 4 (I_al 0 (I_il 1 (I_ic 3 (I_csH (fun As M Q => TrH l G Y_L_one0 hh_one As M Q) 3 (I_is 5 (I_il 2 (I_iflt I_no (I_il 2 (I_al 0 (I_ic 0 (I_csH (fun As M Q => TrH l G Y_L_whole0 hh_whole As M Q) 2 (I_icge I_no (I_il 3 (I_ic (-1) (I_iclt I_no (I_il 3 (I_al 0 (I_ic 1 (I_csH (fun As M Q => TrH l G Y_L_whole0 hh_whole As M Q) 2 (I_icge I_no (I_il 4 (I_iflt I_no (I_il 5 (I_iflt I_no (I_il 4 (I_il 5 (I_iadd (I_ic 20 (I_icgt I_no (I_al 0 (I_il 1 (I_ic 9 (I_csH (fun As M Q => TrH l G Y_L_one0 hh_one As M Q) 3 (I_iflt I_no (I_al 0 (I_il 1 (I_ic 9 (I_csH (fun As M Q => TrH l G Y_L_one0 hh_one As M Q) 3 (I_ic 12 (I_icgt I_no (I_al 0 (I_il 1 (I_ic 8 (I_csH (fun As M Q => TrH l G Y_L_one0 hh_one As M Q) 3 (I_al 0 (I_ic 3 (I_csH (fun As M Q => TrH l G Y_L_whole0 hh_whole As M Q) 2 (I_ic 1 (I_iadd (I_icgt I_no (I_ic 1 (I_is 6 (I_ic 1 (I_is 7 (I_ic 0 (I_is 8 (I_ic 0 (I_is 9 (I_ic 0 (I_is 10 (I_kl 2 (Wj true l G F Y_L_isFit Q QX 0 0 135)))))))))))))))))))))))))))))))))))))))))))))))))))))))))))))))))))))))))))))
set_option maxRecDepth 100000 in
theorem g_L_isFit_0 {l : Launch} {G : GT} {F : FX} {Q : PQ} {QX : PX} : Le (R_L_isFit_0 l G F Q QX) (Wj true l G F Y_L_isFit Q QX 0 0 0) := by
  unfold R_L_isFit_0
  refine r_aload_n (pc := 0) ?_ dL_isFit_0 rfl
  refine r_iload_n (pc := 1) ?_ dL_isFit_1 rfl
  refine r_iconst (pc := 2) ?_ dL_isFit_2 (by decide)
  refine r_csH (pc := 3) (k := 0) (n := 0) (Yc := Y_L_one0) ?_ dL_isFit_3 cw_one wd_1_0 wd_3_43 wd_3_42 ⟨by decide, by decide⟩ (by decide +kernel) ⟨Nat.le_of_ble_eq_true rfl, Nat.le_of_ble_eq_true rfl⟩ ⟨Nat.le_of_ble_eq_true rfl, Nat.le_of_ble_eq_true rfl⟩
  refine r_istore_n (pc := 6) ?_ dL_isFit_6 rfl (Nat.le_of_ble_eq_true rfl)
  refine r_aload_n (pc := 7) ?_ dL_isFit_7 rfl
  refine r_iload_n (pc := 8) ?_ dL_isFit_8 rfl
  refine r_iconst (pc := 9) ?_ dL_isFit_9 (by decide)
  refine r_csH (pc := 10) (k := 0) (n := 0) (Yc := Y_L_one0) ?_ dL_isFit_10 cw_one wd_1_0 wd_3_43 wd_3_42 ⟨by decide, by decide⟩ (by decide +kernel) ⟨Nat.le_of_ble_eq_true rfl, Nat.le_of_ble_eq_true rfl⟩ ⟨Nat.le_of_ble_eq_true rfl, Nat.le_of_ble_eq_true rfl⟩
  refine r_istore_n (pc := 13) ?_ dL_isFit_13 rfl (Nat.le_of_ble_eq_true rfl)
  refine r_aload_n (pc := 14) ?_ dL_isFit_14 rfl
  refine r_iload_n (pc := 15) ?_ dL_isFit_15 rfl
  refine r_iconst (pc := 16) ?_ dL_isFit_16 (by decide)
  refine r_csH (pc := 17) (k := 0) (n := 0) (Yc := Y_L_one0) ?_ dL_isFit_17 cw_one wd_1_0 wd_3_43 wd_3_42 ⟨by decide, by decide⟩ (by decide +kernel) ⟨Nat.le_of_ble_eq_true rfl, Nat.le_of_ble_eq_true rfl⟩ ⟨Nat.le_of_ble_eq_true rfl, Nat.le_of_ble_eq_true rfl⟩
  refine r_istore (pc := 20) ?_ dL_isFit_20 (Nat.le_of_ble_eq_true rfl)
  refine r_aload_n (pc := 22) ?_ dL_isFit_22 rfl
  refine r_iload_n (pc := 23) ?_ dL_isFit_23 rfl
  refine r_iconst (pc := 24) ?_ dL_isFit_24 (by decide)
  refine r_csH (pc := 25) (k := 0) (n := 0) (Yc := Y_L_one0) ?_ dL_isFit_25 cw_one wd_1_0 wd_3_43 wd_3_42 ⟨by decide, by decide⟩ (by decide +kernel) ⟨Nat.le_of_ble_eq_true rfl, Nat.le_of_ble_eq_true rfl⟩ ⟨Nat.le_of_ble_eq_true rfl, Nat.le_of_ble_eq_true rfl⟩
  refine r_istore (pc := 28) ?_ dL_isFit_28 (Nat.le_of_ble_eq_true rfl)
  refine r_iload_n (pc := 30) ?_ dL_isFit_30 rfl
  refine r_iflt (pc := 31) (t := 120) ?_ ?_ dL_isFit_31 (by decide)
  · exact r_no
  · refine r_iload_n (pc := 34) ?_ dL_isFit_34 rfl
    refine r_aload_n (pc := 35) ?_ dL_isFit_35 rfl
    refine r_iconst (pc := 36) ?_ dL_isFit_36 (by decide)
    refine r_csH (pc := 37) (k := 0) (n := 0) (Yc := Y_L_whole0) ?_ dL_isFit_37 cw_whole wd_1_0 wd_2_210 wd_2_209 ⟨by decide, by decide⟩ (by decide +kernel) ⟨Nat.le_of_ble_eq_true rfl, Nat.le_of_ble_eq_true rfl⟩ ⟨Nat.le_of_ble_eq_true rfl, Nat.le_of_ble_eq_true rfl⟩
    refine r_icge (pc := 40) (t := 120) ?_ ?_ dL_isFit_40 (by decide)
    · exact r_no
    · refine r_iload_n (pc := 43) ?_ dL_isFit_43 rfl
      refine r_iconst (pc := 44) ?_ dL_isFit_44 (by decide)
      refine r_iclt (pc := 45) (t := 120) ?_ ?_ dL_isFit_45 (by decide)
      · exact r_no
      · refine r_iload_n (pc := 48) ?_ dL_isFit_48 rfl
        refine r_aload_n (pc := 49) ?_ dL_isFit_49 rfl
        refine r_iconst (pc := 50) ?_ dL_isFit_50 (by decide)
        refine r_csH (pc := 51) (k := 0) (n := 0) (Yc := Y_L_whole0) ?_ dL_isFit_51 cw_whole wd_1_0 wd_2_210 wd_2_209 ⟨by decide, by decide⟩ (by decide +kernel) ⟨Nat.le_of_ble_eq_true rfl, Nat.le_of_ble_eq_true rfl⟩ ⟨Nat.le_of_ble_eq_true rfl, Nat.le_of_ble_eq_true rfl⟩
        refine r_icge (pc := 54) (t := 120) ?_ ?_ dL_isFit_54 (by decide)
        · exact r_no
        · refine r_iload (pc := 57) ?_ dL_isFit_57
          refine r_iflt (pc := 59) (t := 120) ?_ ?_ dL_isFit_59 (by decide)
          · exact r_no
          · refine r_iload (pc := 62) ?_ dL_isFit_62
            refine r_iflt (pc := 64) (t := 120) ?_ ?_ dL_isFit_64 (by decide)
            · exact r_no
            · refine r_iload (pc := 67) ?_ dL_isFit_67
              refine r_iload (pc := 69) ?_ dL_isFit_69
              refine r_iadd (pc := 71) ?_ dL_isFit_71
              refine r_bipush (pc := 72) ?_ dL_isFit_72 (by decide)
              refine r_icgt (pc := 74) (t := 120) ?_ ?_ dL_isFit_74 (by decide)
              · exact r_no
              · refine r_aload_n (pc := 77) ?_ dL_isFit_77 rfl
                refine r_iload_n (pc := 78) ?_ dL_isFit_78 rfl
                refine r_bipush (pc := 79) ?_ dL_isFit_79 (by decide)
                refine r_csH (pc := 81) (k := 0) (n := 0) (Yc := Y_L_one0) ?_ dL_isFit_81 cw_one wd_1_0 wd_3_43 wd_3_42 ⟨by decide, by decide⟩ (by decide +kernel) ⟨Nat.le_of_ble_eq_true rfl, Nat.le_of_ble_eq_true rfl⟩ ⟨Nat.le_of_ble_eq_true rfl, Nat.le_of_ble_eq_true rfl⟩
                refine r_iflt (pc := 84) (t := 120) ?_ ?_ dL_isFit_84 (by decide)
                · exact r_no
                · refine r_aload_n (pc := 87) ?_ dL_isFit_87 rfl
                  refine r_iload_n (pc := 88) ?_ dL_isFit_88 rfl
                  refine r_bipush (pc := 89) ?_ dL_isFit_89 (by decide)
                  refine r_csH (pc := 91) (k := 0) (n := 0) (Yc := Y_L_one0) ?_ dL_isFit_91 cw_one wd_1_0 wd_3_43 wd_3_42 ⟨by decide, by decide⟩ (by decide +kernel) ⟨Nat.le_of_ble_eq_true rfl, Nat.le_of_ble_eq_true rfl⟩ ⟨Nat.le_of_ble_eq_true rfl, Nat.le_of_ble_eq_true rfl⟩
                  refine r_bipush (pc := 94) ?_ dL_isFit_94 (by decide)
                  refine r_icgt (pc := 96) (t := 120) ?_ ?_ dL_isFit_96 (by decide)
                  · exact r_no
                  · refine r_aload_n (pc := 99) ?_ dL_isFit_99 rfl
                    refine r_iload_n (pc := 100) ?_ dL_isFit_100 rfl
                    refine r_bipush (pc := 101) ?_ dL_isFit_101 (by decide)
                    refine r_csH (pc := 103) (k := 0) (n := 0) (Yc := Y_L_one0) ?_ dL_isFit_103 cw_one wd_1_0 wd_3_43 wd_3_42 ⟨by decide, by decide⟩ (by decide +kernel) ⟨Nat.le_of_ble_eq_true rfl, Nat.le_of_ble_eq_true rfl⟩ ⟨Nat.le_of_ble_eq_true rfl, Nat.le_of_ble_eq_true rfl⟩
                    refine r_aload_n (pc := 106) ?_ dL_isFit_106 rfl
                    refine r_iconst (pc := 107) ?_ dL_isFit_107 (by decide)
                    refine r_csH (pc := 108) (k := 0) (n := 0) (Yc := Y_L_whole0) ?_ dL_isFit_108 cw_whole wd_1_0 wd_2_210 wd_2_209 ⟨by decide, by decide⟩ (by decide +kernel) ⟨Nat.le_of_ble_eq_true rfl, Nat.le_of_ble_eq_true rfl⟩ ⟨Nat.le_of_ble_eq_true rfl, Nat.le_of_ble_eq_true rfl⟩
                    refine r_iconst (pc := 111) ?_ dL_isFit_111 (by decide)
                    refine r_iadd (pc := 112) ?_ dL_isFit_112
                    refine r_icgt (pc := 113) (t := 120) ?_ ?_ dL_isFit_113 (by decide)
                    · exact r_no
                    · refine r_iconst (pc := 116) ?_ dL_isFit_116 (by decide)
                      refine r_goto (pc := 117) (t := 121) ?_ dL_isFit_117 (by decide)
                      refine r_istore (pc := 121) ?_ dL_isFit_121 (Nat.le_of_ble_eq_true rfl)
                      refine r_iconst (pc := 123) ?_ dL_isFit_123 (by decide)
                      refine r_istore (pc := 124) ?_ dL_isFit_124 (Nat.le_of_ble_eq_true rfl)
                      refine r_iconst (pc := 126) ?_ dL_isFit_126 (by decide)
                      refine r_istore (pc := 127) ?_ dL_isFit_127 (Nat.le_of_ble_eq_true rfl)
                      refine r_iconst (pc := 129) ?_ dL_isFit_129 (by decide)
                      refine r_istore (pc := 130) ?_ dL_isFit_130 (Nat.le_of_ble_eq_true rfl)
                      refine r_iconst (pc := 132) ?_ dL_isFit_132 (by decide)
                      refine r_istore (pc := 133) ?_ dL_isFit_133 (Nat.le_of_ble_eq_true rfl)
                      refine r_kl ?_
                      exact Le.rf
def R_L_isFit_135 (l : Launch) (G : GT) (F : FX) (Q : PQ) (QX : PX) : KT := (I_il 10 (I_ic 3 (I_icge (I_ic 0 (I_is 10 (I_ic 0 (I_is 11 (I_ic 0 (I_is 12 (Wj true l G F Y_L_isFit Q QX 0 0 267))))))) (I_al 0 (I_il 1 (I_il 10 (I_ic 0 (I_csH (fun As M Q => TrH l G Y_L_part0 hh_part As M Q) 4 (I_is 11 (I_al 0 (I_il 1 (I_il 10 (I_ic 1 (I_csH (fun As M Q => TrH l G Y_L_part0 hh_part As M Q) 4 (I_is 12 (I_il 11 (I_il 12 (I_icle (I_ic 0 (I_kl 11 (Wj true l G F Y_L_isFit Q QX 0 0 177))) (I_il 11 (I_il 12 (I_isub (I_kl 11 (Wj true l G F Y_L_isFit Q QX 0 0 177)))))))))))))))))))))))
set_option maxRecDepth 100000 in
theorem g_L_isFit_135 {l : Launch} {G : GT} {F : FX} {Q : PQ} {QX : PX} : Le (R_L_isFit_135 l G F Q QX) (Wj true l G F Y_L_isFit Q QX 0 0 135) := by
  unfold R_L_isFit_135
  refine r_iload (pc := 135) ?_ dL_isFit_135
  refine r_iconst (pc := 137) ?_ dL_isFit_137 (by decide)
  refine r_icge (pc := 138) (t := 258) ?_ ?_ dL_isFit_138 (by decide)
  · refine r_iconst (pc := 258) ?_ dL_isFit_258 (by decide)
    refine r_istore (pc := 259) ?_ dL_isFit_259 (Nat.le_of_ble_eq_true rfl)
    refine r_iconst (pc := 261) ?_ dL_isFit_261 (by decide)
    refine r_istore (pc := 262) ?_ dL_isFit_262 (Nat.le_of_ble_eq_true rfl)
    refine r_iconst (pc := 264) ?_ dL_isFit_264 (by decide)
    refine r_istore (pc := 265) ?_ dL_isFit_265 (Nat.le_of_ble_eq_true rfl)
    exact Le.rf
  · refine r_aload_n (pc := 141) ?_ dL_isFit_141 rfl
    refine r_iload_n (pc := 142) ?_ dL_isFit_142 rfl
    refine r_iload (pc := 143) ?_ dL_isFit_143
    refine r_iconst (pc := 145) ?_ dL_isFit_145 (by decide)
    refine r_csH (pc := 146) (k := 0) (n := 0) (Yc := Y_L_part0) ?_ dL_isFit_146 cw_part wd_1_0 wd_3_67 wd_3_66 ⟨by decide, by decide⟩ (by decide +kernel) ⟨Nat.le_of_ble_eq_true rfl, Nat.le_of_ble_eq_true rfl⟩ ⟨Nat.le_of_ble_eq_true rfl, Nat.le_of_ble_eq_true rfl⟩
    refine r_istore (pc := 149) ?_ dL_isFit_149 (Nat.le_of_ble_eq_true rfl)
    refine r_aload_n (pc := 151) ?_ dL_isFit_151 rfl
    refine r_iload_n (pc := 152) ?_ dL_isFit_152 rfl
    refine r_iload (pc := 153) ?_ dL_isFit_153
    refine r_iconst (pc := 155) ?_ dL_isFit_155 (by decide)
    refine r_csH (pc := 156) (k := 0) (n := 0) (Yc := Y_L_part0) ?_ dL_isFit_156 cw_part wd_1_0 wd_3_67 wd_3_66 ⟨by decide, by decide⟩ (by decide +kernel) ⟨Nat.le_of_ble_eq_true rfl, Nat.le_of_ble_eq_true rfl⟩ ⟨Nat.le_of_ble_eq_true rfl, Nat.le_of_ble_eq_true rfl⟩
    refine r_istore (pc := 159) ?_ dL_isFit_159 (Nat.le_of_ble_eq_true rfl)
    refine r_iload (pc := 161) ?_ dL_isFit_161
    refine r_iload (pc := 163) ?_ dL_isFit_163
    refine r_icle (pc := 165) (t := 176) ?_ ?_ dL_isFit_165 (by decide)
    · refine r_iconst (pc := 176) ?_ dL_isFit_176 (by decide)
      refine r_kl ?_
      exact Le.rf
    · refine r_iload (pc := 168) ?_ dL_isFit_168
      refine r_iload (pc := 170) ?_ dL_isFit_170
      refine r_isub (pc := 172) ?_ dL_isFit_172
      refine r_goto (pc := 173) (t := 177) ?_ dL_isFit_173 (by decide)
      refine r_kl ?_
      exact Le.rf
def R_L_isFit_267 (l : Launch) (G : GT) (F : FX) (Q : PQ) (QX : PX) : KT := (I_il 12 (I_il 4 (I_icge (I_kl 12 (I_kl 10 (I_kl 3 (Wj true l G F Y_L_isFit Q QX 0 0 394)))) (I_il 6 (I_ifeq (I_kl 12 (I_kl 10 (I_kl 3 (Wj true l G F Y_L_isFit Q QX 0 0 394)))) (I_al 0 (I_il 1 (I_ic 0 (I_il 12 (I_ic 2 (I_csH (fun As M Q => TrH l G Y_L_entry0 hh_entry As M Q) 5 (I_is 13 (I_il 13 (I_il 10 (I_iclt I_no (I_il 13 (I_al 0 (I_ic 3 (I_csH (fun As M Q => TrH l G Y_L_whole0 hh_whole As M Q) 2 (I_icgt I_no (I_al 0 (I_ic 3 (I_csH (fun As M Q => TrH l G Y_L_whole0 hh_whole As M Q) 2 (I_il 13 (I_isub (I_ic 14 (I_icgt I_no (I_al 0 (I_il 1 (I_ic 0 (I_il 12 (I_ic 1 (I_csH (fun As M Q => TrH l G Y_L_entry0 hh_entry As M Q) 5 (I_ifle I_no (I_al 0 (I_il 1 (I_ic 0 (I_il 12 (I_ic 1 (I_csH (fun As M Q => TrH l G Y_L_entry0 hh_entry As M Q) 5 (I_ic 13 (I_icge I_no (I_il 3 (I_iflt (I_kl 10 (I_kl 6 (Wj true l G F Y_L_isFit Q QX 0 0 363))) (I_al 0 (I_il 1 (I_ic 0 (I_il 12 (I_ic 3 (I_csH (fun As M Q => TrH l G Y_L_entry0 hh_entry As M Q) 5 (I_il 3 (I_icne I_no (I_kl 10 (I_kl 6 (Wj true l G F Y_L_isFit Q QX 0 0 363)))))))))))))))))))))))))))))))))))))))))))))))))))))))
set_option maxRecDepth 100000 in
theorem g_L_isFit_267 {l : Launch} {G : GT} {F : FX} {Q : PQ} {QX : PX} : Le (R_L_isFit_267 l G F Q QX) (Wj true l G F Y_L_isFit Q QX 0 0 267) := by
  unfold R_L_isFit_267
  refine r_iload (pc := 267) ?_ dL_isFit_267
  refine r_iload (pc := 269) ?_ dL_isFit_269
  refine r_icge (pc := 271) (t := 394) ?_ ?_ dL_isFit_271 (by decide)
  · refine r_kl ?_
    refine r_kl ?_
    refine r_kl ?_
    exact Le.rf
  · refine r_iload (pc := 274) ?_ dL_isFit_274
    refine r_ifeq (pc := 276) (t := 394) ?_ ?_ dL_isFit_276 (by decide)
    · refine r_kl ?_
      refine r_kl ?_
      refine r_kl ?_
      exact Le.rf
    · refine r_aload_n (pc := 279) ?_ dL_isFit_279 rfl
      refine r_iload_n (pc := 280) ?_ dL_isFit_280 rfl
      refine r_iconst (pc := 281) ?_ dL_isFit_281 (by decide)
      refine r_iload (pc := 282) ?_ dL_isFit_282
      refine r_iconst (pc := 284) ?_ dL_isFit_284 (by decide)
      refine r_csH (pc := 285) (k := 0) (n := 0) (Yc := Y_L_entry0) ?_ dL_isFit_285 cw_entry wd_1_0 wd_3_85 wd_3_84 ⟨by decide, by decide⟩ (by decide +kernel) ⟨Nat.le_of_ble_eq_true rfl, Nat.le_of_ble_eq_true rfl⟩ ⟨Nat.le_of_ble_eq_true rfl, Nat.le_of_ble_eq_true rfl⟩
      refine r_istore (pc := 288) ?_ dL_isFit_288 (Nat.le_of_ble_eq_true rfl)
      refine r_iload (pc := 290) ?_ dL_isFit_290
      refine r_iload (pc := 292) ?_ dL_isFit_292
      refine r_iclt (pc := 294) (t := 367) ?_ ?_ dL_isFit_294 (by decide)
      · exact r_no
      · refine r_iload (pc := 297) ?_ dL_isFit_297
        refine r_aload_n (pc := 299) ?_ dL_isFit_299 rfl
        refine r_iconst (pc := 300) ?_ dL_isFit_300 (by decide)
        refine r_csH (pc := 301) (k := 0) (n := 0) (Yc := Y_L_whole0) ?_ dL_isFit_301 cw_whole wd_1_0 wd_2_210 wd_2_209 ⟨by decide, by decide⟩ (by decide +kernel) ⟨Nat.le_of_ble_eq_true rfl, Nat.le_of_ble_eq_true rfl⟩ ⟨Nat.le_of_ble_eq_true rfl, Nat.le_of_ble_eq_true rfl⟩
        refine r_icgt (pc := 304) (t := 367) ?_ ?_ dL_isFit_304 (by decide)
        · exact r_no
        · refine r_aload_n (pc := 307) ?_ dL_isFit_307 rfl
          refine r_iconst (pc := 308) ?_ dL_isFit_308 (by decide)
          refine r_csH (pc := 309) (k := 0) (n := 0) (Yc := Y_L_whole0) ?_ dL_isFit_309 cw_whole wd_1_0 wd_2_210 wd_2_209 ⟨by decide, by decide⟩ (by decide +kernel) ⟨Nat.le_of_ble_eq_true rfl, Nat.le_of_ble_eq_true rfl⟩ ⟨Nat.le_of_ble_eq_true rfl, Nat.le_of_ble_eq_true rfl⟩
          refine r_iload (pc := 312) ?_ dL_isFit_312
          refine r_isub (pc := 314) ?_ dL_isFit_314
          refine r_bipush (pc := 315) ?_ dL_isFit_315 (by decide)
          refine r_icgt (pc := 317) (t := 367) ?_ ?_ dL_isFit_317 (by decide)
          · exact r_no
          · refine r_aload_n (pc := 320) ?_ dL_isFit_320 rfl
            refine r_iload_n (pc := 321) ?_ dL_isFit_321 rfl
            refine r_iconst (pc := 322) ?_ dL_isFit_322 (by decide)
            refine r_iload (pc := 323) ?_ dL_isFit_323
            refine r_iconst (pc := 325) ?_ dL_isFit_325 (by decide)
            refine r_csH (pc := 326) (k := 0) (n := 0) (Yc := Y_L_entry0) ?_ dL_isFit_326 cw_entry wd_1_0 wd_3_85 wd_3_84 ⟨by decide, by decide⟩ (by decide +kernel) ⟨Nat.le_of_ble_eq_true rfl, Nat.le_of_ble_eq_true rfl⟩ ⟨Nat.le_of_ble_eq_true rfl, Nat.le_of_ble_eq_true rfl⟩
            refine r_ifle (pc := 329) (t := 367) ?_ ?_ dL_isFit_329 (by decide)
            · exact r_no
            · refine r_aload_n (pc := 332) ?_ dL_isFit_332 rfl
              refine r_iload_n (pc := 333) ?_ dL_isFit_333 rfl
              refine r_iconst (pc := 334) ?_ dL_isFit_334 (by decide)
              refine r_iload (pc := 335) ?_ dL_isFit_335
              refine r_iconst (pc := 337) ?_ dL_isFit_337 (by decide)
              refine r_csH (pc := 338) (k := 0) (n := 0) (Yc := Y_L_entry0) ?_ dL_isFit_338 cw_entry wd_1_0 wd_3_85 wd_3_84 ⟨by decide, by decide⟩ (by decide +kernel) ⟨Nat.le_of_ble_eq_true rfl, Nat.le_of_ble_eq_true rfl⟩ ⟨Nat.le_of_ble_eq_true rfl, Nat.le_of_ble_eq_true rfl⟩
              refine r_bipush (pc := 341) ?_ dL_isFit_341 (by decide)
              refine r_icge (pc := 343) (t := 367) ?_ ?_ dL_isFit_343 (by decide)
              · exact r_no
              · refine r_iload_n (pc := 346) ?_ dL_isFit_346 rfl
                refine r_iflt (pc := 347) (t := 363) ?_ ?_ dL_isFit_347 (by decide)
                · refine r_kl ?_
                  refine r_kl ?_
                  exact Le.rf
                · refine r_aload_n (pc := 350) ?_ dL_isFit_350 rfl
                  refine r_iload_n (pc := 351) ?_ dL_isFit_351 rfl
                  refine r_iconst (pc := 352) ?_ dL_isFit_352 (by decide)
                  refine r_iload (pc := 353) ?_ dL_isFit_353
                  refine r_iconst (pc := 355) ?_ dL_isFit_355 (by decide)
                  refine r_csH (pc := 356) (k := 0) (n := 0) (Yc := Y_L_entry0) ?_ dL_isFit_356 cw_entry wd_1_0 wd_3_85 wd_3_84 ⟨by decide, by decide⟩ (by decide +kernel) ⟨Nat.le_of_ble_eq_true rfl, Nat.le_of_ble_eq_true rfl⟩ ⟨Nat.le_of_ble_eq_true rfl, Nat.le_of_ble_eq_true rfl⟩
                  refine r_iload_n (pc := 359) ?_ dL_isFit_359 rfl
                  refine r_icne (pc := 360) (t := 367) ?_ ?_ dL_isFit_360 (by decide)
                  · exact r_no
                  · refine r_kl ?_
                    refine r_kl ?_
                    exact Le.rf
def R_L_isFit_177 (l : Launch) (G : GT) (F : FX) (Q : PQ) (QX : PX) : KT := (I_is 13 (I_il 6 (I_ifeq I_no (I_il 12 (I_iflt I_no (I_al 0 (I_il 1 (I_il 10 (I_ic 2 (I_csH (fun As M Q => TrH l G Y_L_part0 hh_part As M Q) 4 (I_il 13 (I_icne I_no (I_ic 1 (I_is 6 (I_il 7 (I_ifeq (I_ic 0 (I_kl 13 (I_kl 12 (I_kl 7 (Wj true l G F Y_L_isFit Q QX 0 0 224))))) (I_il 13 (I_ifne (I_ic 0 (I_kl 13 (I_kl 12 (I_kl 7 (Wj true l G F Y_L_isFit Q QX 0 0 224))))) (I_ic 1 (I_kl 13 (I_kl 12 (I_kl 7 (Wj true l G F Y_L_isFit Q QX 0 0 224)))))))))))))))))))))))
set_option maxRecDepth 100000 in
theorem g_L_isFit_177 {l : Launch} {G : GT} {F : FX} {Q : PQ} {QX : PX} : Le (R_L_isFit_177 l G F Q QX) (Wj true l G F Y_L_isFit Q QX 0 0 177) := by
  unfold R_L_isFit_177
  refine r_istore (pc := 177) ?_ dL_isFit_177 (Nat.le_of_ble_eq_true rfl)
  refine r_iload (pc := 179) ?_ dL_isFit_179
  refine r_ifeq (pc := 181) (t := 206) ?_ ?_ dL_isFit_181 (by decide)
  · exact r_no
  · refine r_iload (pc := 184) ?_ dL_isFit_184
    refine r_iflt (pc := 186) (t := 206) ?_ ?_ dL_isFit_186 (by decide)
    · exact r_no
    · refine r_aload_n (pc := 189) ?_ dL_isFit_189 rfl
      refine r_iload_n (pc := 190) ?_ dL_isFit_190 rfl
      refine r_iload (pc := 191) ?_ dL_isFit_191
      refine r_iconst (pc := 193) ?_ dL_isFit_193 (by decide)
      refine r_csH (pc := 194) (k := 0) (n := 0) (Yc := Y_L_part0) ?_ dL_isFit_194 cw_part wd_1_0 wd_3_67 wd_3_66 ⟨by decide, by decide⟩ (by decide +kernel) ⟨Nat.le_of_ble_eq_true rfl, Nat.le_of_ble_eq_true rfl⟩ ⟨Nat.le_of_ble_eq_true rfl, Nat.le_of_ble_eq_true rfl⟩
      refine r_iload (pc := 197) ?_ dL_isFit_197
      refine r_icne (pc := 199) (t := 206) ?_ ?_ dL_isFit_199 (by decide)
      · exact r_no
      · refine r_iconst (pc := 202) ?_ dL_isFit_202 (by decide)
        refine r_goto (pc := 203) (t := 207) ?_ dL_isFit_203 (by decide)
        refine r_istore (pc := 207) ?_ dL_isFit_207 (Nat.le_of_ble_eq_true rfl)
        refine r_iload (pc := 209) ?_ dL_isFit_209
        refine r_ifeq (pc := 211) (t := 223) ?_ ?_ dL_isFit_211 (by decide)
        · refine r_iconst (pc := 223) ?_ dL_isFit_223 (by decide)
          refine r_kl ?_
          refine r_kl ?_
          refine r_kl ?_
          exact Le.rf
        · refine r_iload (pc := 214) ?_ dL_isFit_214
          refine r_ifne (pc := 216) (t := 223) ?_ ?_ dL_isFit_216 (by decide)
          · refine r_iconst (pc := 223) ?_ dL_isFit_223 (by decide)
            refine r_kl ?_
            refine r_kl ?_
            refine r_kl ?_
            exact Le.rf
          · refine r_iconst (pc := 219) ?_ dL_isFit_219 (by decide)
            refine r_goto (pc := 220) (t := 224) ?_ dL_isFit_220 (by decide)
            refine r_kl ?_
            refine r_kl ?_
            refine r_kl ?_
            exact Le.rf
def R_L_isFit_394 (l : Launch) (G : GT) (F : FX) (Q : PQ) (QX : PX) : KT := (I_ic 0 (I_is 12 (Wj true l G F Y_L_isFit Q QX 0 0 397)))
set_option maxRecDepth 100000 in
theorem g_L_isFit_394 {l : Launch} {G : GT} {F : FX} {Q : PQ} {QX : PX} : Le (R_L_isFit_394 l G F Q QX) (Wj true l G F Y_L_isFit Q QX 0 0 394) := by
  unfold R_L_isFit_394
  refine r_iconst (pc := 394) ?_ dL_isFit_394 (by decide)
  refine r_istore (pc := 395) ?_ dL_isFit_395 (Nat.le_of_ble_eq_true rfl)
  exact Le.rf
def R_L_isFit_363 (l : Launch) (G : GT) (F : FX) (Q : PQ) (QX : PX) : KT := (I_ic 1 (I_is 6 (I_il 13 (I_is 10 (I_il 11 (I_al 0 (I_il 1 (I_ic 0 (I_il 12 (I_ic 1 (I_csH (fun As M Q => TrH l G Y_L_entry0 hh_entry As M Q) 5 (I_iadd (I_is 11 (I_inc 12 1 (I_kl 13 (Wj true l G F Y_L_isFit Q QX 0 0 267))))))))))))))))
set_option maxRecDepth 100000 in
theorem g_L_isFit_363 {l : Launch} {G : GT} {F : FX} {Q : PQ} {QX : PX} : Le (R_L_isFit_363 l G F Q QX) (Wj true l G F Y_L_isFit Q QX 0 0 363) := by
  unfold R_L_isFit_363
  refine r_iconst (pc := 363) ?_ dL_isFit_363 (by decide)
  refine r_goto (pc := 364) (t := 368) ?_ dL_isFit_364 (by decide)
  refine r_istore (pc := 368) ?_ dL_isFit_368 (Nat.le_of_ble_eq_true rfl)
  refine r_iload (pc := 370) ?_ dL_isFit_370
  refine r_istore (pc := 372) ?_ dL_isFit_372 (Nat.le_of_ble_eq_true rfl)
  refine r_iload (pc := 374) ?_ dL_isFit_374
  refine r_aload_n (pc := 376) ?_ dL_isFit_376 rfl
  refine r_iload_n (pc := 377) ?_ dL_isFit_377 rfl
  refine r_iconst (pc := 378) ?_ dL_isFit_378 (by decide)
  refine r_iload (pc := 379) ?_ dL_isFit_379
  refine r_iconst (pc := 381) ?_ dL_isFit_381 (by decide)
  refine r_csH (pc := 382) (k := 0) (n := 0) (Yc := Y_L_entry0) ?_ dL_isFit_382 cw_entry wd_1_0 wd_3_85 wd_3_84 ⟨by decide, by decide⟩ (by decide +kernel) ⟨Nat.le_of_ble_eq_true rfl, Nat.le_of_ble_eq_true rfl⟩ ⟨Nat.le_of_ble_eq_true rfl, Nat.le_of_ble_eq_true rfl⟩
  refine r_iadd (pc := 385) ?_ dL_isFit_385
  refine r_istore (pc := 386) ?_ dL_isFit_386 (Nat.le_of_ble_eq_true rfl)
  refine r_iinc (pc := 388) ?_ dL_isFit_388 (by decide) (Nat.le_of_ble_eq_true rfl)
  refine r_goto (pc := 391) (t := 267) ?_ dL_isFit_391 (by decide)
  refine r_kl ?_
  exact Le.rf
def R_L_isFit_224 (l : Launch) (G : GT) (F : FX) (Q : PQ) (QX : PX) : KT := (I_is 7 (I_il 8 (I_al 0 (I_il 1 (I_il 10 (I_ic 3 (I_csH (fun As M Q => TrH l G Y_L_part0 hh_part As M Q) 4 (I_iadd (I_is 8 (I_il 9 (I_al 0 (I_il 1 (I_il 10 (I_ic 4 (I_csH (fun As M Q => TrH l G Y_L_part0 hh_part As M Q) 4 (I_iadd (I_is 9 (I_inc 10 1 (Wj true l G F Y_L_isFit Q QX 0 0 135)))))))))))))))))))
set_option maxRecDepth 100000 in
theorem g_L_isFit_224 {l : Launch} {G : GT} {F : FX} {Q : PQ} {QX : PX} : Le (R_L_isFit_224 l G F Q QX) (Wj true l G F Y_L_isFit Q QX 0 0 224) := by
  unfold R_L_isFit_224
  refine r_istore (pc := 224) ?_ dL_isFit_224 (Nat.le_of_ble_eq_true rfl)
  refine r_iload (pc := 226) ?_ dL_isFit_226
  refine r_aload_n (pc := 228) ?_ dL_isFit_228 rfl
  refine r_iload_n (pc := 229) ?_ dL_isFit_229 rfl
  refine r_iload (pc := 230) ?_ dL_isFit_230
  refine r_iconst (pc := 232) ?_ dL_isFit_232 (by decide)
  refine r_csH (pc := 233) (k := 0) (n := 0) (Yc := Y_L_part0) ?_ dL_isFit_233 cw_part wd_1_0 wd_3_67 wd_3_66 ⟨by decide, by decide⟩ (by decide +kernel) ⟨Nat.le_of_ble_eq_true rfl, Nat.le_of_ble_eq_true rfl⟩ ⟨Nat.le_of_ble_eq_true rfl, Nat.le_of_ble_eq_true rfl⟩
  refine r_iadd (pc := 236) ?_ dL_isFit_236
  refine r_istore (pc := 237) ?_ dL_isFit_237 (Nat.le_of_ble_eq_true rfl)
  refine r_iload (pc := 239) ?_ dL_isFit_239
  refine r_aload_n (pc := 241) ?_ dL_isFit_241 rfl
  refine r_iload_n (pc := 242) ?_ dL_isFit_242 rfl
  refine r_iload (pc := 243) ?_ dL_isFit_243
  refine r_iconst (pc := 245) ?_ dL_isFit_245 (by decide)
  refine r_csH (pc := 246) (k := 0) (n := 0) (Yc := Y_L_part0) ?_ dL_isFit_246 cw_part wd_1_0 wd_3_67 wd_3_66 ⟨by decide, by decide⟩ (by decide +kernel) ⟨Nat.le_of_ble_eq_true rfl, Nat.le_of_ble_eq_true rfl⟩ ⟨Nat.le_of_ble_eq_true rfl, Nat.le_of_ble_eq_true rfl⟩
  refine r_iadd (pc := 249) ?_ dL_isFit_249
  refine r_istore (pc := 250) ?_ dL_isFit_250 (Nat.le_of_ble_eq_true rfl)
  refine r_iinc (pc := 252) ?_ dL_isFit_252 (by decide) (Nat.le_of_ble_eq_true rfl)
  refine r_goto (pc := 255) (t := 135) ?_ dL_isFit_255 (by decide)
  exact Le.rf
def R_L_isFit_397 (l : Launch) (G : GT) (F : FX) (Q : PQ) (QX : PX) : KT := (I_il 12 (I_il 5 (I_icge (I_kl 12 (Wj true l G F Y_L_isFit Q QX 0 0 476)) (I_il 6 (I_ifeq (I_kl 12 (Wj true l G F Y_L_isFit Q QX 0 0 476)) (I_al 0 (I_il 1 (I_ic 1 (I_il 12 (I_ic 0 (I_csH (fun As M Q => TrH l G Y_L_entry0 hh_entry As M Q) 5 (I_iflt I_no (I_al 0 (I_il 1 (I_ic 1 (I_il 12 (I_ic 0 (I_csH (fun As M Q => TrH l G Y_L_entry0 hh_entry As M Q) 5 (I_ic 3 (I_icge I_no (I_al 0 (I_il 1 (I_ic 1 (I_il 12 (I_ic 2 (I_csH (fun As M Q => TrH l G Y_L_entry0 hh_entry As M Q) 5 (I_al 0 (I_ic 3 (I_csH (fun As M Q => TrH l G Y_L_whole0 hh_whole As M Q) 2 (I_icgt I_no (I_al 0 (I_il 1 (I_ic 1 (I_il 12 (I_ic 3 (I_csH (fun As M Q => TrH l G Y_L_entry0 hh_entry As M Q) 5 (I_iflt I_no (I_ic 1 (I_is 6 (I_inc 12 1 (Wj true l G F Y_L_isFit Q QX 0 0 397)))))))))))))))))))))))))))))))))))))))))
set_option maxRecDepth 100000 in
theorem g_L_isFit_397 {l : Launch} {G : GT} {F : FX} {Q : PQ} {QX : PX} : Le (R_L_isFit_397 l G F Q QX) (Wj true l G F Y_L_isFit Q QX 0 0 397) := by
  unfold R_L_isFit_397
  refine r_iload (pc := 397) ?_ dL_isFit_397
  refine r_iload (pc := 399) ?_ dL_isFit_399
  refine r_icge (pc := 401) (t := 476) ?_ ?_ dL_isFit_401 (by decide)
  · refine r_kl ?_
    exact Le.rf
  · refine r_iload (pc := 404) ?_ dL_isFit_404
    refine r_ifeq (pc := 406) (t := 476) ?_ ?_ dL_isFit_406 (by decide)
    · refine r_kl ?_
      exact Le.rf
    · refine r_aload_n (pc := 409) ?_ dL_isFit_409 rfl
      refine r_iload_n (pc := 410) ?_ dL_isFit_410 rfl
      refine r_iconst (pc := 411) ?_ dL_isFit_411 (by decide)
      refine r_iload (pc := 412) ?_ dL_isFit_412
      refine r_iconst (pc := 414) ?_ dL_isFit_414 (by decide)
      refine r_csH (pc := 415) (k := 0) (n := 0) (Yc := Y_L_entry0) ?_ dL_isFit_415 cw_entry wd_1_0 wd_3_85 wd_3_84 ⟨by decide, by decide⟩ (by decide +kernel) ⟨Nat.le_of_ble_eq_true rfl, Nat.le_of_ble_eq_true rfl⟩ ⟨Nat.le_of_ble_eq_true rfl, Nat.le_of_ble_eq_true rfl⟩
      refine r_iflt (pc := 418) (t := 467) ?_ ?_ dL_isFit_418 (by decide)
      · exact r_no
      · refine r_aload_n (pc := 421) ?_ dL_isFit_421 rfl
        refine r_iload_n (pc := 422) ?_ dL_isFit_422 rfl
        refine r_iconst (pc := 423) ?_ dL_isFit_423 (by decide)
        refine r_iload (pc := 424) ?_ dL_isFit_424
        refine r_iconst (pc := 426) ?_ dL_isFit_426 (by decide)
        refine r_csH (pc := 427) (k := 0) (n := 0) (Yc := Y_L_entry0) ?_ dL_isFit_427 cw_entry wd_1_0 wd_3_85 wd_3_84 ⟨by decide, by decide⟩ (by decide +kernel) ⟨Nat.le_of_ble_eq_true rfl, Nat.le_of_ble_eq_true rfl⟩ ⟨Nat.le_of_ble_eq_true rfl, Nat.le_of_ble_eq_true rfl⟩
        refine r_iconst (pc := 430) ?_ dL_isFit_430 (by decide)
        refine r_icge (pc := 431) (t := 467) ?_ ?_ dL_isFit_431 (by decide)
        · exact r_no
        · refine r_aload_n (pc := 434) ?_ dL_isFit_434 rfl
          refine r_iload_n (pc := 435) ?_ dL_isFit_435 rfl
          refine r_iconst (pc := 436) ?_ dL_isFit_436 (by decide)
          refine r_iload (pc := 437) ?_ dL_isFit_437
          refine r_iconst (pc := 439) ?_ dL_isFit_439 (by decide)
          refine r_csH (pc := 440) (k := 0) (n := 0) (Yc := Y_L_entry0) ?_ dL_isFit_440 cw_entry wd_1_0 wd_3_85 wd_3_84 ⟨by decide, by decide⟩ (by decide +kernel) ⟨Nat.le_of_ble_eq_true rfl, Nat.le_of_ble_eq_true rfl⟩ ⟨Nat.le_of_ble_eq_true rfl, Nat.le_of_ble_eq_true rfl⟩
          refine r_aload_n (pc := 443) ?_ dL_isFit_443 rfl
          refine r_iconst (pc := 444) ?_ dL_isFit_444 (by decide)
          refine r_csH (pc := 445) (k := 0) (n := 0) (Yc := Y_L_whole0) ?_ dL_isFit_445 cw_whole wd_1_0 wd_2_210 wd_2_209 ⟨by decide, by decide⟩ (by decide +kernel) ⟨Nat.le_of_ble_eq_true rfl, Nat.le_of_ble_eq_true rfl⟩ ⟨Nat.le_of_ble_eq_true rfl, Nat.le_of_ble_eq_true rfl⟩
          refine r_icgt (pc := 448) (t := 467) ?_ ?_ dL_isFit_448 (by decide)
          · exact r_no
          · refine r_aload_n (pc := 451) ?_ dL_isFit_451 rfl
            refine r_iload_n (pc := 452) ?_ dL_isFit_452 rfl
            refine r_iconst (pc := 453) ?_ dL_isFit_453 (by decide)
            refine r_iload (pc := 454) ?_ dL_isFit_454
            refine r_iconst (pc := 456) ?_ dL_isFit_456 (by decide)
            refine r_csH (pc := 457) (k := 0) (n := 0) (Yc := Y_L_entry0) ?_ dL_isFit_457 cw_entry wd_1_0 wd_3_85 wd_3_84 ⟨by decide, by decide⟩ (by decide +kernel) ⟨Nat.le_of_ble_eq_true rfl, Nat.le_of_ble_eq_true rfl⟩ ⟨Nat.le_of_ble_eq_true rfl, Nat.le_of_ble_eq_true rfl⟩
            refine r_iflt (pc := 460) (t := 467) ?_ ?_ dL_isFit_460 (by decide)
            · exact r_no
            · refine r_iconst (pc := 463) ?_ dL_isFit_463 (by decide)
              refine r_goto (pc := 464) (t := 468) ?_ dL_isFit_464 (by decide)
              refine r_istore (pc := 468) ?_ dL_isFit_468 (Nat.le_of_ble_eq_true rfl)
              refine r_iinc (pc := 470) ?_ dL_isFit_470 (by decide) (Nat.le_of_ble_eq_true rfl)
              refine r_goto (pc := 473) (t := 397) ?_ dL_isFit_473 (by decide)
              exact Le.rf
def R_L_isFit_476 (l : Launch) (G : GT) (F : FX) (Q : PQ) (QX : PX) : KT := (I_il 6 (I_ifeq I_no (I_il 11 (I_il 8 (I_icne I_no (I_al 0 (I_il 1 (I_ic 4 (I_csH (fun As M Q => TrH l G Y_L_one0 hh_one As M Q) 3 (I_il 8 (I_icne I_no (I_al 0 (I_il 1 (I_ic 5 (I_csH (fun As M Q => TrH l G Y_L_one0 hh_one As M Q) 3 (I_il 9 (I_icne I_no (I_al 0 (I_il 1 (I_ic 11 (I_csH (fun As M Q => TrH l G Y_L_one0 hh_one As M Q) 3 (I_il 7 (I_ifeq (I_ic 0 (I_icne I_no (I_al 0 (I_il 1 (I_ic 0 (I_il 4 (I_ic 0 (I_csH (fun As M Q => TrH l G Y_L_entry0 hh_entry As M Q) 5 (I_ic (-1) (I_icne I_no (I_al 0 (I_il 1 (I_ic 1 (I_il 5 (I_ic 0 (I_csH (fun As M Q => TrH l G Y_L_entry0 hh_entry As M Q) 5 (I_ic (-1) (I_icne I_no (I_ic 1 (I_zr Q)))))))))))))))))))) (I_ic 1 (I_icne I_no (I_al 0 (I_il 1 (I_ic 0 (I_il 4 (I_ic 0 (I_csH (fun As M Q => TrH l G Y_L_entry0 hh_entry As M Q) 5 (I_ic (-1) (I_icne I_no (I_al 0 (I_il 1 (I_ic 1 (I_il 5 (I_ic 0 (I_csH (fun As M Q => TrH l G Y_L_entry0 hh_entry As M Q) 5 (I_ic (-1) (I_icne I_no (I_ic 1 (I_zr Q)))))))))))))))))))))))))))))))))))))))))))
set_option maxRecDepth 100000 in
theorem g_L_isFit_476 {l : Launch} {G : GT} {F : FX} {Q : PQ} {QX : PX} : Le (R_L_isFit_476 l G F Q QX) (Wj true l G F Y_L_isFit Q QX 0 0 476) := by
  unfold R_L_isFit_476
  refine r_iload (pc := 476) ?_ dL_isFit_476
  refine r_ifeq (pc := 478) (t := 560) ?_ ?_ dL_isFit_478 (by decide)
  · exact r_no
  · refine r_iload (pc := 481) ?_ dL_isFit_481
    refine r_iload (pc := 483) ?_ dL_isFit_483
    refine r_icne (pc := 485) (t := 560) ?_ ?_ dL_isFit_485 (by decide)
    · exact r_no
    · refine r_aload_n (pc := 488) ?_ dL_isFit_488 rfl
      refine r_iload_n (pc := 489) ?_ dL_isFit_489 rfl
      refine r_iconst (pc := 490) ?_ dL_isFit_490 (by decide)
      refine r_csH (pc := 491) (k := 0) (n := 0) (Yc := Y_L_one0) ?_ dL_isFit_491 cw_one wd_1_0 wd_3_43 wd_3_42 ⟨by decide, by decide⟩ (by decide +kernel) ⟨Nat.le_of_ble_eq_true rfl, Nat.le_of_ble_eq_true rfl⟩ ⟨Nat.le_of_ble_eq_true rfl, Nat.le_of_ble_eq_true rfl⟩
      refine r_iload (pc := 494) ?_ dL_isFit_494
      refine r_icne (pc := 496) (t := 560) ?_ ?_ dL_isFit_496 (by decide)
      · exact r_no
      · refine r_aload_n (pc := 499) ?_ dL_isFit_499 rfl
        refine r_iload_n (pc := 500) ?_ dL_isFit_500 rfl
        refine r_iconst (pc := 501) ?_ dL_isFit_501 (by decide)
        refine r_csH (pc := 502) (k := 0) (n := 0) (Yc := Y_L_one0) ?_ dL_isFit_502 cw_one wd_1_0 wd_3_43 wd_3_42 ⟨by decide, by decide⟩ (by decide +kernel) ⟨Nat.le_of_ble_eq_true rfl, Nat.le_of_ble_eq_true rfl⟩ ⟨Nat.le_of_ble_eq_true rfl, Nat.le_of_ble_eq_true rfl⟩
        refine r_iload (pc := 505) ?_ dL_isFit_505
        refine r_icne (pc := 507) (t := 560) ?_ ?_ dL_isFit_507 (by decide)
        · exact r_no
        · refine r_aload_n (pc := 510) ?_ dL_isFit_510 rfl
          refine r_iload_n (pc := 511) ?_ dL_isFit_511 rfl
          refine r_bipush (pc := 512) ?_ dL_isFit_512 (by decide)
          refine r_csH (pc := 514) (k := 0) (n := 0) (Yc := Y_L_one0) ?_ dL_isFit_514 cw_one wd_1_0 wd_3_43 wd_3_42 ⟨by decide, by decide⟩ (by decide +kernel) ⟨Nat.le_of_ble_eq_true rfl, Nat.le_of_ble_eq_true rfl⟩ ⟨Nat.le_of_ble_eq_true rfl, Nat.le_of_ble_eq_true rfl⟩
          refine r_iload (pc := 517) ?_ dL_isFit_517
          refine r_ifeq (pc := 519) (t := 526) ?_ ?_ dL_isFit_519 (by decide)
          · refine r_iconst (pc := 526) ?_ dL_isFit_526 (by decide)
            refine r_icne (pc := 527) (t := 560) ?_ ?_ dL_isFit_527 (by decide)
            · exact r_no
            · refine r_aload_n (pc := 530) ?_ dL_isFit_530 rfl
              refine r_iload_n (pc := 531) ?_ dL_isFit_531 rfl
              refine r_iconst (pc := 532) ?_ dL_isFit_532 (by decide)
              refine r_iload (pc := 533) ?_ dL_isFit_533
              refine r_iconst (pc := 535) ?_ dL_isFit_535 (by decide)
              refine r_csH (pc := 536) (k := 0) (n := 0) (Yc := Y_L_entry0) ?_ dL_isFit_536 cw_entry wd_1_0 wd_3_85 wd_3_84 ⟨by decide, by decide⟩ (by decide +kernel) ⟨Nat.le_of_ble_eq_true rfl, Nat.le_of_ble_eq_true rfl⟩ ⟨Nat.le_of_ble_eq_true rfl, Nat.le_of_ble_eq_true rfl⟩
              refine r_iconst (pc := 539) ?_ dL_isFit_539 (by decide)
              refine r_icne (pc := 540) (t := 560) ?_ ?_ dL_isFit_540 (by decide)
              · exact r_no
              · refine r_aload_n (pc := 543) ?_ dL_isFit_543 rfl
                refine r_iload_n (pc := 544) ?_ dL_isFit_544 rfl
                refine r_iconst (pc := 545) ?_ dL_isFit_545 (by decide)
                refine r_iload (pc := 546) ?_ dL_isFit_546
                refine r_iconst (pc := 548) ?_ dL_isFit_548 (by decide)
                refine r_csH (pc := 549) (k := 0) (n := 0) (Yc := Y_L_entry0) ?_ dL_isFit_549 cw_entry wd_1_0 wd_3_85 wd_3_84 ⟨by decide, by decide⟩ (by decide +kernel) ⟨Nat.le_of_ble_eq_true rfl, Nat.le_of_ble_eq_true rfl⟩ ⟨Nat.le_of_ble_eq_true rfl, Nat.le_of_ble_eq_true rfl⟩
                refine r_iconst (pc := 552) ?_ dL_isFit_552 (by decide)
                refine r_icne (pc := 553) (t := 560) ?_ ?_ dL_isFit_553 (by decide)
                · exact r_no
                · refine r_iconst (pc := 556) ?_ dL_isFit_556 (by decide)
                  refine r_goto (pc := 557) (t := 561) ?_ dL_isFit_557 (by decide)
                  exact r_zr dL_isFit_561 rfl (Nat.le_of_ble_eq_true rfl) (Nat.le_of_ble_eq_true rfl)
          · refine r_iconst (pc := 522) ?_ dL_isFit_522 (by decide)
            refine r_goto (pc := 523) (t := 527) ?_ dL_isFit_523 (by decide)
            refine r_icne (pc := 527) (t := 560) ?_ ?_ dL_isFit_527 (by decide)
            · exact r_no
            · refine r_aload_n (pc := 530) ?_ dL_isFit_530 rfl
              refine r_iload_n (pc := 531) ?_ dL_isFit_531 rfl
              refine r_iconst (pc := 532) ?_ dL_isFit_532 (by decide)
              refine r_iload (pc := 533) ?_ dL_isFit_533
              refine r_iconst (pc := 535) ?_ dL_isFit_535 (by decide)
              refine r_csH (pc := 536) (k := 0) (n := 0) (Yc := Y_L_entry0) ?_ dL_isFit_536 cw_entry wd_1_0 wd_3_85 wd_3_84 ⟨by decide, by decide⟩ (by decide +kernel) ⟨Nat.le_of_ble_eq_true rfl, Nat.le_of_ble_eq_true rfl⟩ ⟨Nat.le_of_ble_eq_true rfl, Nat.le_of_ble_eq_true rfl⟩
              refine r_iconst (pc := 539) ?_ dL_isFit_539 (by decide)
              refine r_icne (pc := 540) (t := 560) ?_ ?_ dL_isFit_540 (by decide)
              · exact r_no
              · refine r_aload_n (pc := 543) ?_ dL_isFit_543 rfl
                refine r_iload_n (pc := 544) ?_ dL_isFit_544 rfl
                refine r_iconst (pc := 545) ?_ dL_isFit_545 (by decide)
                refine r_iload (pc := 546) ?_ dL_isFit_546
                refine r_iconst (pc := 548) ?_ dL_isFit_548 (by decide)
                refine r_csH (pc := 549) (k := 0) (n := 0) (Yc := Y_L_entry0) ?_ dL_isFit_549 cw_entry wd_1_0 wd_3_85 wd_3_84 ⟨by decide, by decide⟩ (by decide +kernel) ⟨Nat.le_of_ble_eq_true rfl, Nat.le_of_ble_eq_true rfl⟩ ⟨Nat.le_of_ble_eq_true rfl, Nat.le_of_ble_eq_true rfl⟩
                refine r_iconst (pc := 552) ?_ dL_isFit_552 (by decide)
                refine r_icne (pc := 553) (t := 560) ?_ ?_ dL_isFit_553 (by decide)
                · exact r_no
                · refine r_iconst (pc := 556) ?_ dL_isFit_556 (by decide)
                  refine r_goto (pc := 557) (t := 561) ?_ dL_isFit_557 (by decide)
                  exact r_zr dL_isFit_561 rfl (Nat.le_of_ble_eq_true rfl) (Nat.le_of_ble_eq_true rfl)
abbrev Y_L_fits : YT := (yL_fits, cL_fits, 10, (some .boolean), 10, 209, 0, 0)
theorem ok_L_fits : okS Y_L_fits 1 := ⟨⟨wd_4_210, wd_1_0, by decide, by decide, by decide +kernel⟩, wd_4_209⟩
def R_L_fits_0 (l : Launch) (G : GT) (F : FX) (Q : PQ) (QX : PX) : KT := (I_ic 0 (I_is 1 (I_ic 0 (I_is 2 (I_ic 0 (I_is 3 (I_ic 0 (I_is 4 (I_ic 0 (I_is 5 (I_ic 1 (I_is 6 (I_ic 0 (I_is 7 (Wj true l G F Y_L_fits Q QX 0 0 18)))))))))))))))
set_option maxRecDepth 100000 in
theorem g_L_fits_0 {l : Launch} {G : GT} {F : FX} {Q : PQ} {QX : PX} : Le (R_L_fits_0 l G F Q QX) (Wj true l G F Y_L_fits Q QX 0 0 0) := by
  unfold R_L_fits_0
  refine r_iconst (pc := 0) ?_ dL_fits_0 (by decide)
  refine r_istore_n (pc := 1) ?_ dL_fits_1 rfl (Nat.le_of_ble_eq_true rfl)
  refine r_iconst (pc := 2) ?_ dL_fits_2 (by decide)
  refine r_istore_n (pc := 3) ?_ dL_fits_3 rfl (Nat.le_of_ble_eq_true rfl)
  refine r_iconst (pc := 4) ?_ dL_fits_4 (by decide)
  refine r_istore_n (pc := 5) ?_ dL_fits_5 rfl (Nat.le_of_ble_eq_true rfl)
  refine r_iconst (pc := 6) ?_ dL_fits_6 (by decide)
  refine r_istore (pc := 7) ?_ dL_fits_7 (Nat.le_of_ble_eq_true rfl)
  refine r_iconst (pc := 9) ?_ dL_fits_9 (by decide)
  refine r_istore (pc := 10) ?_ dL_fits_10 (Nat.le_of_ble_eq_true rfl)
  refine r_iconst (pc := 12) ?_ dL_fits_12 (by decide)
  refine r_istore (pc := 13) ?_ dL_fits_13 (Nat.le_of_ble_eq_true rfl)
  refine r_iconst (pc := 15) ?_ dL_fits_15 (by decide)
  refine r_istore (pc := 16) ?_ dL_fits_16 (Nat.le_of_ble_eq_true rfl)
  exact Le.rf
def R_L_fits_18 (l : Launch) (G : GT) (F : FX) (Q : PQ) (QX : PX) : KT := (I_il 7 (I_al 0 (I_ic 2 (I_csH (fun As M Q => TrH l G Y_L_whole0 hh_whole As M Q) 2 (I_icge (I_ic 0 (I_is 7 (I_ic 0 (I_is 8 (I_ic 0 (I_is 9 (Wj true l G F Y_L_fits Q QX 0 0 120))))))) (I_il 6 (I_ifeq (I_ic 0 (I_is 7 (I_ic 0 (I_is 8 (I_ic 0 (I_is 9 (Wj true l G F Y_L_fits Q QX 0 0 120))))))) (I_al 0 (I_il 7 (I_cs (Tr true l G Y_L_isFit) 2 QX (I_is 6 (I_il 1 (I_al 0 (I_il 7 (I_ic 2 (I_csH (fun As M Q => TrH l G Y_L_one0 hh_one As M Q) 3 (I_iadd (I_is 1 (I_il 2 (I_al 0 (I_il 7 (I_ic 3 (I_csH (fun As M Q => TrH l G Y_L_one0 hh_one As M Q) 3 (I_iadd (I_is 2 (I_il 3 (I_al 0 (I_il 7 (I_ic 11 (I_csH (fun As M Q => TrH l G Y_L_one0 hh_one As M Q) 3 (I_iadd (I_is 3 (I_il 4 (I_al 0 (I_il 7 (I_ic 1 (I_csH (fun As M Q => TrH l G Y_L_one0 hh_one As M Q) 3 (I_ifge (I_ic 0 (I_iadd (I_is 4 (I_il 5 (I_al 0 (I_il 7 (I_ic 6 (I_csH (fun As M Q => TrH l G Y_L_one0 hh_one As M Q) 3 (I_iadd (I_is 5 (I_inc 7 1 (Wj true l G F Y_L_fits Q QX 0 0 18)))))))))))) (I_ic 1 (I_iadd (I_is 4 (I_il 5 (I_al 0 (I_il 7 (I_ic 6 (I_csH (fun As M Q => TrH l G Y_L_one0 hh_one As M Q) 3 (I_iadd (I_is 5 (I_inc 7 1 (Wj true l G F Y_L_fits Q QX 0 0 18))))))))))))))))))))))))))))))))))))))))))))))))))
set_option maxRecDepth 100000 in
theorem g_L_fits_18 {l : Launch} {G : GT} {F : FX} {Q : PQ} {QX : PX} : Le (R_L_fits_18 l G F Q QX) (Wj true l G F Y_L_fits Q QX 0 0 18) := by
  unfold R_L_fits_18
  refine r_iload (pc := 18) ?_ dL_fits_18
  refine r_aload_n (pc := 20) ?_ dL_fits_20 rfl
  refine r_iconst (pc := 21) ?_ dL_fits_21 (by decide)
  refine r_csH (pc := 22) (k := 0) (n := 0) (Yc := Y_L_whole0) ?_ dL_fits_22 cw_whole wd_1_0 wd_2_210 wd_2_209 ⟨by decide, by decide⟩ (by decide +kernel) ⟨Nat.le_of_ble_eq_true rfl, Nat.le_of_ble_eq_true rfl⟩ ⟨Nat.le_of_ble_eq_true rfl, Nat.le_of_ble_eq_true rfl⟩
  refine r_icge (pc := 25) (t := 111) ?_ ?_ dL_fits_25 (by decide)
  · refine r_iconst (pc := 111) ?_ dL_fits_111 (by decide)
    refine r_istore (pc := 112) ?_ dL_fits_112 (Nat.le_of_ble_eq_true rfl)
    refine r_iconst (pc := 114) ?_ dL_fits_114 (by decide)
    refine r_istore (pc := 115) ?_ dL_fits_115 (Nat.le_of_ble_eq_true rfl)
    refine r_iconst (pc := 117) ?_ dL_fits_117 (by decide)
    refine r_istore (pc := 118) ?_ dL_fits_118 (Nat.le_of_ble_eq_true rfl)
    exact Le.rf
  · refine r_iload (pc := 28) ?_ dL_fits_28
    refine r_ifeq (pc := 30) (t := 111) ?_ ?_ dL_fits_30 (by decide)
    · refine r_iconst (pc := 111) ?_ dL_fits_111 (by decide)
      refine r_istore (pc := 112) ?_ dL_fits_112 (Nat.le_of_ble_eq_true rfl)
      refine r_iconst (pc := 114) ?_ dL_fits_114 (by decide)
      refine r_istore (pc := 115) ?_ dL_fits_115 (Nat.le_of_ble_eq_true rfl)
      refine r_iconst (pc := 117) ?_ dL_fits_117 (by decide)
      refine r_istore (pc := 118) ?_ dL_fits_118 (Nat.le_of_ble_eq_true rfl)
      exact Le.rf
    · refine r_aload_n (pc := 33) ?_ dL_fits_33 rfl
      refine r_iload (pc := 34) ?_ dL_fits_34
      refine r_cs0 (pc := 36) (k := 0) (n := 0) ?_ dL_fits_36 ok_L_isFit wd_4_211 ⟨Nat.le_of_ble_eq_true rfl, Nat.le_of_ble_eq_true rfl⟩ ⟨Nat.le_of_ble_eq_true rfl, Nat.le_of_ble_eq_true rfl⟩ rfl rfl
      refine r_istore (pc := 39) ?_ dL_fits_39 (Nat.le_of_ble_eq_true rfl)
      refine r_iload_n (pc := 41) ?_ dL_fits_41 rfl
      refine r_aload_n (pc := 42) ?_ dL_fits_42 rfl
      refine r_iload (pc := 43) ?_ dL_fits_43
      refine r_iconst (pc := 45) ?_ dL_fits_45 (by decide)
      refine r_csH (pc := 46) (k := 0) (n := 0) (Yc := Y_L_one0) ?_ dL_fits_46 cw_one wd_1_0 wd_3_43 wd_3_42 ⟨by decide, by decide⟩ (by decide +kernel) ⟨Nat.le_of_ble_eq_true rfl, Nat.le_of_ble_eq_true rfl⟩ ⟨Nat.le_of_ble_eq_true rfl, Nat.le_of_ble_eq_true rfl⟩
      refine r_iadd (pc := 49) ?_ dL_fits_49
      refine r_istore_n (pc := 50) ?_ dL_fits_50 rfl (Nat.le_of_ble_eq_true rfl)
      refine r_iload_n (pc := 51) ?_ dL_fits_51 rfl
      refine r_aload_n (pc := 52) ?_ dL_fits_52 rfl
      refine r_iload (pc := 53) ?_ dL_fits_53
      refine r_iconst (pc := 55) ?_ dL_fits_55 (by decide)
      refine r_csH (pc := 56) (k := 0) (n := 0) (Yc := Y_L_one0) ?_ dL_fits_56 cw_one wd_1_0 wd_3_43 wd_3_42 ⟨by decide, by decide⟩ (by decide +kernel) ⟨Nat.le_of_ble_eq_true rfl, Nat.le_of_ble_eq_true rfl⟩ ⟨Nat.le_of_ble_eq_true rfl, Nat.le_of_ble_eq_true rfl⟩
      refine r_iadd (pc := 59) ?_ dL_fits_59
      refine r_istore_n (pc := 60) ?_ dL_fits_60 rfl (Nat.le_of_ble_eq_true rfl)
      refine r_iload_n (pc := 61) ?_ dL_fits_61 rfl
      refine r_aload_n (pc := 62) ?_ dL_fits_62 rfl
      refine r_iload (pc := 63) ?_ dL_fits_63
      refine r_bipush (pc := 65) ?_ dL_fits_65 (by decide)
      refine r_csH (pc := 67) (k := 0) (n := 0) (Yc := Y_L_one0) ?_ dL_fits_67 cw_one wd_1_0 wd_3_43 wd_3_42 ⟨by decide, by decide⟩ (by decide +kernel) ⟨Nat.le_of_ble_eq_true rfl, Nat.le_of_ble_eq_true rfl⟩ ⟨Nat.le_of_ble_eq_true rfl, Nat.le_of_ble_eq_true rfl⟩
      refine r_iadd (pc := 70) ?_ dL_fits_70
      refine r_istore_n (pc := 71) ?_ dL_fits_71 rfl (Nat.le_of_ble_eq_true rfl)
      refine r_iload (pc := 72) ?_ dL_fits_72
      refine r_aload_n (pc := 74) ?_ dL_fits_74 rfl
      refine r_iload (pc := 75) ?_ dL_fits_75
      refine r_iconst (pc := 77) ?_ dL_fits_77 (by decide)
      refine r_csH (pc := 78) (k := 0) (n := 0) (Yc := Y_L_one0) ?_ dL_fits_78 cw_one wd_1_0 wd_3_43 wd_3_42 ⟨by decide, by decide⟩ (by decide +kernel) ⟨Nat.le_of_ble_eq_true rfl, Nat.le_of_ble_eq_true rfl⟩ ⟨Nat.le_of_ble_eq_true rfl, Nat.le_of_ble_eq_true rfl⟩
      refine r_ifge (pc := 81) (t := 88) ?_ ?_ dL_fits_81 (by decide)
      · refine r_iconst (pc := 88) ?_ dL_fits_88 (by decide)
        refine r_iadd (pc := 89) ?_ dL_fits_89
        refine r_istore (pc := 90) ?_ dL_fits_90 (Nat.le_of_ble_eq_true rfl)
        refine r_iload (pc := 92) ?_ dL_fits_92
        refine r_aload_n (pc := 94) ?_ dL_fits_94 rfl
        refine r_iload (pc := 95) ?_ dL_fits_95
        refine r_bipush (pc := 97) ?_ dL_fits_97 (by decide)
        refine r_csH (pc := 99) (k := 0) (n := 0) (Yc := Y_L_one0) ?_ dL_fits_99 cw_one wd_1_0 wd_3_43 wd_3_42 ⟨by decide, by decide⟩ (by decide +kernel) ⟨Nat.le_of_ble_eq_true rfl, Nat.le_of_ble_eq_true rfl⟩ ⟨Nat.le_of_ble_eq_true rfl, Nat.le_of_ble_eq_true rfl⟩
        refine r_iadd (pc := 102) ?_ dL_fits_102
        refine r_istore (pc := 103) ?_ dL_fits_103 (Nat.le_of_ble_eq_true rfl)
        refine r_iinc (pc := 105) ?_ dL_fits_105 (by decide) (Nat.le_of_ble_eq_true rfl)
        refine r_goto (pc := 108) (t := 18) ?_ dL_fits_108 (by decide)
        exact Le.rf
      · refine r_iconst (pc := 84) ?_ dL_fits_84 (by decide)
        refine r_goto (pc := 85) (t := 89) ?_ dL_fits_85 (by decide)
        refine r_iadd (pc := 89) ?_ dL_fits_89
        refine r_istore (pc := 90) ?_ dL_fits_90 (Nat.le_of_ble_eq_true rfl)
        refine r_iload (pc := 92) ?_ dL_fits_92
        refine r_aload_n (pc := 94) ?_ dL_fits_94 rfl
        refine r_iload (pc := 95) ?_ dL_fits_95
        refine r_bipush (pc := 97) ?_ dL_fits_97 (by decide)
        refine r_csH (pc := 99) (k := 0) (n := 0) (Yc := Y_L_one0) ?_ dL_fits_99 cw_one wd_1_0 wd_3_43 wd_3_42 ⟨by decide, by decide⟩ (by decide +kernel) ⟨Nat.le_of_ble_eq_true rfl, Nat.le_of_ble_eq_true rfl⟩ ⟨Nat.le_of_ble_eq_true rfl, Nat.le_of_ble_eq_true rfl⟩
        refine r_iadd (pc := 102) ?_ dL_fits_102
        refine r_istore (pc := 103) ?_ dL_fits_103 (Nat.le_of_ble_eq_true rfl)
        refine r_iinc (pc := 105) ?_ dL_fits_105 (by decide) (Nat.le_of_ble_eq_true rfl)
        refine r_goto (pc := 108) (t := 18) ?_ dL_fits_108 (by decide)
        exact Le.rf
def R_L_fits_120 (l : Launch) (G : GT) (F : FX) (Q : PQ) (QX : PX) : KT := (I_il 9 (I_al 0 (I_ic 1 (I_csH (fun As M Q => TrH l G Y_L_whole0 hh_whole As M Q) 2 (I_icge (I_kl 9 (Wj true l G F Y_L_fits Q QX 0 0 160)) (I_il 7 (I_al 0 (I_il 9 (I_ic 2 (I_csH (fun As M Q => TrH l G Y_L_mentor0 hh_mentor As M Q) 3 (I_iadd (I_is 7 (I_il 8 (I_al 0 (I_il 9 (I_ic 3 (I_csH (fun As M Q => TrH l G Y_L_mentor0 hh_mentor As M Q) 3 (I_iadd (I_is 8 (I_inc 9 1 (Wj true l G F Y_L_fits Q QX 0 0 120)))))))))))))))))))))
set_option maxRecDepth 100000 in
theorem g_L_fits_120 {l : Launch} {G : GT} {F : FX} {Q : PQ} {QX : PX} : Le (R_L_fits_120 l G F Q QX) (Wj true l G F Y_L_fits Q QX 0 0 120) := by
  unfold R_L_fits_120
  refine r_iload (pc := 120) ?_ dL_fits_120
  refine r_aload_n (pc := 122) ?_ dL_fits_122 rfl
  refine r_iconst (pc := 123) ?_ dL_fits_123 (by decide)
  refine r_csH (pc := 124) (k := 0) (n := 0) (Yc := Y_L_whole0) ?_ dL_fits_124 cw_whole wd_1_0 wd_2_210 wd_2_209 ⟨by decide, by decide⟩ (by decide +kernel) ⟨Nat.le_of_ble_eq_true rfl, Nat.le_of_ble_eq_true rfl⟩ ⟨Nat.le_of_ble_eq_true rfl, Nat.le_of_ble_eq_true rfl⟩
  refine r_icge (pc := 127) (t := 160) ?_ ?_ dL_fits_127 (by decide)
  · refine r_kl ?_
    exact Le.rf
  · refine r_iload (pc := 130) ?_ dL_fits_130
    refine r_aload_n (pc := 132) ?_ dL_fits_132 rfl
    refine r_iload (pc := 133) ?_ dL_fits_133
    refine r_iconst (pc := 135) ?_ dL_fits_135 (by decide)
    refine r_csH (pc := 136) (k := 0) (n := 0) (Yc := Y_L_mentor0) ?_ dL_fits_136 cw_mentor wd_1_0 wd_3_12 wd_3_11 ⟨by decide, by decide⟩ (by decide +kernel) ⟨Nat.le_of_ble_eq_true rfl, Nat.le_of_ble_eq_true rfl⟩ ⟨Nat.le_of_ble_eq_true rfl, Nat.le_of_ble_eq_true rfl⟩
    refine r_iadd (pc := 139) ?_ dL_fits_139
    refine r_istore (pc := 140) ?_ dL_fits_140 (Nat.le_of_ble_eq_true rfl)
    refine r_iload (pc := 142) ?_ dL_fits_142
    refine r_aload_n (pc := 144) ?_ dL_fits_144 rfl
    refine r_iload (pc := 145) ?_ dL_fits_145
    refine r_iconst (pc := 147) ?_ dL_fits_147 (by decide)
    refine r_csH (pc := 148) (k := 0) (n := 0) (Yc := Y_L_mentor0) ?_ dL_fits_148 cw_mentor wd_1_0 wd_3_12 wd_3_11 ⟨by decide, by decide⟩ (by decide +kernel) ⟨Nat.le_of_ble_eq_true rfl, Nat.le_of_ble_eq_true rfl⟩ ⟨Nat.le_of_ble_eq_true rfl, Nat.le_of_ble_eq_true rfl⟩
    refine r_iadd (pc := 151) ?_ dL_fits_151
    refine r_istore (pc := 152) ?_ dL_fits_152 (Nat.le_of_ble_eq_true rfl)
    refine r_iinc (pc := 154) ?_ dL_fits_154 (by decide) (Nat.le_of_ble_eq_true rfl)
    refine r_goto (pc := 157) (t := 120) ?_ dL_fits_157 (by decide)
    exact Le.rf
def R_L_fits_160 (l : Launch) (G : GT) (F : FX) (Q : PQ) (QX : PX) : KT := (I_il 6 (I_ifeq I_no (I_al 0 (I_ic 4 (I_csH (fun As M Q => TrH l G Y_L_whole0 hh_whole As M Q) 2 (I_il 1 (I_icne I_no (I_al 0 (I_ic 5 (I_csH (fun As M Q => TrH l G Y_L_whole0 hh_whole As M Q) 2 (I_il 2 (I_icne I_no (I_al 0 (I_ic 6 (I_csH (fun As M Q => TrH l G Y_L_whole0 hh_whole As M Q) 2 (I_il 3 (I_icne I_no (I_al 0 (I_ic 7 (I_csH (fun As M Q => TrH l G Y_L_whole0 hh_whole As M Q) 2 (I_il 4 (I_icne I_no (I_al 0 (I_ic 8 (I_csH (fun As M Q => TrH l G Y_L_whole0 hh_whole As M Q) 2 (I_il 5 (I_icne I_no (I_il 7 (I_il 4 (I_iadd (I_al 0 (I_ic 2 (I_csH (fun As M Q => TrH l G Y_L_whole0 hh_whole As M Q) 2 (I_icne I_no (I_il 8 (I_il 1 (I_icgt I_no (I_ic 1 (I_zr Q)))))))))))))))))))))))))))))))))))))))
set_option maxRecDepth 100000 in
theorem g_L_fits_160 {l : Launch} {G : GT} {F : FX} {Q : PQ} {QX : PX} : Le (R_L_fits_160 l G F Q QX) (Wj true l G F Y_L_fits Q QX 0 0 160) := by
  unfold R_L_fits_160
  refine r_iload (pc := 160) ?_ dL_fits_160
  refine r_ifeq (pc := 162) (t := 238) ?_ ?_ dL_fits_162 (by decide)
  · exact r_no
  · refine r_aload_n (pc := 165) ?_ dL_fits_165 rfl
    refine r_iconst (pc := 166) ?_ dL_fits_166 (by decide)
    refine r_csH (pc := 167) (k := 0) (n := 0) (Yc := Y_L_whole0) ?_ dL_fits_167 cw_whole wd_1_0 wd_2_210 wd_2_209 ⟨by decide, by decide⟩ (by decide +kernel) ⟨Nat.le_of_ble_eq_true rfl, Nat.le_of_ble_eq_true rfl⟩ ⟨Nat.le_of_ble_eq_true rfl, Nat.le_of_ble_eq_true rfl⟩
    refine r_iload_n (pc := 170) ?_ dL_fits_170 rfl
    refine r_icne (pc := 171) (t := 238) ?_ ?_ dL_fits_171 (by decide)
    · exact r_no
    · refine r_aload_n (pc := 174) ?_ dL_fits_174 rfl
      refine r_iconst (pc := 175) ?_ dL_fits_175 (by decide)
      refine r_csH (pc := 176) (k := 0) (n := 0) (Yc := Y_L_whole0) ?_ dL_fits_176 cw_whole wd_1_0 wd_2_210 wd_2_209 ⟨by decide, by decide⟩ (by decide +kernel) ⟨Nat.le_of_ble_eq_true rfl, Nat.le_of_ble_eq_true rfl⟩ ⟨Nat.le_of_ble_eq_true rfl, Nat.le_of_ble_eq_true rfl⟩
      refine r_iload_n (pc := 179) ?_ dL_fits_179 rfl
      refine r_icne (pc := 180) (t := 238) ?_ ?_ dL_fits_180 (by decide)
      · exact r_no
      · refine r_aload_n (pc := 183) ?_ dL_fits_183 rfl
        refine r_bipush (pc := 184) ?_ dL_fits_184 (by decide)
        refine r_csH (pc := 186) (k := 0) (n := 0) (Yc := Y_L_whole0) ?_ dL_fits_186 cw_whole wd_1_0 wd_2_210 wd_2_209 ⟨by decide, by decide⟩ (by decide +kernel) ⟨Nat.le_of_ble_eq_true rfl, Nat.le_of_ble_eq_true rfl⟩ ⟨Nat.le_of_ble_eq_true rfl, Nat.le_of_ble_eq_true rfl⟩
        refine r_iload_n (pc := 189) ?_ dL_fits_189 rfl
        refine r_icne (pc := 190) (t := 238) ?_ ?_ dL_fits_190 (by decide)
        · exact r_no
        · refine r_aload_n (pc := 193) ?_ dL_fits_193 rfl
          refine r_bipush (pc := 194) ?_ dL_fits_194 (by decide)
          refine r_csH (pc := 196) (k := 0) (n := 0) (Yc := Y_L_whole0) ?_ dL_fits_196 cw_whole wd_1_0 wd_2_210 wd_2_209 ⟨by decide, by decide⟩ (by decide +kernel) ⟨Nat.le_of_ble_eq_true rfl, Nat.le_of_ble_eq_true rfl⟩ ⟨Nat.le_of_ble_eq_true rfl, Nat.le_of_ble_eq_true rfl⟩
          refine r_iload (pc := 199) ?_ dL_fits_199
          refine r_icne (pc := 201) (t := 238) ?_ ?_ dL_fits_201 (by decide)
          · exact r_no
          · refine r_aload_n (pc := 204) ?_ dL_fits_204 rfl
            refine r_bipush (pc := 205) ?_ dL_fits_205 (by decide)
            refine r_csH (pc := 207) (k := 0) (n := 0) (Yc := Y_L_whole0) ?_ dL_fits_207 cw_whole wd_1_0 wd_2_210 wd_2_209 ⟨by decide, by decide⟩ (by decide +kernel) ⟨Nat.le_of_ble_eq_true rfl, Nat.le_of_ble_eq_true rfl⟩ ⟨Nat.le_of_ble_eq_true rfl, Nat.le_of_ble_eq_true rfl⟩
            refine r_iload (pc := 210) ?_ dL_fits_210
            refine r_icne (pc := 212) (t := 238) ?_ ?_ dL_fits_212 (by decide)
            · exact r_no
            · refine r_iload (pc := 215) ?_ dL_fits_215
              refine r_iload (pc := 217) ?_ dL_fits_217
              refine r_iadd (pc := 219) ?_ dL_fits_219
              refine r_aload_n (pc := 220) ?_ dL_fits_220 rfl
              refine r_iconst (pc := 221) ?_ dL_fits_221 (by decide)
              refine r_csH (pc := 222) (k := 0) (n := 0) (Yc := Y_L_whole0) ?_ dL_fits_222 cw_whole wd_1_0 wd_2_210 wd_2_209 ⟨by decide, by decide⟩ (by decide +kernel) ⟨Nat.le_of_ble_eq_true rfl, Nat.le_of_ble_eq_true rfl⟩ ⟨Nat.le_of_ble_eq_true rfl, Nat.le_of_ble_eq_true rfl⟩
              refine r_icne (pc := 225) (t := 238) ?_ ?_ dL_fits_225 (by decide)
              · exact r_no
              · refine r_iload (pc := 228) ?_ dL_fits_228
                refine r_iload_n (pc := 230) ?_ dL_fits_230 rfl
                refine r_icgt (pc := 231) (t := 238) ?_ ?_ dL_fits_231 (by decide)
                · exact r_no
                · refine r_iconst (pc := 234) ?_ dL_fits_234 (by decide)
                  refine r_goto (pc := 235) (t := 239) ?_ dL_fits_235 (by decide)
                  exact r_zr dL_fits_239 rfl (Nat.le_of_ble_eq_true rfl) (Nat.le_of_ble_eq_true rfl)
abbrev Y_L_hoursOf : YT := (yL_hoursOf, cL_hoursOf, 5, (some .long), 9, 149, 0, 0)
theorem ok_L_hoursOf : okS Y_L_hoursOf 2 := ⟨⟨wd_4_239, wd_1_0, by decide, by decide, by decide +kernel⟩, wd_4_238⟩
def R_L_hoursOf_0 (l : Launch) (G : GT) (F : FX) (Q : PQ) (QX : PX) : KT := (I_al 0 (I_il 1 (I_ic 4 (I_csH (fun As M Q => TrH l G Y_L_one0 hh_one As M Q) 3 (I_al 0 (I_il 1 (I_ic 5 (I_csH (fun As M Q => TrH l G Y_L_one0 hh_one As M Q) 3 (I_iadd (I_al 0 (I_il 1 (I_ic 6 (I_csH (fun As M Q => TrH l G Y_L_one0 hh_one As M Q) 3 (I_iadd (I_i2l (I_ls 2 (I_ic 0 (I_is 4 (Wj true l G F Y_L_hoursOf Q QX 0 0 26)))))))))))))))))))
set_option maxRecDepth 100000 in
theorem g_L_hoursOf_0 {l : Launch} {G : GT} {F : FX} {Q : PQ} {QX : PX} : Le (R_L_hoursOf_0 l G F Q QX) (Wj true l G F Y_L_hoursOf Q QX 0 0 0) := by
  unfold R_L_hoursOf_0
  refine r_aload_n (pc := 0) ?_ dL_hoursOf_0 rfl
  refine r_iload_n (pc := 1) ?_ dL_hoursOf_1 rfl
  refine r_iconst (pc := 2) ?_ dL_hoursOf_2 (by decide)
  refine r_csH (pc := 3) (k := 0) (n := 0) (Yc := Y_L_one0) ?_ dL_hoursOf_3 cw_one wd_1_0 wd_3_43 wd_3_42 ⟨by decide, by decide⟩ (by decide +kernel) ⟨Nat.le_of_ble_eq_true rfl, Nat.le_of_ble_eq_true rfl⟩ ⟨Nat.le_of_ble_eq_true rfl, Nat.le_of_ble_eq_true rfl⟩
  refine r_aload_n (pc := 6) ?_ dL_hoursOf_6 rfl
  refine r_iload_n (pc := 7) ?_ dL_hoursOf_7 rfl
  refine r_iconst (pc := 8) ?_ dL_hoursOf_8 (by decide)
  refine r_csH (pc := 9) (k := 0) (n := 0) (Yc := Y_L_one0) ?_ dL_hoursOf_9 cw_one wd_1_0 wd_3_43 wd_3_42 ⟨by decide, by decide⟩ (by decide +kernel) ⟨Nat.le_of_ble_eq_true rfl, Nat.le_of_ble_eq_true rfl⟩ ⟨Nat.le_of_ble_eq_true rfl, Nat.le_of_ble_eq_true rfl⟩
  refine r_iadd (pc := 12) ?_ dL_hoursOf_12
  refine r_aload_n (pc := 13) ?_ dL_hoursOf_13 rfl
  refine r_iload_n (pc := 14) ?_ dL_hoursOf_14 rfl
  refine r_bipush (pc := 15) ?_ dL_hoursOf_15 (by decide)
  refine r_csH (pc := 17) (k := 0) (n := 0) (Yc := Y_L_one0) ?_ dL_hoursOf_17 cw_one wd_1_0 wd_3_43 wd_3_42 ⟨by decide, by decide⟩ (by decide +kernel) ⟨Nat.le_of_ble_eq_true rfl, Nat.le_of_ble_eq_true rfl⟩ ⟨Nat.le_of_ble_eq_true rfl, Nat.le_of_ble_eq_true rfl⟩
  refine r_iadd (pc := 20) ?_ dL_hoursOf_20
  refine r_i2l (pc := 21) ?_ dL_hoursOf_21
  refine r_lstore_n (pc := 22) ?_ dL_hoursOf_22 rfl (Nat.le_of_ble_eq_true rfl)
  refine r_iconst (pc := 23) ?_ dL_hoursOf_23 (by decide)
  refine r_istore (pc := 24) ?_ dL_hoursOf_24 (Nat.le_of_ble_eq_true rfl)
  exact Le.rf
def R_L_hoursOf_26 (l : Launch) (G : GT) (F : FX) (Q : PQ) (QX : PX) : KT := (I_il 4 (I_ic 3 (I_icge (I_ll 2 (I_lr Q)) (I_ll 2 (I_al 0 (I_il 1 (I_il 4 (I_ic 1 (I_csH (fun As M Q => TrH l G Y_L_part0 hh_part As M Q) 4 (I_i2l (I_ladd (I_ls 2 (I_inc 4 1 (Wj true l G F Y_L_hoursOf Q QX 0 0 26))))))))))))))
set_option maxRecDepth 100000 in
theorem g_L_hoursOf_26 {l : Launch} {G : GT} {F : FX} {Q : PQ} {QX : PX} : Le (R_L_hoursOf_26 l G F Q QX) (Wj true l G F Y_L_hoursOf Q QX 0 0 26) := by
  unfold R_L_hoursOf_26
  refine r_iload (pc := 26) ?_ dL_hoursOf_26
  refine r_iconst (pc := 28) ?_ dL_hoursOf_28 (by decide)
  refine r_icge (pc := 29) (t := 50) ?_ ?_ dL_hoursOf_29 (by decide)
  · refine r_lload_n (pc := 50) ?_ dL_hoursOf_50 rfl
    exact r_lr dL_hoursOf_51 rfl (Nat.le_of_ble_eq_true rfl) (Nat.le_of_ble_eq_true rfl)
  · refine r_lload_n (pc := 32) ?_ dL_hoursOf_32 rfl
    refine r_aload_n (pc := 33) ?_ dL_hoursOf_33 rfl
    refine r_iload_n (pc := 34) ?_ dL_hoursOf_34 rfl
    refine r_iload (pc := 35) ?_ dL_hoursOf_35
    refine r_iconst (pc := 37) ?_ dL_hoursOf_37 (by decide)
    refine r_csH (pc := 38) (k := 0) (n := 0) (Yc := Y_L_part0) ?_ dL_hoursOf_38 cw_part wd_1_0 wd_3_67 wd_3_66 ⟨by decide, by decide⟩ (by decide +kernel) ⟨Nat.le_of_ble_eq_true rfl, Nat.le_of_ble_eq_true rfl⟩ ⟨Nat.le_of_ble_eq_true rfl, Nat.le_of_ble_eq_true rfl⟩
    refine r_i2l (pc := 41) ?_ dL_hoursOf_41
    refine r_ladd (pc := 42) ?_ dL_hoursOf_42
    refine r_lstore_n (pc := 43) ?_ dL_hoursOf_43 rfl (Nat.le_of_ble_eq_true rfl)
    refine r_iinc (pc := 44) ?_ dL_hoursOf_44 (by decide) (Nat.le_of_ble_eq_true rfl)
    refine r_goto (pc := 47) (t := 26) ?_ dL_hoursOf_47 (by decide)
    exact Le.rf
abbrev Y_L_hours : YT := (yL_hours, cL_hours, 4, (some .long), 10, 176, 0, 0)
theorem ok_L_hours : okS Y_L_hours 1 := ⟨⟨wd_4_236, wd_1_0, by decide, by decide, by decide +kernel⟩, wd_4_235⟩
def R_L_hours_0 (l : Launch) (G : GT) (F : FX) (Q : PQ) (QX : PX) : KT := (I_lc 0 (I_ls 1 (I_ic 0 (I_is 3 (Wj true l G F Y_L_hours Q QX 0 0 4)))))
set_option maxRecDepth 100000 in
theorem g_L_hours_0 {l : Launch} {G : GT} {F : FX} {Q : PQ} {QX : PX} : Le (R_L_hours_0 l G F Q QX) (Wj true l G F Y_L_hours Q QX 0 0 0) := by
  unfold R_L_hours_0
  refine r_lconst (pc := 0) ?_ dL_hours_0 (by decide)
  refine r_lstore_n (pc := 1) ?_ dL_hours_1 rfl (Nat.le_of_ble_eq_true rfl)
  refine r_iconst (pc := 2) ?_ dL_hours_2 (by decide)
  refine r_istore_n (pc := 3) ?_ dL_hours_3 rfl (Nat.le_of_ble_eq_true rfl)
  exact Le.rf
def R_L_hours_4 (l : Launch) (G : GT) (F : FX) (Q : PQ) (QX : PX) : KT := (I_il 3 (I_al 0 (I_ic 2 (I_csH (fun As M Q => TrH l G Y_L_whole0 hh_whole As M Q) 2 (I_icge (I_ll 1 (I_lr Q)) (I_ll 1 (I_al 0 (I_il 3 (I_cs (Tr true l G Y_L_hoursOf) 2 QX (I_ladd (I_ls 1 (I_inc 3 1 (Wj true l G F Y_L_hours Q QX 0 0 4)))))))))))))
set_option maxRecDepth 100000 in
theorem g_L_hours_4 {l : Launch} {G : GT} {F : FX} {Q : PQ} {QX : PX} : Le (R_L_hours_4 l G F Q QX) (Wj true l G F Y_L_hours Q QX 0 0 4) := by
  unfold R_L_hours_4
  refine r_iload_n (pc := 4) ?_ dL_hours_4 rfl
  refine r_aload_n (pc := 5) ?_ dL_hours_5 rfl
  refine r_iconst (pc := 6) ?_ dL_hours_6 (by decide)
  refine r_csH (pc := 7) (k := 0) (n := 0) (Yc := Y_L_whole0) ?_ dL_hours_7 cw_whole wd_1_0 wd_2_210 wd_2_209 ⟨by decide, by decide⟩ (by decide +kernel) ⟨Nat.le_of_ble_eq_true rfl, Nat.le_of_ble_eq_true rfl⟩ ⟨Nat.le_of_ble_eq_true rfl, Nat.le_of_ble_eq_true rfl⟩
  refine r_icge (pc := 10) (t := 27) ?_ ?_ dL_hours_10 (by decide)
  · refine r_lload_n (pc := 27) ?_ dL_hours_27 rfl
    exact r_lr dL_hours_28 rfl (Nat.le_of_ble_eq_true rfl) (Nat.le_of_ble_eq_true rfl)
  · refine r_lload_n (pc := 13) ?_ dL_hours_13 rfl
    refine r_aload_n (pc := 14) ?_ dL_hours_14 rfl
    refine r_iload_n (pc := 15) ?_ dL_hours_15 rfl
    refine r_cs0 (pc := 16) (k := 0) (n := 0) ?_ dL_hours_16 ok_L_hoursOf wd_4_237 ⟨Nat.le_of_ble_eq_true rfl, Nat.le_of_ble_eq_true rfl⟩ ⟨Nat.le_of_ble_eq_true rfl, Nat.le_of_ble_eq_true rfl⟩ rfl rfl
    refine r_ladd (pc := 19) ?_ dL_hours_19
    refine r_lstore_n (pc := 20) ?_ dL_hours_20 rfl (Nat.le_of_ble_eq_true rfl)
    refine r_iinc (pc := 21) ?_ dL_hours_21 (by decide) (Nat.le_of_ble_eq_true rfl)
    refine r_goto (pc := 24) (t := 4) ?_ dL_hours_24 (by decide)
    exact Le.rf
abbrev Y_L_isForetold : YT := (yL_isForetold, cL_isForetold, 9, (some .boolean), 9, 176, 0, 0)
theorem ok_L_isForetold : okS Y_L_isForetold 3 := ⟨⟨wd_4_216, wd_1_0, by decide, by decide, by decide +kernel⟩, wd_4_215⟩
def R_L_isForetold_0 (l : Launch) (G : GT) (F : FX) (Q : PQ) (QX : PX) : KT := (I_ic 1 (I_il 2 (I_ic 12 (I_cs (Tr true l G Y_L_low) 2 QX (I_iadd (I_is 3 (I_al 0 (I_il 1 (I_il 3 (I_csH (fun As M Q => TrH l G Y_L_full0 hh_full As M Q) 3 (I_is 4 (I_al 0 (I_ic 3 (I_csH (fun As M Q => TrH l G Y_L_whole0 hh_whole As M Q) 2 (I_is 5 (I_ic 0 (I_is 6 (I_ic 0 (I_is 7 (I_kl 2 (Wj true l G F Y_L_isForetold Q QX 0 0 30)))))))))))))))))))))
set_option maxRecDepth 100000 in
theorem g_L_isForetold_0 {l : Launch} {G : GT} {F : FX} {Q : PQ} {QX : PX} : Le (R_L_isForetold_0 l G F Q QX) (Wj true l G F Y_L_isForetold Q QX 0 0 0) := by
  unfold R_L_isForetold_0
  refine r_iconst (pc := 0) ?_ dL_isForetold_0 (by decide)
  refine r_iload_n (pc := 1) ?_ dL_isForetold_1 rfl
  refine r_bipush (pc := 2) ?_ dL_isForetold_2 (by decide)
  refine r_cs0 (pc := 4) (k := 0) (n := 0) ?_ dL_isForetold_4 ok_L_low wd_1_239 ⟨Nat.le_of_ble_eq_true rfl, Nat.le_of_ble_eq_true rfl⟩ ⟨Nat.le_of_ble_eq_true rfl, Nat.le_of_ble_eq_true rfl⟩ rfl rfl
  refine r_iadd (pc := 7) ?_ dL_isForetold_7
  refine r_istore_n (pc := 8) ?_ dL_isForetold_8 rfl (Nat.le_of_ble_eq_true rfl)
  refine r_aload_n (pc := 9) ?_ dL_isForetold_9 rfl
  refine r_iload_n (pc := 10) ?_ dL_isForetold_10 rfl
  refine r_iload_n (pc := 11) ?_ dL_isForetold_11 rfl
  refine r_csH (pc := 12) (k := 0) (n := 0) (Yc := Y_L_full0) ?_ dL_isForetold_12 cw_full wd_1_0 wd_4_218 wd_4_217 ⟨by decide, by decide⟩ (by decide +kernel) ⟨Nat.le_of_ble_eq_true rfl, Nat.le_of_ble_eq_true rfl⟩ ⟨Nat.le_of_ble_eq_true rfl, Nat.le_of_ble_eq_true rfl⟩
  refine r_istore (pc := 15) ?_ dL_isForetold_15 (Nat.le_of_ble_eq_true rfl)
  refine r_aload_n (pc := 17) ?_ dL_isForetold_17 rfl
  refine r_iconst (pc := 18) ?_ dL_isForetold_18 (by decide)
  refine r_csH (pc := 19) (k := 0) (n := 0) (Yc := Y_L_whole0) ?_ dL_isForetold_19 cw_whole wd_1_0 wd_2_210 wd_2_209 ⟨by decide, by decide⟩ (by decide +kernel) ⟨Nat.le_of_ble_eq_true rfl, Nat.le_of_ble_eq_true rfl⟩ ⟨Nat.le_of_ble_eq_true rfl, Nat.le_of_ble_eq_true rfl⟩
  refine r_istore (pc := 22) ?_ dL_isForetold_22 (Nat.le_of_ble_eq_true rfl)
  refine r_iconst (pc := 24) ?_ dL_isForetold_24 (by decide)
  refine r_istore (pc := 25) ?_ dL_isForetold_25 (Nat.le_of_ble_eq_true rfl)
  refine r_iconst (pc := 27) ?_ dL_isForetold_27 (by decide)
  refine r_istore (pc := 28) ?_ dL_isForetold_28 (Nat.le_of_ble_eq_true rfl)
  refine r_kl ?_
  exact Le.rf
def R_L_isForetold_30 (l : Launch) (G : GT) (F : FX) (Q : PQ) (QX : PX) : KT := (I_il 7 (I_ic 3 (I_icge (I_il 6 (I_ifne (I_ic 0 (I_is 7 (I_il 5 (I_is 8 (Wj true l G F Y_L_isForetold Q QX 0 0 102))))) (I_il 4 (I_il 5 (I_icne I_no (I_ic 1 (I_zr Q))))))) (I_al 0 (I_il 1 (I_il 7 (I_ic 2 (I_csH (fun As M Q => TrH l G Y_L_part0 hh_part As M Q) 4 (I_al 0 (I_il 1 (I_il 7 (I_ic 3 (I_csH (fun As M Q => TrH l G Y_L_part0 hh_part As M Q) 4 (I_isub (I_is 8 (I_il 6 (I_il 8 (I_ifle (I_ic 0 (I_iadd (I_is 6 (I_inc 7 1 (I_kl 8 (Wj true l G F Y_L_isForetold Q QX 0 0 30)))))) (I_il 8 (I_iadd (I_is 6 (I_inc 7 1 (I_kl 8 (Wj true l G F Y_L_isForetold Q QX 0 0 30))))))))))))))))))))))))
set_option maxRecDepth 100000 in
theorem g_L_isForetold_30 {l : Launch} {G : GT} {F : FX} {Q : PQ} {QX : PX} : Le (R_L_isForetold_30 l G F Q QX) (Wj true l G F Y_L_isForetold Q QX 0 0 30) := by
  unfold R_L_isForetold_30
  refine r_iload (pc := 30) ?_ dL_isForetold_30
  refine r_iconst (pc := 32) ?_ dL_isForetold_32 (by decide)
  refine r_icge (pc := 33) (t := 77) ?_ ?_ dL_isForetold_33 (by decide)
  · refine r_iload (pc := 77) ?_ dL_isForetold_77
    refine r_ifne (pc := 79) (t := 95) ?_ ?_ dL_isForetold_79 (by decide)
    · refine r_iconst (pc := 95) ?_ dL_isForetold_95 (by decide)
      refine r_istore (pc := 96) ?_ dL_isForetold_96 (Nat.le_of_ble_eq_true rfl)
      refine r_iload (pc := 98) ?_ dL_isForetold_98
      refine r_istore (pc := 100) ?_ dL_isForetold_100 (Nat.le_of_ble_eq_true rfl)
      exact Le.rf
    · refine r_iload (pc := 82) ?_ dL_isForetold_82
      refine r_iload (pc := 84) ?_ dL_isForetold_84
      refine r_icne (pc := 86) (t := 93) ?_ ?_ dL_isForetold_86 (by decide)
      · exact r_no
      · refine r_iconst (pc := 89) ?_ dL_isForetold_89 (by decide)
        refine r_goto (pc := 90) (t := 94) ?_ dL_isForetold_90 (by decide)
        exact r_zr dL_isForetold_94 rfl (Nat.le_of_ble_eq_true rfl) (Nat.le_of_ble_eq_true rfl)
  · refine r_aload_n (pc := 36) ?_ dL_isForetold_36 rfl
    refine r_iload_n (pc := 37) ?_ dL_isForetold_37 rfl
    refine r_iload (pc := 38) ?_ dL_isForetold_38
    refine r_iconst (pc := 40) ?_ dL_isForetold_40 (by decide)
    refine r_csH (pc := 41) (k := 0) (n := 0) (Yc := Y_L_part0) ?_ dL_isForetold_41 cw_part wd_1_0 wd_3_67 wd_3_66 ⟨by decide, by decide⟩ (by decide +kernel) ⟨Nat.le_of_ble_eq_true rfl, Nat.le_of_ble_eq_true rfl⟩ ⟨Nat.le_of_ble_eq_true rfl, Nat.le_of_ble_eq_true rfl⟩
    refine r_aload_n (pc := 44) ?_ dL_isForetold_44 rfl
    refine r_iload_n (pc := 45) ?_ dL_isForetold_45 rfl
    refine r_iload (pc := 46) ?_ dL_isForetold_46
    refine r_iconst (pc := 48) ?_ dL_isForetold_48 (by decide)
    refine r_csH (pc := 49) (k := 0) (n := 0) (Yc := Y_L_part0) ?_ dL_isForetold_49 cw_part wd_1_0 wd_3_67 wd_3_66 ⟨by decide, by decide⟩ (by decide +kernel) ⟨Nat.le_of_ble_eq_true rfl, Nat.le_of_ble_eq_true rfl⟩ ⟨Nat.le_of_ble_eq_true rfl, Nat.le_of_ble_eq_true rfl⟩
    refine r_isub (pc := 52) ?_ dL_isForetold_52
    refine r_istore (pc := 53) ?_ dL_isForetold_53 (Nat.le_of_ble_eq_true rfl)
    refine r_iload (pc := 55) ?_ dL_isForetold_55
    refine r_iload (pc := 57) ?_ dL_isForetold_57
    refine r_ifle (pc := 59) (t := 67) ?_ ?_ dL_isForetold_59 (by decide)
    · refine r_iconst (pc := 67) ?_ dL_isForetold_67 (by decide)
      refine r_iadd (pc := 68) ?_ dL_isForetold_68
      refine r_istore (pc := 69) ?_ dL_isForetold_69 (Nat.le_of_ble_eq_true rfl)
      refine r_iinc (pc := 71) ?_ dL_isForetold_71 (by decide) (Nat.le_of_ble_eq_true rfl)
      refine r_goto (pc := 74) (t := 30) ?_ dL_isForetold_74 (by decide)
      refine r_kl ?_
      exact Le.rf
    · refine r_iload (pc := 62) ?_ dL_isForetold_62
      refine r_goto (pc := 64) (t := 68) ?_ dL_isForetold_64 (by decide)
      refine r_iadd (pc := 68) ?_ dL_isForetold_68
      refine r_istore (pc := 69) ?_ dL_isForetold_69 (Nat.le_of_ble_eq_true rfl)
      refine r_iinc (pc := 71) ?_ dL_isForetold_71 (by decide) (Nat.le_of_ble_eq_true rfl)
      refine r_goto (pc := 74) (t := 30) ?_ dL_isForetold_74 (by decide)
      refine r_kl ?_
      exact Le.rf
def R_L_isForetold_102 (l : Launch) (G : GT) (F : FX) (Q : PQ) (QX : PX) : KT := (I_il 7 (I_il 3 (I_imul (I_il 6 (I_icge (I_kl 5 (I_kl 1 (I_kl 0 (Wj true l G F Y_L_isForetold Q QX 0 0 150)))) (I_il 8 (I_il 5 (I_ic 2000 (I_iadd (I_icge (I_kl 5 (I_kl 1 (I_kl 0 (Wj true l G F Y_L_isForetold Q QX 0 0 150)))) (I_il 7 (I_al 0 (I_il 1 (I_il 8 (I_csH (fun As M Q => TrH l G Y_L_next0 hh_next As M Q) 3 (I_il 8 (I_icne (I_ic 1 (I_iadd (I_is 7 (I_inc 8 1 (Wj true l G F Y_L_isForetold Q QX 0 0 102))))) (I_ic 0 (I_iadd (I_is 7 (I_inc 8 1 (Wj true l G F Y_L_isForetold Q QX 0 0 102))))))))))))))))))))))
set_option maxRecDepth 100000 in
theorem g_L_isForetold_102 {l : Launch} {G : GT} {F : FX} {Q : PQ} {QX : PX} : Le (R_L_isForetold_102 l G F Q QX) (Wj true l G F Y_L_isForetold Q QX 0 0 102) := by
  unfold R_L_isForetold_102
  refine r_iload (pc := 102) ?_ dL_isForetold_102
  refine r_iload_n (pc := 104) ?_ dL_isForetold_104 rfl
  refine r_imul (pc := 105) ?_ dL_isForetold_105
  refine r_iload (pc := 106) ?_ dL_isForetold_106
  refine r_icge (pc := 108) (t := 150) ?_ ?_ dL_isForetold_108 (by decide)
  · refine r_kl ?_
    refine r_kl ?_
    refine r_kl ?_
    exact Le.rf
  · refine r_iload (pc := 111) ?_ dL_isForetold_111
    refine r_iload (pc := 113) ?_ dL_isForetold_113
    refine r_sipush (pc := 115) ?_ dL_isForetold_115 (by decide)
    refine r_iadd (pc := 118) ?_ dL_isForetold_118
    refine r_icge (pc := 119) (t := 150) ?_ ?_ dL_isForetold_119 (by decide)
    · refine r_kl ?_
      refine r_kl ?_
      refine r_kl ?_
      exact Le.rf
    · refine r_iload (pc := 122) ?_ dL_isForetold_122
      refine r_aload_n (pc := 124) ?_ dL_isForetold_124 rfl
      refine r_iload_n (pc := 125) ?_ dL_isForetold_125 rfl
      refine r_iload (pc := 126) ?_ dL_isForetold_126
      refine r_csH (pc := 128) (k := 0) (n := 0) (Yc := Y_L_next0) ?_ dL_isForetold_128 cw_next wd_1_0 wd_3_97 wd_3_96 ⟨by decide, by decide⟩ (by decide +kernel) ⟨Nat.le_of_ble_eq_true rfl, Nat.le_of_ble_eq_true rfl⟩ ⟨Nat.le_of_ble_eq_true rfl, Nat.le_of_ble_eq_true rfl⟩
      refine r_iload (pc := 131) ?_ dL_isForetold_131
      refine r_icne (pc := 133) (t := 140) ?_ ?_ dL_isForetold_133 (by decide)
      · refine r_iconst (pc := 140) ?_ dL_isForetold_140 (by decide)
        refine r_iadd (pc := 141) ?_ dL_isForetold_141
        refine r_istore (pc := 142) ?_ dL_isForetold_142 (Nat.le_of_ble_eq_true rfl)
        refine r_iinc (pc := 144) ?_ dL_isForetold_144 (by decide) (Nat.le_of_ble_eq_true rfl)
        refine r_goto (pc := 147) (t := 102) ?_ dL_isForetold_147 (by decide)
        exact Le.rf
      · refine r_iconst (pc := 136) ?_ dL_isForetold_136 (by decide)
        refine r_goto (pc := 137) (t := 141) ?_ dL_isForetold_137 (by decide)
        refine r_iadd (pc := 141) ?_ dL_isForetold_141
        refine r_istore (pc := 142) ?_ dL_isForetold_142 (Nat.le_of_ble_eq_true rfl)
        refine r_iinc (pc := 144) ?_ dL_isForetold_144 (by decide) (Nat.le_of_ble_eq_true rfl)
        refine r_goto (pc := 147) (t := 102) ?_ dL_isForetold_147 (by decide)
        exact Le.rf
def R_L_isForetold_150 (l : Launch) (G : GT) (F : FX) (Q : PQ) (QX : PX) : KT := (I_il 4 (I_il 7 (I_il 3 (I_imul (I_il 6 (I_icge (I_il 8 (I_ic 1 (I_isub (I_icne I_no (I_ic 1 (I_zr Q)))))) (I_ic (-1) (I_icne I_no (I_ic 1 (I_zr Q))))))))))
set_option maxRecDepth 100000 in
theorem g_L_isForetold_150 {l : Launch} {G : GT} {F : FX} {Q : PQ} {QX : PX} : Le (R_L_isForetold_150 l G F Q QX) (Wj true l G F Y_L_isForetold Q QX 0 0 150) := by
  unfold R_L_isForetold_150
  refine r_iload (pc := 150) ?_ dL_isForetold_150
  refine r_iload (pc := 152) ?_ dL_isForetold_152
  refine r_iload_n (pc := 154) ?_ dL_isForetold_154 rfl
  refine r_imul (pc := 155) ?_ dL_isForetold_155
  refine r_iload (pc := 156) ?_ dL_isForetold_156
  refine r_icge (pc := 158) (t := 165) ?_ ?_ dL_isForetold_158 (by decide)
  · refine r_iload (pc := 165) ?_ dL_isForetold_165
    refine r_iconst (pc := 167) ?_ dL_isForetold_167 (by decide)
    refine r_isub (pc := 168) ?_ dL_isForetold_168
    refine r_icne (pc := 169) (t := 176) ?_ ?_ dL_isForetold_169 (by decide)
    · exact r_no
    · refine r_iconst (pc := 172) ?_ dL_isForetold_172 (by decide)
      refine r_goto (pc := 173) (t := 177) ?_ dL_isForetold_173 (by decide)
      exact r_zr dL_isForetold_177 rfl (Nat.le_of_ble_eq_true rfl) (Nat.le_of_ble_eq_true rfl)
  · refine r_iconst (pc := 161) ?_ dL_isForetold_161 (by decide)
    refine r_goto (pc := 162) (t := 169) ?_ dL_isForetold_162 (by decide)
    refine r_icne (pc := 169) (t := 176) ?_ ?_ dL_isForetold_169 (by decide)
    · exact r_no
    · refine r_iconst (pc := 172) ?_ dL_isForetold_172 (by decide)
      refine r_goto (pc := 173) (t := 177) ?_ dL_isForetold_173 (by decide)
      exact r_zr dL_isForetold_177 rfl (Nat.le_of_ble_eq_true rfl) (Nat.le_of_ble_eq_true rfl)
abbrev Y_L_refused : YT := (yL_refused, cL_refused, 4, (some .boolean), 10, 200, 60, 360)
theorem ok_L_refused : okS Y_L_refused 1 := ⟨⟨wd_3_118, wd_1_0, by decide, by decide, by decide +kernel⟩, wd_3_117⟩
def R_L_refused_0 (l : Launch) (G : GT) (F : FX) (Q : PQ) (QX : PX) (k n : Nat) : KT := (I_al 0 (I_cs (Tr true l G Y_L_sum) 1 QX (I_ls 1 (I_al 0 (I_ic 0 (I_ic 2001 (I_ic 0 (I_csH (fun As M Q => TrH l G Y_L_trade hh_trade As M Q) 4 (I_ic (-900000001) (I_icne I_no (I_al 0 (I_ic 7 (I_ic 0 (I_csH (fun As M Q => TrH l G Y_L_mentors hh_mentors As M Q) 3 (I_ic (-900000001) (I_icne I_no (I_al 0 (I_ic 5 (I_ic (-1) (I_csH (fun As M Q => TrH l G Y_L_pupil hh_pupil As M Q) 3 (I_ic (-900000003) (I_icne I_no (I_al 0 (I_ic 0 (I_ic (-2) (I_csH (fun As M Q => TrH l G Y_L_pupil hh_pupil As M Q) 3 (I_ic (-900000003) (I_icne I_no (I_al 0 (I_ic 10 (I_ic 0 (I_csH (fun As M Q => TrH l G Y_L_frees hh_frees As M Q) 3 (I_ic (-900000003) (I_icne I_no (I_al 0 (I_ic 0 (I_ic 3 (I_ic 1 (I_csH (fun As M Q => TrH l G Y_L_logs hh_logs As M Q) 4 (I_al 0 (I_ic 2 (I_csH (fun As M Q => TrH l G Y_L_whole0 hh_whole As M Q) 2 (I_ifle (I_ic (-900000003) (Wj true l G F Y_L_refused Q QX (k + 6) (n + 36) 88)) (I_ic (-900000001) (Wj true l G F Y_L_refused Q QX (k + 6) (n + 36) 88)))))))))))))))))))))))))))))))))))))))))))))
set_option maxRecDepth 100000 in
theorem g_L_refused_0 {l : Launch} {G : GT} {F : FX} {Q : PQ} {QX : PX} {k n : Nat} (hk : k + 6 ≤ 60 ∧ n + 36 ≤ 360) : Le (R_L_refused_0 l G F Q QX k n) (Wj true l G F Y_L_refused Q QX k n 0) := by
  unfold R_L_refused_0
  obtain ⟨hk1, hk2⟩ := hk
  refine r_aload_n (pc := 0) ?_ dL_refused_0 rfl
  refine r_cs0 (pc := 1) (k := k) (n := n) ?_ dL_refused_1 ok_L_sum wd_2_204 ⟨Nat.le_of_ble_eq_true rfl, Nat.le_of_ble_eq_true rfl⟩ ⟨(show k ≤ 60 by omega), (show n ≤ 360 by omega)⟩ rfl rfl
  refine r_lstore_n (pc := 4) ?_ dL_refused_4 rfl (Nat.le_of_ble_eq_true rfl)
  refine r_aload_n (pc := 5) ?_ dL_refused_5 rfl
  refine r_iconst (pc := 6) ?_ dL_refused_6 (by decide)
  refine r_sipush (pc := 7) ?_ dL_refused_7 (by decide)
  refine r_iconst (pc := 10) ?_ dL_refused_10 (by decide)
  refine r_csH (pc := 11) (k := k) (n := n) (Yc := Y_L_trade) ?_ dL_refused_11 cw_trade wd_1_0 wd_2_4 wd_2_3 ⟨by decide, by decide⟩ (by decide +kernel) ⟨Nat.le_of_ble_eq_true rfl, Nat.le_of_ble_eq_true rfl⟩ ⟨(show k + 1 ≤ 60 by omega), (show n + 6 ≤ 360 by omega)⟩
  refine r_ldc (pc := 14) ?_ dL_refused_14 wd_2_156
  refine r_icne (pc := 16) (t := 268) ?_ ?_ dL_refused_16 (by decide)
  · exact r_no
  · refine r_aload_n (pc := 19) ?_ dL_refused_19 rfl
    refine r_bipush (pc := 20) ?_ dL_refused_20 (by decide)
    refine r_iconst (pc := 22) ?_ dL_refused_22 (by decide)
    refine r_csH (pc := 23) (k := (k + 1)) (n := (n + 6)) (Yc := Y_L_mentors) ?_ dL_refused_23 cw_mentors wd_1_0 wd_3_120 wd_3_119 ⟨by decide, by decide⟩ (by decide +kernel) ⟨Nat.le_of_ble_eq_true rfl, Nat.le_of_ble_eq_true rfl⟩ ⟨(show (k + 1) + 1 ≤ 60 by omega), (show (n + 6) + 6 ≤ 360 by omega)⟩
    refine r_ldc (pc := 26) ?_ dL_refused_26 wd_2_156
    refine r_icne (pc := 28) (t := 268) ?_ ?_ dL_refused_28 (by decide)
    · exact r_no
    · refine r_aload_n (pc := 31) ?_ dL_refused_31 rfl
      refine r_iconst (pc := 32) ?_ dL_refused_32 (by decide)
      refine r_iconst (pc := 33) ?_ dL_refused_33 (by decide)
      refine r_csH (pc := 34) (k := (k + 2)) (n := (n + 12)) (Yc := Y_L_pupil) ?_ dL_refused_34 cw_pupil wd_1_0 wd_3_139 wd_3_138 ⟨by decide, by decide⟩ (by decide +kernel) ⟨Nat.le_of_ble_eq_true rfl, Nat.le_of_ble_eq_true rfl⟩ ⟨(show (k + 2) + 1 ≤ 60 by omega), (show (n + 12) + 6 ≤ 360 by omega)⟩
      refine r_ldc (pc := 37) ?_ dL_refused_37 wd_3_41
      refine r_icne (pc := 39) (t := 268) ?_ ?_ dL_refused_39 (by decide)
      · exact r_no
      · refine r_aload_n (pc := 42) ?_ dL_refused_42 rfl
        refine r_iconst (pc := 43) ?_ dL_refused_43 (by decide)
        refine r_bipush (pc := 44) ?_ dL_refused_44 (by decide)
        refine r_csH (pc := 46) (k := (k + 3)) (n := (n + 18)) (Yc := Y_L_pupil) ?_ dL_refused_46 cw_pupil wd_1_0 wd_3_139 wd_3_138 ⟨by decide, by decide⟩ (by decide +kernel) ⟨Nat.le_of_ble_eq_true rfl, Nat.le_of_ble_eq_true rfl⟩ ⟨(show (k + 3) + 1 ≤ 60 by omega), (show (n + 18) + 6 ≤ 360 by omega)⟩
        refine r_ldc (pc := 49) ?_ dL_refused_49 wd_3_41
        refine r_icne (pc := 51) (t := 268) ?_ ?_ dL_refused_51 (by decide)
        · exact r_no
        · refine r_aload_n (pc := 54) ?_ dL_refused_54 rfl
          refine r_bipush (pc := 55) ?_ dL_refused_55 (by decide)
          refine r_iconst (pc := 57) ?_ dL_refused_57 (by decide)
          refine r_csH (pc := 58) (k := (k + 4)) (n := (n + 24)) (Yc := Y_L_frees) ?_ dL_refused_58 cw_frees wd_1_0 wd_3_174 wd_3_173 ⟨by decide, by decide⟩ (by decide +kernel) ⟨Nat.le_of_ble_eq_true rfl, Nat.le_of_ble_eq_true rfl⟩ ⟨(show (k + 4) + 1 ≤ 60 by omega), (show (n + 24) + 6 ≤ 360 by omega)⟩
          refine r_ldc (pc := 61) ?_ dL_refused_61 wd_3_41
          refine r_icne (pc := 63) (t := 268) ?_ ?_ dL_refused_63 (by decide)
          · exact r_no
          · refine r_aload_n (pc := 66) ?_ dL_refused_66 rfl
            refine r_iconst (pc := 67) ?_ dL_refused_67 (by decide)
            refine r_iconst (pc := 68) ?_ dL_refused_68 (by decide)
            refine r_iconst (pc := 69) ?_ dL_refused_69 (by decide)
            refine r_csH (pc := 70) (k := (k + 5)) (n := (n + 30)) (Yc := Y_L_logs) ?_ dL_refused_70 cw_logs wd_1_0 wd_3_198 wd_3_197 ⟨by decide, by decide⟩ (by decide +kernel) ⟨Nat.le_of_ble_eq_true rfl, Nat.le_of_ble_eq_true rfl⟩ ⟨(show (k + 5) + 1 ≤ 60 by omega), (show (n + 30) + 6 ≤ 360 by omega)⟩
            refine r_aload_n (pc := 73) ?_ dL_refused_73 rfl
            refine r_iconst (pc := 74) ?_ dL_refused_74 (by decide)
            refine r_csH (pc := 75) (k := (k + 6)) (n := (n + 36)) (Yc := Y_L_whole0) ?_ dL_refused_75 cw_whole wd_1_0 wd_2_210 wd_2_209 ⟨by decide, by decide⟩ (by decide +kernel) ⟨Nat.le_of_ble_eq_true rfl, Nat.le_of_ble_eq_true rfl⟩ ⟨(show (k + 6) + 0 ≤ 60 by omega), (show (n + 36) + 0 ≤ 360 by omega)⟩
            refine r_ifle (pc := 78) (t := 86) ?_ ?_ dL_refused_78 (by decide)
            · refine r_ldc (pc := 86) ?_ dL_refused_86 wd_3_41
              exact Le.rf
            · refine r_ldc (pc := 81) ?_ dL_refused_81 wd_2_156
              refine r_goto (pc := 83) (t := 88) ?_ dL_refused_83 (by decide)
              exact Le.rf
def R_L_refused_88 (l : Launch) (G : GT) (F : FX) (Q : PQ) (QX : PX) (k n : Nat) : KT := (I_icne I_no (I_al 0 (I_ic 6 (I_ic 1 (I_csH (fun As M Q => TrH l G Y_L_confirms hh_confirms As M Q) 3 (I_ic (-900000003) (I_icne I_no (I_al 0 (I_ic (-1) (I_csH (fun As M Q => TrH l G Y_L_doubts hh_doubts As M Q) 2 (I_ic (-900000003) (I_icne I_no (I_al 0 (I_ic 10 (I_ic 1 (I_csH (fun As M Q => TrH l G Y_L_settles hh_settles As M Q) 3 (I_ic (-900000003) (I_icne I_no (I_al 0 (I_ic 0 (I_ic (-1) (I_ic 5 (I_csH (fun As M Q => TrH l G Y_L_credits hh_credits As M Q) 4 (I_al 0 (I_ic 2 (I_csH (fun As M Q => TrH l G Y_L_whole0 hh_whole As M Q) 2 (I_ifle (I_ic (-900000003) (Wj true l G F Y_L_refused Q QX (k + 4) (n + 24) 147)) (I_ic (-900000001) (Wj true l G F Y_L_refused Q QX (k + 4) (n + 24) 147)))))))))))))))))))))))))))))
set_option maxRecDepth 100000 in
theorem g_L_refused_88 {l : Launch} {G : GT} {F : FX} {Q : PQ} {QX : PX} {k n : Nat} (hk : k + 4 ≤ 60 ∧ n + 24 ≤ 360) : Le (R_L_refused_88 l G F Q QX k n) (Wj true l G F Y_L_refused Q QX k n 88) := by
  unfold R_L_refused_88
  obtain ⟨hk1, hk2⟩ := hk
  refine r_icne (pc := 88) (t := 268) ?_ ?_ dL_refused_88 (by decide)
  · exact r_no
  · refine r_aload_n (pc := 91) ?_ dL_refused_91 rfl
    refine r_bipush (pc := 92) ?_ dL_refused_92 (by decide)
    refine r_iconst (pc := 94) ?_ dL_refused_94 (by decide)
    refine r_csH (pc := 95) (k := k) (n := n) (Yc := Y_L_confirms) ?_ dL_refused_95 cw_confirms wd_1_0 wd_3_227 wd_3_226 ⟨by decide, by decide⟩ (by decide +kernel) ⟨Nat.le_of_ble_eq_true rfl, Nat.le_of_ble_eq_true rfl⟩ ⟨(show k + 1 ≤ 60 by omega), (show n + 6 ≤ 360 by omega)⟩
    refine r_ldc (pc := 98) ?_ dL_refused_98 wd_3_41
    refine r_icne (pc := 100) (t := 268) ?_ ?_ dL_refused_100 (by decide)
    · exact r_no
    · refine r_aload_n (pc := 103) ?_ dL_refused_103 rfl
      refine r_iconst (pc := 104) ?_ dL_refused_104 (by decide)
      refine r_csH (pc := 105) (k := (k + 1)) (n := (n + 6)) (Yc := Y_L_doubts) ?_ dL_refused_105 cw_doubts wd_1_0 wd_4_31 wd_4_30 ⟨by decide, by decide⟩ (by decide +kernel) ⟨Nat.le_of_ble_eq_true rfl, Nat.le_of_ble_eq_true rfl⟩ ⟨(show (k + 1) + 1 ≤ 60 by omega), (show (n + 6) + 6 ≤ 360 by omega)⟩
      refine r_ldc (pc := 108) ?_ dL_refused_108 wd_3_41
      refine r_icne (pc := 110) (t := 268) ?_ ?_ dL_refused_110 (by decide)
      · exact r_no
      · refine r_aload_n (pc := 113) ?_ dL_refused_113 rfl
        refine r_bipush (pc := 114) ?_ dL_refused_114 (by decide)
        refine r_iconst (pc := 116) ?_ dL_refused_116 (by decide)
        refine r_csH (pc := 117) (k := (k + 2)) (n := (n + 12)) (Yc := Y_L_settles) ?_ dL_refused_117 cw_settles wd_1_0 wd_4_55 wd_4_54 ⟨by decide, by decide⟩ (by decide +kernel) ⟨Nat.le_of_ble_eq_true rfl, Nat.le_of_ble_eq_true rfl⟩ ⟨(show (k + 2) + 1 ≤ 60 by omega), (show (n + 12) + 6 ≤ 360 by omega)⟩
        refine r_ldc (pc := 120) ?_ dL_refused_120 wd_3_41
        refine r_icne (pc := 122) (t := 268) ?_ ?_ dL_refused_122 (by decide)
        · exact r_no
        · refine r_aload_n (pc := 125) ?_ dL_refused_125 rfl
          refine r_iconst (pc := 126) ?_ dL_refused_126 (by decide)
          refine r_iconst (pc := 127) ?_ dL_refused_127 (by decide)
          refine r_iconst (pc := 128) ?_ dL_refused_128 (by decide)
          refine r_csH (pc := 129) (k := (k + 3)) (n := (n + 18)) (Yc := Y_L_credits) ?_ dL_refused_129 cw_credits wd_1_0 wd_4_77 wd_4_76 ⟨by decide, by decide⟩ (by decide +kernel) ⟨Nat.le_of_ble_eq_true rfl, Nat.le_of_ble_eq_true rfl⟩ ⟨(show (k + 3) + 1 ≤ 60 by omega), (show (n + 18) + 6 ≤ 360 by omega)⟩
          refine r_aload_n (pc := 132) ?_ dL_refused_132 rfl
          refine r_iconst (pc := 133) ?_ dL_refused_133 (by decide)
          refine r_csH (pc := 134) (k := (k + 4)) (n := (n + 24)) (Yc := Y_L_whole0) ?_ dL_refused_134 cw_whole wd_1_0 wd_2_210 wd_2_209 ⟨by decide, by decide⟩ (by decide +kernel) ⟨Nat.le_of_ble_eq_true rfl, Nat.le_of_ble_eq_true rfl⟩ ⟨(show (k + 4) + 0 ≤ 60 by omega), (show (n + 24) + 0 ≤ 360 by omega)⟩
          refine r_ifle (pc := 137) (t := 145) ?_ ?_ dL_refused_137 (by decide)
          · refine r_ldc (pc := 145) ?_ dL_refused_145 wd_3_41
            exact Le.rf
          · refine r_ldc (pc := 140) ?_ dL_refused_140 wd_2_156
            refine r_goto (pc := 142) (t := 147) ?_ dL_refused_142 (by decide)
            exact Le.rf
def R_L_refused_147 (l : Launch) (G : GT) (F : FX) (Q : PQ) (QX : PX) (k n : Nat) : KT := (I_icne I_no (I_al 0 (I_ic 0 (I_ic 6 (I_csH (fun As M Q => TrH l G Y_L_moves hh_moves As M Q) 3 (I_ic (-900000003) (I_icne I_no (I_al 0 (I_ic 10 (I_csH (fun As M Q => TrH l G Y_L_leaves hh_leaves As M Q) 2 (I_ic (-900000003) (I_icne I_no (I_al 0 (I_ic 0 (I_ic 10 (I_csH (fun As M Q => TrH l G Y_L_swaps hh_swaps As M Q) 3 (I_ic (-900000003) (I_icne I_no (I_al 0 (I_ic 0 (I_ic (-1) (I_csH (fun As M Q => TrH l G Y_L_why hh_why As M Q) 3 (I_ic (-900000003) (I_icne I_no (I_al 0 (I_ic 6 (I_ic 0 (I_csH (fun As M Q => TrH l G Y_L_mentor hh_mentor As M Q) 3 (I_ic (-900000003) (I_icne I_no (I_al 0 (I_ic 10 (I_ic 0 (I_csH (fun As M Q => TrH l G Y_L_one hh_one As M Q) 3 (I_ic (-900000003) (I_icne I_no (I_al 0 (I_ic 10 (I_csH (fun As M Q => TrH l G Y_L_whole hh_whole As M Q) 2 (I_ic (-900000001) (I_icne I_no (I_al 0 (I_ic 10 (I_csH (fun As M Q => TrH l G Y_L_best hh_best As M Q) 2 (I_ic (-900000003) (I_icne I_no (I_al 0 (I_ic 10 (I_ic 0 (I_csH (fun As M Q => TrH l G Y_L_doubted hh_doubted As M Q) 3 (I_ic (-900000003) (I_icne I_no (I_al 0 (I_ic (-1) (I_csH (fun As M Q => TrH l G Y_L_types hh_types As M Q) 2 (I_ic (-900000001) (I_icne I_no (I_ic 1 (Wj true l G F Y_L_refused Q QX (k + 13) (n + 78) 269)))))))))))))))))))))))))))))))))))))))))))))))))))))))))))
set_option maxRecDepth 100000 in
theorem g_L_refused_147 {l : Launch} {G : GT} {F : FX} {Q : PQ} {QX : PX} {k n : Nat} (hk : k + 13 ≤ 60 ∧ n + 78 ≤ 360) : Le (R_L_refused_147 l G F Q QX k n) (Wj true l G F Y_L_refused Q QX k n 147) := by
  unfold R_L_refused_147
  obtain ⟨hk1, hk2⟩ := hk
  refine r_icne (pc := 147) (t := 268) ?_ ?_ dL_refused_147 (by decide)
  · exact r_no
  · refine r_aload_n (pc := 150) ?_ dL_refused_150 rfl
    refine r_iconst (pc := 151) ?_ dL_refused_151 (by decide)
    refine r_bipush (pc := 152) ?_ dL_refused_152 (by decide)
    refine r_csH (pc := 154) (k := k) (n := n) (Yc := Y_L_moves) ?_ dL_refused_154 cw_moves wd_1_0 wd_4_96 wd_4_95 ⟨by decide, by decide⟩ (by decide +kernel) ⟨Nat.le_of_ble_eq_true rfl, Nat.le_of_ble_eq_true rfl⟩ ⟨(show k + 1 ≤ 60 by omega), (show n + 6 ≤ 360 by omega)⟩
    refine r_ldc (pc := 157) ?_ dL_refused_157 wd_3_41
    refine r_icne (pc := 159) (t := 268) ?_ ?_ dL_refused_159 (by decide)
    · exact r_no
    · refine r_aload_n (pc := 162) ?_ dL_refused_162 rfl
      refine r_bipush (pc := 163) ?_ dL_refused_163 (by decide)
      refine r_csH (pc := 165) (k := (k + 1)) (n := (n + 6)) (Yc := Y_L_leaves) ?_ dL_refused_165 cw_leaves wd_1_0 wd_4_125 wd_4_124 ⟨by decide, by decide⟩ (by decide +kernel) ⟨Nat.le_of_ble_eq_true rfl, Nat.le_of_ble_eq_true rfl⟩ ⟨(show (k + 1) + 1 ≤ 60 by omega), (show (n + 6) + 6 ≤ 360 by omega)⟩
      refine r_ldc (pc := 168) ?_ dL_refused_168 wd_3_41
      refine r_icne (pc := 170) (t := 268) ?_ ?_ dL_refused_170 (by decide)
      · exact r_no
      · refine r_aload_n (pc := 173) ?_ dL_refused_173 rfl
        refine r_iconst (pc := 174) ?_ dL_refused_174 (by decide)
        refine r_bipush (pc := 175) ?_ dL_refused_175 (by decide)
        refine r_csH (pc := 177) (k := (k + 2)) (n := (n + 12)) (Yc := Y_L_swaps) ?_ dL_refused_177 cw_swaps wd_1_0 wd_4_140 wd_4_139 ⟨by decide, by decide⟩ (by decide +kernel) ⟨Nat.le_of_ble_eq_true rfl, Nat.le_of_ble_eq_true rfl⟩ ⟨(show (k + 2) + 1 ≤ 60 by omega), (show (n + 12) + 6 ≤ 360 by omega)⟩
        refine r_ldc (pc := 180) ?_ dL_refused_180 wd_3_41
        refine r_icne (pc := 182) (t := 268) ?_ ?_ dL_refused_182 (by decide)
        · exact r_no
        · refine r_aload_n (pc := 185) ?_ dL_refused_185 rfl
          refine r_iconst (pc := 186) ?_ dL_refused_186 (by decide)
          refine r_iconst (pc := 187) ?_ dL_refused_187 (by decide)
          refine r_csH (pc := 188) (k := (k + 3)) (n := (n + 18)) (Yc := Y_L_why) ?_ dL_refused_188 cw_why wd_1_0 wd_4_159 wd_4_158 ⟨by decide, by decide⟩ (by decide +kernel) ⟨Nat.le_of_ble_eq_true rfl, Nat.le_of_ble_eq_true rfl⟩ ⟨(show (k + 3) + 1 ≤ 60 by omega), (show (n + 18) + 6 ≤ 360 by omega)⟩
          refine r_ldc (pc := 191) ?_ dL_refused_191 wd_3_41
          refine r_icne (pc := 193) (t := 268) ?_ ?_ dL_refused_193 (by decide)
          · exact r_no
          · refine r_aload_n (pc := 196) ?_ dL_refused_196 rfl
            refine r_bipush (pc := 197) ?_ dL_refused_197 (by decide)
            refine r_iconst (pc := 199) ?_ dL_refused_199 (by decide)
            refine r_csH (pc := 200) (k := (k + 4)) (n := (n + 24)) (Yc := Y_L_mentor) ?_ dL_refused_200 cw_mentor wd_1_0 wd_3_12 wd_3_11 ⟨by decide, by decide⟩ (by decide +kernel) ⟨Nat.le_of_ble_eq_true rfl, Nat.le_of_ble_eq_true rfl⟩ ⟨(show (k + 4) + 2 ≤ 60 by omega), (show (n + 24) + 12 ≤ 360 by omega)⟩
            refine r_ldc (pc := 203) ?_ dL_refused_203 wd_3_41
            refine r_icne (pc := 205) (t := 268) ?_ ?_ dL_refused_205 (by decide)
            · exact r_no
            · refine r_aload_n (pc := 208) ?_ dL_refused_208 rfl
              refine r_bipush (pc := 209) ?_ dL_refused_209 (by decide)
              refine r_iconst (pc := 211) ?_ dL_refused_211 (by decide)
              refine r_csH (pc := 212) (k := (k + 6)) (n := (n + 36)) (Yc := Y_L_one) ?_ dL_refused_212 cw_one wd_1_0 wd_3_43 wd_3_42 ⟨by decide, by decide⟩ (by decide +kernel) ⟨Nat.le_of_ble_eq_true rfl, Nat.le_of_ble_eq_true rfl⟩ ⟨(show (k + 6) + 2 ≤ 60 by omega), (show (n + 36) + 12 ≤ 360 by omega)⟩
              refine r_ldc (pc := 215) ?_ dL_refused_215 wd_3_41
              refine r_icne (pc := 217) (t := 268) ?_ ?_ dL_refused_217 (by decide)
              · exact r_no
              · refine r_aload_n (pc := 220) ?_ dL_refused_220 rfl
                refine r_bipush (pc := 221) ?_ dL_refused_221 (by decide)
                refine r_csH (pc := 223) (k := (k + 8)) (n := (n + 48)) (Yc := Y_L_whole) ?_ dL_refused_223 cw_whole wd_1_0 wd_2_210 wd_2_209 ⟨by decide, by decide⟩ (by decide +kernel) ⟨Nat.le_of_ble_eq_true rfl, Nat.le_of_ble_eq_true rfl⟩ ⟨(show (k + 8) + 1 ≤ 60 by omega), (show (n + 48) + 6 ≤ 360 by omega)⟩
                refine r_ldc (pc := 226) ?_ dL_refused_226 wd_2_156
                refine r_icne (pc := 228) (t := 268) ?_ ?_ dL_refused_228 (by decide)
                · exact r_no
                · refine r_aload_n (pc := 231) ?_ dL_refused_231 rfl
                  refine r_bipush (pc := 232) ?_ dL_refused_232 (by decide)
                  refine r_csH (pc := 234) (k := (k + 9)) (n := (n + 54)) (Yc := Y_L_best) ?_ dL_refused_234 cw_best wd_1_0 wd_4_166 wd_4_165 ⟨by decide, by decide⟩ (by decide +kernel) ⟨Nat.le_of_ble_eq_true rfl, Nat.le_of_ble_eq_true rfl⟩ ⟨(show (k + 9) + 1 ≤ 60 by omega), (show (n + 54) + 6 ≤ 360 by omega)⟩
                  refine r_ldc (pc := 237) ?_ dL_refused_237 wd_3_41
                  refine r_icne (pc := 239) (t := 268) ?_ ?_ dL_refused_239 (by decide)
                  · exact r_no
                  · refine r_aload_n (pc := 242) ?_ dL_refused_242 rfl
                    refine r_bipush (pc := 243) ?_ dL_refused_243 (by decide)
                    refine r_iconst (pc := 245) ?_ dL_refused_245 (by decide)
                    refine r_csH (pc := 246) (k := (k + 10)) (n := (n + 60)) (Yc := Y_L_doubted) ?_ dL_refused_246 cw_doubted wd_1_0 wd_4_182 wd_4_181 ⟨by decide, by decide⟩ (by decide +kernel) ⟨Nat.le_of_ble_eq_true rfl, Nat.le_of_ble_eq_true rfl⟩ ⟨(show (k + 10) + 1 ≤ 60 by omega), (show (n + 60) + 6 ≤ 360 by omega)⟩
                    refine r_ldc (pc := 249) ?_ dL_refused_249 wd_3_41
                    refine r_icne (pc := 251) (t := 268) ?_ ?_ dL_refused_251 (by decide)
                    · exact r_no
                    · refine r_aload_n (pc := 254) ?_ dL_refused_254 rfl
                      refine r_iconst (pc := 255) ?_ dL_refused_255 (by decide)
                      refine r_csH (pc := 256) (k := (k + 11)) (n := (n + 66)) (Yc := Y_L_types) ?_ dL_refused_256 cw_types wd_1_0 wd_4_198 wd_4_197 ⟨by decide, by decide⟩ (by decide +kernel) ⟨Nat.le_of_ble_eq_true rfl, Nat.le_of_ble_eq_true rfl⟩ ⟨(show (k + 11) + 2 ≤ 60 by omega), (show (n + 66) + 12 ≤ 360 by omega)⟩
                      refine r_ldc (pc := 259) ?_ dL_refused_259 wd_2_156
                      refine r_icne (pc := 261) (t := 268) ?_ ?_ dL_refused_261 (by decide)
                      · exact r_no
                      · refine r_iconst (pc := 264) ?_ dL_refused_264 (by decide)
                        refine r_goto (pc := 265) (t := 269) ?_ dL_refused_265 (by decide)
                        exact Le.rf
def R_L_refused_269 (l : Launch) (G : GT) (F : FX) (Q : PQ) (QX : PX) (k n : Nat) : KT := (I_is 3 (I_il 3 (I_ifeq I_no (I_al 0 (I_ic 0 (I_csH (fun As M Q => TrH l G Y_L_whole0 hh_whole As M Q) 2 (I_ic 5 (I_iclt (I_al 0 (I_ic 1 (I_csH (fun As M Q => TrH l G Y_L_whole0 hh_whole As M Q) 2 (I_ic 6 (I_iclt (I_kl 3 (Wj true l G F Y_L_refused Q QX k n 316)) (I_al 0 (I_ic 1 (I_ic 0 (I_csH (fun As M Q => TrH l G Y_L_mentors hh_mentors As M Q) 3 (I_ic (-900000002) (I_icne I_no (I_kl 3 (Wj true l G F Y_L_refused Q QX (k + 1) (n + 6) 316))))))))))))) (I_al 0 (I_ic 0 (I_ic 0 (I_ic 0 (I_csH (fun As M Q => TrH l G Y_L_trade hh_trade As M Q) 4 (I_ic (-900000002) (I_icne I_no (I_al 0 (I_ic 1 (I_csH (fun As M Q => TrH l G Y_L_whole0 hh_whole As M Q) 2 (I_ic 6 (I_iclt (I_kl 3 (Wj true l G F Y_L_refused Q QX (k + 1) (n + 6) 316)) (I_al 0 (I_ic 1 (I_ic 0 (I_csH (fun As M Q => TrH l G Y_L_mentors hh_mentors As M Q) 3 (I_ic (-900000002) (I_icne I_no (I_kl 3 (Wj true l G F Y_L_refused Q QX (k + 2) (n + 12) 316))))))))))))))))))))))))))))
set_option maxRecDepth 100000 in
theorem g_L_refused_269 {l : Launch} {G : GT} {F : FX} {Q : PQ} {QX : PX} {k n : Nat} (hk : k + 2 ≤ 60 ∧ n + 12 ≤ 360) : Le (R_L_refused_269 l G F Q QX k n) (Wj true l G F Y_L_refused Q QX k n 269) := by
  unfold R_L_refused_269
  obtain ⟨hk1, hk2⟩ := hk
  refine r_istore_n (pc := 269) ?_ dL_refused_269 rfl (Nat.le_of_ble_eq_true rfl)
  refine r_iload_n (pc := 270) ?_ dL_refused_270 rfl
  refine r_ifeq (pc := 271) (t := 341) ?_ ?_ dL_refused_271 (by decide)
  · exact r_no
  · refine r_aload_n (pc := 274) ?_ dL_refused_274 rfl
    refine r_iconst (pc := 275) ?_ dL_refused_275 (by decide)
    refine r_csH (pc := 276) (k := k) (n := n) (Yc := Y_L_whole0) ?_ dL_refused_276 cw_whole wd_1_0 wd_2_210 wd_2_209 ⟨by decide, by decide⟩ (by decide +kernel) ⟨Nat.le_of_ble_eq_true rfl, Nat.le_of_ble_eq_true rfl⟩ ⟨(show k + 0 ≤ 60 by omega), (show n + 0 ≤ 360 by omega)⟩
    refine r_iconst (pc := 279) ?_ dL_refused_279 (by decide)
    refine r_iclt (pc := 280) (t := 295) ?_ ?_ dL_refused_280 (by decide)
    · refine r_aload_n (pc := 295) ?_ dL_refused_295 rfl
      refine r_iconst (pc := 296) ?_ dL_refused_296 (by decide)
      refine r_csH (pc := 297) (k := k) (n := n) (Yc := Y_L_whole0) ?_ dL_refused_297 cw_whole wd_1_0 wd_2_210 wd_2_209 ⟨by decide, by decide⟩ (by decide +kernel) ⟨Nat.le_of_ble_eq_true rfl, Nat.le_of_ble_eq_true rfl⟩ ⟨(show k + 0 ≤ 60 by omega), (show n + 0 ≤ 360 by omega)⟩
      refine r_bipush (pc := 300) ?_ dL_refused_300 (by decide)
      refine r_iclt (pc := 302) (t := 316) ?_ ?_ dL_refused_302 (by decide)
      · refine r_kl ?_
        exact Le.rf
      · refine r_aload_n (pc := 305) ?_ dL_refused_305 rfl
        refine r_iconst (pc := 306) ?_ dL_refused_306 (by decide)
        refine r_iconst (pc := 307) ?_ dL_refused_307 (by decide)
        refine r_csH (pc := 308) (k := k) (n := n) (Yc := Y_L_mentors) ?_ dL_refused_308 cw_mentors wd_1_0 wd_3_120 wd_3_119 ⟨by decide, by decide⟩ (by decide +kernel) ⟨Nat.le_of_ble_eq_true rfl, Nat.le_of_ble_eq_true rfl⟩ ⟨(show k + 1 ≤ 60 by omega), (show n + 6 ≤ 360 by omega)⟩
        refine r_ldc (pc := 311) ?_ dL_refused_311 wd_2_157
        refine r_icne (pc := 313) (t := 341) ?_ ?_ dL_refused_313 (by decide)
        · exact r_no
        · refine r_kl ?_
          exact Le.rf
    · refine r_aload_n (pc := 283) ?_ dL_refused_283 rfl
      refine r_iconst (pc := 284) ?_ dL_refused_284 (by decide)
      refine r_iconst (pc := 285) ?_ dL_refused_285 (by decide)
      refine r_iconst (pc := 286) ?_ dL_refused_286 (by decide)
      refine r_csH (pc := 287) (k := k) (n := n) (Yc := Y_L_trade) ?_ dL_refused_287 cw_trade wd_1_0 wd_2_4 wd_2_3 ⟨by decide, by decide⟩ (by decide +kernel) ⟨Nat.le_of_ble_eq_true rfl, Nat.le_of_ble_eq_true rfl⟩ ⟨(show k + 1 ≤ 60 by omega), (show n + 6 ≤ 360 by omega)⟩
      refine r_ldc (pc := 290) ?_ dL_refused_290 wd_2_157
      refine r_icne (pc := 292) (t := 341) ?_ ?_ dL_refused_292 (by decide)
      · exact r_no
      · refine r_aload_n (pc := 295) ?_ dL_refused_295 rfl
        refine r_iconst (pc := 296) ?_ dL_refused_296 (by decide)
        refine r_csH (pc := 297) (k := (k + 1)) (n := (n + 6)) (Yc := Y_L_whole0) ?_ dL_refused_297 cw_whole wd_1_0 wd_2_210 wd_2_209 ⟨by decide, by decide⟩ (by decide +kernel) ⟨Nat.le_of_ble_eq_true rfl, Nat.le_of_ble_eq_true rfl⟩ ⟨(show (k + 1) + 0 ≤ 60 by omega), (show (n + 6) + 0 ≤ 360 by omega)⟩
        refine r_bipush (pc := 300) ?_ dL_refused_300 (by decide)
        refine r_iclt (pc := 302) (t := 316) ?_ ?_ dL_refused_302 (by decide)
        · refine r_kl ?_
          exact Le.rf
        · refine r_aload_n (pc := 305) ?_ dL_refused_305 rfl
          refine r_iconst (pc := 306) ?_ dL_refused_306 (by decide)
          refine r_iconst (pc := 307) ?_ dL_refused_307 (by decide)
          refine r_csH (pc := 308) (k := (k + 1)) (n := (n + 6)) (Yc := Y_L_mentors) ?_ dL_refused_308 cw_mentors wd_1_0 wd_3_120 wd_3_119 ⟨by decide, by decide⟩ (by decide +kernel) ⟨Nat.le_of_ble_eq_true rfl, Nat.le_of_ble_eq_true rfl⟩ ⟨(show (k + 1) + 1 ≤ 60 by omega), (show (n + 6) + 6 ≤ 360 by omega)⟩
          refine r_ldc (pc := 311) ?_ dL_refused_311 wd_2_157
          refine r_icne (pc := 313) (t := 341) ?_ ?_ dL_refused_313 (by decide)
          · exact r_no
          · refine r_kl ?_
            exact Le.rf
def R_L_refused_316 (l : Launch) (G : GT) (F : FX) (Q : PQ) (QX : PX) (k n : Nat) : KT := (I_al 0 (I_ic 2 (I_csH (fun As M Q => TrH l G Y_L_whole0 hh_whole As M Q) 2 (I_ic 10 (I_iclt (I_ic 1 (I_is 3 (I_il 3 (I_ifeq I_no (I_al 0 (I_cs (Tr true l G Y_L_sum) 1 QX (I_ll 1 (I_lcmp (I_ifne I_no (I_ic 1 (I_zr Q))))))))))) (I_al 0 (I_ic 0 (I_ic (-1) (I_csH (fun As M Q => TrH l G Y_L_pupil hh_pupil As M Q) 3 (I_ic (-900000002) (I_icne I_no (I_ic 1 (I_is 3 (I_il 3 (I_ifeq I_no (I_al 0 (I_cs (Tr true l G Y_L_sum) 1 QX (I_ll 1 (I_lcmp (I_ifne I_no (I_ic 1 (I_zr Q))))))))))))))))))))))
set_option maxRecDepth 100000 in
theorem g_L_refused_316 {l : Launch} {G : GT} {F : FX} {Q : PQ} {QX : PX} {k n : Nat} (hk : k + 1 ≤ 60 ∧ n + 6 ≤ 360) : Le (R_L_refused_316 l G F Q QX k n) (Wj true l G F Y_L_refused Q QX k n 316) := by
  unfold R_L_refused_316
  obtain ⟨hk1, hk2⟩ := hk
  refine r_aload_n (pc := 316) ?_ dL_refused_316 rfl
  refine r_iconst (pc := 317) ?_ dL_refused_317 (by decide)
  refine r_csH (pc := 318) (k := k) (n := n) (Yc := Y_L_whole0) ?_ dL_refused_318 cw_whole wd_1_0 wd_2_210 wd_2_209 ⟨by decide, by decide⟩ (by decide +kernel) ⟨Nat.le_of_ble_eq_true rfl, Nat.le_of_ble_eq_true rfl⟩ ⟨(show k + 0 ≤ 60 by omega), (show n + 0 ≤ 360 by omega)⟩
  refine r_bipush (pc := 321) ?_ dL_refused_321 (by decide)
  refine r_iclt (pc := 323) (t := 337) ?_ ?_ dL_refused_323 (by decide)
  · refine r_iconst (pc := 337) ?_ dL_refused_337 (by decide)
    refine r_goto (pc := 338) (t := 342) ?_ dL_refused_338 (by decide)
    refine r_istore_n (pc := 342) ?_ dL_refused_342 rfl (Nat.le_of_ble_eq_true rfl)
    refine r_iload_n (pc := 343) ?_ dL_refused_343 rfl
    refine r_ifeq (pc := 344) (t := 360) ?_ ?_ dL_refused_344 (by decide)
    · exact r_no
    · refine r_aload_n (pc := 347) ?_ dL_refused_347 rfl
      refine r_cs0 (pc := 348) (k := k) (n := n) ?_ dL_refused_348 ok_L_sum wd_2_204 ⟨Nat.le_of_ble_eq_true rfl, Nat.le_of_ble_eq_true rfl⟩ ⟨(show k ≤ 60 by omega), (show n ≤ 360 by omega)⟩ rfl rfl
      refine r_lload_n (pc := 351) ?_ dL_refused_351 rfl
      refine r_lcmp (pc := 352) ?_ dL_refused_352
      refine r_ifne (pc := 353) (t := 360) ?_ ?_ dL_refused_353 (by decide)
      · exact r_no
      · refine r_iconst (pc := 356) ?_ dL_refused_356 (by decide)
        refine r_goto (pc := 357) (t := 361) ?_ dL_refused_357 (by decide)
        exact r_zr dL_refused_361 rfl (show k ≤ 60 by omega) (show n ≤ 360 by omega)
  · refine r_aload_n (pc := 326) ?_ dL_refused_326 rfl
    refine r_iconst (pc := 327) ?_ dL_refused_327 (by decide)
    refine r_iconst (pc := 328) ?_ dL_refused_328 (by decide)
    refine r_csH (pc := 329) (k := k) (n := n) (Yc := Y_L_pupil) ?_ dL_refused_329 cw_pupil wd_1_0 wd_3_139 wd_3_138 ⟨by decide, by decide⟩ (by decide +kernel) ⟨Nat.le_of_ble_eq_true rfl, Nat.le_of_ble_eq_true rfl⟩ ⟨(show k + 1 ≤ 60 by omega), (show n + 6 ≤ 360 by omega)⟩
    refine r_ldc (pc := 332) ?_ dL_refused_332 wd_2_157
    refine r_icne (pc := 334) (t := 341) ?_ ?_ dL_refused_334 (by decide)
    · exact r_no
    · refine r_iconst (pc := 337) ?_ dL_refused_337 (by decide)
      refine r_goto (pc := 338) (t := 342) ?_ dL_refused_338 (by decide)
      refine r_istore_n (pc := 342) ?_ dL_refused_342 rfl (Nat.le_of_ble_eq_true rfl)
      refine r_iload_n (pc := 343) ?_ dL_refused_343 rfl
      refine r_ifeq (pc := 344) (t := 360) ?_ ?_ dL_refused_344 (by decide)
      · exact r_no
      · refine r_aload_n (pc := 347) ?_ dL_refused_347 rfl
        refine r_cs0 (pc := 348) (k := (k + 1)) (n := (n + 6)) ?_ dL_refused_348 ok_L_sum wd_2_204 ⟨Nat.le_of_ble_eq_true rfl, Nat.le_of_ble_eq_true rfl⟩ ⟨(show (k + 1) ≤ 60 by omega), (show (n + 6) ≤ 360 by omega)⟩ rfl rfl
        refine r_lload_n (pc := 351) ?_ dL_refused_351 rfl
        refine r_lcmp (pc := 352) ?_ dL_refused_352
        refine r_ifne (pc := 353) (t := 360) ?_ ?_ dL_refused_353 (by decide)
        · exact r_no
        · refine r_iconst (pc := 356) ?_ dL_refused_356 (by decide)
          refine r_goto (pc := 357) (t := 361) ?_ dL_refused_357 (by decide)
          exact r_zr dL_refused_361 rfl (show (k + 1) ≤ 60 by omega) (show (n + 6) ≤ 360 by omega)
abbrev Y_L_comesTrue : YT := (yL_comesTrue, cL_comesTrue, 13, (some .boolean), 10, 200, 10, 60)
theorem ok_L_comesTrue : okS Y_L_comesTrue 4 := ⟨⟨wd_4_230, wd_1_0, by decide, by decide, by decide +kernel⟩, wd_4_229⟩
def R_L_comesTrue_0 (l : Launch) (G : GT) (F : FX) (Q : PQ) (QX : PX) (k n : Nat) : KT := (I_al 0 (I_cs (Tr true l G Y_L_sum) 1 QX (I_ls 4 (I_al 0 (I_il 1 (I_il 3 (I_csH (fun As M Q => TrH l G Y_L_why0 hh_why As M Q) 3 (I_is 6 (I_al 0 (I_il 1 (I_ic 3 (I_csH (fun As M Q => TrH l G Y_L_one0 hh_one As M Q) 3 (I_is 7 (I_al 0 (I_il 1 (I_il 3 (I_csH (fun As M Q => TrH l G Y_L_moves hh_moves As M Q) 3 (I_is 8 (I_il 8 (I_ic (-900000002) (I_icne (I_ic 0 (I_il 6 (I_ifeq (I_ic 0 (Wj true l G F Y_L_comesTrue Q QX (k + 1) (n + 6) 52)) (I_ic 1 (Wj true l G F Y_L_comesTrue Q QX (k + 1) (n + 6) 52))))) (I_ic 1 (I_il 6 (I_ifeq (I_ic 0 (Wj true l G F Y_L_comesTrue Q QX (k + 1) (n + 6) 52)) (I_ic 1 (Wj true l G F Y_L_comesTrue Q QX (k + 1) (n + 6) 52))))))))))))))))))))))))))
set_option maxRecDepth 100000 in
theorem g_L_comesTrue_0 {l : Launch} {G : GT} {F : FX} {Q : PQ} {QX : PX} {k n : Nat} (hk : k + 1 ≤ 10 ∧ n + 6 ≤ 60) : Le (R_L_comesTrue_0 l G F Q QX k n) (Wj true l G F Y_L_comesTrue Q QX k n 0) := by
  unfold R_L_comesTrue_0
  obtain ⟨hk1, hk2⟩ := hk
  refine r_aload_n (pc := 0) ?_ dL_comesTrue_0 rfl
  refine r_cs0 (pc := 1) (k := k) (n := n) ?_ dL_comesTrue_1 ok_L_sum wd_2_204 ⟨Nat.le_of_ble_eq_true rfl, Nat.le_of_ble_eq_true rfl⟩ ⟨(show k ≤ 10 by omega), (show n ≤ 60 by omega)⟩ rfl rfl
  refine r_lstore (pc := 4) ?_ dL_comesTrue_4 (Nat.le_of_ble_eq_true rfl)
  refine r_aload_n (pc := 6) ?_ dL_comesTrue_6 rfl
  refine r_iload_n (pc := 7) ?_ dL_comesTrue_7 rfl
  refine r_iload_n (pc := 8) ?_ dL_comesTrue_8 rfl
  refine r_csH (pc := 9) (k := k) (n := n) (Yc := Y_L_why0) ?_ dL_comesTrue_9 cw_why wd_1_0 wd_4_159 wd_4_158 ⟨by decide, by decide⟩ (by decide +kernel) ⟨Nat.le_of_ble_eq_true rfl, Nat.le_of_ble_eq_true rfl⟩ ⟨(show k + 0 ≤ 10 by omega), (show n + 0 ≤ 60 by omega)⟩
  refine r_istore (pc := 12) ?_ dL_comesTrue_12 (Nat.le_of_ble_eq_true rfl)
  refine r_aload_n (pc := 14) ?_ dL_comesTrue_14 rfl
  refine r_iload_n (pc := 15) ?_ dL_comesTrue_15 rfl
  refine r_iconst (pc := 16) ?_ dL_comesTrue_16 (by decide)
  refine r_csH (pc := 17) (k := k) (n := n) (Yc := Y_L_one0) ?_ dL_comesTrue_17 cw_one wd_1_0 wd_3_43 wd_3_42 ⟨by decide, by decide⟩ (by decide +kernel) ⟨Nat.le_of_ble_eq_true rfl, Nat.le_of_ble_eq_true rfl⟩ ⟨(show k + 0 ≤ 10 by omega), (show n + 0 ≤ 60 by omega)⟩
  refine r_istore (pc := 20) ?_ dL_comesTrue_20 (Nat.le_of_ble_eq_true rfl)
  refine r_aload_n (pc := 22) ?_ dL_comesTrue_22 rfl
  refine r_iload_n (pc := 23) ?_ dL_comesTrue_23 rfl
  refine r_iload_n (pc := 24) ?_ dL_comesTrue_24 rfl
  refine r_csH (pc := 25) (k := k) (n := n) (Yc := Y_L_moves) ?_ dL_comesTrue_25 cw_moves wd_1_0 wd_4_96 wd_4_95 ⟨by decide, by decide⟩ (by decide +kernel) ⟨Nat.le_of_ble_eq_true rfl, Nat.le_of_ble_eq_true rfl⟩ ⟨(show k + 1 ≤ 10 by omega), (show n + 6 ≤ 60 by omega)⟩
  refine r_istore (pc := 28) ?_ dL_comesTrue_28 (Nat.le_of_ble_eq_true rfl)
  refine r_iload (pc := 30) ?_ dL_comesTrue_30
  refine r_ldc (pc := 32) ?_ dL_comesTrue_32 wd_2_157
  refine r_icne (pc := 34) (t := 41) ?_ ?_ dL_comesTrue_34 (by decide)
  · refine r_iconst (pc := 41) ?_ dL_comesTrue_41 (by decide)
    refine r_iload (pc := 42) ?_ dL_comesTrue_42
    refine r_ifeq (pc := 44) (t := 51) ?_ ?_ dL_comesTrue_44 (by decide)
    · refine r_iconst (pc := 51) ?_ dL_comesTrue_51 (by decide)
      exact Le.rf
    · refine r_iconst (pc := 47) ?_ dL_comesTrue_47 (by decide)
      refine r_goto (pc := 48) (t := 52) ?_ dL_comesTrue_48 (by decide)
      exact Le.rf
  · refine r_iconst (pc := 37) ?_ dL_comesTrue_37 (by decide)
    refine r_goto (pc := 38) (t := 42) ?_ dL_comesTrue_38 (by decide)
    refine r_iload (pc := 42) ?_ dL_comesTrue_42
    refine r_ifeq (pc := 44) (t := 51) ?_ ?_ dL_comesTrue_44 (by decide)
    · refine r_iconst (pc := 51) ?_ dL_comesTrue_51 (by decide)
      exact Le.rf
    · refine r_iconst (pc := 47) ?_ dL_comesTrue_47 (by decide)
      refine r_goto (pc := 48) (t := 52) ?_ dL_comesTrue_48 (by decide)
      exact Le.rf
def R_L_comesTrue_52 (l : Launch) (G : GT) (F : FX) (Q : PQ) (QX : PX) (k n : Nat) : KT := (I_icne I_no (I_il 6 (I_ic 1 (I_icne (I_ic 0 (I_il 6 (I_ifeq (I_ic 0 (Wj true l G F Y_L_comesTrue Q QX k n 86)) (I_al 0 (I_il 1 (I_ic 1 (I_csH (fun As M Q => TrH l G Y_L_one0 hh_one As M Q) 3 (I_il 3 (I_icne (I_ic 0 (Wj true l G F Y_L_comesTrue Q QX k n 86)) (I_ic 1 (Wj true l G F Y_L_comesTrue Q QX k n 86))))))))))) (I_ic 1 (I_il 6 (I_ifeq (I_ic 0 (Wj true l G F Y_L_comesTrue Q QX k n 86)) (I_al 0 (I_il 1 (I_ic 1 (I_csH (fun As M Q => TrH l G Y_L_one0 hh_one As M Q) 3 (I_il 3 (I_icne (I_ic 0 (Wj true l G F Y_L_comesTrue Q QX k n 86)) (I_ic 1 (Wj true l G F Y_L_comesTrue Q QX k n 86)))))))))))))))
set_option maxRecDepth 100000 in
theorem g_L_comesTrue_52 {l : Launch} {G : GT} {F : FX} {Q : PQ} {QX : PX} {k n : Nat} (hk : k ≤ 10 ∧ n ≤ 60) : Le (R_L_comesTrue_52 l G F Q QX k n) (Wj true l G F Y_L_comesTrue Q QX k n 52) := by
  unfold R_L_comesTrue_52
  obtain ⟨hk1, hk2⟩ := hk
  refine r_icne (pc := 52) (t := 93) ?_ ?_ dL_comesTrue_52 (by decide)
  · exact r_no
  · refine r_iload (pc := 55) ?_ dL_comesTrue_55
    refine r_iconst (pc := 57) ?_ dL_comesTrue_57 (by decide)
    refine r_icne (pc := 58) (t := 65) ?_ ?_ dL_comesTrue_58 (by decide)
    · refine r_iconst (pc := 65) ?_ dL_comesTrue_65 (by decide)
      refine r_iload (pc := 66) ?_ dL_comesTrue_66
      refine r_ifeq (pc := 68) (t := 85) ?_ ?_ dL_comesTrue_68 (by decide)
      · refine r_iconst (pc := 85) ?_ dL_comesTrue_85 (by decide)
        exact Le.rf
      · refine r_aload_n (pc := 71) ?_ dL_comesTrue_71 rfl
        refine r_iload_n (pc := 72) ?_ dL_comesTrue_72 rfl
        refine r_iconst (pc := 73) ?_ dL_comesTrue_73 (by decide)
        refine r_csH (pc := 74) (k := k) (n := n) (Yc := Y_L_one0) ?_ dL_comesTrue_74 cw_one wd_1_0 wd_3_43 wd_3_42 ⟨by decide, by decide⟩ (by decide +kernel) ⟨Nat.le_of_ble_eq_true rfl, Nat.le_of_ble_eq_true rfl⟩ ⟨(show k + 0 ≤ 10 by omega), (show n + 0 ≤ 60 by omega)⟩
        refine r_iload_n (pc := 77) ?_ dL_comesTrue_77 rfl
        refine r_icne (pc := 78) (t := 85) ?_ ?_ dL_comesTrue_78 (by decide)
        · refine r_iconst (pc := 85) ?_ dL_comesTrue_85 (by decide)
          exact Le.rf
        · refine r_iconst (pc := 81) ?_ dL_comesTrue_81 (by decide)
          refine r_goto (pc := 82) (t := 86) ?_ dL_comesTrue_82 (by decide)
          exact Le.rf
    · refine r_iconst (pc := 61) ?_ dL_comesTrue_61 (by decide)
      refine r_goto (pc := 62) (t := 66) ?_ dL_comesTrue_62 (by decide)
      refine r_iload (pc := 66) ?_ dL_comesTrue_66
      refine r_ifeq (pc := 68) (t := 85) ?_ ?_ dL_comesTrue_68 (by decide)
      · refine r_iconst (pc := 85) ?_ dL_comesTrue_85 (by decide)
        exact Le.rf
      · refine r_aload_n (pc := 71) ?_ dL_comesTrue_71 rfl
        refine r_iload_n (pc := 72) ?_ dL_comesTrue_72 rfl
        refine r_iconst (pc := 73) ?_ dL_comesTrue_73 (by decide)
        refine r_csH (pc := 74) (k := k) (n := n) (Yc := Y_L_one0) ?_ dL_comesTrue_74 cw_one wd_1_0 wd_3_43 wd_3_42 ⟨by decide, by decide⟩ (by decide +kernel) ⟨Nat.le_of_ble_eq_true rfl, Nat.le_of_ble_eq_true rfl⟩ ⟨(show k + 0 ≤ 10 by omega), (show n + 0 ≤ 60 by omega)⟩
        refine r_iload_n (pc := 77) ?_ dL_comesTrue_77 rfl
        refine r_icne (pc := 78) (t := 85) ?_ ?_ dL_comesTrue_78 (by decide)
        · refine r_iconst (pc := 85) ?_ dL_comesTrue_85 (by decide)
          exact Le.rf
        · refine r_iconst (pc := 81) ?_ dL_comesTrue_81 (by decide)
          refine r_goto (pc := 82) (t := 86) ?_ dL_comesTrue_82 (by decide)
          exact Le.rf
def R_L_comesTrue_86 (l : Launch) (G : GT) (F : FX) (Q : PQ) (QX : PX) (k n : Nat) : KT := (I_icne I_no (I_ic 1 (Wj true l G F Y_L_comesTrue Q QX k n 94)))
set_option maxRecDepth 100000 in
theorem g_L_comesTrue_86 {l : Launch} {G : GT} {F : FX} {Q : PQ} {QX : PX} {k n : Nat} (hk : k ≤ 10 ∧ n ≤ 60) : Le (R_L_comesTrue_86 l G F Q QX k n) (Wj true l G F Y_L_comesTrue Q QX k n 86) := by
  unfold R_L_comesTrue_86
  obtain ⟨hk1, hk2⟩ := hk
  refine r_icne (pc := 86) (t := 93) ?_ ?_ dL_comesTrue_86 (by decide)
  · exact r_no
  · refine r_iconst (pc := 89) ?_ dL_comesTrue_89 (by decide)
    refine r_goto (pc := 90) (t := 94) ?_ dL_comesTrue_90 (by decide)
    exact Le.rf
def R_L_comesTrue_94 (l : Launch) (G : GT) (F : FX) (Q : PQ) (QX : PX) (k n : Nat) : KT := (I_is 9 (I_il 6 (I_ifne (I_kl 8 (I_kl 7 (I_kl 6 (I_kl 3 (Wj true l G F Y_L_comesTrue Q QX k n 144))))) (I_il 9 (I_ifeq I_no (I_il 8 (I_al 0 (I_il 1 (I_ic 3 (I_csH (fun As M Q => TrH l G Y_L_one0 hh_one As M Q) 3 (I_il 7 (I_isub (I_icne I_no (I_al 0 (I_il 1 (I_ic 1 (I_csH (fun As M Q => TrH l G Y_L_one0 hh_one As M Q) 3 (I_il 3 (I_icne I_no (I_al 0 (I_csH (fun As M Q => TrH l G Y_L_back hh_back As M Q) 1 (I_iflt I_no (I_ic 1 (I_kl 9 (I_kl 8 (I_kl 7 (I_kl 6 (I_kl 3 (Wj true l G F Y_L_comesTrue Q QX (k + 1) (n + 6) 142)))))))))))))))))))))))))))))
set_option maxRecDepth 100000 in
theorem g_L_comesTrue_94 {l : Launch} {G : GT} {F : FX} {Q : PQ} {QX : PX} {k n : Nat} (hk : k + 1 ≤ 10 ∧ n + 6 ≤ 60) : Le (R_L_comesTrue_94 l G F Q QX k n) (Wj true l G F Y_L_comesTrue Q QX k n 94) := by
  unfold R_L_comesTrue_94
  obtain ⟨hk1, hk2⟩ := hk
  refine r_istore (pc := 94) ?_ dL_comesTrue_94 (Nat.le_of_ble_eq_true rfl)
  refine r_iload (pc := 96) ?_ dL_comesTrue_96
  refine r_ifne (pc := 98) (t := 144) ?_ ?_ dL_comesTrue_98 (by decide)
  · refine r_kl ?_
    refine r_kl ?_
    refine r_kl ?_
    refine r_kl ?_
    exact Le.rf
  · refine r_iload (pc := 101) ?_ dL_comesTrue_101
    refine r_ifeq (pc := 103) (t := 141) ?_ ?_ dL_comesTrue_103 (by decide)
    · exact r_no
    · refine r_iload (pc := 106) ?_ dL_comesTrue_106
      refine r_aload_n (pc := 108) ?_ dL_comesTrue_108 rfl
      refine r_iload_n (pc := 109) ?_ dL_comesTrue_109 rfl
      refine r_iconst (pc := 110) ?_ dL_comesTrue_110 (by decide)
      refine r_csH (pc := 111) (k := k) (n := n) (Yc := Y_L_one0) ?_ dL_comesTrue_111 cw_one wd_1_0 wd_3_43 wd_3_42 ⟨by decide, by decide⟩ (by decide +kernel) ⟨Nat.le_of_ble_eq_true rfl, Nat.le_of_ble_eq_true rfl⟩ ⟨(show k + 0 ≤ 10 by omega), (show n + 0 ≤ 60 by omega)⟩
      refine r_iload (pc := 114) ?_ dL_comesTrue_114
      refine r_isub (pc := 116) ?_ dL_comesTrue_116
      refine r_icne (pc := 117) (t := 141) ?_ ?_ dL_comesTrue_117 (by decide)
      · exact r_no
      · refine r_aload_n (pc := 120) ?_ dL_comesTrue_120 rfl
        refine r_iload_n (pc := 121) ?_ dL_comesTrue_121 rfl
        refine r_iconst (pc := 122) ?_ dL_comesTrue_122 (by decide)
        refine r_csH (pc := 123) (k := k) (n := n) (Yc := Y_L_one0) ?_ dL_comesTrue_123 cw_one wd_1_0 wd_3_43 wd_3_42 ⟨by decide, by decide⟩ (by decide +kernel) ⟨Nat.le_of_ble_eq_true rfl, Nat.le_of_ble_eq_true rfl⟩ ⟨(show k + 0 ≤ 10 by omega), (show n + 0 ≤ 60 by omega)⟩
        refine r_iload_n (pc := 126) ?_ dL_comesTrue_126 rfl
        refine r_icne (pc := 127) (t := 141) ?_ ?_ dL_comesTrue_127 (by decide)
        · exact r_no
        · refine r_aload_n (pc := 130) ?_ dL_comesTrue_130 rfl
          refine r_csH (pc := 131) (k := k) (n := n) (Yc := Y_L_back) ?_ dL_comesTrue_131 cw_back wd_1_0 wd_2_194 wd_2_193 ⟨by decide, by decide⟩ (by decide +kernel) ⟨Nat.le_of_ble_eq_true rfl, Nat.le_of_ble_eq_true rfl⟩ ⟨(show k + 1 ≤ 10 by omega), (show n + 6 ≤ 60 by omega)⟩
          refine r_iflt (pc := 134) (t := 141) ?_ ?_ dL_comesTrue_134 (by decide)
          · exact r_no
          · refine r_iconst (pc := 137) ?_ dL_comesTrue_137 (by decide)
            refine r_goto (pc := 138) (t := 142) ?_ dL_comesTrue_138 (by decide)
            refine r_kl ?_
            refine r_kl ?_
            refine r_kl ?_
            refine r_kl ?_
            refine r_kl ?_
            exact Le.rf
def R_L_comesTrue_144 (l : Launch) (G : GT) (F : FX) (Q : PQ) (QX : PX) (k n : Nat) : KT := (I_al 0 (I_il 1 (I_csH (fun As M Q => TrH l G Y_L_best0 hh_best As M Q) 2 (I_is 10 (I_il 9 (I_ifeq I_no (I_il 10 (I_ic (-1) (I_iceq (I_kl 10 (I_kl 9 (Wj true l G F Y_L_comesTrue Q QX k n 172))) (I_al 0 (I_il 1 (I_il 10 (I_csH (fun As M Q => TrH l G Y_L_why0 hh_why As M Q) 3 (I_ifne I_no (I_kl 10 (I_kl 9 (Wj true l G F Y_L_comesTrue Q QX k n 172)))))))))))))))))
set_option maxRecDepth 100000 in
theorem g_L_comesTrue_144 {l : Launch} {G : GT} {F : FX} {Q : PQ} {QX : PX} {k n : Nat} (hk : k ≤ 10 ∧ n ≤ 60) : Le (R_L_comesTrue_144 l G F Q QX k n) (Wj true l G F Y_L_comesTrue Q QX k n 144) := by
  unfold R_L_comesTrue_144
  obtain ⟨hk1, hk2⟩ := hk
  refine r_aload_n (pc := 144) ?_ dL_comesTrue_144 rfl
  refine r_iload_n (pc := 145) ?_ dL_comesTrue_145 rfl
  refine r_csH (pc := 146) (k := k) (n := n) (Yc := Y_L_best0) ?_ dL_comesTrue_146 cw_best wd_1_0 wd_4_166 wd_4_165 ⟨by decide, by decide⟩ (by decide +kernel) ⟨Nat.le_of_ble_eq_true rfl, Nat.le_of_ble_eq_true rfl⟩ ⟨(show k + 0 ≤ 10 by omega), (show n + 0 ≤ 60 by omega)⟩
  refine r_istore (pc := 149) ?_ dL_comesTrue_149 (Nat.le_of_ble_eq_true rfl)
  refine r_iload (pc := 151) ?_ dL_comesTrue_151
  refine r_ifeq (pc := 153) (t := 176) ?_ ?_ dL_comesTrue_153 (by decide)
  · exact r_no
  · refine r_iload (pc := 156) ?_ dL_comesTrue_156
    refine r_iconst (pc := 158) ?_ dL_comesTrue_158 (by decide)
    refine r_iceq (pc := 159) (t := 172) ?_ ?_ dL_comesTrue_159 (by decide)
    · refine r_kl ?_
      refine r_kl ?_
      exact Le.rf
    · refine r_aload_n (pc := 162) ?_ dL_comesTrue_162 rfl
      refine r_iload_n (pc := 163) ?_ dL_comesTrue_163 rfl
      refine r_iload (pc := 164) ?_ dL_comesTrue_164
      refine r_csH (pc := 166) (k := k) (n := n) (Yc := Y_L_why0) ?_ dL_comesTrue_166 cw_why wd_1_0 wd_4_159 wd_4_158 ⟨by decide, by decide⟩ (by decide +kernel) ⟨Nat.le_of_ble_eq_true rfl, Nat.le_of_ble_eq_true rfl⟩ ⟨(show k + 0 ≤ 10 by omega), (show n + 0 ≤ 60 by omega)⟩
      refine r_ifne (pc := 169) (t := 176) ?_ ?_ dL_comesTrue_169 (by decide)
      · exact r_no
      · refine r_kl ?_
        refine r_kl ?_
        exact Le.rf
def R_L_comesTrue_142 (l : Launch) (G : GT) (F : FX) (Q : PQ) (QX : PX) (k n : Nat) : KT := (I_is 9 (Wj true l G F Y_L_comesTrue Q QX k n 144))
set_option maxRecDepth 100000 in
theorem g_L_comesTrue_142 {l : Launch} {G : GT} {F : FX} {Q : PQ} {QX : PX} {k n : Nat} (hk : k ≤ 10 ∧ n ≤ 60) : Le (R_L_comesTrue_142 l G F Q QX k n) (Wj true l G F Y_L_comesTrue Q QX k n 142) := by
  unfold R_L_comesTrue_142
  obtain ⟨hk1, hk2⟩ := hk
  refine r_istore (pc := 142) ?_ dL_comesTrue_142 (Nat.le_of_ble_eq_true rfl)
  exact Le.rf
def R_L_comesTrue_172 (l : Launch) (G : GT) (F : FX) (Q : PQ) (QX : PX) (k n : Nat) : KT := (I_ic 1 (Wj true l G F Y_L_comesTrue Q QX k n 177))
set_option maxRecDepth 100000 in
theorem g_L_comesTrue_172 {l : Launch} {G : GT} {F : FX} {Q : PQ} {QX : PX} {k n : Nat} (hk : k ≤ 10 ∧ n ≤ 60) : Le (R_L_comesTrue_172 l G F Q QX k n) (Wj true l G F Y_L_comesTrue Q QX k n 172) := by
  unfold R_L_comesTrue_172
  obtain ⟨hk1, hk2⟩ := hk
  refine r_iconst (pc := 172) ?_ dL_comesTrue_172 (by decide)
  refine r_goto (pc := 173) (t := 177) ?_ dL_comesTrue_173 (by decide)
  exact Le.rf
def R_L_comesTrue_177 (l : Launch) (G : GT) (F : FX) (Q : PQ) (QX : PX) (k n : Nat) : KT := (I_is 9 (I_al 0 (I_il 1 (I_il 2 (I_csH (fun As M Q => TrH l G Y_L_doubted0 hh_doubted As M Q) 3 (I_is 11 (I_al 0 (I_il 1 (I_il 2 (I_csH (fun As M Q => TrH l G Y_L_swaps hh_swaps As M Q) 3 (I_is 12 (I_il 9 (I_ifeq I_no (I_il 1 (I_il 2 (I_icne (I_il 12 (I_il 11 (I_ic (-1) (I_icne (I_il 11 (I_icne I_no (I_ic 1 (I_is 9 (I_il 9 (I_ifeq I_no (I_il 12 (I_iflt (I_al 0 (I_cs (Tr true l G Y_L_sum) 1 QX (I_ll 4 (I_lcmp (I_ifne I_no (I_ic 1 (I_zr Q))))))) (I_al 0 (I_csH (fun As M Q => TrH l G Y_L_back hh_back As M Q) 1 (I_iflt I_no (I_al 0 (I_cs (Tr true l G Y_L_sum) 1 QX (I_ll 4 (I_lcmp (I_ifne I_no (I_ic 1 (I_zr Q)))))))))))))))))) (I_ic (-900000002) (I_icne I_no (I_ic 1 (I_is 9 (I_il 9 (I_ifeq I_no (I_il 12 (I_iflt (I_al 0 (I_cs (Tr true l G Y_L_sum) 1 QX (I_ll 4 (I_lcmp (I_ifne I_no (I_ic 1 (I_zr Q))))))) (I_al 0 (I_csH (fun As M Q => TrH l G Y_L_back hh_back As M Q) 1 (I_iflt I_no (I_al 0 (I_cs (Tr true l G Y_L_sum) 1 QX (I_ll 4 (I_lcmp (I_ifne I_no (I_ic 1 (I_zr Q)))))))))))))))))))))) (I_il 12 (I_ic (-900000001) (I_icne I_no (I_il 11 (I_ic (-1) (I_icne I_no (I_ic 1 (I_is 9 (I_il 9 (I_ifeq I_no (I_il 12 (I_iflt (I_al 0 (I_cs (Tr true l G Y_L_sum) 1 QX (I_ll 4 (I_lcmp (I_ifne I_no (I_ic 1 (I_zr Q))))))) (I_al 0 (I_csH (fun As M Q => TrH l G Y_L_back hh_back As M Q) 1 (I_iflt I_no (I_al 0 (I_cs (Tr true l G Y_L_sum) 1 QX (I_ll 4 (I_lcmp (I_ifne I_no (I_ic 1 (I_zr Q))))))))))))))))))))))))))))))))))))))
set_option maxRecDepth 100000 in
theorem g_L_comesTrue_177 {l : Launch} {G : GT} {F : FX} {Q : PQ} {QX : PX} {k n : Nat} (hk : k + 2 ≤ 10 ∧ n + 12 ≤ 60) : Le (R_L_comesTrue_177 l G F Q QX k n) (Wj true l G F Y_L_comesTrue Q QX k n 177) := by
  unfold R_L_comesTrue_177
  obtain ⟨hk1, hk2⟩ := hk
  refine r_istore (pc := 177) ?_ dL_comesTrue_177 (Nat.le_of_ble_eq_true rfl)
  refine r_aload_n (pc := 179) ?_ dL_comesTrue_179 rfl
  refine r_iload_n (pc := 180) ?_ dL_comesTrue_180 rfl
  refine r_iload_n (pc := 181) ?_ dL_comesTrue_181 rfl
  refine r_csH (pc := 182) (k := k) (n := n) (Yc := Y_L_doubted0) ?_ dL_comesTrue_182 cw_doubted wd_1_0 wd_4_182 wd_4_181 ⟨by decide, by decide⟩ (by decide +kernel) ⟨Nat.le_of_ble_eq_true rfl, Nat.le_of_ble_eq_true rfl⟩ ⟨(show k + 0 ≤ 10 by omega), (show n + 0 ≤ 60 by omega)⟩
  refine r_istore (pc := 185) ?_ dL_comesTrue_185 (Nat.le_of_ble_eq_true rfl)
  refine r_aload_n (pc := 187) ?_ dL_comesTrue_187 rfl
  refine r_iload_n (pc := 188) ?_ dL_comesTrue_188 rfl
  refine r_iload_n (pc := 189) ?_ dL_comesTrue_189 rfl
  refine r_csH (pc := 190) (k := k) (n := n) (Yc := Y_L_swaps) ?_ dL_comesTrue_190 cw_swaps wd_1_0 wd_4_140 wd_4_139 ⟨by decide, by decide⟩ (by decide +kernel) ⟨Nat.le_of_ble_eq_true rfl, Nat.le_of_ble_eq_true rfl⟩ ⟨(show k + 1 ≤ 10 by omega), (show n + 6 ≤ 60 by omega)⟩
  refine r_istore (pc := 193) ?_ dL_comesTrue_193 (Nat.le_of_ble_eq_true rfl)
  refine r_iload (pc := 195) ?_ dL_comesTrue_195
  refine r_ifeq (pc := 197) (t := 243) ?_ ?_ dL_comesTrue_197 (by decide)
  · exact r_no
  · refine r_iload_n (pc := 200) ?_ dL_comesTrue_200 rfl
    refine r_iload_n (pc := 201) ?_ dL_comesTrue_201 rfl
    refine r_icne (pc := 202) (t := 221) ?_ ?_ dL_comesTrue_202 (by decide)
    · refine r_iload (pc := 221) ?_ dL_comesTrue_221
      refine r_iload (pc := 223) ?_ dL_comesTrue_223
      refine r_iconst (pc := 225) ?_ dL_comesTrue_225 (by decide)
      refine r_icne (pc := 226) (t := 234) ?_ ?_ dL_comesTrue_226 (by decide)
      · refine r_iload (pc := 234) ?_ dL_comesTrue_234
        refine r_icne (pc := 236) (t := 243) ?_ ?_ dL_comesTrue_236 (by decide)
        · exact r_no
        · refine r_iconst (pc := 239) ?_ dL_comesTrue_239 (by decide)
          refine r_goto (pc := 240) (t := 244) ?_ dL_comesTrue_240 (by decide)
          refine r_istore (pc := 244) ?_ dL_comesTrue_244 (Nat.le_of_ble_eq_true rfl)
          refine r_iload (pc := 246) ?_ dL_comesTrue_246
          refine r_ifeq (pc := 248) (t := 277) ?_ ?_ dL_comesTrue_248 (by decide)
          · exact r_no
          · refine r_iload (pc := 251) ?_ dL_comesTrue_251
            refine r_iflt (pc := 253) (t := 263) ?_ ?_ dL_comesTrue_253 (by decide)
            · refine r_aload_n (pc := 263) ?_ dL_comesTrue_263 rfl
              refine r_cs0 (pc := 264) (k := (k + 1)) (n := (n + 6)) ?_ dL_comesTrue_264 ok_L_sum wd_2_204 ⟨Nat.le_of_ble_eq_true rfl, Nat.le_of_ble_eq_true rfl⟩ ⟨(show (k + 1) ≤ 10 by omega), (show (n + 6) ≤ 60 by omega)⟩ rfl rfl
              refine r_lload (pc := 267) ?_ dL_comesTrue_267
              refine r_lcmp (pc := 269) ?_ dL_comesTrue_269
              refine r_ifne (pc := 270) (t := 277) ?_ ?_ dL_comesTrue_270 (by decide)
              · exact r_no
              · refine r_iconst (pc := 273) ?_ dL_comesTrue_273 (by decide)
                refine r_goto (pc := 274) (t := 278) ?_ dL_comesTrue_274 (by decide)
                exact r_zr dL_comesTrue_278 rfl (show (k + 1) ≤ 10 by omega) (show (n + 6) ≤ 60 by omega)
            · refine r_aload_n (pc := 256) ?_ dL_comesTrue_256 rfl
              refine r_csH (pc := 257) (k := (k + 1)) (n := (n + 6)) (Yc := Y_L_back) ?_ dL_comesTrue_257 cw_back wd_1_0 wd_2_194 wd_2_193 ⟨by decide, by decide⟩ (by decide +kernel) ⟨Nat.le_of_ble_eq_true rfl, Nat.le_of_ble_eq_true rfl⟩ ⟨(show (k + 1) + 1 ≤ 10 by omega), (show (n + 6) + 6 ≤ 60 by omega)⟩
              refine r_iflt (pc := 260) (t := 277) ?_ ?_ dL_comesTrue_260 (by decide)
              · exact r_no
              · refine r_aload_n (pc := 263) ?_ dL_comesTrue_263 rfl
                refine r_cs0 (pc := 264) (k := (k + 2)) (n := (n + 12)) ?_ dL_comesTrue_264 ok_L_sum wd_2_204 ⟨Nat.le_of_ble_eq_true rfl, Nat.le_of_ble_eq_true rfl⟩ ⟨(show (k + 2) ≤ 10 by omega), (show (n + 12) ≤ 60 by omega)⟩ rfl rfl
                refine r_lload (pc := 267) ?_ dL_comesTrue_267
                refine r_lcmp (pc := 269) ?_ dL_comesTrue_269
                refine r_ifne (pc := 270) (t := 277) ?_ ?_ dL_comesTrue_270 (by decide)
                · exact r_no
                · refine r_iconst (pc := 273) ?_ dL_comesTrue_273 (by decide)
                  refine r_goto (pc := 274) (t := 278) ?_ dL_comesTrue_274 (by decide)
                  exact r_zr dL_comesTrue_278 rfl (show (k + 2) ≤ 10 by omega) (show (n + 12) ≤ 60 by omega)
      · refine r_ldc (pc := 229) ?_ dL_comesTrue_229 wd_2_157
        refine r_goto (pc := 231) (t := 236) ?_ dL_comesTrue_231 (by decide)
        refine r_icne (pc := 236) (t := 243) ?_ ?_ dL_comesTrue_236 (by decide)
        · exact r_no
        · refine r_iconst (pc := 239) ?_ dL_comesTrue_239 (by decide)
          refine r_goto (pc := 240) (t := 244) ?_ dL_comesTrue_240 (by decide)
          refine r_istore (pc := 244) ?_ dL_comesTrue_244 (Nat.le_of_ble_eq_true rfl)
          refine r_iload (pc := 246) ?_ dL_comesTrue_246
          refine r_ifeq (pc := 248) (t := 277) ?_ ?_ dL_comesTrue_248 (by decide)
          · exact r_no
          · refine r_iload (pc := 251) ?_ dL_comesTrue_251
            refine r_iflt (pc := 253) (t := 263) ?_ ?_ dL_comesTrue_253 (by decide)
            · refine r_aload_n (pc := 263) ?_ dL_comesTrue_263 rfl
              refine r_cs0 (pc := 264) (k := (k + 1)) (n := (n + 6)) ?_ dL_comesTrue_264 ok_L_sum wd_2_204 ⟨Nat.le_of_ble_eq_true rfl, Nat.le_of_ble_eq_true rfl⟩ ⟨(show (k + 1) ≤ 10 by omega), (show (n + 6) ≤ 60 by omega)⟩ rfl rfl
              refine r_lload (pc := 267) ?_ dL_comesTrue_267
              refine r_lcmp (pc := 269) ?_ dL_comesTrue_269
              refine r_ifne (pc := 270) (t := 277) ?_ ?_ dL_comesTrue_270 (by decide)
              · exact r_no
              · refine r_iconst (pc := 273) ?_ dL_comesTrue_273 (by decide)
                refine r_goto (pc := 274) (t := 278) ?_ dL_comesTrue_274 (by decide)
                exact r_zr dL_comesTrue_278 rfl (show (k + 1) ≤ 10 by omega) (show (n + 6) ≤ 60 by omega)
            · refine r_aload_n (pc := 256) ?_ dL_comesTrue_256 rfl
              refine r_csH (pc := 257) (k := (k + 1)) (n := (n + 6)) (Yc := Y_L_back) ?_ dL_comesTrue_257 cw_back wd_1_0 wd_2_194 wd_2_193 ⟨by decide, by decide⟩ (by decide +kernel) ⟨Nat.le_of_ble_eq_true rfl, Nat.le_of_ble_eq_true rfl⟩ ⟨(show (k + 1) + 1 ≤ 10 by omega), (show (n + 6) + 6 ≤ 60 by omega)⟩
              refine r_iflt (pc := 260) (t := 277) ?_ ?_ dL_comesTrue_260 (by decide)
              · exact r_no
              · refine r_aload_n (pc := 263) ?_ dL_comesTrue_263 rfl
                refine r_cs0 (pc := 264) (k := (k + 2)) (n := (n + 12)) ?_ dL_comesTrue_264 ok_L_sum wd_2_204 ⟨Nat.le_of_ble_eq_true rfl, Nat.le_of_ble_eq_true rfl⟩ ⟨(show (k + 2) ≤ 10 by omega), (show (n + 12) ≤ 60 by omega)⟩ rfl rfl
                refine r_lload (pc := 267) ?_ dL_comesTrue_267
                refine r_lcmp (pc := 269) ?_ dL_comesTrue_269
                refine r_ifne (pc := 270) (t := 277) ?_ ?_ dL_comesTrue_270 (by decide)
                · exact r_no
                · refine r_iconst (pc := 273) ?_ dL_comesTrue_273 (by decide)
                  refine r_goto (pc := 274) (t := 278) ?_ dL_comesTrue_274 (by decide)
                  exact r_zr dL_comesTrue_278 rfl (show (k + 2) ≤ 10 by omega) (show (n + 12) ≤ 60 by omega)
    · refine r_iload (pc := 205) ?_ dL_comesTrue_205
      refine r_ldc (pc := 207) ?_ dL_comesTrue_207 wd_2_156
      refine r_icne (pc := 209) (t := 243) ?_ ?_ dL_comesTrue_209 (by decide)
      · exact r_no
      · refine r_iload (pc := 212) ?_ dL_comesTrue_212
        refine r_iconst (pc := 214) ?_ dL_comesTrue_214 (by decide)
        refine r_icne (pc := 215) (t := 243) ?_ ?_ dL_comesTrue_215 (by decide)
        · exact r_no
        · refine r_goto (pc := 218) (t := 239) ?_ dL_comesTrue_218 (by decide)
          refine r_iconst (pc := 239) ?_ dL_comesTrue_239 (by decide)
          refine r_goto (pc := 240) (t := 244) ?_ dL_comesTrue_240 (by decide)
          refine r_istore (pc := 244) ?_ dL_comesTrue_244 (Nat.le_of_ble_eq_true rfl)
          refine r_iload (pc := 246) ?_ dL_comesTrue_246
          refine r_ifeq (pc := 248) (t := 277) ?_ ?_ dL_comesTrue_248 (by decide)
          · exact r_no
          · refine r_iload (pc := 251) ?_ dL_comesTrue_251
            refine r_iflt (pc := 253) (t := 263) ?_ ?_ dL_comesTrue_253 (by decide)
            · refine r_aload_n (pc := 263) ?_ dL_comesTrue_263 rfl
              refine r_cs0 (pc := 264) (k := (k + 1)) (n := (n + 6)) ?_ dL_comesTrue_264 ok_L_sum wd_2_204 ⟨Nat.le_of_ble_eq_true rfl, Nat.le_of_ble_eq_true rfl⟩ ⟨(show (k + 1) ≤ 10 by omega), (show (n + 6) ≤ 60 by omega)⟩ rfl rfl
              refine r_lload (pc := 267) ?_ dL_comesTrue_267
              refine r_lcmp (pc := 269) ?_ dL_comesTrue_269
              refine r_ifne (pc := 270) (t := 277) ?_ ?_ dL_comesTrue_270 (by decide)
              · exact r_no
              · refine r_iconst (pc := 273) ?_ dL_comesTrue_273 (by decide)
                refine r_goto (pc := 274) (t := 278) ?_ dL_comesTrue_274 (by decide)
                exact r_zr dL_comesTrue_278 rfl (show (k + 1) ≤ 10 by omega) (show (n + 6) ≤ 60 by omega)
            · refine r_aload_n (pc := 256) ?_ dL_comesTrue_256 rfl
              refine r_csH (pc := 257) (k := (k + 1)) (n := (n + 6)) (Yc := Y_L_back) ?_ dL_comesTrue_257 cw_back wd_1_0 wd_2_194 wd_2_193 ⟨by decide, by decide⟩ (by decide +kernel) ⟨Nat.le_of_ble_eq_true rfl, Nat.le_of_ble_eq_true rfl⟩ ⟨(show (k + 1) + 1 ≤ 10 by omega), (show (n + 6) + 6 ≤ 60 by omega)⟩
              refine r_iflt (pc := 260) (t := 277) ?_ ?_ dL_comesTrue_260 (by decide)
              · exact r_no
              · refine r_aload_n (pc := 263) ?_ dL_comesTrue_263 rfl
                refine r_cs0 (pc := 264) (k := (k + 2)) (n := (n + 12)) ?_ dL_comesTrue_264 ok_L_sum wd_2_204 ⟨Nat.le_of_ble_eq_true rfl, Nat.le_of_ble_eq_true rfl⟩ ⟨(show (k + 2) ≤ 10 by omega), (show (n + 12) ≤ 60 by omega)⟩ rfl rfl
                refine r_lload (pc := 267) ?_ dL_comesTrue_267
                refine r_lcmp (pc := 269) ?_ dL_comesTrue_269
                refine r_ifne (pc := 270) (t := 277) ?_ ?_ dL_comesTrue_270 (by decide)
                · exact r_no
                · refine r_iconst (pc := 273) ?_ dL_comesTrue_273 (by decide)
                  refine r_goto (pc := 274) (t := 278) ?_ dL_comesTrue_274 (by decide)
                  exact r_zr dL_comesTrue_278 rfl (show (k + 2) ≤ 10 by omega) (show (n + 12) ≤ 60 by omega)
abbrev Y_L_acts : YT := (yL_acts, cL_acts, 12, (some .boolean), 11, 199, 4, 24)
theorem ok_L_acts : okS Y_L_acts 3 := ⟨⟨wd_4_233, wd_1_0, by decide, by decide, by decide +kernel⟩, wd_4_232⟩
def R_L_acts_0 (l : Launch) (G : GT) (F : FX) (Q : PQ) (QX : PX) (k n : Nat) : KT := (I_il 1 (I_al 0 (I_ic 2 (I_csH (fun As M Q => TrH l G Y_L_whole0 hh_whole As M Q) 2 (I_cs (Tr true l G Y_L_low) 2 QX (I_is 3 (I_il 1 (I_ic 4 (I_ishr (I_al 0 (I_ic 1 (I_csH (fun As M Q => TrH l G Y_L_whole0 hh_whole As M Q) 2 (I_cs (Tr true l G Y_L_low) 2 QX (I_is 4 (I_al 0 (I_cs (Tr true l G Y_L_hours) 1 QX (I_ls 5 (I_il 2 (I_ic 13 (I_cs (Tr true l G Y_L_low) 2 QX (I_sw 0 [(I_kl 4 (I_kl 2 (Wj true l G F Y_L_acts Q QX k n 96))), (I_kl 4 (I_kl 2 (Wj true l G F Y_L_acts Q QX k n 96))), (I_kl 4 (I_kl 2 (Wj true l G F Y_L_acts Q QX k n 96))), (I_kl 4 (I_kl 2 (Wj true l G F Y_L_acts Q QX k n 96))), (I_kl 4 (I_kl 3 (I_kl 2 (I_kl 1 (Wj true l G F Y_L_acts Q QX k n 264))))), (I_kl 4 (I_kl 3 (I_kl 2 (I_kl 1 (Wj true l G F Y_L_acts Q QX k n 264))))), (I_kl 3 (I_kl 2 (Wj true l G F Y_L_acts Q QX k n 306))), (I_kl 4 (I_kl 2 (Wj true l G F Y_L_acts Q QX k n 417))), (I_kl 4 (I_kl 2 (I_kl 1 (Wj true l G F Y_L_acts Q QX k n 483)))), (I_kl 2 (I_kl 1 (Wj true l G F Y_L_acts Q QX k n 542))), (I_kl 5 (I_kl 4 (I_kl 2 (Wj true l G F Y_L_acts Q QX k n 585)))), (I_kl 4 (I_kl 2 (Wj true l G F Y_L_acts Q QX k n 652)))] (I_kl 4 (I_kl 2 (I_kl 1 (Wj true l G F Y_L_acts Q QX k n 750)))))))))))))))))))))))))
set_option maxRecDepth 100000 in
theorem g_L_acts_0 {l : Launch} {G : GT} {F : FX} {Q : PQ} {QX : PX} {k n : Nat} (hk : k ≤ 4 ∧ n ≤ 24) : Le (R_L_acts_0 l G F Q QX k n) (Wj true l G F Y_L_acts Q QX k n 0) := by
  unfold R_L_acts_0
  obtain ⟨hk1, hk2⟩ := hk
  refine r_iload_n (pc := 0) ?_ dL_acts_0 rfl
  refine r_aload_n (pc := 1) ?_ dL_acts_1 rfl
  refine r_iconst (pc := 2) ?_ dL_acts_2 (by decide)
  refine r_csH (pc := 3) (k := k) (n := n) (Yc := Y_L_whole0) ?_ dL_acts_3 cw_whole wd_1_0 wd_2_210 wd_2_209 ⟨by decide, by decide⟩ (by decide +kernel) ⟨Nat.le_of_ble_eq_true rfl, Nat.le_of_ble_eq_true rfl⟩ ⟨(show k + 0 ≤ 4 by omega), (show n + 0 ≤ 24 by omega)⟩
  refine r_cs0 (pc := 6) (k := k) (n := n) ?_ dL_acts_6 ok_L_low wd_1_239 ⟨Nat.le_of_ble_eq_true rfl, Nat.le_of_ble_eq_true rfl⟩ ⟨(show k ≤ 4 by omega), (show n ≤ 24 by omega)⟩ rfl rfl
  refine r_istore_n (pc := 9) ?_ dL_acts_9 rfl (Nat.le_of_ble_eq_true rfl)
  refine r_iload_n (pc := 10) ?_ dL_acts_10 rfl
  refine r_iconst (pc := 11) ?_ dL_acts_11 (by decide)
  refine r_ishr (pc := 12) ?_ dL_acts_12
  refine r_aload_n (pc := 13) ?_ dL_acts_13 rfl
  refine r_iconst (pc := 14) ?_ dL_acts_14 (by decide)
  refine r_csH (pc := 15) (k := k) (n := n) (Yc := Y_L_whole0) ?_ dL_acts_15 cw_whole wd_1_0 wd_2_210 wd_2_209 ⟨by decide, by decide⟩ (by decide +kernel) ⟨Nat.le_of_ble_eq_true rfl, Nat.le_of_ble_eq_true rfl⟩ ⟨(show k + 0 ≤ 4 by omega), (show n + 0 ≤ 24 by omega)⟩
  refine r_cs0 (pc := 18) (k := k) (n := n) ?_ dL_acts_18 ok_L_low wd_1_239 ⟨Nat.le_of_ble_eq_true rfl, Nat.le_of_ble_eq_true rfl⟩ ⟨(show k ≤ 4 by omega), (show n ≤ 24 by omega)⟩ rfl rfl
  refine r_istore (pc := 21) ?_ dL_acts_21 (Nat.le_of_ble_eq_true rfl)
  refine r_aload_n (pc := 23) ?_ dL_acts_23 rfl
  refine r_cs0 (pc := 24) (k := k) (n := n) ?_ dL_acts_24 ok_L_hours wd_4_234 ⟨Nat.le_of_ble_eq_true rfl, Nat.le_of_ble_eq_true rfl⟩ ⟨(show k ≤ 4 by omega), (show n ≤ 24 by omega)⟩ rfl rfl
  refine r_lstore (pc := 27) ?_ dL_acts_27 (Nat.le_of_ble_eq_true rfl)
  refine r_iload_n (pc := 29) ?_ dL_acts_29 rfl
  refine r_bipush (pc := 30) ?_ dL_acts_30 (by decide)
  refine r_cs0 (pc := 32) (k := k) (n := n) ?_ dL_acts_32 ok_L_low wd_1_239 ⟨Nat.le_of_ble_eq_true rfl, Nat.le_of_ble_eq_true rfl⟩ ⟨(show k ≤ 4 by omega), (show n ≤ 24 by omega)⟩ rfl rfl
  refine r_sw (pc := 35) (t := 750) (os := [61, 61, 61, 61, 229, 229, 271, 382, 448, 507, 550, 617]) ?_ ⟨⟨96, by decide, ?_⟩, ⟨⟨96, by decide, ?_⟩, ⟨⟨96, by decide, ?_⟩, ⟨⟨96, by decide, ?_⟩, ⟨⟨264, by decide, ?_⟩, ⟨⟨264, by decide, ?_⟩, ⟨⟨306, by decide, ?_⟩, ⟨⟨417, by decide, ?_⟩, ⟨⟨483, by decide, ?_⟩, ⟨⟨542, by decide, ?_⟩, ⟨⟨585, by decide, ?_⟩, ⟨⟨652, by decide, ?_⟩, trivial⟩⟩⟩⟩⟩⟩⟩⟩⟩⟩⟩⟩ dL_acts_35 rfl rfl (by decide)
  · refine r_kl ?_
    refine r_kl ?_
    refine r_kl ?_
    exact Le.rf
  · refine r_kl ?_
    refine r_kl ?_
    exact Le.rf
  · refine r_kl ?_
    refine r_kl ?_
    exact Le.rf
  · refine r_kl ?_
    refine r_kl ?_
    exact Le.rf
  · refine r_kl ?_
    refine r_kl ?_
    exact Le.rf
  · refine r_kl ?_
    refine r_kl ?_
    refine r_kl ?_
    refine r_kl ?_
    exact Le.rf
  · refine r_kl ?_
    refine r_kl ?_
    refine r_kl ?_
    refine r_kl ?_
    exact Le.rf
  · refine r_kl ?_
    refine r_kl ?_
    exact Le.rf
  · refine r_kl ?_
    refine r_kl ?_
    exact Le.rf
  · refine r_kl ?_
    refine r_kl ?_
    refine r_kl ?_
    exact Le.rf
  · refine r_kl ?_
    refine r_kl ?_
    exact Le.rf
  · refine r_kl ?_
    refine r_kl ?_
    refine r_kl ?_
    exact Le.rf
  · refine r_kl ?_
    refine r_kl ?_
    exact Le.rf
def R_L_acts_96 (l : Launch) (G : GT) (F : FX) (Q : PQ) (QX : PX) (k n : Nat) : KT := (I_ic 1 (I_il 1 (I_ic 7 (I_ishr (I_ic 6 (I_cs (Tr true l G Y_L_low) 2 QX (I_iadd (I_is 7 (I_al 0 (I_il 3 (I_ic 2 (I_csH (fun As M Q => TrH l G Y_L_one0 hh_one As M Q) 3 (I_is 8 (I_al 0 (I_il 3 (I_ic 1 (I_csH (fun As M Q => TrH l G Y_L_one0 hh_one As M Q) 3 (I_iflt (I_ic 0 (Wj true l G F Y_L_acts Q QX k n 178)) (I_al 0 (I_il 3 (I_al 0 (I_ic 3 (I_csH (fun As M Q => TrH l G Y_L_whole0 hh_whole As M Q) 2 (I_csH (fun As M Q => TrH l G Y_L_next0 hh_next As M Q) 3 (I_al 0 (I_ic 3 (I_csH (fun As M Q => TrH l G Y_L_whole0 hh_whole As M Q) 2 (I_iceq (I_ic 0 (Wj true l G F Y_L_acts Q QX k n 178)) (I_al 0 (I_il 3 (I_ic 9 (I_csH (fun As M Q => TrH l G Y_L_one0 hh_one As M Q) 3 (I_il 7 (I_iadd (I_ic 13 (I_icge (I_ic 0 (Wj true l G F Y_L_acts Q QX k n 178)) (I_il 8 (I_al 0 (I_il 3 (I_ic 3 (I_csH (fun As M Q => TrH l G Y_L_one0 hh_one As M Q) 3 (I_iadd (I_ic 20 (I_icge (I_ic 0 (Wj true l G F Y_L_acts Q QX k n 178)) (I_ic 1 (Wj true l G F Y_L_acts Q QX k n 178))))))))))))))))))))))))))))))))))))))))))))))
set_option maxRecDepth 100000 in
theorem g_L_acts_96 {l : Launch} {G : GT} {F : FX} {Q : PQ} {QX : PX} {k n : Nat} (hk : k ≤ 4 ∧ n ≤ 24) : Le (R_L_acts_96 l G F Q QX k n) (Wj true l G F Y_L_acts Q QX k n 96) := by
  unfold R_L_acts_96
  obtain ⟨hk1, hk2⟩ := hk
  refine r_iconst (pc := 96) ?_ dL_acts_96 (by decide)
  refine r_iload_n (pc := 97) ?_ dL_acts_97 rfl
  refine r_bipush (pc := 98) ?_ dL_acts_98 (by decide)
  refine r_ishr (pc := 100) ?_ dL_acts_100
  refine r_bipush (pc := 101) ?_ dL_acts_101 (by decide)
  refine r_cs0 (pc := 103) (k := k) (n := n) ?_ dL_acts_103 ok_L_low wd_1_239 ⟨Nat.le_of_ble_eq_true rfl, Nat.le_of_ble_eq_true rfl⟩ ⟨(show k ≤ 4 by omega), (show n ≤ 24 by omega)⟩ rfl rfl
  refine r_iadd (pc := 106) ?_ dL_acts_106
  refine r_istore (pc := 107) ?_ dL_acts_107 (Nat.le_of_ble_eq_true rfl)
  refine r_aload_n (pc := 109) ?_ dL_acts_109 rfl
  refine r_iload_n (pc := 110) ?_ dL_acts_110 rfl
  refine r_iconst (pc := 111) ?_ dL_acts_111 (by decide)
  refine r_csH (pc := 112) (k := k) (n := n) (Yc := Y_L_one0) ?_ dL_acts_112 cw_one wd_1_0 wd_3_43 wd_3_42 ⟨by decide, by decide⟩ (by decide +kernel) ⟨Nat.le_of_ble_eq_true rfl, Nat.le_of_ble_eq_true rfl⟩ ⟨(show k + 0 ≤ 4 by omega), (show n + 0 ≤ 24 by omega)⟩
  refine r_istore (pc := 115) ?_ dL_acts_115 (Nat.le_of_ble_eq_true rfl)
  refine r_aload_n (pc := 117) ?_ dL_acts_117 rfl
  refine r_iload_n (pc := 118) ?_ dL_acts_118 rfl
  refine r_iconst (pc := 119) ?_ dL_acts_119 (by decide)
  refine r_csH (pc := 120) (k := k) (n := n) (Yc := Y_L_one0) ?_ dL_acts_120 cw_one wd_1_0 wd_3_43 wd_3_42 ⟨by decide, by decide⟩ (by decide +kernel) ⟨Nat.le_of_ble_eq_true rfl, Nat.le_of_ble_eq_true rfl⟩ ⟨(show k + 0 ≤ 4 by omega), (show n + 0 ≤ 24 by omega)⟩
  refine r_iflt (pc := 123) (t := 177) ?_ ?_ dL_acts_123 (by decide)
  · refine r_iconst (pc := 177) ?_ dL_acts_177 (by decide)
    exact Le.rf
  · refine r_aload_n (pc := 126) ?_ dL_acts_126 rfl
    refine r_iload_n (pc := 127) ?_ dL_acts_127 rfl
    refine r_aload_n (pc := 128) ?_ dL_acts_128 rfl
    refine r_iconst (pc := 129) ?_ dL_acts_129 (by decide)
    refine r_csH (pc := 130) (k := k) (n := n) (Yc := Y_L_whole0) ?_ dL_acts_130 cw_whole wd_1_0 wd_2_210 wd_2_209 ⟨by decide, by decide⟩ (by decide +kernel) ⟨Nat.le_of_ble_eq_true rfl, Nat.le_of_ble_eq_true rfl⟩ ⟨(show k + 0 ≤ 4 by omega), (show n + 0 ≤ 24 by omega)⟩
    refine r_csH (pc := 133) (k := k) (n := n) (Yc := Y_L_next0) ?_ dL_acts_133 cw_next wd_1_0 wd_3_97 wd_3_96 ⟨by decide, by decide⟩ (by decide +kernel) ⟨Nat.le_of_ble_eq_true rfl, Nat.le_of_ble_eq_true rfl⟩ ⟨(show k + 0 ≤ 4 by omega), (show n + 0 ≤ 24 by omega)⟩
    refine r_aload_n (pc := 136) ?_ dL_acts_136 rfl
    refine r_iconst (pc := 137) ?_ dL_acts_137 (by decide)
    refine r_csH (pc := 138) (k := k) (n := n) (Yc := Y_L_whole0) ?_ dL_acts_138 cw_whole wd_1_0 wd_2_210 wd_2_209 ⟨by decide, by decide⟩ (by decide +kernel) ⟨Nat.le_of_ble_eq_true rfl, Nat.le_of_ble_eq_true rfl⟩ ⟨(show k + 0 ≤ 4 by omega), (show n + 0 ≤ 24 by omega)⟩
    refine r_iceq (pc := 141) (t := 177) ?_ ?_ dL_acts_141 (by decide)
    · refine r_iconst (pc := 177) ?_ dL_acts_177 (by decide)
      exact Le.rf
    · refine r_aload_n (pc := 144) ?_ dL_acts_144 rfl
      refine r_iload_n (pc := 145) ?_ dL_acts_145 rfl
      refine r_bipush (pc := 146) ?_ dL_acts_146 (by decide)
      refine r_csH (pc := 148) (k := k) (n := n) (Yc := Y_L_one0) ?_ dL_acts_148 cw_one wd_1_0 wd_3_43 wd_3_42 ⟨by decide, by decide⟩ (by decide +kernel) ⟨Nat.le_of_ble_eq_true rfl, Nat.le_of_ble_eq_true rfl⟩ ⟨(show k + 0 ≤ 4 by omega), (show n + 0 ≤ 24 by omega)⟩
      refine r_iload (pc := 151) ?_ dL_acts_151
      refine r_iadd (pc := 153) ?_ dL_acts_153
      refine r_bipush (pc := 154) ?_ dL_acts_154 (by decide)
      refine r_icge (pc := 156) (t := 177) ?_ ?_ dL_acts_156 (by decide)
      · refine r_iconst (pc := 177) ?_ dL_acts_177 (by decide)
        exact Le.rf
      · refine r_iload (pc := 159) ?_ dL_acts_159
        refine r_aload_n (pc := 161) ?_ dL_acts_161 rfl
        refine r_iload_n (pc := 162) ?_ dL_acts_162 rfl
        refine r_iconst (pc := 163) ?_ dL_acts_163 (by decide)
        refine r_csH (pc := 164) (k := k) (n := n) (Yc := Y_L_one0) ?_ dL_acts_164 cw_one wd_1_0 wd_3_43 wd_3_42 ⟨by decide, by decide⟩ (by decide +kernel) ⟨Nat.le_of_ble_eq_true rfl, Nat.le_of_ble_eq_true rfl⟩ ⟨(show k + 0 ≤ 4 by omega), (show n + 0 ≤ 24 by omega)⟩
        refine r_iadd (pc := 167) ?_ dL_acts_167
        refine r_bipush (pc := 168) ?_ dL_acts_168 (by decide)
        refine r_icge (pc := 170) (t := 177) ?_ ?_ dL_acts_170 (by decide)
        · refine r_iconst (pc := 177) ?_ dL_acts_177 (by decide)
          exact Le.rf
        · refine r_iconst (pc := 173) ?_ dL_acts_173 (by decide)
          refine r_goto (pc := 174) (t := 178) ?_ dL_acts_174 (by decide)
          exact Le.rf
def R_L_acts_264 (l : Launch) (G : GT) (F : FX) (Q : PQ) (QX : PX) (k n : Nat) : KT := (I_al 0 (I_ic 5 (I_csH (fun As M Q => TrH l G Y_L_whole0 hh_whole As M Q) 2 (I_is 7 (I_al 0 (I_csH (fun As M Q => TrH l G Y_L_ends hh_ends As M Q) 1 (I_is 8 (I_il 8 (I_al 0 (I_ic 5 (I_csH (fun As M Q => TrH l G Y_L_whole0 hh_whole As M Q) 2 (I_il 7 (I_isub (I_icne I_no (I_al 0 (I_cs (Tr true l G Y_L_hours) 1 QX (I_ll 5 (I_lcmp (I_ifne I_no (I_ic 1 (I_zr Q)))))))))))))))))))))
set_option maxRecDepth 100000 in
theorem g_L_acts_264 {l : Launch} {G : GT} {F : FX} {Q : PQ} {QX : PX} {k n : Nat} (hk : k + 1 ≤ 4 ∧ n + 6 ≤ 24) : Le (R_L_acts_264 l G F Q QX k n) (Wj true l G F Y_L_acts Q QX k n 264) := by
  unfold R_L_acts_264
  obtain ⟨hk1, hk2⟩ := hk
  refine r_aload_n (pc := 264) ?_ dL_acts_264 rfl
  refine r_iconst (pc := 265) ?_ dL_acts_265 (by decide)
  refine r_csH (pc := 266) (k := k) (n := n) (Yc := Y_L_whole0) ?_ dL_acts_266 cw_whole wd_1_0 wd_2_210 wd_2_209 ⟨by decide, by decide⟩ (by decide +kernel) ⟨Nat.le_of_ble_eq_true rfl, Nat.le_of_ble_eq_true rfl⟩ ⟨(show k + 0 ≤ 4 by omega), (show n + 0 ≤ 24 by omega)⟩
  refine r_istore (pc := 269) ?_ dL_acts_269 (Nat.le_of_ble_eq_true rfl)
  refine r_aload_n (pc := 271) ?_ dL_acts_271 rfl
  refine r_csH (pc := 272) (k := k) (n := n) (Yc := Y_L_ends) ?_ dL_acts_272 cw_ends wd_1_0 wd_2_159 wd_2_158 ⟨by decide, by decide⟩ (by decide +kernel) ⟨Nat.le_of_ble_eq_true rfl, Nat.le_of_ble_eq_true rfl⟩ ⟨(show k + 1 ≤ 4 by omega), (show n + 6 ≤ 24 by omega)⟩
  refine r_istore (pc := 275) ?_ dL_acts_275 (Nat.le_of_ble_eq_true rfl)
  refine r_iload (pc := 277) ?_ dL_acts_277
  refine r_aload_n (pc := 279) ?_ dL_acts_279 rfl
  refine r_iconst (pc := 280) ?_ dL_acts_280 (by decide)
  refine r_csH (pc := 281) (k := (k + 1)) (n := (n + 6)) (Yc := Y_L_whole0) ?_ dL_acts_281 cw_whole wd_1_0 wd_2_210 wd_2_209 ⟨by decide, by decide⟩ (by decide +kernel) ⟨Nat.le_of_ble_eq_true rfl, Nat.le_of_ble_eq_true rfl⟩ ⟨(show (k + 1) + 0 ≤ 4 by omega), (show (n + 6) + 0 ≤ 24 by omega)⟩
  refine r_iload (pc := 284) ?_ dL_acts_284
  refine r_isub (pc := 286) ?_ dL_acts_286
  refine r_icne (pc := 287) (t := 304) ?_ ?_ dL_acts_287 (by decide)
  · exact r_no
  · refine r_aload_n (pc := 290) ?_ dL_acts_290 rfl
    refine r_cs0 (pc := 291) (k := (k + 1)) (n := (n + 6)) ?_ dL_acts_291 ok_L_hours wd_4_234 ⟨Nat.le_of_ble_eq_true rfl, Nat.le_of_ble_eq_true rfl⟩ ⟨(show (k + 1) ≤ 4 by omega), (show (n + 6) ≤ 24 by omega)⟩ rfl rfl
    refine r_lload (pc := 294) ?_ dL_acts_294
    refine r_lcmp (pc := 296) ?_ dL_acts_296
    refine r_ifne (pc := 297) (t := 304) ?_ ?_ dL_acts_297 (by decide)
    · exact r_no
    · refine r_iconst (pc := 300) ?_ dL_acts_300 (by decide)
      refine r_goto (pc := 301) (t := 305) ?_ dL_acts_301 (by decide)
      exact r_zr dL_acts_305 rfl (show (k + 1) ≤ 4 by omega) (show (n + 6) ≤ 24 by omega)
def R_L_acts_306 (l : Launch) (G : GT) (F : FX) (Q : PQ) (QX : PX) (k n : Nat) : KT := (I_al 0 (I_ic 4 (I_csH (fun As M Q => TrH l G Y_L_whole0 hh_whole As M Q) 2 (I_is 7 (I_al 0 (I_il 4 (I_ic 4 (I_csH (fun As M Q => TrH l G Y_L_mentor0 hh_mentor As M Q) 3 (I_is 8 (I_al 0 (I_il 4 (I_ic 3 (I_csH (fun As M Q => TrH l G Y_L_mentor0 hh_mentor As M Q) 3 (I_is 9 (I_ic 1 (I_il 1 (I_ic 7 (I_ishr (I_ic 9 (I_cs (Tr true l G Y_L_low) 2 QX (I_iadd (I_is 10 (I_al 0 (I_il 4 (I_il 10 (I_csH (fun As M Q => TrH l G Y_L_confirms hh_confirms As M Q) 3 (I_is 11 (I_il 11 (I_il 9 (I_il 10 (I_icge (I_il 10 (I_icne I_no (I_al 0 (I_ic 4 (I_csH (fun As M Q => TrH l G Y_L_whole0 hh_whole As M Q) 2 (I_il 7 (I_il 11 (I_isub (I_icne I_no (I_al 0 (I_il 4 (I_ic 4 (I_csH (fun As M Q => TrH l G Y_L_mentor0 hh_mentor As M Q) 3 (I_il 8 (I_il 11 (I_iadd (I_icne I_no (I_al 0 (I_cs (Tr true l G Y_L_hours) 1 QX (I_ll 5 (I_lcmp (I_ifne I_no (I_ic 1 (I_zr Q)))))))))))))))))))))))) (I_il 9 (I_icne I_no (I_al 0 (I_ic 4 (I_csH (fun As M Q => TrH l G Y_L_whole0 hh_whole As M Q) 2 (I_il 7 (I_il 11 (I_isub (I_icne I_no (I_al 0 (I_il 4 (I_ic 4 (I_csH (fun As M Q => TrH l G Y_L_mentor0 hh_mentor As M Q) 3 (I_il 8 (I_il 11 (I_iadd (I_icne I_no (I_al 0 (I_cs (Tr true l G Y_L_hours) 1 QX (I_ll 5 (I_lcmp (I_ifne I_no (I_ic 1 (I_zr Q)))))))))))))))))))))))))))))))))))))))))))))))))))))))
set_option maxRecDepth 100000 in
theorem g_L_acts_306 {l : Launch} {G : GT} {F : FX} {Q : PQ} {QX : PX} {k n : Nat} (hk : k + 1 ≤ 4 ∧ n + 6 ≤ 24) : Le (R_L_acts_306 l G F Q QX k n) (Wj true l G F Y_L_acts Q QX k n 306) := by
  unfold R_L_acts_306
  obtain ⟨hk1, hk2⟩ := hk
  refine r_aload_n (pc := 306) ?_ dL_acts_306 rfl
  refine r_iconst (pc := 307) ?_ dL_acts_307 (by decide)
  refine r_csH (pc := 308) (k := k) (n := n) (Yc := Y_L_whole0) ?_ dL_acts_308 cw_whole wd_1_0 wd_2_210 wd_2_209 ⟨by decide, by decide⟩ (by decide +kernel) ⟨Nat.le_of_ble_eq_true rfl, Nat.le_of_ble_eq_true rfl⟩ ⟨(show k + 0 ≤ 4 by omega), (show n + 0 ≤ 24 by omega)⟩
  refine r_istore (pc := 311) ?_ dL_acts_311 (Nat.le_of_ble_eq_true rfl)
  refine r_aload_n (pc := 313) ?_ dL_acts_313 rfl
  refine r_iload (pc := 314) ?_ dL_acts_314
  refine r_iconst (pc := 316) ?_ dL_acts_316 (by decide)
  refine r_csH (pc := 317) (k := k) (n := n) (Yc := Y_L_mentor0) ?_ dL_acts_317 cw_mentor wd_1_0 wd_3_12 wd_3_11 ⟨by decide, by decide⟩ (by decide +kernel) ⟨Nat.le_of_ble_eq_true rfl, Nat.le_of_ble_eq_true rfl⟩ ⟨(show k + 0 ≤ 4 by omega), (show n + 0 ≤ 24 by omega)⟩
  refine r_istore (pc := 320) ?_ dL_acts_320 (Nat.le_of_ble_eq_true rfl)
  refine r_aload_n (pc := 322) ?_ dL_acts_322 rfl
  refine r_iload (pc := 323) ?_ dL_acts_323
  refine r_iconst (pc := 325) ?_ dL_acts_325 (by decide)
  refine r_csH (pc := 326) (k := k) (n := n) (Yc := Y_L_mentor0) ?_ dL_acts_326 cw_mentor wd_1_0 wd_3_12 wd_3_11 ⟨by decide, by decide⟩ (by decide +kernel) ⟨Nat.le_of_ble_eq_true rfl, Nat.le_of_ble_eq_true rfl⟩ ⟨(show k + 0 ≤ 4 by omega), (show n + 0 ≤ 24 by omega)⟩
  refine r_istore (pc := 329) ?_ dL_acts_329 (Nat.le_of_ble_eq_true rfl)
  refine r_iconst (pc := 331) ?_ dL_acts_331 (by decide)
  refine r_iload_n (pc := 332) ?_ dL_acts_332 rfl
  refine r_bipush (pc := 333) ?_ dL_acts_333 (by decide)
  refine r_ishr (pc := 335) ?_ dL_acts_335
  refine r_bipush (pc := 336) ?_ dL_acts_336 (by decide)
  refine r_cs0 (pc := 338) (k := k) (n := n) ?_ dL_acts_338 ok_L_low wd_1_239 ⟨Nat.le_of_ble_eq_true rfl, Nat.le_of_ble_eq_true rfl⟩ ⟨(show k ≤ 4 by omega), (show n ≤ 24 by omega)⟩ rfl rfl
  refine r_iadd (pc := 341) ?_ dL_acts_341
  refine r_istore (pc := 342) ?_ dL_acts_342 (Nat.le_of_ble_eq_true rfl)
  refine r_aload_n (pc := 344) ?_ dL_acts_344 rfl
  refine r_iload (pc := 345) ?_ dL_acts_345
  refine r_iload (pc := 347) ?_ dL_acts_347
  refine r_csH (pc := 349) (k := k) (n := n) (Yc := Y_L_confirms) ?_ dL_acts_349 cw_confirms wd_1_0 wd_3_227 wd_3_226 ⟨by decide, by decide⟩ (by decide +kernel) ⟨Nat.le_of_ble_eq_true rfl, Nat.le_of_ble_eq_true rfl⟩ ⟨(show k + 1 ≤ 4 by omega), (show n + 6 ≤ 24 by omega)⟩
  refine r_istore (pc := 352) ?_ dL_acts_352 (Nat.le_of_ble_eq_true rfl)
  refine r_iload (pc := 354) ?_ dL_acts_354
  refine r_iload (pc := 356) ?_ dL_acts_356
  refine r_iload (pc := 358) ?_ dL_acts_358
  refine r_icge (pc := 360) (t := 368) ?_ ?_ dL_acts_360 (by decide)
  · refine r_iload (pc := 368) ?_ dL_acts_368
    refine r_icne (pc := 370) (t := 415) ?_ ?_ dL_acts_370 (by decide)
    · exact r_no
    · refine r_aload_n (pc := 373) ?_ dL_acts_373 rfl
      refine r_iconst (pc := 374) ?_ dL_acts_374 (by decide)
      refine r_csH (pc := 375) (k := (k + 1)) (n := (n + 6)) (Yc := Y_L_whole0) ?_ dL_acts_375 cw_whole wd_1_0 wd_2_210 wd_2_209 ⟨by decide, by decide⟩ (by decide +kernel) ⟨Nat.le_of_ble_eq_true rfl, Nat.le_of_ble_eq_true rfl⟩ ⟨(show (k + 1) + 0 ≤ 4 by omega), (show (n + 6) + 0 ≤ 24 by omega)⟩
      refine r_iload (pc := 378) ?_ dL_acts_378
      refine r_iload (pc := 380) ?_ dL_acts_380
      refine r_isub (pc := 382) ?_ dL_acts_382
      refine r_icne (pc := 383) (t := 415) ?_ ?_ dL_acts_383 (by decide)
      · exact r_no
      · refine r_aload_n (pc := 386) ?_ dL_acts_386 rfl
        refine r_iload (pc := 387) ?_ dL_acts_387
        refine r_iconst (pc := 389) ?_ dL_acts_389 (by decide)
        refine r_csH (pc := 390) (k := (k + 1)) (n := (n + 6)) (Yc := Y_L_mentor0) ?_ dL_acts_390 cw_mentor wd_1_0 wd_3_12 wd_3_11 ⟨by decide, by decide⟩ (by decide +kernel) ⟨Nat.le_of_ble_eq_true rfl, Nat.le_of_ble_eq_true rfl⟩ ⟨(show (k + 1) + 0 ≤ 4 by omega), (show (n + 6) + 0 ≤ 24 by omega)⟩
        refine r_iload (pc := 393) ?_ dL_acts_393
        refine r_iload (pc := 395) ?_ dL_acts_395
        refine r_iadd (pc := 397) ?_ dL_acts_397
        refine r_icne (pc := 398) (t := 415) ?_ ?_ dL_acts_398 (by decide)
        · exact r_no
        · refine r_aload_n (pc := 401) ?_ dL_acts_401 rfl
          refine r_cs0 (pc := 402) (k := (k + 1)) (n := (n + 6)) ?_ dL_acts_402 ok_L_hours wd_4_234 ⟨Nat.le_of_ble_eq_true rfl, Nat.le_of_ble_eq_true rfl⟩ ⟨(show (k + 1) ≤ 4 by omega), (show (n + 6) ≤ 24 by omega)⟩ rfl rfl
          refine r_lload (pc := 405) ?_ dL_acts_405
          refine r_lcmp (pc := 407) ?_ dL_acts_407
          refine r_ifne (pc := 408) (t := 415) ?_ ?_ dL_acts_408 (by decide)
          · exact r_no
          · refine r_iconst (pc := 411) ?_ dL_acts_411 (by decide)
            refine r_goto (pc := 412) (t := 416) ?_ dL_acts_412 (by decide)
            exact r_zr dL_acts_416 rfl (show (k + 1) ≤ 4 by omega) (show (n + 6) ≤ 24 by omega)
  · refine r_iload (pc := 363) ?_ dL_acts_363
    refine r_goto (pc := 365) (t := 370) ?_ dL_acts_365 (by decide)
    refine r_icne (pc := 370) (t := 415) ?_ ?_ dL_acts_370 (by decide)
    · exact r_no
    · refine r_aload_n (pc := 373) ?_ dL_acts_373 rfl
      refine r_iconst (pc := 374) ?_ dL_acts_374 (by decide)
      refine r_csH (pc := 375) (k := (k + 1)) (n := (n + 6)) (Yc := Y_L_whole0) ?_ dL_acts_375 cw_whole wd_1_0 wd_2_210 wd_2_209 ⟨by decide, by decide⟩ (by decide +kernel) ⟨Nat.le_of_ble_eq_true rfl, Nat.le_of_ble_eq_true rfl⟩ ⟨(show (k + 1) + 0 ≤ 4 by omega), (show (n + 6) + 0 ≤ 24 by omega)⟩
      refine r_iload (pc := 378) ?_ dL_acts_378
      refine r_iload (pc := 380) ?_ dL_acts_380
      refine r_isub (pc := 382) ?_ dL_acts_382
      refine r_icne (pc := 383) (t := 415) ?_ ?_ dL_acts_383 (by decide)
      · exact r_no
      · refine r_aload_n (pc := 386) ?_ dL_acts_386 rfl
        refine r_iload (pc := 387) ?_ dL_acts_387
        refine r_iconst (pc := 389) ?_ dL_acts_389 (by decide)
        refine r_csH (pc := 390) (k := (k + 1)) (n := (n + 6)) (Yc := Y_L_mentor0) ?_ dL_acts_390 cw_mentor wd_1_0 wd_3_12 wd_3_11 ⟨by decide, by decide⟩ (by decide +kernel) ⟨Nat.le_of_ble_eq_true rfl, Nat.le_of_ble_eq_true rfl⟩ ⟨(show (k + 1) + 0 ≤ 4 by omega), (show (n + 6) + 0 ≤ 24 by omega)⟩
        refine r_iload (pc := 393) ?_ dL_acts_393
        refine r_iload (pc := 395) ?_ dL_acts_395
        refine r_iadd (pc := 397) ?_ dL_acts_397
        refine r_icne (pc := 398) (t := 415) ?_ ?_ dL_acts_398 (by decide)
        · exact r_no
        · refine r_aload_n (pc := 401) ?_ dL_acts_401 rfl
          refine r_cs0 (pc := 402) (k := (k + 1)) (n := (n + 6)) ?_ dL_acts_402 ok_L_hours wd_4_234 ⟨Nat.le_of_ble_eq_true rfl, Nat.le_of_ble_eq_true rfl⟩ ⟨(show (k + 1) ≤ 4 by omega), (show (n + 6) ≤ 24 by omega)⟩ rfl rfl
          refine r_lload (pc := 405) ?_ dL_acts_405
          refine r_lcmp (pc := 407) ?_ dL_acts_407
          refine r_ifne (pc := 408) (t := 415) ?_ ?_ dL_acts_408 (by decide)
          · exact r_no
          · refine r_iconst (pc := 411) ?_ dL_acts_411 (by decide)
            refine r_goto (pc := 412) (t := 416) ?_ dL_acts_412 (by decide)
            exact r_zr dL_acts_416 rfl (show (k + 1) ≤ 4 by omega) (show (n + 6) ≤ 24 by omega)
def R_L_acts_417 (l : Launch) (G : GT) (F : FX) (Q : PQ) (QX : PX) (k n : Nat) : KT := (I_al 0 (I_il 3 (I_ic 3 (I_csH (fun As M Q => TrH l G Y_L_one0 hh_one As M Q) 3 (I_ifne (I_al 0 (I_il 3 (I_ic 1 (I_ic 0 (I_ic 1 (I_csH (fun As M Q => TrH l G Y_L_entry0 hh_entry As M Q) 5 (Wj true l G F Y_L_acts Q QX k n 439))))))) (I_ic (-900000002) (Wj true l G F Y_L_acts Q QX k n 439)))))))
set_option maxRecDepth 100000 in
theorem g_L_acts_417 {l : Launch} {G : GT} {F : FX} {Q : PQ} {QX : PX} {k n : Nat} (hk : k ≤ 4 ∧ n ≤ 24) : Le (R_L_acts_417 l G F Q QX k n) (Wj true l G F Y_L_acts Q QX k n 417) := by
  unfold R_L_acts_417
  obtain ⟨hk1, hk2⟩ := hk
  refine r_aload_n (pc := 417) ?_ dL_acts_417 rfl
  refine r_iload_n (pc := 418) ?_ dL_acts_418 rfl
  refine r_iconst (pc := 419) ?_ dL_acts_419 (by decide)
  refine r_csH (pc := 420) (k := k) (n := n) (Yc := Y_L_one0) ?_ dL_acts_420 cw_one wd_1_0 wd_3_43 wd_3_42 ⟨by decide, by decide⟩ (by decide +kernel) ⟨Nat.le_of_ble_eq_true rfl, Nat.le_of_ble_eq_true rfl⟩ ⟨(show k + 0 ≤ 4 by omega), (show n + 0 ≤ 24 by omega)⟩
  refine r_ifne (pc := 423) (t := 431) ?_ ?_ dL_acts_423 (by decide)
  · refine r_aload_n (pc := 431) ?_ dL_acts_431 rfl
    refine r_iload_n (pc := 432) ?_ dL_acts_432 rfl
    refine r_iconst (pc := 433) ?_ dL_acts_433 (by decide)
    refine r_iconst (pc := 434) ?_ dL_acts_434 (by decide)
    refine r_iconst (pc := 435) ?_ dL_acts_435 (by decide)
    refine r_csH (pc := 436) (k := k) (n := n) (Yc := Y_L_entry0) ?_ dL_acts_436 cw_entry wd_1_0 wd_3_85 wd_3_84 ⟨by decide, by decide⟩ (by decide +kernel) ⟨Nat.le_of_ble_eq_true rfl, Nat.le_of_ble_eq_true rfl⟩ ⟨(show k + 0 ≤ 4 by omega), (show n + 0 ≤ 24 by omega)⟩
    exact Le.rf
  · refine r_ldc (pc := 426) ?_ dL_acts_426 wd_2_157
    refine r_goto (pc := 428) (t := 439) ?_ dL_acts_428 (by decide)
    exact Le.rf
def R_L_acts_483 (l : Launch) (G : GT) (F : FX) (Q : PQ) (QX : PX) (k n : Nat) : KT := (I_al 0 (I_il 3 (I_ic 2 (I_csH (fun As M Q => TrH l G Y_L_one0 hh_one As M Q) 3 (I_ifeq (I_ic (-900000002) (Wj true l G F Y_L_acts Q QX k n 514)) (I_al 0 (I_il 3 (I_ic 1 (I_csH (fun As M Q => TrH l G Y_L_one0 hh_one As M Q) 3 (I_ifge (I_al 0 (I_il 3 (I_ic 0 (I_ic 0 (I_ic 1 (I_csH (fun As M Q => TrH l G Y_L_entry0 hh_entry As M Q) 5 (Wj true l G F Y_L_acts Q QX k n 514))))))) (I_ic (-900000002) (Wj true l G F Y_L_acts Q QX k n 514))))))))))))
set_option maxRecDepth 100000 in
theorem g_L_acts_483 {l : Launch} {G : GT} {F : FX} {Q : PQ} {QX : PX} {k n : Nat} (hk : k ≤ 4 ∧ n ≤ 24) : Le (R_L_acts_483 l G F Q QX k n) (Wj true l G F Y_L_acts Q QX k n 483) := by
  unfold R_L_acts_483
  obtain ⟨hk1, hk2⟩ := hk
  refine r_aload_n (pc := 483) ?_ dL_acts_483 rfl
  refine r_iload_n (pc := 484) ?_ dL_acts_484 rfl
  refine r_iconst (pc := 485) ?_ dL_acts_485 (by decide)
  refine r_csH (pc := 486) (k := k) (n := n) (Yc := Y_L_one0) ?_ dL_acts_486 cw_one wd_1_0 wd_3_43 wd_3_42 ⟨by decide, by decide⟩ (by decide +kernel) ⟨Nat.le_of_ble_eq_true rfl, Nat.le_of_ble_eq_true rfl⟩ ⟨(show k + 0 ≤ 4 by omega), (show n + 0 ≤ 24 by omega)⟩
  refine r_ifeq (pc := 489) (t := 501) ?_ ?_ dL_acts_489 (by decide)
  · refine r_ldc (pc := 501) ?_ dL_acts_501 wd_2_157
    refine r_goto (pc := 503) (t := 514) ?_ dL_acts_503 (by decide)
    exact Le.rf
  · refine r_aload_n (pc := 492) ?_ dL_acts_492 rfl
    refine r_iload_n (pc := 493) ?_ dL_acts_493 rfl
    refine r_iconst (pc := 494) ?_ dL_acts_494 (by decide)
    refine r_csH (pc := 495) (k := k) (n := n) (Yc := Y_L_one0) ?_ dL_acts_495 cw_one wd_1_0 wd_3_43 wd_3_42 ⟨by decide, by decide⟩ (by decide +kernel) ⟨Nat.le_of_ble_eq_true rfl, Nat.le_of_ble_eq_true rfl⟩ ⟨(show k + 0 ≤ 4 by omega), (show n + 0 ≤ 24 by omega)⟩
    refine r_ifge (pc := 498) (t := 506) ?_ ?_ dL_acts_498 (by decide)
    · refine r_aload_n (pc := 506) ?_ dL_acts_506 rfl
      refine r_iload_n (pc := 507) ?_ dL_acts_507 rfl
      refine r_iconst (pc := 508) ?_ dL_acts_508 (by decide)
      refine r_iconst (pc := 509) ?_ dL_acts_509 (by decide)
      refine r_iconst (pc := 510) ?_ dL_acts_510 (by decide)
      refine r_csH (pc := 511) (k := k) (n := n) (Yc := Y_L_entry0) ?_ dL_acts_511 cw_entry wd_1_0 wd_3_85 wd_3_84 ⟨by decide, by decide⟩ (by decide +kernel) ⟨Nat.le_of_ble_eq_true rfl, Nat.le_of_ble_eq_true rfl⟩ ⟨(show k + 0 ≤ 4 by omega), (show n + 0 ≤ 24 by omega)⟩
      exact Le.rf
    · refine r_ldc (pc := 501) ?_ dL_acts_501 wd_2_157
      refine r_goto (pc := 503) (t := 514) ?_ dL_acts_503 (by decide)
      exact Le.rf
def R_L_acts_542 (l : Launch) (G : GT) (F : FX) (Q : PQ) (QX : PX) (k n : Nat) : KT := (I_al 0 (I_il 3 (I_il 4 (I_csH (fun As M Q => TrH l G Y_L_moves hh_moves As M Q) 3 (I_is 7 (I_il 7 (I_ic (-900000002) (I_iceq (I_al 0 (I_cs (Tr true l G Y_L_hours) 1 QX (I_ll 5 (I_lcmp (I_ifne I_no (I_ic 1 (I_zr Q))))))) (I_al 0 (I_il 3 (I_ic 1 (I_csH (fun As M Q => TrH l G Y_L_one0 hh_one As M Q) 3 (I_il 4 (I_icne I_no (I_al 0 (I_cs (Tr true l G Y_L_hours) 1 QX (I_ll 5 (I_lcmp (I_ifne I_no (I_ic 1 (I_zr Q)))))))))))))))))))))
set_option maxRecDepth 100000 in
theorem g_L_acts_542 {l : Launch} {G : GT} {F : FX} {Q : PQ} {QX : PX} {k n : Nat} (hk : k + 1 ≤ 4 ∧ n + 6 ≤ 24) : Le (R_L_acts_542 l G F Q QX k n) (Wj true l G F Y_L_acts Q QX k n 542) := by
  unfold R_L_acts_542
  obtain ⟨hk1, hk2⟩ := hk
  refine r_aload_n (pc := 542) ?_ dL_acts_542 rfl
  refine r_iload_n (pc := 543) ?_ dL_acts_543 rfl
  refine r_iload (pc := 544) ?_ dL_acts_544
  refine r_csH (pc := 546) (k := k) (n := n) (Yc := Y_L_moves) ?_ dL_acts_546 cw_moves wd_1_0 wd_4_96 wd_4_95 ⟨by decide, by decide⟩ (by decide +kernel) ⟨Nat.le_of_ble_eq_true rfl, Nat.le_of_ble_eq_true rfl⟩ ⟨(show k + 1 ≤ 4 by omega), (show n + 6 ≤ 24 by omega)⟩
  refine r_istore (pc := 549) ?_ dL_acts_549 (Nat.le_of_ble_eq_true rfl)
  refine r_iload (pc := 551) ?_ dL_acts_551
  refine r_ldc (pc := 553) ?_ dL_acts_553 wd_2_157
  refine r_iceq (pc := 555) (t := 569) ?_ ?_ dL_acts_555 (by decide)
  · refine r_aload_n (pc := 569) ?_ dL_acts_569 rfl
    refine r_cs0 (pc := 570) (k := (k + 1)) (n := (n + 6)) ?_ dL_acts_570 ok_L_hours wd_4_234 ⟨Nat.le_of_ble_eq_true rfl, Nat.le_of_ble_eq_true rfl⟩ ⟨(show (k + 1) ≤ 4 by omega), (show (n + 6) ≤ 24 by omega)⟩ rfl rfl
    refine r_lload (pc := 573) ?_ dL_acts_573
    refine r_lcmp (pc := 575) ?_ dL_acts_575
    refine r_ifne (pc := 576) (t := 583) ?_ ?_ dL_acts_576 (by decide)
    · exact r_no
    · refine r_iconst (pc := 579) ?_ dL_acts_579 (by decide)
      refine r_goto (pc := 580) (t := 584) ?_ dL_acts_580 (by decide)
      exact r_zr dL_acts_584 rfl (show (k + 1) ≤ 4 by omega) (show (n + 6) ≤ 24 by omega)
  · refine r_aload_n (pc := 558) ?_ dL_acts_558 rfl
    refine r_iload_n (pc := 559) ?_ dL_acts_559 rfl
    refine r_iconst (pc := 560) ?_ dL_acts_560 (by decide)
    refine r_csH (pc := 561) (k := (k + 1)) (n := (n + 6)) (Yc := Y_L_one0) ?_ dL_acts_561 cw_one wd_1_0 wd_3_43 wd_3_42 ⟨by decide, by decide⟩ (by decide +kernel) ⟨Nat.le_of_ble_eq_true rfl, Nat.le_of_ble_eq_true rfl⟩ ⟨(show (k + 1) + 0 ≤ 4 by omega), (show (n + 6) + 0 ≤ 24 by omega)⟩
    refine r_iload (pc := 564) ?_ dL_acts_564
    refine r_icne (pc := 566) (t := 583) ?_ ?_ dL_acts_566 (by decide)
    · exact r_no
    · refine r_aload_n (pc := 569) ?_ dL_acts_569 rfl
      refine r_cs0 (pc := 570) (k := (k + 1)) (n := (n + 6)) ?_ dL_acts_570 ok_L_hours wd_4_234 ⟨Nat.le_of_ble_eq_true rfl, Nat.le_of_ble_eq_true rfl⟩ ⟨(show (k + 1) ≤ 4 by omega), (show (n + 6) ≤ 24 by omega)⟩ rfl rfl
      refine r_lload (pc := 573) ?_ dL_acts_573
      refine r_lcmp (pc := 575) ?_ dL_acts_575
      refine r_ifne (pc := 576) (t := 583) ?_ ?_ dL_acts_576 (by decide)
      · exact r_no
      · refine r_iconst (pc := 579) ?_ dL_acts_579 (by decide)
        refine r_goto (pc := 580) (t := 584) ?_ dL_acts_580 (by decide)
        exact r_zr dL_acts_584 rfl (show (k + 1) ≤ 4 by omega) (show (n + 6) ≤ 24 by omega)
def R_L_acts_585 (l : Launch) (G : GT) (F : FX) (Q : PQ) (QX : PX) (k n : Nat) : KT := (I_al 0 (I_il 3 (I_il 1 (I_ic 7 (I_ishr (I_ic 30 (I_cs (Tr true l G Y_L_low) 2 QX (I_csH (fun As M Q => TrH l G Y_L_frees hh_frees As M Q) 3 (I_is 7 (I_il 7 (I_ic (-900000002) (I_iceq (I_ic 1 (I_zr Q)) (I_il 7 (I_al 0 (I_il 3 (I_ic 7 (I_csH (fun As M Q => TrH l G Y_L_one0 hh_one As M Q) 3 (I_icne I_no (I_al 0 (I_il 3 (I_il 1 (I_ic 7 (I_ishr (I_ic 30 (I_cs (Tr true l G Y_L_low) 2 QX (I_csH (fun As M Q => TrH l G Y_L_next0 hh_next As M Q) 3 (I_il 1 (I_ic 7 (I_ishr (I_ic 30 (I_cs (Tr true l G Y_L_low) 2 QX (I_icne I_no (I_ic 1 (I_zr Q))))))))))))))))))))))))))))))))))
set_option maxRecDepth 100000 in
theorem g_L_acts_585 {l : Launch} {G : GT} {F : FX} {Q : PQ} {QX : PX} {k n : Nat} (hk : k + 1 ≤ 4 ∧ n + 6 ≤ 24) : Le (R_L_acts_585 l G F Q QX k n) (Wj true l G F Y_L_acts Q QX k n 585) := by
  unfold R_L_acts_585
  obtain ⟨hk1, hk2⟩ := hk
  refine r_aload_n (pc := 585) ?_ dL_acts_585 rfl
  refine r_iload_n (pc := 586) ?_ dL_acts_586 rfl
  refine r_iload_n (pc := 587) ?_ dL_acts_587 rfl
  refine r_bipush (pc := 588) ?_ dL_acts_588 (by decide)
  refine r_ishr (pc := 590) ?_ dL_acts_590
  refine r_bipush (pc := 591) ?_ dL_acts_591 (by decide)
  refine r_cs0 (pc := 593) (k := k) (n := n) ?_ dL_acts_593 ok_L_low wd_1_239 ⟨Nat.le_of_ble_eq_true rfl, Nat.le_of_ble_eq_true rfl⟩ ⟨(show k ≤ 4 by omega), (show n ≤ 24 by omega)⟩ rfl rfl
  refine r_csH (pc := 596) (k := k) (n := n) (Yc := Y_L_frees) ?_ dL_acts_596 cw_frees wd_1_0 wd_3_174 wd_3_173 ⟨by decide, by decide⟩ (by decide +kernel) ⟨Nat.le_of_ble_eq_true rfl, Nat.le_of_ble_eq_true rfl⟩ ⟨(show k + 1 ≤ 4 by omega), (show n + 6 ≤ 24 by omega)⟩
  refine r_istore (pc := 599) ?_ dL_acts_599 (Nat.le_of_ble_eq_true rfl)
  refine r_iload (pc := 601) ?_ dL_acts_601
  refine r_ldc (pc := 603) ?_ dL_acts_603 wd_2_157
  refine r_iceq (pc := 605) (t := 646) ?_ ?_ dL_acts_605 (by decide)
  · refine r_iconst (pc := 646) ?_ dL_acts_646 (by decide)
    refine r_goto (pc := 647) (t := 651) ?_ dL_acts_647 (by decide)
    exact r_zr dL_acts_651 rfl (show (k + 1) ≤ 4 by omega) (show (n + 6) ≤ 24 by omega)
  · refine r_iload (pc := 608) ?_ dL_acts_608
    refine r_aload_n (pc := 610) ?_ dL_acts_610 rfl
    refine r_iload_n (pc := 611) ?_ dL_acts_611 rfl
    refine r_bipush (pc := 612) ?_ dL_acts_612 (by decide)
    refine r_csH (pc := 614) (k := (k + 1)) (n := (n + 6)) (Yc := Y_L_one0) ?_ dL_acts_614 cw_one wd_1_0 wd_3_43 wd_3_42 ⟨by decide, by decide⟩ (by decide +kernel) ⟨Nat.le_of_ble_eq_true rfl, Nat.le_of_ble_eq_true rfl⟩ ⟨(show (k + 1) + 0 ≤ 4 by omega), (show (n + 6) + 0 ≤ 24 by omega)⟩
    refine r_icne (pc := 617) (t := 650) ?_ ?_ dL_acts_617 (by decide)
    · exact r_no
    · refine r_aload_n (pc := 620) ?_ dL_acts_620 rfl
      refine r_iload_n (pc := 621) ?_ dL_acts_621 rfl
      refine r_iload_n (pc := 622) ?_ dL_acts_622 rfl
      refine r_bipush (pc := 623) ?_ dL_acts_623 (by decide)
      refine r_ishr (pc := 625) ?_ dL_acts_625
      refine r_bipush (pc := 626) ?_ dL_acts_626 (by decide)
      refine r_cs0 (pc := 628) (k := (k + 1)) (n := (n + 6)) ?_ dL_acts_628 ok_L_low wd_1_239 ⟨Nat.le_of_ble_eq_true rfl, Nat.le_of_ble_eq_true rfl⟩ ⟨(show (k + 1) ≤ 4 by omega), (show (n + 6) ≤ 24 by omega)⟩ rfl rfl
      refine r_csH (pc := 631) (k := (k + 1)) (n := (n + 6)) (Yc := Y_L_next0) ?_ dL_acts_631 cw_next wd_1_0 wd_3_97 wd_3_96 ⟨by decide, by decide⟩ (by decide +kernel) ⟨Nat.le_of_ble_eq_true rfl, Nat.le_of_ble_eq_true rfl⟩ ⟨(show (k + 1) + 0 ≤ 4 by omega), (show (n + 6) + 0 ≤ 24 by omega)⟩
      refine r_iload_n (pc := 634) ?_ dL_acts_634 rfl
      refine r_bipush (pc := 635) ?_ dL_acts_635 (by decide)
      refine r_ishr (pc := 637) ?_ dL_acts_637
      refine r_bipush (pc := 638) ?_ dL_acts_638 (by decide)
      refine r_cs0 (pc := 640) (k := (k + 1)) (n := (n + 6)) ?_ dL_acts_640 ok_L_low wd_1_239 ⟨Nat.le_of_ble_eq_true rfl, Nat.le_of_ble_eq_true rfl⟩ ⟨(show (k + 1) ≤ 4 by omega), (show (n + 6) ≤ 24 by omega)⟩ rfl rfl
      refine r_icne (pc := 643) (t := 650) ?_ ?_ dL_acts_643 (by decide)
      · exact r_no
      · refine r_iconst (pc := 646) ?_ dL_acts_646 (by decide)
        refine r_goto (pc := 647) (t := 651) ?_ dL_acts_647 (by decide)
        exact r_zr dL_acts_651 rfl (show (k + 1) ≤ 4 by omega) (show (n + 6) ≤ 24 by omega)
def R_L_acts_652 (l : Launch) (G : GT) (F : FX) (Q : PQ) (QX : PX) (k n : Nat) : KT := (I_il 1 (I_ic 7 (I_ishr (I_ic 60 (I_cs (Tr true l G Y_L_low) 2 QX (I_ic 30 (I_isub (I_is 7 (I_al 0 (I_il 3 (I_il 1 (I_ic 5 (I_ishr (I_ic 3 (I_cs (Tr true l G Y_L_low) 2 QX (I_ic 1 (I_csH (fun As M Q => TrH l G Y_L_part0 hh_part As M Q) 4 (I_is 8 (I_al 0 (I_il 3 (I_il 1 (I_ic 5 (I_ishr (I_ic 3 (I_cs (Tr true l G Y_L_low) 2 QX (I_il 7 (I_csH (fun As M Q => TrH l G Y_L_credits hh_credits As M Q) 4 (I_is 9 (I_il 9 (I_il 8 (I_il 7 (I_iadd (I_ifge (I_il 8 (I_il 7 (I_iadd (I_icne I_no (I_al 0 (I_cs (Tr true l G Y_L_hours) 1 QX (I_il 9 (I_ifge (I_ll 5 (I_il 7 (I_i2l (I_ladd (I_lcmp (I_ifne I_no (I_ic 1 (I_zr Q)))))))) (I_ll 5 (I_lcmp (I_ifne I_no (I_ic 1 (I_zr Q))))))))))))) (I_ic (-900000002) (I_icne I_no (I_al 0 (I_cs (Tr true l G Y_L_hours) 1 QX (I_il 9 (I_ifge (I_ll 5 (I_il 7 (I_i2l (I_ladd (I_lcmp (I_ifne I_no (I_ic 1 (I_zr Q)))))))) (I_ll 5 (I_lcmp (I_ifne I_no (I_ic 1 (I_zr Q))))))))))))))))))))))))))))))))))))))))))))
set_option maxRecDepth 100000 in
theorem g_L_acts_652 {l : Launch} {G : GT} {F : FX} {Q : PQ} {QX : PX} {k n : Nat} (hk : k + 1 ≤ 4 ∧ n + 6 ≤ 24) : Le (R_L_acts_652 l G F Q QX k n) (Wj true l G F Y_L_acts Q QX k n 652) := by
  unfold R_L_acts_652
  obtain ⟨hk1, hk2⟩ := hk
  refine r_iload_n (pc := 652) ?_ dL_acts_652 rfl
  refine r_bipush (pc := 653) ?_ dL_acts_653 (by decide)
  refine r_ishr (pc := 655) ?_ dL_acts_655
  refine r_bipush (pc := 656) ?_ dL_acts_656 (by decide)
  refine r_cs0 (pc := 658) (k := k) (n := n) ?_ dL_acts_658 ok_L_low wd_1_239 ⟨Nat.le_of_ble_eq_true rfl, Nat.le_of_ble_eq_true rfl⟩ ⟨(show k ≤ 4 by omega), (show n ≤ 24 by omega)⟩ rfl rfl
  refine r_bipush (pc := 661) ?_ dL_acts_661 (by decide)
  refine r_isub (pc := 663) ?_ dL_acts_663
  refine r_istore (pc := 664) ?_ dL_acts_664 (Nat.le_of_ble_eq_true rfl)
  refine r_aload_n (pc := 666) ?_ dL_acts_666 rfl
  refine r_iload_n (pc := 667) ?_ dL_acts_667 rfl
  refine r_iload_n (pc := 668) ?_ dL_acts_668 rfl
  refine r_iconst (pc := 669) ?_ dL_acts_669 (by decide)
  refine r_ishr (pc := 670) ?_ dL_acts_670
  refine r_iconst (pc := 671) ?_ dL_acts_671 (by decide)
  refine r_cs0 (pc := 672) (k := k) (n := n) ?_ dL_acts_672 ok_L_low wd_1_239 ⟨Nat.le_of_ble_eq_true rfl, Nat.le_of_ble_eq_true rfl⟩ ⟨(show k ≤ 4 by omega), (show n ≤ 24 by omega)⟩ rfl rfl
  refine r_iconst (pc := 675) ?_ dL_acts_675 (by decide)
  refine r_csH (pc := 676) (k := k) (n := n) (Yc := Y_L_part0) ?_ dL_acts_676 cw_part wd_1_0 wd_3_67 wd_3_66 ⟨by decide, by decide⟩ (by decide +kernel) ⟨Nat.le_of_ble_eq_true rfl, Nat.le_of_ble_eq_true rfl⟩ ⟨(show k + 0 ≤ 4 by omega), (show n + 0 ≤ 24 by omega)⟩
  refine r_istore (pc := 679) ?_ dL_acts_679 (Nat.le_of_ble_eq_true rfl)
  refine r_aload_n (pc := 681) ?_ dL_acts_681 rfl
  refine r_iload_n (pc := 682) ?_ dL_acts_682 rfl
  refine r_iload_n (pc := 683) ?_ dL_acts_683 rfl
  refine r_iconst (pc := 684) ?_ dL_acts_684 (by decide)
  refine r_ishr (pc := 685) ?_ dL_acts_685
  refine r_iconst (pc := 686) ?_ dL_acts_686 (by decide)
  refine r_cs0 (pc := 687) (k := k) (n := n) ?_ dL_acts_687 ok_L_low wd_1_239 ⟨Nat.le_of_ble_eq_true rfl, Nat.le_of_ble_eq_true rfl⟩ ⟨(show k ≤ 4 by omega), (show n ≤ 24 by omega)⟩ rfl rfl
  refine r_iload (pc := 690) ?_ dL_acts_690
  refine r_csH (pc := 692) (k := k) (n := n) (Yc := Y_L_credits) ?_ dL_acts_692 cw_credits wd_1_0 wd_4_77 wd_4_76 ⟨by decide, by decide⟩ (by decide +kernel) ⟨Nat.le_of_ble_eq_true rfl, Nat.le_of_ble_eq_true rfl⟩ ⟨(show k + 1 ≤ 4 by omega), (show n + 6 ≤ 24 by omega)⟩
  refine r_istore (pc := 695) ?_ dL_acts_695 (Nat.le_of_ble_eq_true rfl)
  refine r_iload (pc := 697) ?_ dL_acts_697
  refine r_iload (pc := 699) ?_ dL_acts_699
  refine r_iload (pc := 701) ?_ dL_acts_701
  refine r_iadd (pc := 703) ?_ dL_acts_703
  refine r_ifge (pc := 704) (t := 712) ?_ ?_ dL_acts_704 (by decide)
  · refine r_iload (pc := 712) ?_ dL_acts_712
    refine r_iload (pc := 714) ?_ dL_acts_714
    refine r_iadd (pc := 716) ?_ dL_acts_716
    refine r_icne (pc := 717) (t := 748) ?_ ?_ dL_acts_717 (by decide)
    · exact r_no
    · refine r_aload_n (pc := 720) ?_ dL_acts_720 rfl
      refine r_cs0 (pc := 721) (k := (k + 1)) (n := (n + 6)) ?_ dL_acts_721 ok_L_hours wd_4_234 ⟨Nat.le_of_ble_eq_true rfl, Nat.le_of_ble_eq_true rfl⟩ ⟨(show (k + 1) ≤ 4 by omega), (show (n + 6) ≤ 24 by omega)⟩ rfl rfl
      refine r_iload (pc := 724) ?_ dL_acts_724
      refine r_ifge (pc := 726) (t := 734) ?_ ?_ dL_acts_726 (by decide)
      · refine r_lload (pc := 734) ?_ dL_acts_734
        refine r_iload (pc := 736) ?_ dL_acts_736
        refine r_i2l (pc := 738) ?_ dL_acts_738
        refine r_ladd (pc := 739) ?_ dL_acts_739
        refine r_lcmp (pc := 740) ?_ dL_acts_740
        refine r_ifne (pc := 741) (t := 748) ?_ ?_ dL_acts_741 (by decide)
        · exact r_no
        · refine r_iconst (pc := 744) ?_ dL_acts_744 (by decide)
          refine r_goto (pc := 745) (t := 749) ?_ dL_acts_745 (by decide)
          exact r_zr dL_acts_749 rfl (show (k + 1) ≤ 4 by omega) (show (n + 6) ≤ 24 by omega)
      · refine r_lload (pc := 729) ?_ dL_acts_729
        refine r_goto (pc := 731) (t := 740) ?_ dL_acts_731 (by decide)
        refine r_lcmp (pc := 740) ?_ dL_acts_740
        refine r_ifne (pc := 741) (t := 748) ?_ ?_ dL_acts_741 (by decide)
        · exact r_no
        · refine r_iconst (pc := 744) ?_ dL_acts_744 (by decide)
          refine r_goto (pc := 745) (t := 749) ?_ dL_acts_745 (by decide)
          exact r_zr dL_acts_749 rfl (show (k + 1) ≤ 4 by omega) (show (n + 6) ≤ 24 by omega)
  · refine r_ldc (pc := 707) ?_ dL_acts_707 wd_2_157
    refine r_goto (pc := 709) (t := 717) ?_ dL_acts_709 (by decide)
    refine r_icne (pc := 717) (t := 748) ?_ ?_ dL_acts_717 (by decide)
    · exact r_no
    · refine r_aload_n (pc := 720) ?_ dL_acts_720 rfl
      refine r_cs0 (pc := 721) (k := (k + 1)) (n := (n + 6)) ?_ dL_acts_721 ok_L_hours wd_4_234 ⟨Nat.le_of_ble_eq_true rfl, Nat.le_of_ble_eq_true rfl⟩ ⟨(show (k + 1) ≤ 4 by omega), (show (n + 6) ≤ 24 by omega)⟩ rfl rfl
      refine r_iload (pc := 724) ?_ dL_acts_724
      refine r_ifge (pc := 726) (t := 734) ?_ ?_ dL_acts_726 (by decide)
      · refine r_lload (pc := 734) ?_ dL_acts_734
        refine r_iload (pc := 736) ?_ dL_acts_736
        refine r_i2l (pc := 738) ?_ dL_acts_738
        refine r_ladd (pc := 739) ?_ dL_acts_739
        refine r_lcmp (pc := 740) ?_ dL_acts_740
        refine r_ifne (pc := 741) (t := 748) ?_ ?_ dL_acts_741 (by decide)
        · exact r_no
        · refine r_iconst (pc := 744) ?_ dL_acts_744 (by decide)
          refine r_goto (pc := 745) (t := 749) ?_ dL_acts_745 (by decide)
          exact r_zr dL_acts_749 rfl (show (k + 1) ≤ 4 by omega) (show (n + 6) ≤ 24 by omega)
      · refine r_lload (pc := 729) ?_ dL_acts_729
        refine r_goto (pc := 731) (t := 740) ?_ dL_acts_731 (by decide)
        refine r_lcmp (pc := 740) ?_ dL_acts_740
        refine r_ifne (pc := 741) (t := 748) ?_ ?_ dL_acts_741 (by decide)
        · exact r_no
        · refine r_iconst (pc := 744) ?_ dL_acts_744 (by decide)
          refine r_goto (pc := 745) (t := 749) ?_ dL_acts_745 (by decide)
          exact r_zr dL_acts_749 rfl (show (k + 1) ≤ 4 by omega) (show (n + 6) ≤ 24 by omega)
def R_L_acts_750 (l : Launch) (G : GT) (F : FX) (Q : PQ) (QX : PX) (k n : Nat) : KT := (I_al 0 (I_il 3 (I_ic 1 (I_csH (fun As M Q => TrH l G Y_L_one0 hh_one As M Q) 3 (I_is 7 (I_al 0 (I_il 3 (I_csH (fun As M Q => TrH l G Y_L_leaves hh_leaves As M Q) 2 (I_il 7 (I_ifge (I_il 7 (I_icne I_no (I_al 0 (I_il 3 (I_ic 1 (I_csH (fun As M Q => TrH l G Y_L_one0 hh_one As M Q) 3 (I_ic (-1) (I_icne I_no (I_al 0 (I_cs (Tr true l G Y_L_hours) 1 QX (I_ll 5 (I_lcmp (I_ifne I_no (I_ic 1 (I_zr Q))))))))))))))) (I_ic (-900000002) (I_icne I_no (I_al 0 (I_il 3 (I_ic 1 (I_csH (fun As M Q => TrH l G Y_L_one0 hh_one As M Q) 3 (I_ic (-1) (I_icne I_no (I_al 0 (I_cs (Tr true l G Y_L_hours) 1 QX (I_ll 5 (I_lcmp (I_ifne I_no (I_ic 1 (I_zr Q)))))))))))))))))))))))))
set_option maxRecDepth 100000 in
theorem g_L_acts_750 {l : Launch} {G : GT} {F : FX} {Q : PQ} {QX : PX} {k n : Nat} (hk : k + 1 ≤ 4 ∧ n + 6 ≤ 24) : Le (R_L_acts_750 l G F Q QX k n) (Wj true l G F Y_L_acts Q QX k n 750) := by
  unfold R_L_acts_750
  obtain ⟨hk1, hk2⟩ := hk
  refine r_aload_n (pc := 750) ?_ dL_acts_750 rfl
  refine r_iload_n (pc := 751) ?_ dL_acts_751 rfl
  refine r_iconst (pc := 752) ?_ dL_acts_752 (by decide)
  refine r_csH (pc := 753) (k := k) (n := n) (Yc := Y_L_one0) ?_ dL_acts_753 cw_one wd_1_0 wd_3_43 wd_3_42 ⟨by decide, by decide⟩ (by decide +kernel) ⟨Nat.le_of_ble_eq_true rfl, Nat.le_of_ble_eq_true rfl⟩ ⟨(show k + 0 ≤ 4 by omega), (show n + 0 ≤ 24 by omega)⟩
  refine r_istore (pc := 756) ?_ dL_acts_756 (Nat.le_of_ble_eq_true rfl)
  refine r_aload_n (pc := 758) ?_ dL_acts_758 rfl
  refine r_iload_n (pc := 759) ?_ dL_acts_759 rfl
  refine r_csH (pc := 760) (k := k) (n := n) (Yc := Y_L_leaves) ?_ dL_acts_760 cw_leaves wd_1_0 wd_4_125 wd_4_124 ⟨by decide, by decide⟩ (by decide +kernel) ⟨Nat.le_of_ble_eq_true rfl, Nat.le_of_ble_eq_true rfl⟩ ⟨(show k + 1 ≤ 4 by omega), (show n + 6 ≤ 24 by omega)⟩
  refine r_iload (pc := 763) ?_ dL_acts_763
  refine r_ifge (pc := 765) (t := 773) ?_ ?_ dL_acts_765 (by decide)
  · refine r_iload (pc := 773) ?_ dL_acts_773
    refine r_icne (pc := 775) (t := 802) ?_ ?_ dL_acts_775 (by decide)
    · exact r_no
    · refine r_aload_n (pc := 778) ?_ dL_acts_778 rfl
      refine r_iload_n (pc := 779) ?_ dL_acts_779 rfl
      refine r_iconst (pc := 780) ?_ dL_acts_780 (by decide)
      refine r_csH (pc := 781) (k := (k + 1)) (n := (n + 6)) (Yc := Y_L_one0) ?_ dL_acts_781 cw_one wd_1_0 wd_3_43 wd_3_42 ⟨by decide, by decide⟩ (by decide +kernel) ⟨Nat.le_of_ble_eq_true rfl, Nat.le_of_ble_eq_true rfl⟩ ⟨(show (k + 1) + 0 ≤ 4 by omega), (show (n + 6) + 0 ≤ 24 by omega)⟩
      refine r_iconst (pc := 784) ?_ dL_acts_784 (by decide)
      refine r_icne (pc := 785) (t := 802) ?_ ?_ dL_acts_785 (by decide)
      · exact r_no
      · refine r_aload_n (pc := 788) ?_ dL_acts_788 rfl
        refine r_cs0 (pc := 789) (k := (k + 1)) (n := (n + 6)) ?_ dL_acts_789 ok_L_hours wd_4_234 ⟨Nat.le_of_ble_eq_true rfl, Nat.le_of_ble_eq_true rfl⟩ ⟨(show (k + 1) ≤ 4 by omega), (show (n + 6) ≤ 24 by omega)⟩ rfl rfl
        refine r_lload (pc := 792) ?_ dL_acts_792
        refine r_lcmp (pc := 794) ?_ dL_acts_794
        refine r_ifne (pc := 795) (t := 802) ?_ ?_ dL_acts_795 (by decide)
        · exact r_no
        · refine r_iconst (pc := 798) ?_ dL_acts_798 (by decide)
          refine r_goto (pc := 799) (t := 803) ?_ dL_acts_799 (by decide)
          exact r_zr dL_acts_803 rfl (show (k + 1) ≤ 4 by omega) (show (n + 6) ≤ 24 by omega)
  · refine r_ldc (pc := 768) ?_ dL_acts_768 wd_2_157
    refine r_goto (pc := 770) (t := 775) ?_ dL_acts_770 (by decide)
    refine r_icne (pc := 775) (t := 802) ?_ ?_ dL_acts_775 (by decide)
    · exact r_no
    · refine r_aload_n (pc := 778) ?_ dL_acts_778 rfl
      refine r_iload_n (pc := 779) ?_ dL_acts_779 rfl
      refine r_iconst (pc := 780) ?_ dL_acts_780 (by decide)
      refine r_csH (pc := 781) (k := (k + 1)) (n := (n + 6)) (Yc := Y_L_one0) ?_ dL_acts_781 cw_one wd_1_0 wd_3_43 wd_3_42 ⟨by decide, by decide⟩ (by decide +kernel) ⟨Nat.le_of_ble_eq_true rfl, Nat.le_of_ble_eq_true rfl⟩ ⟨(show (k + 1) + 0 ≤ 4 by omega), (show (n + 6) + 0 ≤ 24 by omega)⟩
      refine r_iconst (pc := 784) ?_ dL_acts_784 (by decide)
      refine r_icne (pc := 785) (t := 802) ?_ ?_ dL_acts_785 (by decide)
      · exact r_no
      · refine r_aload_n (pc := 788) ?_ dL_acts_788 rfl
        refine r_cs0 (pc := 789) (k := (k + 1)) (n := (n + 6)) ?_ dL_acts_789 ok_L_hours wd_4_234 ⟨Nat.le_of_ble_eq_true rfl, Nat.le_of_ble_eq_true rfl⟩ ⟨(show (k + 1) ≤ 4 by omega), (show (n + 6) ≤ 24 by omega)⟩ rfl rfl
        refine r_lload (pc := 792) ?_ dL_acts_792
        refine r_lcmp (pc := 794) ?_ dL_acts_794
        refine r_ifne (pc := 795) (t := 802) ?_ ?_ dL_acts_795 (by decide)
        · exact r_no
        · refine r_iconst (pc := 798) ?_ dL_acts_798 (by decide)
          refine r_goto (pc := 799) (t := 803) ?_ dL_acts_799 (by decide)
          exact r_zr dL_acts_803 rfl (show (k + 1) ≤ 4 by omega) (show (n + 6) ≤ 24 by omega)
def R_L_acts_178 (l : Launch) (G : GT) (F : FX) (Q : PQ) (QX : PX) (k n : Nat) : KT := (I_is 9 (I_al 0 (I_il 3 (I_il 1 (I_ic 10 (I_ishr (I_ic 3 (I_cs (Tr true l G Y_L_low) 2 QX (I_il 7 (I_csH (fun As M Q => TrH l G Y_L_logs hh_logs As M Q) 4 (I_is 10 (I_il 9 (I_ifeq (I_il 10 (I_ic (-900000002) (I_icne I_no (I_ic 1 (I_zr Q))))) (I_il 10 (I_il 8 (I_ic 1 (I_iadd (I_icne I_no (I_al 0 (I_cs (Tr true l G Y_L_hours) 1 QX (I_ll 5 (I_il 7 (I_i2l (I_ladd (I_lcmp (I_ifne I_no (I_al 0 (I_il 3 (I_ic 0 (I_il 8 (I_ic 3 (I_csH (fun As M Q => TrH l G Y_L_entry0 hh_entry As M Q) 5 (I_al 0 (I_il 3 (I_ic 1 (I_csH (fun As M Q => TrH l G Y_L_one0 hh_one As M Q) 3 (I_icne I_no (I_ic 1 (I_zr Q)))))))))))))))))))))))))))))))))))))))
set_option maxRecDepth 100000 in
theorem g_L_acts_178 {l : Launch} {G : GT} {F : FX} {Q : PQ} {QX : PX} {k n : Nat} (hk : k + 1 ≤ 4 ∧ n + 6 ≤ 24) : Le (R_L_acts_178 l G F Q QX k n) (Wj true l G F Y_L_acts Q QX k n 178) := by
  unfold R_L_acts_178
  obtain ⟨hk1, hk2⟩ := hk
  refine r_istore (pc := 178) ?_ dL_acts_178 (Nat.le_of_ble_eq_true rfl)
  refine r_aload_n (pc := 180) ?_ dL_acts_180 rfl
  refine r_iload_n (pc := 181) ?_ dL_acts_181 rfl
  refine r_iload_n (pc := 182) ?_ dL_acts_182 rfl
  refine r_bipush (pc := 183) ?_ dL_acts_183 (by decide)
  refine r_ishr (pc := 185) ?_ dL_acts_185
  refine r_iconst (pc := 186) ?_ dL_acts_186 (by decide)
  refine r_cs0 (pc := 187) (k := k) (n := n) ?_ dL_acts_187 ok_L_low wd_1_239 ⟨Nat.le_of_ble_eq_true rfl, Nat.le_of_ble_eq_true rfl⟩ ⟨(show k ≤ 4 by omega), (show n ≤ 24 by omega)⟩ rfl rfl
  refine r_iload (pc := 190) ?_ dL_acts_190
  refine r_csH (pc := 192) (k := k) (n := n) (Yc := Y_L_logs) ?_ dL_acts_192 cw_logs wd_1_0 wd_3_198 wd_3_197 ⟨by decide, by decide⟩ (by decide +kernel) ⟨Nat.le_of_ble_eq_true rfl, Nat.le_of_ble_eq_true rfl⟩ ⟨(show k + 1 ≤ 4 by omega), (show n + 6 ≤ 24 by omega)⟩
  refine r_istore (pc := 195) ?_ dL_acts_195 (Nat.le_of_ble_eq_true rfl)
  refine r_iload (pc := 197) ?_ dL_acts_197
  refine r_ifeq (pc := 199) (t := 251) ?_ ?_ dL_acts_199 (by decide)
  · refine r_iload (pc := 251) ?_ dL_acts_251
    refine r_ldc (pc := 253) ?_ dL_acts_253 wd_2_157
    refine r_icne (pc := 255) (t := 262) ?_ ?_ dL_acts_255 (by decide)
    · exact r_no
    · refine r_iconst (pc := 258) ?_ dL_acts_258 (by decide)
      refine r_goto (pc := 259) (t := 263) ?_ dL_acts_259 (by decide)
      exact r_zr dL_acts_263 rfl (show (k + 1) ≤ 4 by omega) (show (n + 6) ≤ 24 by omega)
  · refine r_iload (pc := 202) ?_ dL_acts_202
    refine r_iload (pc := 204) ?_ dL_acts_204
    refine r_iconst (pc := 206) ?_ dL_acts_206 (by decide)
    refine r_iadd (pc := 207) ?_ dL_acts_207
    refine r_icne (pc := 208) (t := 247) ?_ ?_ dL_acts_208 (by decide)
    · exact r_no
    · refine r_aload_n (pc := 211) ?_ dL_acts_211 rfl
      refine r_cs0 (pc := 212) (k := (k + 1)) (n := (n + 6)) ?_ dL_acts_212 ok_L_hours wd_4_234 ⟨Nat.le_of_ble_eq_true rfl, Nat.le_of_ble_eq_true rfl⟩ ⟨(show (k + 1) ≤ 4 by omega), (show (n + 6) ≤ 24 by omega)⟩ rfl rfl
      refine r_lload (pc := 215) ?_ dL_acts_215
      refine r_iload (pc := 217) ?_ dL_acts_217
      refine r_i2l (pc := 219) ?_ dL_acts_219
      refine r_ladd (pc := 220) ?_ dL_acts_220
      refine r_lcmp (pc := 221) ?_ dL_acts_221
      refine r_ifne (pc := 222) (t := 247) ?_ ?_ dL_acts_222 (by decide)
      · exact r_no
      · refine r_aload_n (pc := 225) ?_ dL_acts_225 rfl
        refine r_iload_n (pc := 226) ?_ dL_acts_226 rfl
        refine r_iconst (pc := 227) ?_ dL_acts_227 (by decide)
        refine r_iload (pc := 228) ?_ dL_acts_228
        refine r_iconst (pc := 230) ?_ dL_acts_230 (by decide)
        refine r_csH (pc := 231) (k := (k + 1)) (n := (n + 6)) (Yc := Y_L_entry0) ?_ dL_acts_231 cw_entry wd_1_0 wd_3_85 wd_3_84 ⟨by decide, by decide⟩ (by decide +kernel) ⟨Nat.le_of_ble_eq_true rfl, Nat.le_of_ble_eq_true rfl⟩ ⟨(show (k + 1) + 0 ≤ 4 by omega), (show (n + 6) + 0 ≤ 24 by omega)⟩
        refine r_aload_n (pc := 234) ?_ dL_acts_234 rfl
        refine r_iload_n (pc := 235) ?_ dL_acts_235 rfl
        refine r_iconst (pc := 236) ?_ dL_acts_236 (by decide)
        refine r_csH (pc := 237) (k := (k + 1)) (n := (n + 6)) (Yc := Y_L_one0) ?_ dL_acts_237 cw_one wd_1_0 wd_3_43 wd_3_42 ⟨by decide, by decide⟩ (by decide +kernel) ⟨Nat.le_of_ble_eq_true rfl, Nat.le_of_ble_eq_true rfl⟩ ⟨(show (k + 1) + 0 ≤ 4 by omega), (show (n + 6) + 0 ≤ 24 by omega)⟩
        refine r_icne (pc := 240) (t := 247) ?_ ?_ dL_acts_240 (by decide)
        · exact r_no
        · refine r_iconst (pc := 243) ?_ dL_acts_243 (by decide)
          refine r_goto (pc := 244) (t := 263) ?_ dL_acts_244 (by decide)
          exact r_zr dL_acts_263 rfl (show (k + 1) ≤ 4 by omega) (show (n + 6) ≤ 24 by omega)
def R_L_acts_439 (l : Launch) (G : GT) (F : FX) (Q : PQ) (QX : PX) (k n : Nat) : KT := (I_is 7 (I_al 0 (I_il 3 (I_il 1 (I_ic 7 (I_ishr (I_ic 2 (I_cs (Tr true l G Y_L_low) 2 QX (I_ifne (I_ic 0 (I_csH (fun As M Q => TrH l G Y_L_settles hh_settles As M Q) 3 (I_il 7 (I_icne I_no (I_al 0 (I_cs (Tr true l G Y_L_hours) 1 QX (I_ll 5 (I_lcmp (I_ifne I_no (I_ic 1 (I_zr Q))))))))))) (I_ic 1 (I_csH (fun As M Q => TrH l G Y_L_settles hh_settles As M Q) 3 (I_il 7 (I_icne I_no (I_al 0 (I_cs (Tr true l G Y_L_hours) 1 QX (I_ll 5 (I_lcmp (I_ifne I_no (I_ic 1 (I_zr Q))))))))))))))))))))
set_option maxRecDepth 100000 in
theorem g_L_acts_439 {l : Launch} {G : GT} {F : FX} {Q : PQ} {QX : PX} {k n : Nat} (hk : k + 1 ≤ 4 ∧ n + 6 ≤ 24) : Le (R_L_acts_439 l G F Q QX k n) (Wj true l G F Y_L_acts Q QX k n 439) := by
  unfold R_L_acts_439
  obtain ⟨hk1, hk2⟩ := hk
  refine r_istore (pc := 439) ?_ dL_acts_439 (Nat.le_of_ble_eq_true rfl)
  refine r_aload_n (pc := 441) ?_ dL_acts_441 rfl
  refine r_iload_n (pc := 442) ?_ dL_acts_442 rfl
  refine r_iload_n (pc := 443) ?_ dL_acts_443 rfl
  refine r_bipush (pc := 444) ?_ dL_acts_444 (by decide)
  refine r_ishr (pc := 446) ?_ dL_acts_446
  refine r_iconst (pc := 447) ?_ dL_acts_447 (by decide)
  refine r_cs0 (pc := 448) (k := k) (n := n) ?_ dL_acts_448 ok_L_low wd_1_239 ⟨Nat.le_of_ble_eq_true rfl, Nat.le_of_ble_eq_true rfl⟩ ⟨(show k ≤ 4 by omega), (show n ≤ 24 by omega)⟩ rfl rfl
  refine r_ifne (pc := 451) (t := 458) ?_ ?_ dL_acts_451 (by decide)
  · refine r_iconst (pc := 458) ?_ dL_acts_458 (by decide)
    refine r_csH (pc := 459) (k := k) (n := n) (Yc := Y_L_settles) ?_ dL_acts_459 cw_settles wd_1_0 wd_4_55 wd_4_54 ⟨by decide, by decide⟩ (by decide +kernel) ⟨Nat.le_of_ble_eq_true rfl, Nat.le_of_ble_eq_true rfl⟩ ⟨(show k + 1 ≤ 4 by omega), (show n + 6 ≤ 24 by omega)⟩
    refine r_iload (pc := 462) ?_ dL_acts_462
    refine r_icne (pc := 464) (t := 481) ?_ ?_ dL_acts_464 (by decide)
    · exact r_no
    · refine r_aload_n (pc := 467) ?_ dL_acts_467 rfl
      refine r_cs0 (pc := 468) (k := (k + 1)) (n := (n + 6)) ?_ dL_acts_468 ok_L_hours wd_4_234 ⟨Nat.le_of_ble_eq_true rfl, Nat.le_of_ble_eq_true rfl⟩ ⟨(show (k + 1) ≤ 4 by omega), (show (n + 6) ≤ 24 by omega)⟩ rfl rfl
      refine r_lload (pc := 471) ?_ dL_acts_471
      refine r_lcmp (pc := 473) ?_ dL_acts_473
      refine r_ifne (pc := 474) (t := 481) ?_ ?_ dL_acts_474 (by decide)
      · exact r_no
      · refine r_iconst (pc := 477) ?_ dL_acts_477 (by decide)
        refine r_goto (pc := 478) (t := 482) ?_ dL_acts_478 (by decide)
        exact r_zr dL_acts_482 rfl (show (k + 1) ≤ 4 by omega) (show (n + 6) ≤ 24 by omega)
  · refine r_iconst (pc := 454) ?_ dL_acts_454 (by decide)
    refine r_goto (pc := 455) (t := 459) ?_ dL_acts_455 (by decide)
    refine r_csH (pc := 459) (k := k) (n := n) (Yc := Y_L_settles) ?_ dL_acts_459 cw_settles wd_1_0 wd_4_55 wd_4_54 ⟨by decide, by decide⟩ (by decide +kernel) ⟨Nat.le_of_ble_eq_true rfl, Nat.le_of_ble_eq_true rfl⟩ ⟨(show k + 1 ≤ 4 by omega), (show n + 6 ≤ 24 by omega)⟩
    refine r_iload (pc := 462) ?_ dL_acts_462
    refine r_icne (pc := 464) (t := 481) ?_ ?_ dL_acts_464 (by decide)
    · exact r_no
    · refine r_aload_n (pc := 467) ?_ dL_acts_467 rfl
      refine r_cs0 (pc := 468) (k := (k + 1)) (n := (n + 6)) ?_ dL_acts_468 ok_L_hours wd_4_234 ⟨Nat.le_of_ble_eq_true rfl, Nat.le_of_ble_eq_true rfl⟩ ⟨(show (k + 1) ≤ 4 by omega), (show (n + 6) ≤ 24 by omega)⟩ rfl rfl
      refine r_lload (pc := 471) ?_ dL_acts_471
      refine r_lcmp (pc := 473) ?_ dL_acts_473
      refine r_ifne (pc := 474) (t := 481) ?_ ?_ dL_acts_474 (by decide)
      · exact r_no
      · refine r_iconst (pc := 477) ?_ dL_acts_477 (by decide)
        refine r_goto (pc := 478) (t := 482) ?_ dL_acts_478 (by decide)
        exact r_zr dL_acts_482 rfl (show (k + 1) ≤ 4 by omega) (show (n + 6) ≤ 24 by omega)
def R_L_acts_514 (l : Launch) (G : GT) (F : FX) (Q : PQ) (QX : PX) (k n : Nat) : KT := (I_is 7 (I_al 0 (I_il 3 (I_csH (fun As M Q => TrH l G Y_L_doubts hh_doubts As M Q) 2 (I_il 7 (I_icne I_no (I_al 0 (I_cs (Tr true l G Y_L_hours) 1 QX (I_ll 5 (I_lcmp (I_ifne I_no (I_ic 1 (I_zr Q)))))))))))))
set_option maxRecDepth 100000 in
theorem g_L_acts_514 {l : Launch} {G : GT} {F : FX} {Q : PQ} {QX : PX} {k n : Nat} (hk : k + 1 ≤ 4 ∧ n + 6 ≤ 24) : Le (R_L_acts_514 l G F Q QX k n) (Wj true l G F Y_L_acts Q QX k n 514) := by
  unfold R_L_acts_514
  obtain ⟨hk1, hk2⟩ := hk
  refine r_istore (pc := 514) ?_ dL_acts_514 (Nat.le_of_ble_eq_true rfl)
  refine r_aload_n (pc := 516) ?_ dL_acts_516 rfl
  refine r_iload_n (pc := 517) ?_ dL_acts_517 rfl
  refine r_csH (pc := 518) (k := k) (n := n) (Yc := Y_L_doubts) ?_ dL_acts_518 cw_doubts wd_1_0 wd_4_31 wd_4_30 ⟨by decide, by decide⟩ (by decide +kernel) ⟨Nat.le_of_ble_eq_true rfl, Nat.le_of_ble_eq_true rfl⟩ ⟨(show k + 1 ≤ 4 by omega), (show n + 6 ≤ 24 by omega)⟩
  refine r_iload (pc := 521) ?_ dL_acts_521
  refine r_icne (pc := 523) (t := 540) ?_ ?_ dL_acts_523 (by decide)
  · exact r_no
  · refine r_aload_n (pc := 526) ?_ dL_acts_526 rfl
    refine r_cs0 (pc := 527) (k := (k + 1)) (n := (n + 6)) ?_ dL_acts_527 ok_L_hours wd_4_234 ⟨Nat.le_of_ble_eq_true rfl, Nat.le_of_ble_eq_true rfl⟩ ⟨(show (k + 1) ≤ 4 by omega), (show (n + 6) ≤ 24 by omega)⟩ rfl rfl
    refine r_lload (pc := 530) ?_ dL_acts_530
    refine r_lcmp (pc := 532) ?_ dL_acts_532
    refine r_ifne (pc := 533) (t := 540) ?_ ?_ dL_acts_533 (by decide)
    · exact r_no
    · refine r_iconst (pc := 536) ?_ dL_acts_536 (by decide)
      refine r_goto (pc := 537) (t := 541) ?_ dL_acts_537 (by decide)
      exact r_zr dL_acts_541 rfl (show (k + 1) ≤ 4 by omega) (show (n + 6) ≤ 24 by omega)
abbrev Y_L_begins : YT := (yL_begins, cL_begins, 6, (some .boolean), 9, 172, 20, 120)
theorem ok_L_begins : okS Y_L_begins 2 := ⟨⟨wd_5_2, wd_1_0, by decide, by decide, by decide +kernel⟩, wd_5_1⟩
def R_L_begins_0 (l : Launch) (G : GT) (F : FX) (Q : PQ) (QX : PX) (k n : Nat) : KT := (I_ic 1 (I_is 2 (I_ic 0 (I_is 3 (Wj true l G F Y_L_begins Q QX k n 4)))))
set_option maxRecDepth 100000 in
theorem g_L_begins_0 {l : Launch} {G : GT} {F : FX} {Q : PQ} {QX : PX} {k n : Nat} (hk : k ≤ 20 ∧ n ≤ 120) : Le (R_L_begins_0 l G F Q QX k n) (Wj true l G F Y_L_begins Q QX k n 0) := by
  unfold R_L_begins_0
  obtain ⟨hk1, hk2⟩ := hk
  refine r_iconst (pc := 0) ?_ dL_begins_0 (by decide)
  refine r_istore_n (pc := 1) ?_ dL_begins_1 rfl (Nat.le_of_ble_eq_true rfl)
  refine r_iconst (pc := 2) ?_ dL_begins_2 (by decide)
  refine r_istore_n (pc := 3) ?_ dL_begins_3 rfl (Nat.le_of_ble_eq_true rfl)
  exact Le.rf
def R_L_begins_4 (l : Launch) (G : GT) (F : FX) (Q : PQ) (QX : PX) (k n : Nat) : KT := (I_il 3 (I_ic 3 (I_icge (I_ic 0 (I_is 3 (Wj true l G F Y_L_begins Q QX k n 116))) (I_il 2 (I_ifeq (I_ic 0 (I_is 3 (Wj true l G F Y_L_begins Q QX k n 116))) (I_al 1 (I_ic 80 (I_il 3 (I_iadd (I_cs (Tr true l G Y_L_cell) 2 QX (I_is 4 (I_al 0 (I_il 4 (I_ic 20 (I_cs (Tr true l G Y_L_low) 2 QX (I_il 4 (I_ic 5 (I_ishr (I_ic 20 (I_cs (Tr true l G Y_L_low) 2 QX (I_il 4 (I_ic 10 (I_ishr (I_ic 20 (I_cs (Tr true l G Y_L_low) 2 QX (I_csH (fun As M Q => TrH l G Y_L_trade hh_trade As M Q) 4 (I_il 3 (I_icne I_no (I_al 0 (I_ic 1 (I_il 4 (I_ic 3 (I_ishr (I_ic 3 (I_cs (Tr true l G Y_L_low) 2 QX (I_iadd (I_il 4 (I_ic 7 (I_ishr (I_ic 4 (I_cs (Tr true l G Y_L_low) 2 QX (I_ifne (I_ic 7 (I_csH (fun As M Q => TrH l G Y_L_mentors hh_mentors As M Q) 3 (I_il 3 (I_icne I_no (I_ic 1 (I_is 2 (I_inc 3 1 (I_kl 4 (Wj true l G F Y_L_begins Q QX (k + 2) (n + 12) 4))))))))) (I_il 4 (I_ic 9 (I_ishr (I_ic 32 (I_cs (Tr true l G Y_L_low) 2 QX (I_csH (fun As M Q => TrH l G Y_L_mentors hh_mentors As M Q) 3 (I_il 3 (I_icne I_no (I_ic 1 (I_is 2 (I_inc 3 1 (I_kl 4 (Wj true l G F Y_L_begins Q QX (k + 2) (n + 12) 4)))))))))))))))))))))))))))))))))))))))))))))))))))))))
set_option maxRecDepth 100000 in
theorem g_L_begins_4 {l : Launch} {G : GT} {F : FX} {Q : PQ} {QX : PX} {k n : Nat} (hk : k + 2 ≤ 20 ∧ n + 12 ≤ 120) : Le (R_L_begins_4 l G F Q QX k n) (Wj true l G F Y_L_begins Q QX k n 4) := by
  unfold R_L_begins_4
  obtain ⟨hk1, hk2⟩ := hk
  refine r_iload_n (pc := 4) ?_ dL_begins_4 rfl
  refine r_iconst (pc := 5) ?_ dL_begins_5 (by decide)
  refine r_icge (pc := 6) (t := 114) ?_ ?_ dL_begins_6 (by decide)
  · refine r_iconst (pc := 114) ?_ dL_begins_114 (by decide)
    refine r_istore_n (pc := 115) ?_ dL_begins_115 rfl (Nat.le_of_ble_eq_true rfl)
    exact Le.rf
  · refine r_iload_n (pc := 9) ?_ dL_begins_9 rfl
    refine r_ifeq (pc := 10) (t := 114) ?_ ?_ dL_begins_10 (by decide)
    · refine r_iconst (pc := 114) ?_ dL_begins_114 (by decide)
      refine r_istore_n (pc := 115) ?_ dL_begins_115 rfl (Nat.le_of_ble_eq_true rfl)
      exact Le.rf
    · refine r_aload_n (pc := 13) ?_ dL_begins_13 rfl
      refine r_bipush (pc := 14) ?_ dL_begins_14 (by decide)
      refine r_iload_n (pc := 16) ?_ dL_begins_16 rfl
      refine r_iadd (pc := 17) ?_ dL_begins_17
      refine r_cs0 (pc := 18) (k := k) (n := n) ?_ dL_begins_18 ok_L_cell wd_1_235 ⟨Nat.le_of_ble_eq_true rfl, Nat.le_of_ble_eq_true rfl⟩ ⟨(show k ≤ 20 by omega), (show n ≤ 120 by omega)⟩ rfl rfl
      refine r_istore (pc := 21) ?_ dL_begins_21 (Nat.le_of_ble_eq_true rfl)
      refine r_aload_n (pc := 23) ?_ dL_begins_23 rfl
      refine r_iload (pc := 24) ?_ dL_begins_24
      refine r_bipush (pc := 26) ?_ dL_begins_26 (by decide)
      refine r_cs0 (pc := 28) (k := k) (n := n) ?_ dL_begins_28 ok_L_low wd_1_239 ⟨Nat.le_of_ble_eq_true rfl, Nat.le_of_ble_eq_true rfl⟩ ⟨(show k ≤ 20 by omega), (show n ≤ 120 by omega)⟩ rfl rfl
      refine r_iload (pc := 31) ?_ dL_begins_31
      refine r_iconst (pc := 33) ?_ dL_begins_33 (by decide)
      refine r_ishr (pc := 34) ?_ dL_begins_34
      refine r_bipush (pc := 35) ?_ dL_begins_35 (by decide)
      refine r_cs0 (pc := 37) (k := k) (n := n) ?_ dL_begins_37 ok_L_low wd_1_239 ⟨Nat.le_of_ble_eq_true rfl, Nat.le_of_ble_eq_true rfl⟩ ⟨(show k ≤ 20 by omega), (show n ≤ 120 by omega)⟩ rfl rfl
      refine r_iload (pc := 40) ?_ dL_begins_40
      refine r_bipush (pc := 42) ?_ dL_begins_42 (by decide)
      refine r_ishr (pc := 44) ?_ dL_begins_44
      refine r_bipush (pc := 45) ?_ dL_begins_45 (by decide)
      refine r_cs0 (pc := 47) (k := k) (n := n) ?_ dL_begins_47 ok_L_low wd_1_239 ⟨Nat.le_of_ble_eq_true rfl, Nat.le_of_ble_eq_true rfl⟩ ⟨(show k ≤ 20 by omega), (show n ≤ 120 by omega)⟩ rfl rfl
      refine r_csH (pc := 50) (k := k) (n := n) (Yc := Y_L_trade) ?_ dL_begins_50 cw_trade wd_1_0 wd_2_4 wd_2_3 ⟨by decide, by decide⟩ (by decide +kernel) ⟨Nat.le_of_ble_eq_true rfl, Nat.le_of_ble_eq_true rfl⟩ ⟨(show k + 1 ≤ 20 by omega), (show n + 6 ≤ 120 by omega)⟩
      refine r_iload_n (pc := 53) ?_ dL_begins_53 rfl
      refine r_icne (pc := 54) (t := 106) ?_ ?_ dL_begins_54 (by decide)
      · exact r_no
      · refine r_aload_n (pc := 57) ?_ dL_begins_57 rfl
        refine r_iconst (pc := 58) ?_ dL_begins_58 (by decide)
        refine r_iload (pc := 59) ?_ dL_begins_59
        refine r_iconst (pc := 61) ?_ dL_begins_61 (by decide)
        refine r_ishr (pc := 62) ?_ dL_begins_62
        refine r_iconst (pc := 63) ?_ dL_begins_63 (by decide)
        refine r_cs0 (pc := 64) (k := (k + 1)) (n := (n + 6)) ?_ dL_begins_64 ok_L_low wd_1_239 ⟨Nat.le_of_ble_eq_true rfl, Nat.le_of_ble_eq_true rfl⟩ ⟨(show (k + 1) ≤ 20 by omega), (show (n + 6) ≤ 120 by omega)⟩ rfl rfl
        refine r_iadd (pc := 67) ?_ dL_begins_67
        refine r_iload (pc := 68) ?_ dL_begins_68
        refine r_bipush (pc := 70) ?_ dL_begins_70 (by decide)
        refine r_ishr (pc := 72) ?_ dL_begins_72
        refine r_iconst (pc := 73) ?_ dL_begins_73 (by decide)
        refine r_cs0 (pc := 74) (k := (k + 1)) (n := (n + 6)) ?_ dL_begins_74 ok_L_low wd_1_239 ⟨Nat.le_of_ble_eq_true rfl, Nat.le_of_ble_eq_true rfl⟩ ⟨(show (k + 1) ≤ 20 by omega), (show (n + 6) ≤ 120 by omega)⟩ rfl rfl
        refine r_ifne (pc := 77) (t := 93) ?_ ?_ dL_begins_77 (by decide)
        · refine r_bipush (pc := 93) ?_ dL_begins_93 (by decide)
          refine r_csH (pc := 95) (k := (k + 1)) (n := (n + 6)) (Yc := Y_L_mentors) ?_ dL_begins_95 cw_mentors wd_1_0 wd_3_120 wd_3_119 ⟨by decide, by decide⟩ (by decide +kernel) ⟨Nat.le_of_ble_eq_true rfl, Nat.le_of_ble_eq_true rfl⟩ ⟨(show (k + 1) + 1 ≤ 20 by omega), (show (n + 6) + 6 ≤ 120 by omega)⟩
          refine r_iload_n (pc := 98) ?_ dL_begins_98 rfl
          refine r_icne (pc := 99) (t := 106) ?_ ?_ dL_begins_99 (by decide)
          · exact r_no
          · refine r_iconst (pc := 102) ?_ dL_begins_102 (by decide)
            refine r_goto (pc := 103) (t := 107) ?_ dL_begins_103 (by decide)
            refine r_istore_n (pc := 107) ?_ dL_begins_107 rfl (Nat.le_of_ble_eq_true rfl)
            refine r_iinc (pc := 108) ?_ dL_begins_108 (by decide) (Nat.le_of_ble_eq_true rfl)
            refine r_goto (pc := 111) (t := 4) ?_ dL_begins_111 (by decide)
            refine r_kl ?_
            exact Le.rf
        · refine r_iload (pc := 80) ?_ dL_begins_80
          refine r_bipush (pc := 82) ?_ dL_begins_82 (by decide)
          refine r_ishr (pc := 84) ?_ dL_begins_84
          refine r_bipush (pc := 85) ?_ dL_begins_85 (by decide)
          refine r_cs0 (pc := 87) (k := (k + 1)) (n := (n + 6)) ?_ dL_begins_87 ok_L_low wd_1_239 ⟨Nat.le_of_ble_eq_true rfl, Nat.le_of_ble_eq_true rfl⟩ ⟨(show (k + 1) ≤ 20 by omega), (show (n + 6) ≤ 120 by omega)⟩ rfl rfl
          refine r_goto (pc := 90) (t := 95) ?_ dL_begins_90 (by decide)
          refine r_csH (pc := 95) (k := (k + 1)) (n := (n + 6)) (Yc := Y_L_mentors) ?_ dL_begins_95 cw_mentors wd_1_0 wd_3_120 wd_3_119 ⟨by decide, by decide⟩ (by decide +kernel) ⟨Nat.le_of_ble_eq_true rfl, Nat.le_of_ble_eq_true rfl⟩ ⟨(show (k + 1) + 1 ≤ 20 by omega), (show (n + 6) + 6 ≤ 120 by omega)⟩
          refine r_iload_n (pc := 98) ?_ dL_begins_98 rfl
          refine r_icne (pc := 99) (t := 106) ?_ ?_ dL_begins_99 (by decide)
          · exact r_no
          · refine r_iconst (pc := 102) ?_ dL_begins_102 (by decide)
            refine r_goto (pc := 103) (t := 107) ?_ dL_begins_103 (by decide)
            refine r_istore_n (pc := 107) ?_ dL_begins_107 rfl (Nat.le_of_ble_eq_true rfl)
            refine r_iinc (pc := 108) ?_ dL_begins_108 (by decide) (Nat.le_of_ble_eq_true rfl)
            refine r_goto (pc := 111) (t := 4) ?_ dL_begins_111 (by decide)
            refine r_kl ?_
            exact Le.rf
def R_L_begins_116 (l : Launch) (G : GT) (F : FX) (Q : PQ) (QX : PX) (k n : Nat) : KT := (I_il 3 (I_ic 5 (I_icge (I_il 2 (I_zr Q)) (I_il 2 (I_ifeq (I_il 2 (I_zr Q)) (I_al 1 (I_ic 84 (I_il 3 (I_iadd (I_cs (Tr true l G Y_L_cell) 2 QX (I_is 4 (I_al 0 (I_il 4 (I_ic 3 (I_cs (Tr true l G Y_L_low) 2 QX (I_il 4 (I_ic 3 (I_ishr (I_ic 4 (I_cs (Tr true l G Y_L_low) 2 QX (I_ic 1 (I_isub (I_csH (fun As M Q => TrH l G Y_L_pupil hh_pupil As M Q) 3 (I_is 5 (I_il 5 (I_ic (-900000002) (I_icne (I_il 5 (I_il 3 (I_icne I_no (I_ic 1 (I_is 2 (I_inc 3 1 (I_kl 5 (I_kl 4 (Wj true l G F Y_L_begins Q QX (k + 1) (n + 6) 116))))))))) (I_al 0 (I_il 4 (I_ic 3 (I_cs (Tr true l G Y_L_low) 2 QX (I_ic (-1) (I_csH (fun As M Q => TrH l G Y_L_pupil hh_pupil As M Q) 3 (I_il 3 (I_icne I_no (I_ic 1 (I_is 2 (I_inc 3 1 (I_kl 5 (I_kl 4 (Wj true l G F Y_L_begins Q QX (k + 2) (n + 12) 116)))))))))))))))))))))))))))))))))))))))))
set_option maxRecDepth 100000 in
theorem g_L_begins_116 {l : Launch} {G : GT} {F : FX} {Q : PQ} {QX : PX} {k n : Nat} (hk : k + 2 ≤ 20 ∧ n + 12 ≤ 120) : Le (R_L_begins_116 l G F Q QX k n) (Wj true l G F Y_L_begins Q QX k n 116) := by
  unfold R_L_begins_116
  obtain ⟨hk1, hk2⟩ := hk
  refine r_iload_n (pc := 116) ?_ dL_begins_116 rfl
  refine r_iconst (pc := 117) ?_ dL_begins_117 (by decide)
  refine r_icge (pc := 118) (t := 205) ?_ ?_ dL_begins_118 (by decide)
  · refine r_iload_n (pc := 205) ?_ dL_begins_205 rfl
    exact r_zr dL_begins_206 rfl (show k ≤ 20 by omega) (show n ≤ 120 by omega)
  · refine r_iload_n (pc := 121) ?_ dL_begins_121 rfl
    refine r_ifeq (pc := 122) (t := 205) ?_ ?_ dL_begins_122 (by decide)
    · refine r_iload_n (pc := 205) ?_ dL_begins_205 rfl
      exact r_zr dL_begins_206 rfl (show k ≤ 20 by omega) (show n ≤ 120 by omega)
    · refine r_aload_n (pc := 125) ?_ dL_begins_125 rfl
      refine r_bipush (pc := 126) ?_ dL_begins_126 (by decide)
      refine r_iload_n (pc := 128) ?_ dL_begins_128 rfl
      refine r_iadd (pc := 129) ?_ dL_begins_129
      refine r_cs0 (pc := 130) (k := k) (n := n) ?_ dL_begins_130 ok_L_cell wd_1_235 ⟨Nat.le_of_ble_eq_true rfl, Nat.le_of_ble_eq_true rfl⟩ ⟨(show k ≤ 20 by omega), (show n ≤ 120 by omega)⟩ rfl rfl
      refine r_istore (pc := 133) ?_ dL_begins_133 (Nat.le_of_ble_eq_true rfl)
      refine r_aload_n (pc := 135) ?_ dL_begins_135 rfl
      refine r_iload (pc := 136) ?_ dL_begins_136
      refine r_iconst (pc := 138) ?_ dL_begins_138 (by decide)
      refine r_cs0 (pc := 139) (k := k) (n := n) ?_ dL_begins_139 ok_L_low wd_1_239 ⟨Nat.le_of_ble_eq_true rfl, Nat.le_of_ble_eq_true rfl⟩ ⟨(show k ≤ 20 by omega), (show n ≤ 120 by omega)⟩ rfl rfl
      refine r_iload (pc := 142) ?_ dL_begins_142
      refine r_iconst (pc := 144) ?_ dL_begins_144 (by decide)
      refine r_ishr (pc := 145) ?_ dL_begins_145
      refine r_iconst (pc := 146) ?_ dL_begins_146 (by decide)
      refine r_cs0 (pc := 147) (k := k) (n := n) ?_ dL_begins_147 ok_L_low wd_1_239 ⟨Nat.le_of_ble_eq_true rfl, Nat.le_of_ble_eq_true rfl⟩ ⟨(show k ≤ 20 by omega), (show n ≤ 120 by omega)⟩ rfl rfl
      refine r_iconst (pc := 150) ?_ dL_begins_150 (by decide)
      refine r_isub (pc := 151) ?_ dL_begins_151
      refine r_csH (pc := 152) (k := k) (n := n) (Yc := Y_L_pupil) ?_ dL_begins_152 cw_pupil wd_1_0 wd_3_139 wd_3_138 ⟨by decide, by decide⟩ (by decide +kernel) ⟨Nat.le_of_ble_eq_true rfl, Nat.le_of_ble_eq_true rfl⟩ ⟨(show k + 1 ≤ 20 by omega), (show n + 6 ≤ 120 by omega)⟩
      refine r_istore (pc := 155) ?_ dL_begins_155 (Nat.le_of_ble_eq_true rfl)
      refine r_iload (pc := 157) ?_ dL_begins_157
      refine r_ldc (pc := 159) ?_ dL_begins_159 wd_2_157
      refine r_icne (pc := 161) (t := 187) ?_ ?_ dL_begins_161 (by decide)
      · refine r_iload (pc := 187) ?_ dL_begins_187
        refine r_iload_n (pc := 189) ?_ dL_begins_189 rfl
        refine r_icne (pc := 190) (t := 197) ?_ ?_ dL_begins_190 (by decide)
        · exact r_no
        · refine r_iconst (pc := 193) ?_ dL_begins_193 (by decide)
          refine r_goto (pc := 194) (t := 198) ?_ dL_begins_194 (by decide)
          refine r_istore_n (pc := 198) ?_ dL_begins_198 rfl (Nat.le_of_ble_eq_true rfl)
          refine r_iinc (pc := 199) ?_ dL_begins_199 (by decide) (Nat.le_of_ble_eq_true rfl)
          refine r_goto (pc := 202) (t := 116) ?_ dL_begins_202 (by decide)
          refine r_kl ?_
          refine r_kl ?_
          exact Le.rf
      · refine r_aload_n (pc := 164) ?_ dL_begins_164 rfl
        refine r_iload (pc := 165) ?_ dL_begins_165
        refine r_iconst (pc := 167) ?_ dL_begins_167 (by decide)
        refine r_cs0 (pc := 168) (k := (k + 1)) (n := (n + 6)) ?_ dL_begins_168 ok_L_low wd_1_239 ⟨Nat.le_of_ble_eq_true rfl, Nat.le_of_ble_eq_true rfl⟩ ⟨(show (k + 1) ≤ 20 by omega), (show (n + 6) ≤ 120 by omega)⟩ rfl rfl
        refine r_iconst (pc := 171) ?_ dL_begins_171 (by decide)
        refine r_csH (pc := 172) (k := (k + 1)) (n := (n + 6)) (Yc := Y_L_pupil) ?_ dL_begins_172 cw_pupil wd_1_0 wd_3_139 wd_3_138 ⟨by decide, by decide⟩ (by decide +kernel) ⟨Nat.le_of_ble_eq_true rfl, Nat.le_of_ble_eq_true rfl⟩ ⟨(show (k + 1) + 1 ≤ 20 by omega), (show (n + 6) + 6 ≤ 120 by omega)⟩
        refine r_iload_n (pc := 175) ?_ dL_begins_175 rfl
        refine r_icne (pc := 176) (t := 183) ?_ ?_ dL_begins_176 (by decide)
        · exact r_no
        · refine r_iconst (pc := 179) ?_ dL_begins_179 (by decide)
          refine r_goto (pc := 180) (t := 198) ?_ dL_begins_180 (by decide)
          refine r_istore_n (pc := 198) ?_ dL_begins_198 rfl (Nat.le_of_ble_eq_true rfl)
          refine r_iinc (pc := 199) ?_ dL_begins_199 (by decide) (Nat.le_of_ble_eq_true rfl)
          refine r_goto (pc := 202) (t := 116) ?_ dL_begins_202 (by decide)
          refine r_kl ?_
          refine r_kl ?_
          exact Le.rf
abbrev Y_L_law : YT := (yL_law, cL_law, 8, (some .boolean), 14, 540, 600104, 7301314)
def R_L_law_8 (l : Launch) (G : GT) (F : FX) (Q : PQ) (QX : PX) (k n : Nat) : KT := (I_al 1 (I_csH (fun As M Q => TrH l G Y_L_back hh_back As M Q) 1 (I_ic (-900000002) (I_icne I_no (I_al 1 (I_cs (Tr true l G Y_L_refused) 1 QX (I_ifeq I_no (I_al 1 (I_cs (Tr true l G Y_L_fits) 1 QX (I_ifeq I_no (I_al 1 (I_al 0 (I_cs (Tr true l G Y_L_begins) 2 QX (I_ifeq I_no (I_al 1 (I_cs (Tr true l G Y_L_fits) 1 QX (I_ifeq I_no (I_ic 1 (Wj true l G F Y_L_law Q QX (k + 81) (n + 486) 51)))))))))))))))))))
set_option maxRecDepth 100000 in
theorem g_L_law_8 {l : Launch} {G : GT} {F : FX} {Q : PQ} {QX : PX} {k n : Nat} (hk : k + 81 ≤ 600104 ∧ n + 486 ≤ 7301314) : Le (R_L_law_8 l G F Q QX k n) (Wj true l G F Y_L_law Q QX k n 8) := by
  unfold R_L_law_8
  obtain ⟨hk1, hk2⟩ := hk
  refine r_aload_n (pc := 8) ?_ dL_law_8 rfl
  refine r_csH (pc := 9) (k := k) (n := n) (Yc := Y_L_back) ?_ dL_law_9 cw_back wd_1_0 wd_2_194 wd_2_193 ⟨by decide, by decide⟩ (by decide +kernel) ⟨Nat.le_of_ble_eq_true rfl, Nat.le_of_ble_eq_true rfl⟩ ⟨(show k + 1 ≤ 600104 by omega), (show n + 6 ≤ 7301314 by omega)⟩
  refine r_ldc (pc := 12) ?_ dL_law_12 wd_2_157
  refine r_icne (pc := 14) (t := 50) ?_ ?_ dL_law_14 (by decide)
  · exact r_no
  · refine r_aload_n (pc := 17) ?_ dL_law_17 rfl
    refine r_cs (pc := 18) (k := (k + 1)) (n := (n + 6)) (Yc := Y_L_refused) ?_ dL_law_18 ok_L_refused wd_3_116 ⟨Nat.le_of_ble_eq_true rfl, Nat.le_of_ble_eq_true rfl⟩ ⟨(show (k + 1) + 60 ≤ 600104 by omega), (show (n + 6) + 360 ≤ 7301314 by omega)⟩
    refine r_ifeq (pc := 21) (t := 50) ?_ ?_ dL_law_21 (by decide)
    · exact r_no
    · refine r_aload_n (pc := 24) ?_ dL_law_24 rfl
      refine r_cs0 (pc := 25) (k := (k + 61)) (n := (n + 366)) ?_ dL_law_25 ok_L_fits wd_4_208 ⟨Nat.le_of_ble_eq_true rfl, Nat.le_of_ble_eq_true rfl⟩ ⟨(show (k + 61) ≤ 600104 by omega), (show (n + 366) ≤ 7301314 by omega)⟩ rfl rfl
      refine r_ifeq (pc := 28) (t := 50) ?_ ?_ dL_law_28 (by decide)
      · exact r_no
      · refine r_aload_n (pc := 31) ?_ dL_law_31 rfl
        refine r_aload_n (pc := 32) ?_ dL_law_32 rfl
        refine r_cs (pc := 33) (k := (k + 61)) (n := (n + 366)) (Yc := Y_L_begins) ?_ dL_law_33 ok_L_begins wd_5_0 ⟨Nat.le_of_ble_eq_true rfl, Nat.le_of_ble_eq_true rfl⟩ ⟨(show (k + 61) + 20 ≤ 600104 by omega), (show (n + 366) + 120 ≤ 7301314 by omega)⟩
        refine r_ifeq (pc := 36) (t := 50) ?_ ?_ dL_law_36 (by decide)
        · exact r_no
        · refine r_aload_n (pc := 39) ?_ dL_law_39 rfl
          refine r_cs0 (pc := 40) (k := (k + 81)) (n := (n + 486)) ?_ dL_law_40 ok_L_fits wd_4_208 ⟨Nat.le_of_ble_eq_true rfl, Nat.le_of_ble_eq_true rfl⟩ ⟨(show (k + 81) ≤ 600104 by omega), (show (n + 486) ≤ 7301314 by omega)⟩ rfl rfl
          refine r_ifeq (pc := 43) (t := 50) ?_ ?_ dL_law_43 (by decide)
          · exact r_no
          · refine r_iconst (pc := 46) ?_ dL_law_46 (by decide)
            refine r_goto (pc := 47) (t := 51) ?_ dL_law_47 (by decide)
            exact Le.rf
def R_L_law_51 (l : Launch) (G : GT) (F : FX) (Q : PQ) (QX : PX) (k n : Nat) : KT := (I_is 2 (I_ic 0 (I_is 3 (Wj true l G F Y_L_law Q QX k n 54))))
set_option maxRecDepth 100000 in
theorem g_L_law_51 {l : Launch} {G : GT} {F : FX} {Q : PQ} {QX : PX} {k n : Nat} (hk : k ≤ 600104 ∧ n ≤ 7301314) : Le (R_L_law_51 l G F Q QX k n) (Wj true l G F Y_L_law Q QX k n 51) := by
  unfold R_L_law_51
  obtain ⟨hk1, hk2⟩ := hk
  refine r_istore_n (pc := 51) ?_ dL_law_51 rfl (Nat.le_of_ble_eq_true rfl)
  refine r_iconst (pc := 52) ?_ dL_law_52 (by decide)
  refine r_istore_n (pc := 53) ?_ dL_law_53 rfl (Nat.le_of_ble_eq_true rfl)
  exact Le.rf
def R_L_law_54 (l : Launch) (G : GT) (F : FX) (Q : PQ) (QX : PX) (k n : Nat) : KT := (I_il 3 (I_ic 36 (I_icge (I_il 2 (I_ifeq I_no (I_al 1 (I_cs (Tr true l G Y_L_refused) 1 QX (I_ifeq I_no (I_ic 1 (I_zr Q))))))) (I_il 2 (I_ifeq (I_il 2 (I_ifeq I_no (I_al 1 (I_cs (Tr true l G Y_L_refused) 1 QX (I_ifeq I_no (I_ic 1 (I_zr Q))))))) (I_al 0 (I_ic 2 (I_il 3 (I_imul (I_cs (Tr true l G Y_L_cell) 2 QX (I_is 4 (I_al 0 (I_ic 2 (I_il 3 (I_imul (I_ic 1 (I_iadd (I_cs (Tr true l G Y_L_cell) 2 QX (I_is 5 (I_al 1 (I_il 4 (I_ic 3 (I_ishr (I_il 5 (I_cs (Tr true l G Y_L_acts) 3 QX (I_ifeq I_no (I_al 1 (I_cs (Tr true l G Y_L_fits) 1 QX (I_ifeq I_no (I_il 3 (I_ic 7 (I_irem (I_ic 5 (I_icne (I_kl 2 (Wj true l G F Y_L_law Q QX (k + 4) (n + 24) 119)) (I_al 1 (I_cs (Tr true l G Y_L_refused) 1 QX (I_ifeq I_no (I_kl 2 (Wj true l G F Y_L_law Q QX (k + 64) (n + 384) 119)))))))))))))))))))))))))))))))))))))))
set_option maxRecDepth 100000 in
theorem g_L_law_54 {l : Launch} {G : GT} {F : FX} {Q : PQ} {QX : PX} {k n : Nat} (hk : k + 64 ≤ 600104 ∧ n + 384 ≤ 7301314) : Le (R_L_law_54 l G F Q QX k n) (Wj true l G F Y_L_law Q QX k n 54) := by
  unfold R_L_law_54
  obtain ⟨hk1, hk2⟩ := hk
  refine r_iload_n (pc := 54) ?_ dL_law_54 rfl
  refine r_bipush (pc := 55) ?_ dL_law_55 (by decide)
  refine r_icge (pc := 57) (t := 252) ?_ ?_ dL_law_57 (by decide)
  · refine r_iload_n (pc := 252) ?_ dL_law_252 rfl
    refine r_ifeq (pc := 253) (t := 267) ?_ ?_ dL_law_253 (by decide)
    · exact r_no
    · refine r_aload_n (pc := 256) ?_ dL_law_256 rfl
      refine r_cs (pc := 257) (k := k) (n := n) (Yc := Y_L_refused) ?_ dL_law_257 ok_L_refused wd_3_116 ⟨Nat.le_of_ble_eq_true rfl, Nat.le_of_ble_eq_true rfl⟩ ⟨(show k + 60 ≤ 600104 by omega), (show n + 360 ≤ 7301314 by omega)⟩
      refine r_ifeq (pc := 260) (t := 267) ?_ ?_ dL_law_260 (by decide)
      · exact r_no
      · refine r_iconst (pc := 263) ?_ dL_law_263 (by decide)
        refine r_goto (pc := 264) (t := 268) ?_ dL_law_264 (by decide)
        exact r_zr dL_law_268 rfl (show (k + 60) ≤ 600104 by omega) (show (n + 360) ≤ 7301314 by omega)
  · refine r_iload_n (pc := 60) ?_ dL_law_60 rfl
    refine r_ifeq (pc := 61) (t := 252) ?_ ?_ dL_law_61 (by decide)
    · refine r_iload_n (pc := 252) ?_ dL_law_252 rfl
      refine r_ifeq (pc := 253) (t := 267) ?_ ?_ dL_law_253 (by decide)
      · exact r_no
      · refine r_aload_n (pc := 256) ?_ dL_law_256 rfl
        refine r_cs (pc := 257) (k := k) (n := n) (Yc := Y_L_refused) ?_ dL_law_257 ok_L_refused wd_3_116 ⟨Nat.le_of_ble_eq_true rfl, Nat.le_of_ble_eq_true rfl⟩ ⟨(show k + 60 ≤ 600104 by omega), (show n + 360 ≤ 7301314 by omega)⟩
        refine r_ifeq (pc := 260) (t := 267) ?_ ?_ dL_law_260 (by decide)
        · exact r_no
        · refine r_iconst (pc := 263) ?_ dL_law_263 (by decide)
          refine r_goto (pc := 264) (t := 268) ?_ dL_law_264 (by decide)
          exact r_zr dL_law_268 rfl (show (k + 60) ≤ 600104 by omega) (show (n + 360) ≤ 7301314 by omega)
    · refine r_aload_n (pc := 64) ?_ dL_law_64 rfl
      refine r_iconst (pc := 65) ?_ dL_law_65 (by decide)
      refine r_iload_n (pc := 66) ?_ dL_law_66 rfl
      refine r_imul (pc := 67) ?_ dL_law_67
      refine r_cs0 (pc := 68) (k := k) (n := n) ?_ dL_law_68 ok_L_cell wd_1_235 ⟨Nat.le_of_ble_eq_true rfl, Nat.le_of_ble_eq_true rfl⟩ ⟨(show k ≤ 600104 by omega), (show n ≤ 7301314 by omega)⟩ rfl rfl
      refine r_istore (pc := 71) ?_ dL_law_71 (Nat.le_of_ble_eq_true rfl)
      refine r_aload_n (pc := 73) ?_ dL_law_73 rfl
      refine r_iconst (pc := 74) ?_ dL_law_74 (by decide)
      refine r_iload_n (pc := 75) ?_ dL_law_75 rfl
      refine r_imul (pc := 76) ?_ dL_law_76
      refine r_iconst (pc := 77) ?_ dL_law_77 (by decide)
      refine r_iadd (pc := 78) ?_ dL_law_78
      refine r_cs0 (pc := 79) (k := k) (n := n) ?_ dL_law_79 ok_L_cell wd_1_235 ⟨Nat.le_of_ble_eq_true rfl, Nat.le_of_ble_eq_true rfl⟩ ⟨(show k ≤ 600104 by omega), (show n ≤ 7301314 by omega)⟩ rfl rfl
      refine r_istore (pc := 82) ?_ dL_law_82 (Nat.le_of_ble_eq_true rfl)
      refine r_aload_n (pc := 84) ?_ dL_law_84 rfl
      refine r_iload (pc := 85) ?_ dL_law_85
      refine r_iconst (pc := 87) ?_ dL_law_87 (by decide)
      refine r_ishr (pc := 88) ?_ dL_law_88
      refine r_iload (pc := 89) ?_ dL_law_89
      refine r_cs (pc := 91) (k := k) (n := n) (Yc := Y_L_acts) ?_ dL_law_91 ok_L_acts wd_4_231 ⟨Nat.le_of_ble_eq_true rfl, Nat.le_of_ble_eq_true rfl⟩ ⟨(show k + 4 ≤ 600104 by omega), (show n + 24 ≤ 7301314 by omega)⟩
      refine r_ifeq (pc := 94) (t := 179) ?_ ?_ dL_law_94 (by decide)
      · exact r_no
      · refine r_aload_n (pc := 97) ?_ dL_law_97 rfl
        refine r_cs0 (pc := 98) (k := (k + 4)) (n := (n + 24)) ?_ dL_law_98 ok_L_fits wd_4_208 ⟨Nat.le_of_ble_eq_true rfl, Nat.le_of_ble_eq_true rfl⟩ ⟨(show (k + 4) ≤ 600104 by omega), (show (n + 24) ≤ 7301314 by omega)⟩ rfl rfl
        refine r_ifeq (pc := 101) (t := 179) ?_ ?_ dL_law_101 (by decide)
        · exact r_no
        · refine r_iload_n (pc := 104) ?_ dL_law_104 rfl
          refine r_bipush (pc := 105) ?_ dL_law_105 (by decide)
          refine r_irem (pc := 107) ?_ dL_law_107
          refine r_iconst (pc := 108) ?_ dL_law_108 (by decide)
          refine r_icne (pc := 109) (t := 119) ?_ ?_ dL_law_109 (by decide)
          · refine r_kl ?_
            exact Le.rf
          · refine r_aload_n (pc := 112) ?_ dL_law_112 rfl
            refine r_cs (pc := 113) (k := (k + 4)) (n := (n + 24)) (Yc := Y_L_refused) ?_ dL_law_113 ok_L_refused wd_3_116 ⟨Nat.le_of_ble_eq_true rfl, Nat.le_of_ble_eq_true rfl⟩ ⟨(show (k + 4) + 60 ≤ 600104 by omega), (show (n + 24) + 360 ≤ 7301314 by omega)⟩
            refine r_ifeq (pc := 116) (t := 179) ?_ ?_ dL_law_116 (by decide)
            · exact r_no
            · refine r_kl ?_
              exact Le.rf
def R_L_law_119 (l : Launch) (G : GT) (F : FX) (Q : PQ) (QX : PX) (k n : Nat) : KT := (I_al 1 (I_il 5 (I_ic 4 (I_ishr (I_ic 5 (I_cs (Tr true l G Y_L_low) 2 QX (I_il 4 (I_cs (Tr true l G Y_L_isForetold) 3 QX (I_ifeq I_no (I_il 3 (I_ic 3 (I_irem (I_ic 1 (I_icne (I_ic 1 (I_kl 5 (I_kl 4 (Wj true l G F Y_L_law Q QX k n 180)))) (I_al 1 (I_il 5 (I_ic 5 (I_ishr (I_ic 5 (I_cs (Tr true l G Y_L_low) 2 QX (I_il 5 (I_ic 8 (I_ishr (I_ic 5 (I_cs (Tr true l G Y_L_low) 2 QX (I_il 4 (I_ic 5 (I_ishr (I_ic 3 (I_cs (Tr true l G Y_L_low) 2 QX (I_cs (Tr true l G Y_L_comesTrue) 4 QX (I_ifeq I_no (I_ic 1 (I_kl 5 (I_kl 4 (Wj true l G F Y_L_law Q QX (k + 10) (n + 60) 180))))))))))))))))))))))))))))))))))))
set_option maxRecDepth 100000 in
theorem g_L_law_119 {l : Launch} {G : GT} {F : FX} {Q : PQ} {QX : PX} {k n : Nat} (hk : k + 10 ≤ 600104 ∧ n + 60 ≤ 7301314) : Le (R_L_law_119 l G F Q QX k n) (Wj true l G F Y_L_law Q QX k n 119) := by
  unfold R_L_law_119
  obtain ⟨hk1, hk2⟩ := hk
  refine r_aload_n (pc := 119) ?_ dL_law_119 rfl
  refine r_iload (pc := 120) ?_ dL_law_120
  refine r_iconst (pc := 122) ?_ dL_law_122 (by decide)
  refine r_ishr (pc := 123) ?_ dL_law_123
  refine r_iconst (pc := 124) ?_ dL_law_124 (by decide)
  refine r_cs0 (pc := 125) (k := k) (n := n) ?_ dL_law_125 ok_L_low wd_1_239 ⟨Nat.le_of_ble_eq_true rfl, Nat.le_of_ble_eq_true rfl⟩ ⟨(show k ≤ 600104 by omega), (show n ≤ 7301314 by omega)⟩ rfl rfl
  refine r_iload (pc := 128) ?_ dL_law_128
  refine r_cs0 (pc := 130) (k := k) (n := n) ?_ dL_law_130 ok_L_isForetold wd_4_214 ⟨Nat.le_of_ble_eq_true rfl, Nat.le_of_ble_eq_true rfl⟩ ⟨(show k ≤ 600104 by omega), (show n ≤ 7301314 by omega)⟩ rfl rfl
  refine r_ifeq (pc := 133) (t := 179) ?_ ?_ dL_law_133 (by decide)
  · exact r_no
  · refine r_iload_n (pc := 136) ?_ dL_law_136 rfl
    refine r_iconst (pc := 137) ?_ dL_law_137 (by decide)
    refine r_irem (pc := 138) ?_ dL_law_138
    refine r_iconst (pc := 139) ?_ dL_law_139 (by decide)
    refine r_icne (pc := 140) (t := 175) ?_ ?_ dL_law_140 (by decide)
    · refine r_iconst (pc := 175) ?_ dL_law_175 (by decide)
      refine r_goto (pc := 176) (t := 180) ?_ dL_law_176 (by decide)
      refine r_kl ?_
      refine r_kl ?_
      exact Le.rf
    · refine r_aload_n (pc := 143) ?_ dL_law_143 rfl
      refine r_iload (pc := 144) ?_ dL_law_144
      refine r_iconst (pc := 146) ?_ dL_law_146 (by decide)
      refine r_ishr (pc := 147) ?_ dL_law_147
      refine r_iconst (pc := 148) ?_ dL_law_148 (by decide)
      refine r_cs0 (pc := 149) (k := k) (n := n) ?_ dL_law_149 ok_L_low wd_1_239 ⟨Nat.le_of_ble_eq_true rfl, Nat.le_of_ble_eq_true rfl⟩ ⟨(show k ≤ 600104 by omega), (show n ≤ 7301314 by omega)⟩ rfl rfl
      refine r_iload (pc := 152) ?_ dL_law_152
      refine r_bipush (pc := 154) ?_ dL_law_154 (by decide)
      refine r_ishr (pc := 156) ?_ dL_law_156
      refine r_iconst (pc := 157) ?_ dL_law_157 (by decide)
      refine r_cs0 (pc := 158) (k := k) (n := n) ?_ dL_law_158 ok_L_low wd_1_239 ⟨Nat.le_of_ble_eq_true rfl, Nat.le_of_ble_eq_true rfl⟩ ⟨(show k ≤ 600104 by omega), (show n ≤ 7301314 by omega)⟩ rfl rfl
      refine r_iload (pc := 161) ?_ dL_law_161
      refine r_iconst (pc := 163) ?_ dL_law_163 (by decide)
      refine r_ishr (pc := 164) ?_ dL_law_164
      refine r_iconst (pc := 165) ?_ dL_law_165 (by decide)
      refine r_cs0 (pc := 166) (k := k) (n := n) ?_ dL_law_166 ok_L_low wd_1_239 ⟨Nat.le_of_ble_eq_true rfl, Nat.le_of_ble_eq_true rfl⟩ ⟨(show k ≤ 600104 by omega), (show n ≤ 7301314 by omega)⟩ rfl rfl
      refine r_cs (pc := 169) (k := k) (n := n) (Yc := Y_L_comesTrue) ?_ dL_law_169 ok_L_comesTrue wd_4_228 ⟨Nat.le_of_ble_eq_true rfl, Nat.le_of_ble_eq_true rfl⟩ ⟨(show k + 10 ≤ 600104 by omega), (show n + 60 ≤ 7301314 by omega)⟩
      refine r_ifeq (pc := 172) (t := 179) ?_ ?_ dL_law_172 (by decide)
      · exact r_no
      · refine r_iconst (pc := 175) ?_ dL_law_175 (by decide)
        refine r_goto (pc := 176) (t := 180) ?_ dL_law_176 (by decide)
        refine r_kl ?_
        refine r_kl ?_
        exact Le.rf
def R_L_law_180 (l : Launch) (G : GT) (F : FX) (Q : PQ) (QX : PX) (k n : Nat) : KT := (I_is 2 (I_il 2 (I_ifeq (Wj true l G F Y_L_law Q QX k n 246) (I_il 3 (I_ic 5 (I_irem (I_ic 4 (I_icne (Wj true l G F Y_L_law Q QX k n 246) (I_al 1 (I_cs (Tr true l G Y_L_sum) 1 QX (I_ls 6 (I_al 1 (I_ic 1 (I_ic 2 (I_ic 3 (I_csH (fun As M Q => TrH l G Y_L_trade hh_trade As M Q) 4 (I_ic 3 (I_icne I_no (I_al 1 (I_csH (fun As M Q => TrH l G Y_L_ends hh_ends As M Q) 1 (I_iflt I_no (I_al 1 (I_csH (fun As M Q => TrH l G Y_L_back hh_back As M Q) 1 (I_iflt I_no (I_al 1 (I_csH (fun As M Q => TrH l G Y_L_back hh_back As M Q) 1 (I_iflt I_no (I_al 1 (I_cs (Tr true l G Y_L_sum) 1 QX (I_ll 6 (I_lcmp (I_ifne I_no (I_ic 1 (I_kl 6 (I_kl 2 (Wj true l G F Y_L_law Q QX (k + 4) (n + 24) 245))))))))))))))))))))))))))))))))))))
set_option maxRecDepth 100000 in
theorem g_L_law_180 {l : Launch} {G : GT} {F : FX} {Q : PQ} {QX : PX} {k n : Nat} (hk : k + 4 ≤ 600104 ∧ n + 24 ≤ 7301314) : Le (R_L_law_180 l G F Q QX k n) (Wj true l G F Y_L_law Q QX k n 180) := by
  unfold R_L_law_180
  obtain ⟨hk1, hk2⟩ := hk
  refine r_istore_n (pc := 180) ?_ dL_law_180 rfl (Nat.le_of_ble_eq_true rfl)
  refine r_iload_n (pc := 181) ?_ dL_law_181 rfl
  refine r_ifeq (pc := 182) (t := 246) ?_ ?_ dL_law_182 (by decide)
  · exact Le.rf
  · refine r_iload_n (pc := 185) ?_ dL_law_185 rfl
    refine r_iconst (pc := 186) ?_ dL_law_186 (by decide)
    refine r_irem (pc := 187) ?_ dL_law_187
    refine r_iconst (pc := 188) ?_ dL_law_188 (by decide)
    refine r_icne (pc := 189) (t := 246) ?_ ?_ dL_law_189 (by decide)
    · exact Le.rf
    · refine r_aload_n (pc := 192) ?_ dL_law_192 rfl
      refine r_cs0 (pc := 193) (k := k) (n := n) ?_ dL_law_193 ok_L_sum wd_2_204 ⟨Nat.le_of_ble_eq_true rfl, Nat.le_of_ble_eq_true rfl⟩ ⟨(show k ≤ 600104 by omega), (show n ≤ 7301314 by omega)⟩ rfl rfl
      refine r_lstore (pc := 196) ?_ dL_law_196 (Nat.le_of_ble_eq_true rfl)
      refine r_aload_n (pc := 198) ?_ dL_law_198 rfl
      refine r_iconst (pc := 199) ?_ dL_law_199 (by decide)
      refine r_iconst (pc := 200) ?_ dL_law_200 (by decide)
      refine r_iconst (pc := 201) ?_ dL_law_201 (by decide)
      refine r_csH (pc := 202) (k := k) (n := n) (Yc := Y_L_trade) ?_ dL_law_202 cw_trade wd_1_0 wd_2_4 wd_2_3 ⟨by decide, by decide⟩ (by decide +kernel) ⟨Nat.le_of_ble_eq_true rfl, Nat.le_of_ble_eq_true rfl⟩ ⟨(show k + 1 ≤ 600104 by omega), (show n + 6 ≤ 7301314 by omega)⟩
      refine r_iconst (pc := 205) ?_ dL_law_205 (by decide)
      refine r_icne (pc := 206) (t := 244) ?_ ?_ dL_law_206 (by decide)
      · exact r_no
      · refine r_aload_n (pc := 209) ?_ dL_law_209 rfl
        refine r_csH (pc := 210) (k := (k + 1)) (n := (n + 6)) (Yc := Y_L_ends) ?_ dL_law_210 cw_ends wd_1_0 wd_2_159 wd_2_158 ⟨by decide, by decide⟩ (by decide +kernel) ⟨Nat.le_of_ble_eq_true rfl, Nat.le_of_ble_eq_true rfl⟩ ⟨(show (k + 1) + 1 ≤ 600104 by omega), (show (n + 6) + 6 ≤ 7301314 by omega)⟩
        refine r_iflt (pc := 213) (t := 244) ?_ ?_ dL_law_213 (by decide)
        · exact r_no
        · refine r_aload_n (pc := 216) ?_ dL_law_216 rfl
          refine r_csH (pc := 217) (k := (k + 2)) (n := (n + 12)) (Yc := Y_L_back) ?_ dL_law_217 cw_back wd_1_0 wd_2_194 wd_2_193 ⟨by decide, by decide⟩ (by decide +kernel) ⟨Nat.le_of_ble_eq_true rfl, Nat.le_of_ble_eq_true rfl⟩ ⟨(show (k + 2) + 1 ≤ 600104 by omega), (show (n + 12) + 6 ≤ 7301314 by omega)⟩
          refine r_iflt (pc := 220) (t := 244) ?_ ?_ dL_law_220 (by decide)
          · exact r_no
          · refine r_aload_n (pc := 223) ?_ dL_law_223 rfl
            refine r_csH (pc := 224) (k := (k + 3)) (n := (n + 18)) (Yc := Y_L_back) ?_ dL_law_224 cw_back wd_1_0 wd_2_194 wd_2_193 ⟨by decide, by decide⟩ (by decide +kernel) ⟨Nat.le_of_ble_eq_true rfl, Nat.le_of_ble_eq_true rfl⟩ ⟨(show (k + 3) + 1 ≤ 600104 by omega), (show (n + 18) + 6 ≤ 7301314 by omega)⟩
            refine r_iflt (pc := 227) (t := 244) ?_ ?_ dL_law_227 (by decide)
            · exact r_no
            · refine r_aload_n (pc := 230) ?_ dL_law_230 rfl
              refine r_cs0 (pc := 231) (k := (k + 4)) (n := (n + 24)) ?_ dL_law_231 ok_L_sum wd_2_204 ⟨Nat.le_of_ble_eq_true rfl, Nat.le_of_ble_eq_true rfl⟩ ⟨(show (k + 4) ≤ 600104 by omega), (show (n + 24) ≤ 7301314 by omega)⟩ rfl rfl
              refine r_lload (pc := 234) ?_ dL_law_234
              refine r_lcmp (pc := 236) ?_ dL_law_236
              refine r_ifne (pc := 237) (t := 244) ?_ ?_ dL_law_237 (by decide)
              · exact r_no
              · refine r_iconst (pc := 240) ?_ dL_law_240 (by decide)
                refine r_goto (pc := 241) (t := 245) ?_ dL_law_241 (by decide)
                refine r_kl ?_
                refine r_kl ?_
                exact Le.rf
def R_L_law_246 (l : Launch) (G : GT) (F : FX) (Q : PQ) (QX : PX) (k n : Nat) : KT := (I_inc 3 1 (Wj true l G F Y_L_law Q QX k n 54))
set_option maxRecDepth 100000 in
theorem g_L_law_246 {l : Launch} {G : GT} {F : FX} {Q : PQ} {QX : PX} {k n : Nat} (hk : k ≤ 600104 ∧ n ≤ 7301314) : Le (R_L_law_246 l G F Q QX k n) (Wj true l G F Y_L_law Q QX k n 246) := by
  unfold R_L_law_246
  obtain ⟨hk1, hk2⟩ := hk
  refine r_iinc (pc := 246) ?_ dL_law_246 (by decide) (Nat.le_of_ble_eq_true rfl)
  refine r_goto (pc := 249) (t := 54) ?_ dL_law_249 (by decide)
  exact Le.rf
def R_L_law_245 (l : Launch) (G : GT) (F : FX) (Q : PQ) (QX : PX) (k n : Nat) : KT := (I_is 2 (Wj true l G F Y_L_law Q QX k n 246))
set_option maxRecDepth 100000 in
theorem g_L_law_245 {l : Launch} {G : GT} {F : FX} {Q : PQ} {QX : PX} {k n : Nat} (hk : k ≤ 600104 ∧ n ≤ 7301314) : Le (R_L_law_245 l G F Q QX k n) (Wj true l G F Y_L_law Q QX k n 245) := by
  unfold R_L_law_245
  obtain ⟨hk1, hk2⟩ := hk
  refine r_istore_n (pc := 245) ?_ dL_law_245 rfl (Nat.le_of_ble_eq_true rfl)
  exact Le.rf
section ENL
variable {l : Launch} {G : GT} {Q : PQ} {QX : PX} {M : Mm}
theorem en_L_low {a0 : Int32} {a1 : Int32} (body : ∀ F, R_L_low_0 l G F Q QX [.int a0, .int a1] [] M) : Tr true l G Y_L_low [.int a0, .int a1] M Q QX := tr_of (by decide) (Nat.le_of_ble_eq_true rfl) rfl fun F => g_L_low_0 _ _ _ (body F)
theorem en_L_cell {a0 : Nat} {a1 : Int32} (body : ∀ F, R_L_cell_0 l G F Q QX [.ref a0, .int a1, xx] [] M) : Tr true l G Y_L_cell [.ref a0, .int a1] M Q QX := tr_of (by decide) (Nat.le_of_ble_eq_true rfl) rfl fun F => g_L_cell_0 _ _ _ (body F)
theorem en_L_sum {a0 : Nat} (body : ∀ F, R_L_sum_0 l G F Q QX [.ref a0, xx, xx, xx, xx] [] M) : Tr true l G Y_L_sum [.ref a0] M Q QX := tr_of (by decide) (Nat.le_of_ble_eq_true rfl) rfl fun F => g_L_sum_0 _ _ _ (body F)
theorem en_L_isFit {a0 : Nat} {a1 : Int32} (body : ∀ F, R_L_isFit_0 l G F Q QX [.ref a0, .int a1, xx, xx, xx, xx, xx, xx, xx, xx, xx, xx, xx, xx] [] M) : Tr true l G Y_L_isFit [.ref a0, .int a1] M Q QX := tr_of (by decide) (Nat.le_of_ble_eq_true rfl) rfl fun F => g_L_isFit_0 _ _ _ (body F)
theorem en_L_fits {a0 : Nat} (body : ∀ F, R_L_fits_0 l G F Q QX [.ref a0, xx, xx, xx, xx, xx, xx, xx, xx, xx] [] M) : Tr true l G Y_L_fits [.ref a0] M Q QX := tr_of (by decide) (Nat.le_of_ble_eq_true rfl) rfl fun F => g_L_fits_0 _ _ _ (body F)
theorem en_L_hoursOf {a0 : Nat} {a1 : Int32} (body : ∀ F, R_L_hoursOf_0 l G F Q QX [.ref a0, .int a1, xx, xx, xx] [] M) : Tr true l G Y_L_hoursOf [.ref a0, .int a1] M Q QX := tr_of (by decide) (Nat.le_of_ble_eq_true rfl) rfl fun F => g_L_hoursOf_0 _ _ _ (body F)
theorem en_L_hours {a0 : Nat} (body : ∀ F, R_L_hours_0 l G F Q QX [.ref a0, xx, xx, xx] [] M) : Tr true l G Y_L_hours [.ref a0] M Q QX := tr_of (by decide) (Nat.le_of_ble_eq_true rfl) rfl fun F => g_L_hours_0 _ _ _ (body F)
theorem en_L_isForetold {a0 : Nat} {a1 : Int32} {a2 : Int32} (body : ∀ F, R_L_isForetold_0 l G F Q QX [.ref a0, .int a1, .int a2, xx, xx, xx, xx, xx, xx] [] M) : Tr true l G Y_L_isForetold [.ref a0, .int a1, .int a2] M Q QX := tr_of (by decide) (Nat.le_of_ble_eq_true rfl) rfl fun F => g_L_isForetold_0 _ _ _ (body F)
theorem en_L_refused {a0 : Nat} (body : ∀ F, R_L_refused_0 l G F Q QX 0 0 [.ref a0, xx, xx, xx] [] M) : Tr true l G Y_L_refused [.ref a0] M Q QX := tr_of (by decide) (Nat.le_of_ble_eq_true rfl) rfl fun F => g_L_refused_0 ⟨Nat.le_of_ble_eq_true rfl, Nat.le_of_ble_eq_true rfl⟩ _ _ _ (body F)
theorem en_L_comesTrue {a0 : Nat} {a1 : Int32} {a2 : Int32} {a3 : Int32} (body : ∀ F, R_L_comesTrue_0 l G F Q QX 0 0 [.ref a0, .int a1, .int a2, .int a3, xx, xx, xx, xx, xx, xx, xx, xx, xx] [] M) : Tr true l G Y_L_comesTrue [.ref a0, .int a1, .int a2, .int a3] M Q QX := tr_of (by decide) (Nat.le_of_ble_eq_true rfl) rfl fun F => g_L_comesTrue_0 ⟨Nat.le_of_ble_eq_true rfl, Nat.le_of_ble_eq_true rfl⟩ _ _ _ (body F)
theorem en_L_acts {a0 : Nat} {a1 : Int32} {a2 : Int32} (body : ∀ F, R_L_acts_0 l G F Q QX 0 0 [.ref a0, .int a1, .int a2, xx, xx, xx, xx, xx, xx, xx, xx, xx] [] M) : Tr true l G Y_L_acts [.ref a0, .int a1, .int a2] M Q QX := tr_of (by decide) (Nat.le_of_ble_eq_true rfl) rfl fun F => g_L_acts_0 ⟨Nat.le_of_ble_eq_true rfl, Nat.le_of_ble_eq_true rfl⟩ _ _ _ (body F)
theorem en_L_begins {a0 : Nat} {a1 : Nat} (body : ∀ F, R_L_begins_0 l G F Q QX 0 0 [.ref a0, .ref a1, xx, xx, xx, xx] [] M) : Tr true l G Y_L_begins [.ref a0, .ref a1] M Q QX := tr_of (by decide) (Nat.le_of_ble_eq_true rfl) rfl fun F => g_L_begins_0 ⟨Nat.le_of_ble_eq_true rfl, Nat.le_of_ble_eq_true rfl⟩ _ _ _ (body F)
end ENL
