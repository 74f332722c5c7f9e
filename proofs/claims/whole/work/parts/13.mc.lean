/-! ===== the methods: what they are, their regions ===== -/
abbrev Y_X3_append : YT := (yX3_append, cX3_append, 2, (some .int), 0, 0, 0, 0)
theorem ok_X3_append : okV Y_X3_append 1 := ⟨⟨wd_5_119, wd_1_8, by decide, by decide, by decide +kernel⟩, wd_5_117, wd_5_118⟩
def R_X3_append_0 (l : Launch) (G : GT) (F : FX) (Q : PQ) (QX : PX) : KT := (I_al 0 (I_gi 1 3 11 (I_ic 150 (I_icge (I_al 0 (I_gi 1 3 11 (I_ir Q))) (I_al 0 (I_gp 1 11 1 (I_al 0 (I_gi 1 3 11 (I_il 1 (I_ias (I_al 0 (I_dup (I_gi 1 3 11 (I_ic 1 (I_iadd (I_pi 1 3 11 (I_al 0 (I_gi 1 3 11 (I_ir Q)))))))))))))))))))
set_option maxRecDepth 100000 in
theorem g_X3_append_0 {l : Launch} {G : GT} {F : FX} {Q : PQ} {QX : PX} : Le (R_X3_append_0 l G F Q QX) (Wj true l G F Y_X3_append Q QX 0 0 0) := by
  unfold R_X3_append_0
  refine r_aload_n (pc := 0) ?_ dX3_append_0 rfl
  refine r_gi (pc := 1) ?_ dX3_append_1 cl_X3 (Nat.le_of_ble_eq_true rfl) rfl wd_1_206
  refine r_sipush (pc := 4) ?_ dX3_append_4 (by decide)
  refine r_icge (pc := 7) (t := 30) ?_ ?_ dX3_append_7 (by decide)
  · refine r_aload_n (pc := 30) ?_ dX3_append_30 rfl
    refine r_gi (pc := 31) ?_ dX3_append_31 cl_X3 (Nat.le_of_ble_eq_true rfl) rfl wd_1_206
    exact r_ir dX3_append_34 rfl (Nat.le_of_ble_eq_true rfl) (Nat.le_of_ble_eq_true rfl)
  · refine r_aload_n (pc := 10) ?_ dX3_append_10 rfl
    refine r_gp (pc := 11) (kf := 0) ?_ dX3_append_11 cl_X3 (Nat.le_of_ble_eq_true rfl) rfl wd_1_203 pv_X3_0
    refine r_aload_n (pc := 14) ?_ dX3_append_14 rfl
    refine r_gi (pc := 15) ?_ dX3_append_15 cl_X3 (Nat.le_of_ble_eq_true rfl) rfl wd_1_206
    refine r_iload_n (pc := 18) ?_ dX3_append_18 rfl
    refine r_ias (pc := 19) ?_ dX3_append_19
    refine r_aload_n (pc := 20) ?_ dX3_append_20 rfl
    refine r_dup (pc := 21) ?_ dX3_append_21
    refine r_gi (pc := 22) ?_ dX3_append_22 cl_X3 (Nat.le_of_ble_eq_true rfl) rfl wd_1_206
    refine r_iconst (pc := 25) ?_ dX3_append_25 (by decide)
    refine r_iadd (pc := 26) ?_ dX3_append_26
    refine r_pi (pc := 27) ?_ dX3_append_27 cl_X3 (Nat.le_of_ble_eq_true rfl) rfl wd_1_206 rfl pd_X3_3
    refine r_aload_n (pc := 30) ?_ dX3_append_30 rfl
    refine r_gi (pc := 31) ?_ dX3_append_31 cl_X3 (Nat.le_of_ble_eq_true rfl) rfl wd_1_206
    exact r_ir dX3_append_34 rfl (Nat.le_of_ble_eq_true rfl) (Nat.le_of_ble_eq_true rfl)
abbrev Y_X3_empty : YT := (yX3_empty, cX3_empty, 2, (some .int), 0, 0, 0, 0)
theorem ok_X3_empty : okV Y_X3_empty 0 := ⟨⟨wd_2_16, wd_1_8, by decide, by decide, by decide +kernel⟩, wd_2_14, wd_2_15⟩
def R_X3_empty_0 (l : Launch) (G : GT) (F : FX) (Q : PQ) (QX : PX) : KT := (I_al 0 (I_gi 1 3 11 (I_is 1 (I_al 0 (I_ic 0 (I_pi 1 3 11 (I_il 1 (I_ir Q))))))))
set_option maxRecDepth 100000 in
theorem g_X3_empty_0 {l : Launch} {G : GT} {F : FX} {Q : PQ} {QX : PX} : Le (R_X3_empty_0 l G F Q QX) (Wj true l G F Y_X3_empty Q QX 0 0 0) := by
  unfold R_X3_empty_0
  refine r_aload_n (pc := 0) ?_ dX3_empty_0 rfl
  refine r_gi (pc := 1) ?_ dX3_empty_1 cl_X3 (Nat.le_of_ble_eq_true rfl) rfl wd_1_206
  refine r_istore_n (pc := 4) ?_ dX3_empty_4 rfl (Nat.le_of_ble_eq_true rfl)
  refine r_aload_n (pc := 5) ?_ dX3_empty_5 rfl
  refine r_iconst (pc := 6) ?_ dX3_empty_6 (by decide)
  refine r_pi (pc := 7) ?_ dX3_empty_7 cl_X3 (Nat.le_of_ble_eq_true rfl) rfl wd_1_206 rfl pd_X3_3
  refine r_iload_n (pc := 10) ?_ dX3_empty_10 rfl
  exact r_ir dX3_empty_11 rfl (Nat.le_of_ble_eq_true rfl) (Nat.le_of_ble_eq_true rfl)
abbrev Y_X3_commandAt : YT := (yX3_commandAt, cX3_commandAt, 2, (some (.object "TradeLogs$Command")), 0, 0, 0, 0)
theorem ok_X3_commandAt : okV Y_X3_commandAt 1 := ⟨⟨wd_2_162, wd_1_8, by decide, by decide, by decide +kernel⟩, wd_2_160, wd_2_161⟩
abbrev Y_X3_numberAt : YT := (yX3_numberAt, cX3_numberAt, 4, (some .int), 0, 0, 0, 0)
theorem ok_X3_numberAt : okV Y_X3_numberAt 2 := ⟨⟨wd_2_166, wd_1_8, by decide, by decide, by decide +kernel⟩, wd_2_164, wd_2_165⟩
def R_X3_numberAt_0 (l : Launch) (G : GT) (F : FX) (Q : PQ) (QX : PX) : KT := (I_il 1 (I_iflt (Wj true l G F Y_X3_numberAt Q QX 0 0 31) (I_il 1 (I_al 0 (I_gi 1 4 11 (I_icge (Wj true l G F Y_X3_numberAt Q QX 0 0 31) (I_il 1 (I_ic 21 (I_icge (Wj true l G F Y_X3_numberAt Q QX 0 0 31) (I_il 2 (I_iflt (Wj true l G F Y_X3_numberAt Q QX 0 0 31) (I_il 2 (I_ic 3 (I_icge (Wj true l G F Y_X3_numberAt Q QX 0 0 31) (I_ic 1 (I_is 3 (I_il 3 (I_ifeq (I_ic (-1) (I_ir Q)) (I_al 0 (I_gp 1 11 3 (I_il 1 (I_aal 2 1 1 (I_il 2 (I_ial (I_ir Q)))))))))))))))))))))))))
set_option maxRecDepth 100000 in
theorem g_X3_numberAt_0 {l : Launch} {G : GT} {F : FX} {Q : PQ} {QX : PX} : Le (R_X3_numberAt_0 l G F Q QX) (Wj true l G F Y_X3_numberAt Q QX 0 0 0) := by
  unfold R_X3_numberAt_0
  refine r_iload_n (pc := 0) ?_ dX3_numberAt_0 rfl
  refine r_iflt (pc := 1) (t := 31) ?_ ?_ dX3_numberAt_1 (by decide)
  · exact Le.rf
  · refine r_iload_n (pc := 4) ?_ dX3_numberAt_4 rfl
    refine r_aload_n (pc := 5) ?_ dX3_numberAt_5 rfl
    refine r_gi (pc := 6) ?_ dX3_numberAt_6 cl_X3 (Nat.le_of_ble_eq_true rfl) rfl wd_1_208
    refine r_icge (pc := 9) (t := 31) ?_ ?_ dX3_numberAt_9 (by decide)
    · exact Le.rf
    · refine r_iload_n (pc := 12) ?_ dX3_numberAt_12 rfl
      refine r_bipush (pc := 13) ?_ dX3_numberAt_13 (by decide)
      refine r_icge (pc := 15) (t := 31) ?_ ?_ dX3_numberAt_15 (by decide)
      · exact Le.rf
      · refine r_iload_n (pc := 18) ?_ dX3_numberAt_18 rfl
        refine r_iflt (pc := 19) (t := 31) ?_ ?_ dX3_numberAt_19 (by decide)
        · exact Le.rf
        · refine r_iload_n (pc := 22) ?_ dX3_numberAt_22 rfl
          refine r_iconst (pc := 23) ?_ dX3_numberAt_23 (by decide)
          refine r_icge (pc := 24) (t := 31) ?_ ?_ dX3_numberAt_24 (by decide)
          · exact Le.rf
          · refine r_iconst (pc := 27) ?_ dX3_numberAt_27 (by decide)
            refine r_goto (pc := 28) (t := 32) ?_ dX3_numberAt_28 (by decide)
            refine r_istore_n (pc := 32) ?_ dX3_numberAt_32 rfl (Nat.le_of_ble_eq_true rfl)
            refine r_iload_n (pc := 33) ?_ dX3_numberAt_33 rfl
            refine r_ifeq (pc := 34) (t := 48) ?_ ?_ dX3_numberAt_34 (by decide)
            · refine r_iconst (pc := 48) ?_ dX3_numberAt_48 (by decide)
              exact r_ir dX3_numberAt_49 rfl (Nat.le_of_ble_eq_true rfl) (Nat.le_of_ble_eq_true rfl)
            · refine r_aload_n (pc := 37) ?_ dX3_numberAt_37 rfl
              refine r_gp (pc := 38) (kf := 2) ?_ dX3_numberAt_38 cl_X3 (Nat.le_of_ble_eq_true rfl) rfl wd_1_205 pv_X3_2
              refine r_iload_n (pc := 41) ?_ dX3_numberAt_41 rfl
              refine r_aal (pc := 42) ?_ dX3_numberAt_42 rfl rfl pa_2
              refine r_iload_n (pc := 43) ?_ dX3_numberAt_43 rfl
              refine r_ial (pc := 44) ?_ dX3_numberAt_44
              refine r_goto (pc := 45) (t := 49) ?_ dX3_numberAt_45 (by decide)
              exact r_ir dX3_numberAt_49 rfl (Nat.le_of_ble_eq_true rfl) (Nat.le_of_ble_eq_true rfl)
def R_X3_numberAt_31 (l : Launch) (G : GT) (F : FX) (Q : PQ) (QX : PX) : KT := (I_ic 0 (I_is 3 (I_il 3 (I_ifeq (I_ic (-1) (I_ir Q)) (I_al 0 (I_gp 1 11 3 (I_il 1 (I_aal 2 1 1 (I_il 2 (I_ial (I_ir Q)))))))))))
set_option maxRecDepth 100000 in
theorem g_X3_numberAt_31 {l : Launch} {G : GT} {F : FX} {Q : PQ} {QX : PX} : Le (R_X3_numberAt_31 l G F Q QX) (Wj true l G F Y_X3_numberAt Q QX 0 0 31) := by
  unfold R_X3_numberAt_31
  refine r_iconst (pc := 31) ?_ dX3_numberAt_31 (by decide)
  refine r_istore_n (pc := 32) ?_ dX3_numberAt_32 rfl (Nat.le_of_ble_eq_true rfl)
  refine r_iload_n (pc := 33) ?_ dX3_numberAt_33 rfl
  refine r_ifeq (pc := 34) (t := 48) ?_ ?_ dX3_numberAt_34 (by decide)
  · refine r_iconst (pc := 48) ?_ dX3_numberAt_48 (by decide)
    exact r_ir dX3_numberAt_49 rfl (Nat.le_of_ble_eq_true rfl) (Nat.le_of_ble_eq_true rfl)
  · refine r_aload_n (pc := 37) ?_ dX3_numberAt_37 rfl
    refine r_gp (pc := 38) (kf := 2) ?_ dX3_numberAt_38 cl_X3 (Nat.le_of_ble_eq_true rfl) rfl wd_1_205 pv_X3_2
    refine r_iload_n (pc := 41) ?_ dX3_numberAt_41 rfl
    refine r_aal (pc := 42) ?_ dX3_numberAt_42 rfl rfl pa_2
    refine r_iload_n (pc := 43) ?_ dX3_numberAt_43 rfl
    refine r_ial (pc := 44) ?_ dX3_numberAt_44
    refine r_goto (pc := 45) (t := 49) ?_ dX3_numberAt_45 (by decide)
    exact r_ir dX3_numberAt_49 rfl (Nat.le_of_ble_eq_true rfl) (Nat.le_of_ble_eq_true rfl)
abbrev Y_X3_isLetter : YT := (yX3_isLetter, cX3_isLetter, 1, (some .boolean), 0, 0, 0, 0)
theorem ok_X3_isLetter : okS Y_X3_isLetter 1 := ⟨⟨wd_2_35, wd_1_8, by decide, by decide, by decide +kernel⟩, wd_2_34⟩
def R_X3_isLetter_0 (l : Launch) (G : GT) (F : FX) (Q : PQ) (QX : PX) : KT := (I_il 0 (I_ic 97 (I_iclt (I_ic 0 (I_zr Q)) (I_il 0 (I_ic 122 (I_icgt (I_ic 0 (I_zr Q)) (I_ic 1 (I_zr Q))))))))
set_option maxRecDepth 100000 in
theorem g_X3_isLetter_0 {l : Launch} {G : GT} {F : FX} {Q : PQ} {QX : PX} : Le (R_X3_isLetter_0 l G F Q QX) (Wj true l G F Y_X3_isLetter Q QX 0 0 0) := by
  unfold R_X3_isLetter_0
  refine r_iload_n (pc := 0) ?_ dX3_isLetter_0 rfl
  refine r_bipush (pc := 1) ?_ dX3_isLetter_1 (by decide)
  refine r_iclt (pc := 3) (t := 16) ?_ ?_ dX3_isLetter_3 (by decide)
  · refine r_iconst (pc := 16) ?_ dX3_isLetter_16 (by decide)
    exact r_zr dX3_isLetter_17 rfl (Nat.le_of_ble_eq_true rfl) (Nat.le_of_ble_eq_true rfl)
  · refine r_iload_n (pc := 6) ?_ dX3_isLetter_6 rfl
    refine r_bipush (pc := 7) ?_ dX3_isLetter_7 (by decide)
    refine r_icgt (pc := 9) (t := 16) ?_ ?_ dX3_isLetter_9 (by decide)
    · refine r_iconst (pc := 16) ?_ dX3_isLetter_16 (by decide)
      exact r_zr dX3_isLetter_17 rfl (Nat.le_of_ble_eq_true rfl) (Nat.le_of_ble_eq_true rfl)
    · refine r_iconst (pc := 12) ?_ dX3_isLetter_12 (by decide)
      refine r_goto (pc := 13) (t := 17) ?_ dX3_isLetter_13 (by decide)
      exact r_zr dX3_isLetter_17 rfl (Nat.le_of_ble_eq_true rfl) (Nat.le_of_ble_eq_true rfl)
abbrev Y_X3_readBeforeWord : YT := (yX3_readBeforeWord, cX3_readBeforeWord, 3, (some .int), 1, 20, 0, 0)
theorem ok_X3_readBeforeWord : okV Y_X3_readBeforeWord 2 := ⟨⟨wd_2_32, wd_1_8, by decide, by decide, by decide +kernel⟩, wd_2_31, wp_1⟩
def R_X3_readBeforeWord_0 (l : Launch) (G : GT) (F : FX) (Q : PQ) (QX : PX) : KT := (I_il 2 (I_ic 32 (I_icne (I_il 2 (I_cs (Tr true l G Y_X3_isLetter) 1 QX (I_ifne (I_al 0 (I_il 1 (I_pi 1 6 11 (I_al 0 (I_ic 1 (I_pi 1 5 11 (I_ic (-1) (I_ir Q)))))))) (I_il 1 (I_ir Q))))) (I_ic (-1) (I_ir Q)))))
set_option maxRecDepth 100000 in
theorem g_X3_readBeforeWord_0 {l : Launch} {G : GT} {F : FX} {Q : PQ} {QX : PX} : Le (R_X3_readBeforeWord_0 l G F Q QX) (Wj true l G F Y_X3_readBeforeWord Q QX 0 0 0) := by
  unfold R_X3_readBeforeWord_0
  refine r_iload_n (pc := 0) ?_ dX3_readBeforeWord_0 rfl
  refine r_bipush (pc := 1) ?_ dX3_readBeforeWord_1 (by decide)
  refine r_icne (pc := 3) (t := 8) ?_ ?_ dX3_readBeforeWord_3 (by decide)
  · refine r_iload_n (pc := 8) ?_ dX3_readBeforeWord_8 rfl
    refine r_cs0 (pc := 9) ?_ dX3_readBeforeWord_9 ok_X3_isLetter wd_2_33 ⟨Nat.le_of_ble_eq_true rfl, Nat.le_of_ble_eq_true rfl⟩ ⟨Nat.le_of_ble_eq_true rfl, Nat.le_of_ble_eq_true rfl⟩ rfl rfl
    refine r_ifne (pc := 12) (t := 17) ?_ ?_ dX3_readBeforeWord_12 (by decide)
    · refine r_aload_n (pc := 17) ?_ dX3_readBeforeWord_17 rfl
      refine r_iload_n (pc := 18) ?_ dX3_readBeforeWord_18 rfl
      refine r_pi (pc := 19) ?_ dX3_readBeforeWord_19 cl_X3 (Nat.le_of_ble_eq_true rfl) rfl wd_1_211 rfl pd_X3_6
      refine r_aload_n (pc := 22) ?_ dX3_readBeforeWord_22 rfl
      refine r_iconst (pc := 23) ?_ dX3_readBeforeWord_23 (by decide)
      refine r_pi (pc := 24) ?_ dX3_readBeforeWord_24 cl_X3 (Nat.le_of_ble_eq_true rfl) rfl wd_1_210 rfl pd_X3_5
      refine r_iconst (pc := 27) ?_ dX3_readBeforeWord_27 (by decide)
      exact r_ir dX3_readBeforeWord_28 rfl (Nat.le_of_ble_eq_true rfl) (Nat.le_of_ble_eq_true rfl)
    · refine r_iload_n (pc := 15) ?_ dX3_readBeforeWord_15 rfl
      exact r_ir dX3_readBeforeWord_16 rfl (Nat.le_of_ble_eq_true rfl) (Nat.le_of_ble_eq_true rfl)
  · refine r_iconst (pc := 6) ?_ dX3_readBeforeWord_6 (by decide)
    exact r_ir dX3_readBeforeWord_7 rfl (Nat.le_of_ble_eq_true rfl) (Nat.le_of_ble_eq_true rfl)
abbrev Y_X3_isWord : YT := (yX3_isWord, cX3_isWord, 5, (some .boolean), 5, 106, 0, 0)
theorem ok_X3_isWord : okV Y_X3_isWord 3 := ⟨⟨wd_2_49, wd_1_8, by decide, by decide, by decide +kernel⟩, wd_2_48, wp_4⟩
abbrev Y_X3_commandOf : YT := (yX3_commandOf, cX3_commandOf, 4, (some (.object "TradeLogs$Command")), 6, 130, 0, 0)
theorem ok_X3_commandOf : okV Y_X3_commandOf 2 := ⟨⟨wd_2_43, wd_1_8, by decide, by decide, by decide +kernel⟩, wd_2_42, wp_3⟩
abbrev Y_X3_beginCommand : YT := (yX3_beginCommand, cX3_beginCommand, 2, none, 0, 0, 0, 0)
theorem ok_X3_beginCommand : okV Y_X3_beginCommand 1 := ⟨⟨wd_2_101, wd_1_8, by decide, by decide, by decide +kernel⟩, wd_2_100, wp_5⟩
abbrev Y_X3_readInWord : YT := (yX3_readInWord, cX3_readInWord, 4, (some .int), 7, 153, 0, 0)
theorem ok_X3_readInWord : okV Y_X3_readInWord 2 := ⟨⟨wd_2_39, wd_1_8, by decide, by decide, by decide +kernel⟩, wd_2_38, wp_2⟩
def R_X3_readInWord_0 (l : Launch) (G : GT) (F : FX) (Q : PQ) (QX : PX) : KT := (I_il 2 (I_cs (Tr true l G Y_X3_isLetter) 1 QX (I_ifeq (I_al 0 (I_al 0 (I_gi 1 6 11 (I_il 1 (I_cv (Tr true l G Y_X3_commandOf) 1 11 2 QX (I_as 3 (I_al 3 (I_ifnonnull (I_il 2 (I_ic 32 (I_iceq (I_al 0 (I_al 3 (I_cv (Tr true l G Y_X3_beginCommand) 1 11 1 QX (I_al 0 (I_ic 2 (I_pi 1 5 11 (I_ic (-1) (I_ir Q)))))))) (I_il 1 (I_ir Q))))) (I_al 0 (I_gi 1 6 11 (I_ir Q))))))))))) (I_ic (-1) (I_ir Q)))))
set_option maxRecDepth 100000 in
theorem g_X3_readInWord_0 {l : Launch} {G : GT} {F : FX} {Q : PQ} {QX : PX} : Le (R_X3_readInWord_0 l G F Q QX) (Wj true l G F Y_X3_readInWord Q QX 0 0 0) := by
  unfold R_X3_readInWord_0
  refine r_iload_n (pc := 0) ?_ dX3_readInWord_0 rfl
  refine r_cs0 (pc := 1) ?_ dX3_readInWord_1 ok_X3_isLetter wd_2_33 ⟨Nat.le_of_ble_eq_true rfl, Nat.le_of_ble_eq_true rfl⟩ ⟨Nat.le_of_ble_eq_true rfl, Nat.le_of_ble_eq_true rfl⟩ rfl rfl
  refine r_ifeq (pc := 4) (t := 9) ?_ ?_ dX3_readInWord_4 (by decide)
  · refine r_aload_n (pc := 9) ?_ dX3_readInWord_9 rfl
    refine r_aload_n (pc := 10) ?_ dX3_readInWord_10 rfl
    refine r_gi (pc := 11) ?_ dX3_readInWord_11 cl_X3 (Nat.le_of_ble_eq_true rfl) rfl wd_1_211
    refine r_iload_n (pc := 14) ?_ dX3_readInWord_14 rfl
    refine r_cv0 (pc := 15) ?_ dX3_readInWord_15 cl_X3 ok_X3_commandOf rfl wd_2_40 ⟨Nat.le_of_ble_eq_true rfl, Nat.le_of_ble_eq_true rfl⟩ ⟨Nat.le_of_ble_eq_true rfl, Nat.le_of_ble_eq_true rfl⟩ rfl rfl
    refine r_astore_n (pc := 18) ?_ dX3_readInWord_18 rfl (Nat.le_of_ble_eq_true rfl)
    refine r_aload_n (pc := 19) ?_ dX3_readInWord_19 rfl
    refine r_ifnonnull (pc := 20) (t := 28) ?_ ?_ dX3_readInWord_20 (by decide)
    · refine r_iload_n (pc := 28) ?_ dX3_readInWord_28 rfl
      refine r_bipush (pc := 29) ?_ dX3_readInWord_29 (by decide)
      refine r_iceq (pc := 31) (t := 36) ?_ ?_ dX3_readInWord_31 (by decide)
      · refine r_aload_n (pc := 36) ?_ dX3_readInWord_36 rfl
        refine r_aload_n (pc := 37) ?_ dX3_readInWord_37 rfl
        refine r_cv0 (pc := 38) ?_ dX3_readInWord_38 cl_X3 ok_X3_beginCommand rfl wd_2_98 ⟨Nat.le_of_ble_eq_true rfl, Nat.le_of_ble_eq_true rfl⟩ ⟨Nat.le_of_ble_eq_true rfl, Nat.le_of_ble_eq_true rfl⟩ rfl rfl
        refine r_aload_n (pc := 41) ?_ dX3_readInWord_41 rfl
        refine r_iconst (pc := 42) ?_ dX3_readInWord_42 (by decide)
        refine r_pi (pc := 43) ?_ dX3_readInWord_43 cl_X3 (Nat.le_of_ble_eq_true rfl) rfl wd_1_210 rfl pd_X3_5
        refine r_iconst (pc := 46) ?_ dX3_readInWord_46 (by decide)
        exact r_ir dX3_readInWord_47 rfl (Nat.le_of_ble_eq_true rfl) (Nat.le_of_ble_eq_true rfl)
      · refine r_iload_n (pc := 34) ?_ dX3_readInWord_34 rfl
        exact r_ir dX3_readInWord_35 rfl (Nat.le_of_ble_eq_true rfl) (Nat.le_of_ble_eq_true rfl)
    · refine r_aload_n (pc := 23) ?_ dX3_readInWord_23 rfl
      refine r_gi (pc := 24) ?_ dX3_readInWord_24 cl_X3 (Nat.le_of_ble_eq_true rfl) rfl wd_1_211
      exact r_ir dX3_readInWord_27 rfl (Nat.le_of_ble_eq_true rfl) (Nat.le_of_ble_eq_true rfl)
  · refine r_iconst (pc := 7) ?_ dX3_readInWord_7 (by decide)
    exact r_ir dX3_readInWord_8 rfl (Nat.le_of_ble_eq_true rfl) (Nat.le_of_ble_eq_true rfl)
abbrev Y_X3_isDigit : YT := (yX3_isDigit, cX3_isDigit, 1, (some .boolean), 0, 0, 0, 0)
theorem ok_X3_isDigit : okS Y_X3_isDigit 1 := ⟨⟨wd_2_108, wd_1_8, by decide, by decide, by decide +kernel⟩, wd_2_107⟩
def R_X3_isDigit_0 (l : Launch) (G : GT) (F : FX) (Q : PQ) (QX : PX) : KT := (I_il 0 (I_ic 48 (I_iclt (I_ic 0 (I_zr Q)) (I_il 0 (I_ic 57 (I_icgt (I_ic 0 (I_zr Q)) (I_ic 1 (I_zr Q))))))))
set_option maxRecDepth 100000 in
theorem g_X3_isDigit_0 {l : Launch} {G : GT} {F : FX} {Q : PQ} {QX : PX} : Le (R_X3_isDigit_0 l G F Q QX) (Wj true l G F Y_X3_isDigit Q QX 0 0 0) := by
  unfold R_X3_isDigit_0
  refine r_iload_n (pc := 0) ?_ dX3_isDigit_0 rfl
  refine r_bipush (pc := 1) ?_ dX3_isDigit_1 (by decide)
  refine r_iclt (pc := 3) (t := 16) ?_ ?_ dX3_isDigit_3 (by decide)
  · refine r_iconst (pc := 16) ?_ dX3_isDigit_16 (by decide)
    exact r_zr dX3_isDigit_17 rfl (Nat.le_of_ble_eq_true rfl) (Nat.le_of_ble_eq_true rfl)
  · refine r_iload_n (pc := 6) ?_ dX3_isDigit_6 rfl
    refine r_bipush (pc := 7) ?_ dX3_isDigit_7 (by decide)
    refine r_icgt (pc := 9) (t := 16) ?_ ?_ dX3_isDigit_9 (by decide)
    · refine r_iconst (pc := 16) ?_ dX3_isDigit_16 (by decide)
      exact r_zr dX3_isDigit_17 rfl (Nat.le_of_ble_eq_true rfl) (Nat.le_of_ble_eq_true rfl)
    · refine r_iconst (pc := 12) ?_ dX3_isDigit_12 (by decide)
      refine r_goto (pc := 13) (t := 17) ?_ dX3_isDigit_13 (by decide)
      exact r_zr dX3_isDigit_17 rfl (Nat.le_of_ble_eq_true rfl) (Nat.le_of_ble_eq_true rfl)
abbrev Y_X3_readBeforeNumber : YT := (yX3_readBeforeNumber, cX3_readBeforeNumber, 3, (some .int), 1, 20, 0, 0)
theorem ok_X3_readBeforeNumber : okV Y_X3_readBeforeNumber 2 := ⟨⟨wd_2_105, wd_1_8, by decide, by decide, by decide +kernel⟩, wd_2_104, wp_6⟩
def R_X3_readBeforeNumber_0 (l : Launch) (G : GT) (F : FX) (Q : PQ) (QX : PX) : KT := (I_il 2 (I_ic 32 (I_icne (I_il 2 (I_cs (Tr true l G Y_X3_isDigit) 1 QX (I_ifne (I_al 0 (I_il 2 (I_ic 48 (I_isub (I_pi 1 10 11 (I_al 0 (I_ic 1 (I_pi 1 9 11 (I_al 0 (I_ic 3 (I_pi 1 5 11 (I_ic (-1) (I_ir Q))))))))))))) (I_il 1 (I_ir Q))))) (I_ic (-1) (I_ir Q)))))
set_option maxRecDepth 100000 in
theorem g_X3_readBeforeNumber_0 {l : Launch} {G : GT} {F : FX} {Q : PQ} {QX : PX} : Le (R_X3_readBeforeNumber_0 l G F Q QX) (Wj true l G F Y_X3_readBeforeNumber Q QX 0 0 0) := by
  unfold R_X3_readBeforeNumber_0
  refine r_iload_n (pc := 0) ?_ dX3_readBeforeNumber_0 rfl
  refine r_bipush (pc := 1) ?_ dX3_readBeforeNumber_1 (by decide)
  refine r_icne (pc := 3) (t := 8) ?_ ?_ dX3_readBeforeNumber_3 (by decide)
  · refine r_iload_n (pc := 8) ?_ dX3_readBeforeNumber_8 rfl
    refine r_cs0 (pc := 9) ?_ dX3_readBeforeNumber_9 ok_X3_isDigit wd_2_106 ⟨Nat.le_of_ble_eq_true rfl, Nat.le_of_ble_eq_true rfl⟩ ⟨Nat.le_of_ble_eq_true rfl, Nat.le_of_ble_eq_true rfl⟩ rfl rfl
    refine r_ifne (pc := 12) (t := 17) ?_ ?_ dX3_readBeforeNumber_12 (by decide)
    · refine r_aload_n (pc := 17) ?_ dX3_readBeforeNumber_17 rfl
      refine r_iload_n (pc := 18) ?_ dX3_readBeforeNumber_18 rfl
      refine r_bipush (pc := 19) ?_ dX3_readBeforeNumber_19 (by decide)
      refine r_isub (pc := 21) ?_ dX3_readBeforeNumber_21
      refine r_pi (pc := 22) ?_ dX3_readBeforeNumber_22 cl_X3 (Nat.le_of_ble_eq_true rfl) rfl wd_1_215 rfl pd_X3_10
      refine r_aload_n (pc := 25) ?_ dX3_readBeforeNumber_25 rfl
      refine r_iconst (pc := 26) ?_ dX3_readBeforeNumber_26 (by decide)
      refine r_pi (pc := 27) ?_ dX3_readBeforeNumber_27 cl_X3 (Nat.le_of_ble_eq_true rfl) rfl wd_1_214 rfl pd_X3_9
      refine r_aload_n (pc := 30) ?_ dX3_readBeforeNumber_30 rfl
      refine r_iconst (pc := 31) ?_ dX3_readBeforeNumber_31 (by decide)
      refine r_pi (pc := 32) ?_ dX3_readBeforeNumber_32 cl_X3 (Nat.le_of_ble_eq_true rfl) rfl wd_1_210 rfl pd_X3_5
      refine r_iconst (pc := 35) ?_ dX3_readBeforeNumber_35 (by decide)
      exact r_ir dX3_readBeforeNumber_36 rfl (Nat.le_of_ble_eq_true rfl) (Nat.le_of_ble_eq_true rfl)
    · refine r_iload_n (pc := 15) ?_ dX3_readBeforeNumber_15 rfl
      exact r_ir dX3_readBeforeNumber_16 rfl (Nat.le_of_ble_eq_true rfl) (Nat.le_of_ble_eq_true rfl)
  · refine r_iconst (pc := 6) ?_ dX3_readBeforeNumber_6 (by decide)
    exact r_ir dX3_readBeforeNumber_7 rfl (Nat.le_of_ble_eq_true rfl) (Nat.le_of_ble_eq_true rfl)
abbrev Y_X3_keepNumber : YT := (yX3_keepNumber, cX3_keepNumber, 1, none, 0, 0, 0, 0)
theorem ok_X3_keepNumber : okV Y_X3_keepNumber 0 := ⟨⟨wd_2_116, wd_1_8, by decide, by decide, by decide +kernel⟩, wd_2_115, wp_8⟩
def R_X3_keepNumber_0 (l : Launch) (G : GT) (F : FX) (Q : PQ) (QX : PX) : KT := (I_al 0 (I_gi 1 4 11 (I_ic 21 (I_icge (I_al 0 (I_dup (I_gi 1 8 11 (I_ic 1 (I_iadd (I_pi 1 8 11 (I_vr Q))))))) (I_al 0 (I_gi 1 8 11 (I_ic 3 (I_icge (I_al 0 (I_dup (I_gi 1 8 11 (I_ic 1 (I_iadd (I_pi 1 8 11 (I_vr Q))))))) (I_al 0 (I_gp 1 11 3 (I_al 0 (I_gi 1 4 11 (I_aal 2 1 1 (I_al 0 (I_gi 1 8 11 (I_al 0 (I_gi 1 10 11 (I_ias (I_al 0 (I_dup (I_gi 1 8 11 (I_ic 1 (I_iadd (I_pi 1 8 11 (I_vr Q)))))))))))))))))))))))))
set_option maxRecDepth 100000 in
theorem g_X3_keepNumber_0 {l : Launch} {G : GT} {F : FX} {Q : PQ} {QX : PX} : Le (R_X3_keepNumber_0 l G F Q QX) (Wj true l G F Y_X3_keepNumber Q QX 0 0 0) := by
  unfold R_X3_keepNumber_0
  refine r_aload_n (pc := 0) ?_ dX3_keepNumber_0 rfl
  refine r_gi (pc := 1) ?_ dX3_keepNumber_1 cl_X3 (Nat.le_of_ble_eq_true rfl) rfl wd_1_208
  refine r_bipush (pc := 4) ?_ dX3_keepNumber_4 (by decide)
  refine r_icge (pc := 6) (t := 35) ?_ ?_ dX3_keepNumber_6 (by decide)
  · refine r_aload_n (pc := 35) ?_ dX3_keepNumber_35 rfl
    refine r_dup (pc := 36) ?_ dX3_keepNumber_36
    refine r_gi (pc := 37) ?_ dX3_keepNumber_37 cl_X3 (Nat.le_of_ble_eq_true rfl) rfl wd_1_213
    refine r_iconst (pc := 40) ?_ dX3_keepNumber_40 (by decide)
    refine r_iadd (pc := 41) ?_ dX3_keepNumber_41
    refine r_pi (pc := 42) ?_ dX3_keepNumber_42 cl_X3 (Nat.le_of_ble_eq_true rfl) rfl wd_1_213 rfl pd_X3_8
    exact r_vr dX3_keepNumber_45 rfl (Nat.le_of_ble_eq_true rfl) (Nat.le_of_ble_eq_true rfl)
  · refine r_aload_n (pc := 9) ?_ dX3_keepNumber_9 rfl
    refine r_gi (pc := 10) ?_ dX3_keepNumber_10 cl_X3 (Nat.le_of_ble_eq_true rfl) rfl wd_1_213
    refine r_iconst (pc := 13) ?_ dX3_keepNumber_13 (by decide)
    refine r_icge (pc := 14) (t := 35) ?_ ?_ dX3_keepNumber_14 (by decide)
    · refine r_aload_n (pc := 35) ?_ dX3_keepNumber_35 rfl
      refine r_dup (pc := 36) ?_ dX3_keepNumber_36
      refine r_gi (pc := 37) ?_ dX3_keepNumber_37 cl_X3 (Nat.le_of_ble_eq_true rfl) rfl wd_1_213
      refine r_iconst (pc := 40) ?_ dX3_keepNumber_40 (by decide)
      refine r_iadd (pc := 41) ?_ dX3_keepNumber_41
      refine r_pi (pc := 42) ?_ dX3_keepNumber_42 cl_X3 (Nat.le_of_ble_eq_true rfl) rfl wd_1_213 rfl pd_X3_8
      exact r_vr dX3_keepNumber_45 rfl (Nat.le_of_ble_eq_true rfl) (Nat.le_of_ble_eq_true rfl)
    · refine r_aload_n (pc := 17) ?_ dX3_keepNumber_17 rfl
      refine r_gp (pc := 18) (kf := 2) ?_ dX3_keepNumber_18 cl_X3 (Nat.le_of_ble_eq_true rfl) rfl wd_1_205 pv_X3_2
      refine r_aload_n (pc := 21) ?_ dX3_keepNumber_21 rfl
      refine r_gi (pc := 22) ?_ dX3_keepNumber_22 cl_X3 (Nat.le_of_ble_eq_true rfl) rfl wd_1_208
      refine r_aal (pc := 25) ?_ dX3_keepNumber_25 rfl rfl pa_2
      refine r_aload_n (pc := 26) ?_ dX3_keepNumber_26 rfl
      refine r_gi (pc := 27) ?_ dX3_keepNumber_27 cl_X3 (Nat.le_of_ble_eq_true rfl) rfl wd_1_213
      refine r_aload_n (pc := 30) ?_ dX3_keepNumber_30 rfl
      refine r_gi (pc := 31) ?_ dX3_keepNumber_31 cl_X3 (Nat.le_of_ble_eq_true rfl) rfl wd_1_215
      refine r_ias (pc := 34) ?_ dX3_keepNumber_34
      refine r_aload_n (pc := 35) ?_ dX3_keepNumber_35 rfl
      refine r_dup (pc := 36) ?_ dX3_keepNumber_36
      refine r_gi (pc := 37) ?_ dX3_keepNumber_37 cl_X3 (Nat.le_of_ble_eq_true rfl) rfl wd_1_213
      refine r_iconst (pc := 40) ?_ dX3_keepNumber_40 (by decide)
      refine r_iadd (pc := 41) ?_ dX3_keepNumber_41
      refine r_pi (pc := 42) ?_ dX3_keepNumber_42 cl_X3 (Nat.le_of_ble_eq_true rfl) rfl wd_1_213 rfl pd_X3_8
      exact r_vr dX3_keepNumber_45 rfl (Nat.le_of_ble_eq_true rfl) (Nat.le_of_ble_eq_true rfl)
abbrev Y_X3_readBehindNumbers : YT := (yX3_readBehindNumbers, cX3_readBehindNumbers, 3, (some .int), 0, 0, 0, 0)
theorem ok_X3_readBehindNumbers : okV Y_X3_readBehindNumbers 2 := ⟨⟨wd_2_120, wd_1_8, by decide, by decide, by decide +kernel⟩, wd_2_119, wp_9⟩
def R_X3_readBehindNumbers_0 (l : Launch) (G : GT) (F : FX) (Q : PQ) (QX : PX) : KT := (I_il 2 (I_ic 32 (I_icne (I_il 2 (I_ic 59 (I_iceq (I_al 0 (I_dup (I_gi 1 4 11 (I_ic 1 (I_iadd (I_pi 1 4 11 (I_al 0 (I_ic 0 (I_pi 1 5 11 (I_ic (-1) (I_ir Q))))))))))) (I_il 1 (I_ir Q))))) (I_ic (-1) (I_ir Q)))))
set_option maxRecDepth 100000 in
theorem g_X3_readBehindNumbers_0 {l : Launch} {G : GT} {F : FX} {Q : PQ} {QX : PX} : Le (R_X3_readBehindNumbers_0 l G F Q QX) (Wj true l G F Y_X3_readBehindNumbers Q QX 0 0 0) := by
  unfold R_X3_readBehindNumbers_0
  refine r_iload_n (pc := 0) ?_ dX3_readBehindNumbers_0 rfl
  refine r_bipush (pc := 1) ?_ dX3_readBehindNumbers_1 (by decide)
  refine r_icne (pc := 3) (t := 8) ?_ ?_ dX3_readBehindNumbers_3 (by decide)
  · refine r_iload_n (pc := 8) ?_ dX3_readBehindNumbers_8 rfl
    refine r_bipush (pc := 9) ?_ dX3_readBehindNumbers_9 (by decide)
    refine r_iceq (pc := 11) (t := 16) ?_ ?_ dX3_readBehindNumbers_11 (by decide)
    · refine r_aload_n (pc := 16) ?_ dX3_readBehindNumbers_16 rfl
      refine r_dup (pc := 17) ?_ dX3_readBehindNumbers_17
      refine r_gi (pc := 18) ?_ dX3_readBehindNumbers_18 cl_X3 (Nat.le_of_ble_eq_true rfl) rfl wd_1_208
      refine r_iconst (pc := 21) ?_ dX3_readBehindNumbers_21 (by decide)
      refine r_iadd (pc := 22) ?_ dX3_readBehindNumbers_22
      refine r_pi (pc := 23) ?_ dX3_readBehindNumbers_23 cl_X3 (Nat.le_of_ble_eq_true rfl) rfl wd_1_208 rfl pd_X3_4
      refine r_aload_n (pc := 26) ?_ dX3_readBehindNumbers_26 rfl
      refine r_iconst (pc := 27) ?_ dX3_readBehindNumbers_27 (by decide)
      refine r_pi (pc := 28) ?_ dX3_readBehindNumbers_28 cl_X3 (Nat.le_of_ble_eq_true rfl) rfl wd_1_210 rfl pd_X3_5
      refine r_iconst (pc := 31) ?_ dX3_readBehindNumbers_31 (by decide)
      exact r_ir dX3_readBehindNumbers_32 rfl (Nat.le_of_ble_eq_true rfl) (Nat.le_of_ble_eq_true rfl)
    · refine r_iload_n (pc := 14) ?_ dX3_readBehindNumbers_14 rfl
      exact r_ir dX3_readBehindNumbers_15 rfl (Nat.le_of_ble_eq_true rfl) (Nat.le_of_ble_eq_true rfl)
  · refine r_iconst (pc := 6) ?_ dX3_readBehindNumbers_6 (by decide)
    exact r_ir dX3_readBehindNumbers_7 rfl (Nat.le_of_ble_eq_true rfl) (Nat.le_of_ble_eq_true rfl)
abbrev Y_X3_readInNumber : YT := (yX3_readInNumber, cX3_readInNumber, 3, (some .int), 1, 22, 0, 0)
theorem ok_X3_readInNumber : okV Y_X3_readInNumber 2 := ⟨⟨wd_2_112, wd_1_8, by decide, by decide, by decide +kernel⟩, wd_2_111, wp_7⟩
def R_X3_readInNumber_0 (l : Launch) (G : GT) (F : FX) (Q : PQ) (QX : PX) : KT := (I_il 2 (I_cs (Tr true l G Y_X3_isDigit) 1 QX (I_ifeq (I_al 0 (I_cv (Tr true l G Y_X3_keepNumber) 1 11 0 QX (I_al 0 (I_gi 1 8 11 (I_al 0 (I_gi 1 7 11 (I_icne (I_al 0 (I_ic 2 (I_pi 1 5 11 (I_il 2 (I_ic 32 (I_icne (I_il 1 (I_ir Q)) (I_ic (-1) (I_ir Q)))))))) (I_al 0 (I_ic 4 (I_pi 1 5 11 (I_al 0 (I_il 1 (I_il 2 (I_cv (Tr true l G Y_X3_readBehindNumbers) 1 11 2 QX (I_ir Q))))))))))))))) (I_al 0 (I_gi 1 9 11 (I_ic 4 (I_icne (I_al 0 (I_ic 10 (I_al 0 (I_gi 1 10 11 (I_imul (I_il 2 (I_iadd (I_ic 48 (I_isub (I_pi 1 10 11 (I_al 0 (I_dup (I_gi 1 9 11 (I_ic 1 (I_iadd (I_pi 1 9 11 (I_ic (-1) (I_ir Q)))))))))))))))))) (I_il 1 (I_ir Q)))))))))
set_option maxRecDepth 100000 in
theorem g_X3_readInNumber_0 {l : Launch} {G : GT} {F : FX} {Q : PQ} {QX : PX} : Le (R_X3_readInNumber_0 l G F Q QX) (Wj true l G F Y_X3_readInNumber Q QX 0 0 0) := by
  unfold R_X3_readInNumber_0
  refine r_iload_n (pc := 0) ?_ dX3_readInNumber_0 rfl
  refine r_cs0 (pc := 1) ?_ dX3_readInNumber_1 ok_X3_isDigit wd_2_106 ⟨Nat.le_of_ble_eq_true rfl, Nat.le_of_ble_eq_true rfl⟩ ⟨Nat.le_of_ble_eq_true rfl, Nat.le_of_ble_eq_true rfl⟩ rfl rfl
  refine r_ifeq (pc := 4) (t := 45) ?_ ?_ dX3_readInNumber_4 (by decide)
  · refine r_aload_n (pc := 45) ?_ dX3_readInNumber_45 rfl
    refine r_cv0 (pc := 46) ?_ dX3_readInNumber_46 cl_X3 ok_X3_keepNumber rfl wd_2_113 ⟨Nat.le_of_ble_eq_true rfl, Nat.le_of_ble_eq_true rfl⟩ ⟨Nat.le_of_ble_eq_true rfl, Nat.le_of_ble_eq_true rfl⟩ rfl rfl
    refine r_aload_n (pc := 49) ?_ dX3_readInNumber_49 rfl
    refine r_gi (pc := 50) ?_ dX3_readInNumber_50 cl_X3 (Nat.le_of_ble_eq_true rfl) rfl wd_1_213
    refine r_aload_n (pc := 53) ?_ dX3_readInNumber_53 rfl
    refine r_gi (pc := 54) ?_ dX3_readInNumber_54 cl_X3 (Nat.le_of_ble_eq_true rfl) rfl wd_1_212
    refine r_icne (pc := 57) (t := 72) ?_ ?_ dX3_readInNumber_57 (by decide)
    · refine r_aload_n (pc := 72) ?_ dX3_readInNumber_72 rfl
      refine r_iconst (pc := 73) ?_ dX3_readInNumber_73 (by decide)
      refine r_pi (pc := 74) ?_ dX3_readInNumber_74 cl_X3 (Nat.le_of_ble_eq_true rfl) rfl wd_1_210 rfl pd_X3_5
      refine r_iload_n (pc := 77) ?_ dX3_readInNumber_77 rfl
      refine r_bipush (pc := 78) ?_ dX3_readInNumber_78 (by decide)
      refine r_icne (pc := 80) (t := 87) ?_ ?_ dX3_readInNumber_80 (by decide)
      · refine r_iload_n (pc := 87) ?_ dX3_readInNumber_87 rfl
        exact r_ir dX3_readInNumber_88 rfl (Nat.le_of_ble_eq_true rfl) (Nat.le_of_ble_eq_true rfl)
      · refine r_iconst (pc := 83) ?_ dX3_readInNumber_83 (by decide)
        refine r_goto (pc := 84) (t := 88) ?_ dX3_readInNumber_84 (by decide)
        exact r_ir dX3_readInNumber_88 rfl (Nat.le_of_ble_eq_true rfl) (Nat.le_of_ble_eq_true rfl)
    · refine r_aload_n (pc := 60) ?_ dX3_readInNumber_60 rfl
      refine r_iconst (pc := 61) ?_ dX3_readInNumber_61 (by decide)
      refine r_pi (pc := 62) ?_ dX3_readInNumber_62 cl_X3 (Nat.le_of_ble_eq_true rfl) rfl wd_1_210 rfl pd_X3_5
      refine r_aload_n (pc := 65) ?_ dX3_readInNumber_65 rfl
      refine r_iload_n (pc := 66) ?_ dX3_readInNumber_66 rfl
      refine r_iload_n (pc := 67) ?_ dX3_readInNumber_67 rfl
      refine r_cv0 (pc := 68) ?_ dX3_readInNumber_68 cl_X3 ok_X3_readBehindNumbers rfl wd_2_117 ⟨Nat.le_of_ble_eq_true rfl, Nat.le_of_ble_eq_true rfl⟩ ⟨Nat.le_of_ble_eq_true rfl, Nat.le_of_ble_eq_true rfl⟩ rfl rfl
      exact r_ir dX3_readInNumber_71 rfl (Nat.le_of_ble_eq_true rfl) (Nat.le_of_ble_eq_true rfl)
  · refine r_aload_n (pc := 7) ?_ dX3_readInNumber_7 rfl
    refine r_gi (pc := 8) ?_ dX3_readInNumber_8 cl_X3 (Nat.le_of_ble_eq_true rfl) rfl wd_1_214
    refine r_iconst (pc := 11) ?_ dX3_readInNumber_11 (by decide)
    refine r_icne (pc := 12) (t := 17) ?_ ?_ dX3_readInNumber_12 (by decide)
    · refine r_aload_n (pc := 17) ?_ dX3_readInNumber_17 rfl
      refine r_bipush (pc := 18) ?_ dX3_readInNumber_18 (by decide)
      refine r_aload_n (pc := 20) ?_ dX3_readInNumber_20 rfl
      refine r_gi (pc := 21) ?_ dX3_readInNumber_21 cl_X3 (Nat.le_of_ble_eq_true rfl) rfl wd_1_215
      refine r_imul (pc := 24) ?_ dX3_readInNumber_24
      refine r_iload_n (pc := 25) ?_ dX3_readInNumber_25 rfl
      refine r_iadd (pc := 26) ?_ dX3_readInNumber_26
      refine r_bipush (pc := 27) ?_ dX3_readInNumber_27 (by decide)
      refine r_isub (pc := 29) ?_ dX3_readInNumber_29
      refine r_pi (pc := 30) ?_ dX3_readInNumber_30 cl_X3 (Nat.le_of_ble_eq_true rfl) rfl wd_1_215 rfl pd_X3_10
      refine r_aload_n (pc := 33) ?_ dX3_readInNumber_33 rfl
      refine r_dup (pc := 34) ?_ dX3_readInNumber_34
      refine r_gi (pc := 35) ?_ dX3_readInNumber_35 cl_X3 (Nat.le_of_ble_eq_true rfl) rfl wd_1_214
      refine r_iconst (pc := 38) ?_ dX3_readInNumber_38 (by decide)
      refine r_iadd (pc := 39) ?_ dX3_readInNumber_39
      refine r_pi (pc := 40) ?_ dX3_readInNumber_40 cl_X3 (Nat.le_of_ble_eq_true rfl) rfl wd_1_214 rfl pd_X3_9
      refine r_iconst (pc := 43) ?_ dX3_readInNumber_43 (by decide)
      exact r_ir dX3_readInNumber_44 rfl (Nat.le_of_ble_eq_true rfl) (Nat.le_of_ble_eq_true rfl)
    · refine r_iload_n (pc := 15) ?_ dX3_readInNumber_15 rfl
      exact r_ir dX3_readInNumber_16 rfl (Nat.le_of_ble_eq_true rfl) (Nat.le_of_ble_eq_true rfl)
abbrev Y_X3_readByte : YT := (yX3_readByte, cX3_readByte, 3, (some .int), 8, 176, 0, 0)
theorem ok_X3_readByte : okV Y_X3_readByte 2 := ⟨⟨wd_2_28, wd_1_8, by decide, by decide, by decide +kernel⟩, wd_2_27, wp_0⟩
def R_X3_readByte_0 (l : Launch) (G : GT) (F : FX) (Q : PQ) (QX : PX) : KT := (I_al 0 (I_gi 1 5 11 (I_sw 0 [(I_al 0 (I_il 1 (I_il 2 (I_cv (Tr true l G Y_X3_readBeforeWord) 1 11 2 QX (I_ir Q))))), (I_al 0 (I_il 1 (I_il 2 (I_cv (Tr true l G Y_X3_readInWord) 1 11 2 QX (I_ir Q))))), (I_al 0 (I_il 1 (I_il 2 (I_cv (Tr true l G Y_X3_readBeforeNumber) 1 11 2 QX (I_ir Q))))), (I_al 0 (I_il 1 (I_il 2 (I_cv (Tr true l G Y_X3_readInNumber) 1 11 2 QX (I_ir Q)))))] (I_al 0 (I_il 1 (I_il 2 (I_cv (Tr true l G Y_X3_readBehindNumbers) 1 11 2 QX (I_ir Q))))))))
set_option maxRecDepth 100000 in
theorem g_X3_readByte_0 {l : Launch} {G : GT} {F : FX} {Q : PQ} {QX : PX} : Le (R_X3_readByte_0 l G F Q QX) (Wj true l G F Y_X3_readByte Q QX 0 0 0) := by
  unfold R_X3_readByte_0
  refine r_aload_n (pc := 0) ?_ dX3_readByte_0 rfl
  refine r_gi (pc := 1) ?_ dX3_readByte_1 cl_X3 (Nat.le_of_ble_eq_true rfl) rfl wd_1_210
  refine r_sw (pc := 4) (t := 64) (os := [32, 39, 46, 53]) ?_ ⟨⟨36, by decide, ?_⟩, ⟨⟨43, by decide, ?_⟩, ⟨⟨50, by decide, ?_⟩, ⟨⟨57, by decide, ?_⟩, trivial⟩⟩⟩⟩ dX3_readByte_4 rfl rfl (by decide)
  · refine r_aload_n (pc := 64) ?_ dX3_readByte_64 rfl
    refine r_iload_n (pc := 65) ?_ dX3_readByte_65 rfl
    refine r_iload_n (pc := 66) ?_ dX3_readByte_66 rfl
    refine r_cv0 (pc := 67) ?_ dX3_readByte_67 cl_X3 ok_X3_readBehindNumbers rfl wd_2_117 ⟨Nat.le_of_ble_eq_true rfl, Nat.le_of_ble_eq_true rfl⟩ ⟨Nat.le_of_ble_eq_true rfl, Nat.le_of_ble_eq_true rfl⟩ rfl rfl
    exact r_ir dX3_readByte_70 rfl (Nat.le_of_ble_eq_true rfl) (Nat.le_of_ble_eq_true rfl)
  · refine r_aload_n (pc := 36) ?_ dX3_readByte_36 rfl
    refine r_iload_n (pc := 37) ?_ dX3_readByte_37 rfl
    refine r_iload_n (pc := 38) ?_ dX3_readByte_38 rfl
    refine r_cv0 (pc := 39) ?_ dX3_readByte_39 cl_X3 ok_X3_readBeforeWord rfl wd_2_29 ⟨Nat.le_of_ble_eq_true rfl, Nat.le_of_ble_eq_true rfl⟩ ⟨Nat.le_of_ble_eq_true rfl, Nat.le_of_ble_eq_true rfl⟩ rfl rfl
    exact r_ir dX3_readByte_42 rfl (Nat.le_of_ble_eq_true rfl) (Nat.le_of_ble_eq_true rfl)
  · refine r_aload_n (pc := 43) ?_ dX3_readByte_43 rfl
    refine r_iload_n (pc := 44) ?_ dX3_readByte_44 rfl
    refine r_iload_n (pc := 45) ?_ dX3_readByte_45 rfl
    refine r_cv0 (pc := 46) ?_ dX3_readByte_46 cl_X3 ok_X3_readInWord rfl wd_2_36 ⟨Nat.le_of_ble_eq_true rfl, Nat.le_of_ble_eq_true rfl⟩ ⟨Nat.le_of_ble_eq_true rfl, Nat.le_of_ble_eq_true rfl⟩ rfl rfl
    exact r_ir dX3_readByte_49 rfl (Nat.le_of_ble_eq_true rfl) (Nat.le_of_ble_eq_true rfl)
  · refine r_aload_n (pc := 50) ?_ dX3_readByte_50 rfl
    refine r_iload_n (pc := 51) ?_ dX3_readByte_51 rfl
    refine r_iload_n (pc := 52) ?_ dX3_readByte_52 rfl
    refine r_cv0 (pc := 53) ?_ dX3_readByte_53 cl_X3 ok_X3_readBeforeNumber rfl wd_2_102 ⟨Nat.le_of_ble_eq_true rfl, Nat.le_of_ble_eq_true rfl⟩ ⟨Nat.le_of_ble_eq_true rfl, Nat.le_of_ble_eq_true rfl⟩ rfl rfl
    exact r_ir dX3_readByte_56 rfl (Nat.le_of_ble_eq_true rfl) (Nat.le_of_ble_eq_true rfl)
  · refine r_aload_n (pc := 57) ?_ dX3_readByte_57 rfl
    refine r_iload_n (pc := 58) ?_ dX3_readByte_58 rfl
    refine r_iload_n (pc := 59) ?_ dX3_readByte_59 rfl
    refine r_cv0 (pc := 60) ?_ dX3_readByte_60 cl_X3 ok_X3_readInNumber rfl wd_2_109 ⟨Nat.le_of_ble_eq_true rfl, Nat.le_of_ble_eq_true rfl⟩ ⟨Nat.le_of_ble_eq_true rfl, Nat.le_of_ble_eq_true rfl⟩ rfl rfl
    exact r_ir dX3_readByte_63 rfl (Nat.le_of_ble_eq_true rfl) (Nat.le_of_ble_eq_true rfl)
abbrev Y_X3_faultOfEnd : YT := (yX3_faultOfEnd, cX3_faultOfEnd, 1, (some .int), 7, 153, 0, 0)
theorem ok_X3_faultOfEnd : okV Y_X3_faultOfEnd 0 := ⟨⟨wd_2_124, wd_1_8, by decide, by decide, by decide +kernel⟩, wd_2_123, wp_10⟩
def R_X3_faultOfEnd_0 (l : Launch) (G : GT) (F : FX) (Q : PQ) (QX : PX) : KT := (I_al 0 (I_gi 1 5 11 (I_ifne (I_al 0 (I_gi 1 5 11 (I_ic 1 (I_icne (I_al 0 (I_gi 1 3 11 (I_ir Q))) (I_al 0 (I_al 0 (I_gi 1 6 11 (I_al 0 (I_gi 1 3 11 (I_cv (Tr true l G Y_X3_commandOf) 1 11 2 QX (I_ifnonnull (I_al 0 (I_gi 1 3 11 (I_ir Q))) (I_al 0 (I_gi 1 6 11 (I_ir Q)))))))))))))) (I_ic (-1) (I_ir Q)))))
set_option maxRecDepth 100000 in
theorem g_X3_faultOfEnd_0 {l : Launch} {G : GT} {F : FX} {Q : PQ} {QX : PX} : Le (R_X3_faultOfEnd_0 l G F Q QX) (Wj true l G F Y_X3_faultOfEnd Q QX 0 0 0) := by
  unfold R_X3_faultOfEnd_0
  refine r_aload_n (pc := 0) ?_ dX3_faultOfEnd_0 rfl
  refine r_gi (pc := 1) ?_ dX3_faultOfEnd_1 cl_X3 (Nat.le_of_ble_eq_true rfl) rfl wd_1_210
  refine r_ifne (pc := 4) (t := 9) ?_ ?_ dX3_faultOfEnd_4 (by decide)
  · refine r_aload_n (pc := 9) ?_ dX3_faultOfEnd_9 rfl
    refine r_gi (pc := 10) ?_ dX3_faultOfEnd_10 cl_X3 (Nat.le_of_ble_eq_true rfl) rfl wd_1_210
    refine r_iconst (pc := 13) ?_ dX3_faultOfEnd_13 (by decide)
    refine r_icne (pc := 14) (t := 37) ?_ ?_ dX3_faultOfEnd_14 (by decide)
    · refine r_aload_n (pc := 37) ?_ dX3_faultOfEnd_37 rfl
      refine r_gi (pc := 38) ?_ dX3_faultOfEnd_38 cl_X3 (Nat.le_of_ble_eq_true rfl) rfl wd_1_206
      exact r_ir dX3_faultOfEnd_41 rfl (Nat.le_of_ble_eq_true rfl) (Nat.le_of_ble_eq_true rfl)
    · refine r_aload_n (pc := 17) ?_ dX3_faultOfEnd_17 rfl
      refine r_aload_n (pc := 18) ?_ dX3_faultOfEnd_18 rfl
      refine r_gi (pc := 19) ?_ dX3_faultOfEnd_19 cl_X3 (Nat.le_of_ble_eq_true rfl) rfl wd_1_211
      refine r_aload_n (pc := 22) ?_ dX3_faultOfEnd_22 rfl
      refine r_gi (pc := 23) ?_ dX3_faultOfEnd_23 cl_X3 (Nat.le_of_ble_eq_true rfl) rfl wd_1_206
      refine r_cv0 (pc := 26) ?_ dX3_faultOfEnd_26 cl_X3 ok_X3_commandOf rfl wd_2_40 ⟨Nat.le_of_ble_eq_true rfl, Nat.le_of_ble_eq_true rfl⟩ ⟨Nat.le_of_ble_eq_true rfl, Nat.le_of_ble_eq_true rfl⟩ rfl rfl
      refine r_ifnonnull (pc := 29) (t := 37) ?_ ?_ dX3_faultOfEnd_29 (by decide)
      · refine r_aload_n (pc := 37) ?_ dX3_faultOfEnd_37 rfl
        refine r_gi (pc := 38) ?_ dX3_faultOfEnd_38 cl_X3 (Nat.le_of_ble_eq_true rfl) rfl wd_1_206
        exact r_ir dX3_faultOfEnd_41 rfl (Nat.le_of_ble_eq_true rfl) (Nat.le_of_ble_eq_true rfl)
      · refine r_aload_n (pc := 32) ?_ dX3_faultOfEnd_32 rfl
        refine r_gi (pc := 33) ?_ dX3_faultOfEnd_33 cl_X3 (Nat.le_of_ble_eq_true rfl) rfl wd_1_211
        exact r_ir dX3_faultOfEnd_36 rfl (Nat.le_of_ble_eq_true rfl) (Nat.le_of_ble_eq_true rfl)
  · refine r_iconst (pc := 7) ?_ dX3_faultOfEnd_7 (by decide)
    exact r_ir dX3_faultOfEnd_8 rfl (Nat.le_of_ble_eq_true rfl) (Nat.le_of_ble_eq_true rfl)
abbrev Y_X3_readCommands : YT := (yX3_readCommands, cX3_readCommands, 3, (some .int), 9, 198, 0, 0)
theorem ok_X3_readCommands : okV Y_X3_readCommands 0 := ⟨⟨wd_2_24, wd_1_8, by decide, by decide, by decide +kernel⟩, wd_2_22, wd_2_23⟩
def R_X3_readCommands_0 (l : Launch) (G : GT) (F : FX) (Q : PQ) (QX : PX) : KT := (I_al 0 (I_ic 0 (I_pi 1 4 11 (I_al 0 (I_ic 0 (I_pi 1 5 11 (I_ic 0 (I_is 1 (Wj true l G F Y_X3_readCommands Q QX 0 0 12)))))))))
set_option maxRecDepth 100000 in
theorem g_X3_readCommands_0 {l : Launch} {G : GT} {F : FX} {Q : PQ} {QX : PX} : Le (R_X3_readCommands_0 l G F Q QX) (Wj true l G F Y_X3_readCommands Q QX 0 0 0) := by
  unfold R_X3_readCommands_0
  refine r_aload_n (pc := 0) ?_ dX3_readCommands_0 rfl
  refine r_iconst (pc := 1) ?_ dX3_readCommands_1 (by decide)
  refine r_pi (pc := 2) ?_ dX3_readCommands_2 cl_X3 (Nat.le_of_ble_eq_true rfl) rfl wd_1_208 rfl pd_X3_4
  refine r_aload_n (pc := 5) ?_ dX3_readCommands_5 rfl
  refine r_iconst (pc := 6) ?_ dX3_readCommands_6 (by decide)
  refine r_pi (pc := 7) ?_ dX3_readCommands_7 cl_X3 (Nat.le_of_ble_eq_true rfl) rfl wd_1_210 rfl pd_X3_5
  refine r_iconst (pc := 10) ?_ dX3_readCommands_10 (by decide)
  refine r_istore_n (pc := 11) ?_ dX3_readCommands_11 rfl (Nat.le_of_ble_eq_true rfl)
  exact Le.rf
def R_X3_readCommands_12 (l : Launch) (G : GT) (F : FX) (Q : PQ) (QX : PX) : KT := (I_il 1 (I_al 0 (I_gi 1 3 11 (I_icge (I_al 0 (I_cv (Tr true l G Y_X3_faultOfEnd) 1 11 0 QX (I_ir Q))) (I_il 1 (I_ic 150 (I_icge (I_al 0 (I_cv (Tr true l G Y_X3_faultOfEnd) 1 11 0 QX (I_ir Q))) (I_al 0 (I_il 1 (I_al 0 (I_gp 1 11 1 (I_il 1 (I_ial (I_cv (Tr true l G Y_X3_readByte) 1 11 2 QX (I_is 2 (I_il 2 (I_ic (-1) (I_iceq (I_inc 1 1 (I_kl 2 (Wj true l G F Y_X3_readCommands Q QX 0 0 12))) (I_il 2 (I_ir Q))))))))))))))))))))
set_option maxRecDepth 100000 in
theorem g_X3_readCommands_12 {l : Launch} {G : GT} {F : FX} {Q : PQ} {QX : PX} : Le (R_X3_readCommands_12 l G F Q QX) (Wj true l G F Y_X3_readCommands Q QX 0 0 12) := by
  unfold R_X3_readCommands_12
  refine r_iload_n (pc := 12) ?_ dX3_readCommands_12 rfl
  refine r_aload_n (pc := 13) ?_ dX3_readCommands_13 rfl
  refine r_gi (pc := 14) ?_ dX3_readCommands_14 cl_X3 (Nat.le_of_ble_eq_true rfl) rfl wd_1_206
  refine r_icge (pc := 17) (t := 52) ?_ ?_ dX3_readCommands_17 (by decide)
  · refine r_aload_n (pc := 52) ?_ dX3_readCommands_52 rfl
    refine r_cv0 (pc := 53) ?_ dX3_readCommands_53 cl_X3 ok_X3_faultOfEnd rfl wd_2_121 ⟨Nat.le_of_ble_eq_true rfl, Nat.le_of_ble_eq_true rfl⟩ ⟨Nat.le_of_ble_eq_true rfl, Nat.le_of_ble_eq_true rfl⟩ rfl rfl
    exact r_ir dX3_readCommands_56 rfl (Nat.le_of_ble_eq_true rfl) (Nat.le_of_ble_eq_true rfl)
  · refine r_iload_n (pc := 20) ?_ dX3_readCommands_20 rfl
    refine r_sipush (pc := 21) ?_ dX3_readCommands_21 (by decide)
    refine r_icge (pc := 24) (t := 52) ?_ ?_ dX3_readCommands_24 (by decide)
    · refine r_aload_n (pc := 52) ?_ dX3_readCommands_52 rfl
      refine r_cv0 (pc := 53) ?_ dX3_readCommands_53 cl_X3 ok_X3_faultOfEnd rfl wd_2_121 ⟨Nat.le_of_ble_eq_true rfl, Nat.le_of_ble_eq_true rfl⟩ ⟨Nat.le_of_ble_eq_true rfl, Nat.le_of_ble_eq_true rfl⟩ rfl rfl
      exact r_ir dX3_readCommands_56 rfl (Nat.le_of_ble_eq_true rfl) (Nat.le_of_ble_eq_true rfl)
    · refine r_aload_n (pc := 27) ?_ dX3_readCommands_27 rfl
      refine r_iload_n (pc := 28) ?_ dX3_readCommands_28 rfl
      refine r_aload_n (pc := 29) ?_ dX3_readCommands_29 rfl
      refine r_gp (pc := 30) (kf := 0) ?_ dX3_readCommands_30 cl_X3 (Nat.le_of_ble_eq_true rfl) rfl wd_1_203 pv_X3_0
      refine r_iload_n (pc := 33) ?_ dX3_readCommands_33 rfl
      refine r_ial (pc := 34) ?_ dX3_readCommands_34
      refine r_cv0 (pc := 35) ?_ dX3_readCommands_35 cl_X3 ok_X3_readByte rfl wd_2_25 ⟨Nat.le_of_ble_eq_true rfl, Nat.le_of_ble_eq_true rfl⟩ ⟨Nat.le_of_ble_eq_true rfl, Nat.le_of_ble_eq_true rfl⟩ rfl rfl
      refine r_istore_n (pc := 38) ?_ dX3_readCommands_38 rfl (Nat.le_of_ble_eq_true rfl)
      refine r_iload_n (pc := 39) ?_ dX3_readCommands_39 rfl
      refine r_iconst (pc := 40) ?_ dX3_readCommands_40 (by decide)
      refine r_iceq (pc := 41) (t := 46) ?_ ?_ dX3_readCommands_41 (by decide)
      · refine r_iinc (pc := 46) ?_ dX3_readCommands_46 (by decide) (Nat.le_of_ble_eq_true rfl)
        refine r_goto (pc := 49) (t := 12) ?_ dX3_readCommands_49 (by decide)
        refine r_kl ?_
        exact Le.rf
      · refine r_iload_n (pc := 44) ?_ dX3_readCommands_44 rfl
        exact r_ir dX3_readCommands_45 rfl (Nat.le_of_ble_eq_true rfl) (Nat.le_of_ble_eq_true rfl)
abbrev Y_X8_save : YT := (yX8_save, cX8_save, 2, none, 4, 104, 0, 0)
theorem ok_X8_save : okV Y_X8_save 1 := ⟨⟨wd_2_128, wd_1_7, by decide, by decide, by decide +kernel⟩, wd_2_126, wd_2_127⟩
def R_X8_save_0 (l : Launch) (G : GT) (F : FX) (Q : PQ) (QX : PX) : KT := (I_al 0 (I_gp 6 3 1 (I_al 0 (I_gi 6 1 3 (I_al 0 (I_gi 6 2 3 (I_iadd (I_ic 4 (I_irem (I_aal 5 1 214 (I_al 1 (I_cv (Tr true l G Y_X7_copyState) 5 9 1 QX (I_al 0 (I_gi 6 2 3 (I_ic 4 (I_icge (I_al 0 (I_al 0 (I_gi 6 1 3 (I_ic 1 (I_iadd (I_ic 4 (I_irem (I_pi 6 1 3 (I_vr Q))))))))) (I_al 0 (I_dup (I_gi 6 2 3 (I_ic 1 (I_iadd (I_pi 6 2 3 (I_vr Q)))))))))))))))))))))))
set_option maxRecDepth 100000 in
theorem g_X8_save_0 {l : Launch} {G : GT} {F : FX} {Q : PQ} {QX : PX} : Le (R_X8_save_0 l G F Q QX) (Wj true l G F Y_X8_save Q QX 0 0 0) := by
  unfold R_X8_save_0
  refine r_aload_n (pc := 0) ?_ dX8_save_0 rfl
  refine r_gp (pc := 1) (kf := 0) ?_ dX8_save_1 cl_X8 (Nat.le_of_ble_eq_true rfl) rfl wd_1_183 pv_X8_0
  refine r_aload_n (pc := 4) ?_ dX8_save_4 rfl
  refine r_gi (pc := 5) ?_ dX8_save_5 cl_X8 (Nat.le_of_ble_eq_true rfl) rfl wd_1_184
  refine r_aload_n (pc := 8) ?_ dX8_save_8 rfl
  refine r_gi (pc := 9) ?_ dX8_save_9 cl_X8 (Nat.le_of_ble_eq_true rfl) rfl wd_1_185
  refine r_iadd (pc := 12) ?_ dX8_save_12
  refine r_iconst (pc := 13) ?_ dX8_save_13 (by decide)
  refine r_irem (pc := 14) ?_ dX8_save_14
  refine r_aal (pc := 15) ?_ dX8_save_15 rfl rfl pa_5
  refine r_aload_n (pc := 16) ?_ dX8_save_16 rfl
  refine r_cv0 (pc := 17) ?_ dX8_save_17 cl_X7 ok_X7_copyState rfl wd_2_129 ⟨Nat.le_of_ble_eq_true rfl, Nat.le_of_ble_eq_true rfl⟩ ⟨Nat.le_of_ble_eq_true rfl, Nat.le_of_ble_eq_true rfl⟩ rfl rfl
  refine r_aload_n (pc := 20) ?_ dX8_save_20 rfl
  refine r_gi (pc := 21) ?_ dX8_save_21 cl_X8 (Nat.le_of_ble_eq_true rfl) rfl wd_1_185
  refine r_iconst (pc := 24) ?_ dX8_save_24 (by decide)
  refine r_icge (pc := 25) (t := 41) ?_ ?_ dX8_save_25 (by decide)
  · refine r_aload_n (pc := 41) ?_ dX8_save_41 rfl
    refine r_aload_n (pc := 42) ?_ dX8_save_42 rfl
    refine r_gi (pc := 43) ?_ dX8_save_43 cl_X8 (Nat.le_of_ble_eq_true rfl) rfl wd_1_184
    refine r_iconst (pc := 46) ?_ dX8_save_46 (by decide)
    refine r_iadd (pc := 47) ?_ dX8_save_47
    refine r_iconst (pc := 48) ?_ dX8_save_48 (by decide)
    refine r_irem (pc := 49) ?_ dX8_save_49
    refine r_pi (pc := 50) ?_ dX8_save_50 cl_X8 (Nat.le_of_ble_eq_true rfl) rfl wd_1_184 rfl pd_X8_1
    exact r_vr dX8_save_53 rfl (Nat.le_of_ble_eq_true rfl) (Nat.le_of_ble_eq_true rfl)
  · refine r_aload_n (pc := 28) ?_ dX8_save_28 rfl
    refine r_dup (pc := 29) ?_ dX8_save_29
    refine r_gi (pc := 30) ?_ dX8_save_30 cl_X8 (Nat.le_of_ble_eq_true rfl) rfl wd_1_185
    refine r_iconst (pc := 33) ?_ dX8_save_33 (by decide)
    refine r_iadd (pc := 34) ?_ dX8_save_34
    refine r_pi (pc := 35) ?_ dX8_save_35 cl_X8 (Nat.le_of_ble_eq_true rfl) rfl wd_1_185 rfl pd_X8_2
    refine r_goto (pc := 38) (t := 53) ?_ dX8_save_38 (by decide)
    exact r_vr dX8_save_53 rfl (Nat.le_of_ble_eq_true rfl) (Nat.le_of_ble_eq_true rfl)
abbrev Y_X8_restore : YT := (yX8_restore, cX8_restore, 2, (some .int), 4, 104, 0, 0)
theorem ok_X8_restore : okV Y_X8_restore 1 := ⟨⟨wd_5_130, wd_1_7, by decide, by decide, by decide +kernel⟩, wd_5_128, wd_5_129⟩
def R_X8_restore_0 (l : Launch) (G : GT) (F : FX) (Q : PQ) (QX : PX) : KT := (I_al 0 (I_gi 6 2 3 (I_ifle (I_al 0 (I_gi 6 2 3 (I_ir Q))) (I_al 0 (I_dup (I_gi 6 2 3 (I_ic 1 (I_isub (I_pi 6 2 3 (I_al 1 (I_al 0 (I_gp 6 3 1 (I_al 0 (I_gi 6 1 3 (I_al 0 (I_gi 6 2 3 (I_iadd (I_ic 4 (I_irem (I_aal 5 1 214 (I_cv (Tr true l G Y_X7_copyState) 5 9 1 QX (I_al 0 (I_gi 6 2 3 (I_ir Q))))))))))))))))))))))))
set_option maxRecDepth 100000 in
theorem g_X8_restore_0 {l : Launch} {G : GT} {F : FX} {Q : PQ} {QX : PX} : Le (R_X8_restore_0 l G F Q QX) (Wj true l G F Y_X8_restore Q QX 0 0 0) := by
  unfold R_X8_restore_0
  refine r_aload_n (pc := 0) ?_ dX8_restore_0 rfl
  refine r_gi (pc := 1) ?_ dX8_restore_1 cl_X8 (Nat.le_of_ble_eq_true rfl) rfl wd_1_185
  refine r_ifle (pc := 4) (t := 37) ?_ ?_ dX8_restore_4 (by decide)
  · refine r_aload_n (pc := 37) ?_ dX8_restore_37 rfl
    refine r_gi (pc := 38) ?_ dX8_restore_38 cl_X8 (Nat.le_of_ble_eq_true rfl) rfl wd_1_185
    exact r_ir dX8_restore_41 rfl (Nat.le_of_ble_eq_true rfl) (Nat.le_of_ble_eq_true rfl)
  · refine r_aload_n (pc := 7) ?_ dX8_restore_7 rfl
    refine r_dup (pc := 8) ?_ dX8_restore_8
    refine r_gi (pc := 9) ?_ dX8_restore_9 cl_X8 (Nat.le_of_ble_eq_true rfl) rfl wd_1_185
    refine r_iconst (pc := 12) ?_ dX8_restore_12 (by decide)
    refine r_isub (pc := 13) ?_ dX8_restore_13
    refine r_pi (pc := 14) ?_ dX8_restore_14 cl_X8 (Nat.le_of_ble_eq_true rfl) rfl wd_1_185 rfl pd_X8_2
    refine r_aload_n (pc := 17) ?_ dX8_restore_17 rfl
    refine r_aload_n (pc := 18) ?_ dX8_restore_18 rfl
    refine r_gp (pc := 19) (kf := 0) ?_ dX8_restore_19 cl_X8 (Nat.le_of_ble_eq_true rfl) rfl wd_1_183 pv_X8_0
    refine r_aload_n (pc := 22) ?_ dX8_restore_22 rfl
    refine r_gi (pc := 23) ?_ dX8_restore_23 cl_X8 (Nat.le_of_ble_eq_true rfl) rfl wd_1_184
    refine r_aload_n (pc := 26) ?_ dX8_restore_26 rfl
    refine r_gi (pc := 27) ?_ dX8_restore_27 cl_X8 (Nat.le_of_ble_eq_true rfl) rfl wd_1_185
    refine r_iadd (pc := 30) ?_ dX8_restore_30
    refine r_iconst (pc := 31) ?_ dX8_restore_31 (by decide)
    refine r_irem (pc := 32) ?_ dX8_restore_32
    refine r_aal (pc := 33) ?_ dX8_restore_33 rfl rfl pa_5
    refine r_cv0 (pc := 34) ?_ dX8_restore_34 cl_X7 ok_X7_copyState rfl wd_2_129 ⟨Nat.le_of_ble_eq_true rfl, Nat.le_of_ble_eq_true rfl⟩ ⟨Nat.le_of_ble_eq_true rfl, Nat.le_of_ble_eq_true rfl⟩ rfl rfl
    refine r_aload_n (pc := 37) ?_ dX8_restore_37 rfl
    refine r_gi (pc := 38) ?_ dX8_restore_38 cl_X8 (Nat.le_of_ble_eq_true rfl) rfl wd_1_185
    exact r_ir dX8_restore_41 rfl (Nat.le_of_ble_eq_true rfl) (Nat.le_of_ble_eq_true rfl)
