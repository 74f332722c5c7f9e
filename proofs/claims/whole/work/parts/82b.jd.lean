/-! ===== methods of the platform: what they are, their regions ===== -/
abbrev Y_J3_checkIndex_8e157 : YT := (yJ3_checkIndex_8e157, cJ3_checkIndex_8e157, 3, (some .int), 0, 0, 0, 0)
theorem ok_J3_checkIndex_8e157 : okS Y_J3_checkIndex_8e157 3 := ⟨⟨wd_2_78, wd_1_20, by decide, by decide, by decide +kernel⟩, wd_2_77⟩
def R_J3_checkIndex_8e157_0 (l : Launch) (G : GT) (F : FX) (Q : PQ) (QX : PX) : KT := (I_il 0 (I_iflt I_no (I_il 0 (I_il 1 (I_iclt (I_il 0 (I_ir Q)) I_no)))))
set_option maxRecDepth 100000 in
theorem g_J3_checkIndex_8e157_0 {l : Launch} {G : GT} {F : FX} {Q : PQ} {QX : PX} : Le (R_J3_checkIndex_8e157_0 l G F Q QX) (Wj true l G F Y_J3_checkIndex_8e157 Q QX 0 0 0) := by
  unfold R_J3_checkIndex_8e157_0
  refine r_iload_n (pc := 0) ?_ dJ3_checkIndex_8e157_0 rfl
  refine r_iflt (pc := 1) (t := 9) ?_ ?_ dJ3_checkIndex_8e157_1 (by decide)
  · exact r_no
  · refine r_iload_n (pc := 4) ?_ dJ3_checkIndex_8e157_4 rfl
    refine r_iload_n (pc := 5) ?_ dJ3_checkIndex_8e157_5 rfl
    refine r_iclt (pc := 6) (t := 16) ?_ ?_ dJ3_checkIndex_8e157_6 (by decide)
    · refine r_iload_n (pc := 16) ?_ dJ3_checkIndex_8e157_16 rfl
      exact r_ir dJ3_checkIndex_8e157_17 rfl (Nat.le_of_ble_eq_true rfl) (Nat.le_of_ble_eq_true rfl)
    · exact r_no
abbrev Y_J0_checkIndex_df160 : YT := (yJ0_checkIndex_df160, cJ0_checkIndex_df160, 2, none, 1, 22, 0, 0)
theorem ok_J0_checkIndex_df160 : okS Y_J0_checkIndex_df160 2 := ⟨⟨wd_2_73, wd_1_18, by decide, by decide, by decide +kernel⟩, wd_2_72⟩
def R_J0_checkIndex_df160_0 (l : Launch) (G : GT) (F : FX) (Q : PQ) (QX : PX) : KT := (I_il 0 (I_il 1 (I_gf (I_cs (Tr true l G Y_J3_checkIndex_8e157) 3 QX (I_pop (I_vr Q))))))
set_option maxRecDepth 100000 in
theorem g_J0_checkIndex_df160_0 {l : Launch} {G : GT} {F : FX} {Q : PQ} {QX : PX} : Le (R_J0_checkIndex_df160_0 l G F Q QX) (Wj true l G F Y_J0_checkIndex_df160 Q QX 0 0 0) := by
  unfold R_J0_checkIndex_df160_0
  refine r_iload_n (pc := 0) ?_ dJ0_checkIndex_df160_0 rfl
  refine r_iload_n (pc := 1) ?_ dJ0_checkIndex_df160_1 rfl
  refine r_gf (pc := 2) ?_ dJ0_checkIndex_df160_2 wd_2_74
  refine r_cs0 (pc := 5) ?_ dJ0_checkIndex_df160_5 ok_J3_checkIndex_8e157 wd_2_76 ⟨Nat.le_of_ble_eq_true rfl, Nat.le_of_ble_eq_true rfl⟩ ⟨Nat.le_of_ble_eq_true rfl, Nat.le_of_ble_eq_true rfl⟩ rfl rfl
  refine r_pop (pc := 8) ?_ dJ0_checkIndex_df160_8
  exact r_vr dJ0_checkIndex_df160_9 rfl (Nat.le_of_ble_eq_true rfl) (Nat.le_of_ble_eq_true rfl)
abbrev Y_J1_charAt_3b067 : YT := (yJ1_charAt_3b067, cJ1_charAt_3b067, 2, (some .char), 2, 43, 0, 0)
theorem ok_J1_charAt_3b067 : okS Y_J1_charAt_3b067 2 := ⟨⟨wd_2_70, wd_1_19, by decide, by decide, by decide +kernel⟩, wd_2_69⟩
def R_J1_charAt_3b067_0 (l : Launch) (G : GT) (F : FX) (Q : PQ) (QX : PX) : KT := (I_il 1 (I_al 0 (I_sln (I_cs (Tr true l G Y_J0_checkIndex_df160) 2 QX (I_al 0 (I_il 1 (I_sbl (I_ic 255 (I_iand (I_i2c (I_nr .char Q)))))))))))
set_option maxRecDepth 100000 in
theorem g_J1_charAt_3b067_0 {l : Launch} {G : GT} {F : FX} {Q : PQ} {QX : PX} : Le (R_J1_charAt_3b067_0 l G F Q QX) (Wj true l G F Y_J1_charAt_3b067 Q QX 0 0 0) := by
  unfold R_J1_charAt_3b067_0
  refine r_iload_n (pc := 0) ?_ dJ1_charAt_3b067_0 rfl
  refine r_aload_n (pc := 1) ?_ dJ1_charAt_3b067_1 rfl
  refine r_sln (pc := 2) ?_ dJ1_charAt_3b067_2
  refine r_cs0 (pc := 3) ?_ dJ1_charAt_3b067_3 ok_J0_checkIndex_df160 wd_2_71 ⟨Nat.le_of_ble_eq_true rfl, Nat.le_of_ble_eq_true rfl⟩ ⟨Nat.le_of_ble_eq_true rfl, Nat.le_of_ble_eq_true rfl⟩ rfl rfl
  refine r_aload_n (pc := 6) ?_ dJ1_charAt_3b067_6 rfl
  refine r_iload_n (pc := 7) ?_ dJ1_charAt_3b067_7 rfl
  refine r_sbl (pc := 8) ?_ dJ1_charAt_3b067_8
  refine r_sipush (pc := 9) ?_ dJ1_charAt_3b067_9 (by decide)
  refine r_iand (pc := 12) ?_ dJ1_charAt_3b067_12
  refine r_i2c (pc := 13) ?_ dJ1_charAt_3b067_13
  exact r_nr dJ1_charAt_3b067_14 rfl (Nat.le_of_ble_eq_true rfl) (Nat.le_of_ble_eq_true rfl)
abbrev Y_J0_coder_7d493 : YT := (yJ0_coder_7d493, cJ0_coder_7d493, 1, (some .byte), 0, 0, 0, 0)
theorem okC_J0_coder_7d493 : okC Y_J0_coder_7d493 0 := ⟨wd_2_57, wd_1_18, by decide, by decide, by decide +kernel⟩
theorem okU_J0_coder_7d493 : okU Y_J0_coder_7d493 "java/lang/String" 0 := ⟨okC_J0_coder_7d493, wd_2_56, wd_2_55⟩
def R_J0_coder_7d493_0 (l : Launch) (G : GT) (F : FX) (Q : PQ) (QX : PX) : KT := (I_gs (.int 1) (I_ifeq (I_ic 1 (I_nr .byte Q)) (I_al 0 (I_sgf "java/lang/String" "coder" "B" (I_nr .byte Q)))))
set_option maxRecDepth 100000 in
theorem g_J0_coder_7d493_0 {l : Launch} {G : GT} {F : FX} {Q : PQ} {QX : PX} : Le (R_J0_coder_7d493_0 l G F Q QX) (Wj true l G F Y_J0_coder_7d493 Q QX 0 0 0) := by
  unfold R_J0_coder_7d493_0
  refine r_gs (pc := 0) (q := ("java/lang/String", "COMPACT_STRINGS", "Z", .int 1)) ?_ dJ0_coder_7d493_0 (by unfold SZt; simp) wd_2_58
  refine r_ifeq (pc := 3) (t := 13) ?_ ?_ dJ0_coder_7d493_3 (by decide)
  · refine r_iconst (pc := 13) ?_ dJ0_coder_7d493_13 (by decide)
    exact r_nr dJ0_coder_7d493_14 rfl (Nat.le_of_ble_eq_true rfl) (Nat.le_of_ble_eq_true rfl)
  · refine r_aload_n (pc := 6) ?_ dJ0_coder_7d493_6 rfl
    refine r_sgf (pc := 7) ?_ dJ0_coder_7d493_7 wd_7_92
    refine r_goto (pc := 10) (t := 14) ?_ dJ0_coder_7d493_10 (by decide)
    exact r_nr dJ0_coder_7d493_14 rfl (Nat.le_of_ble_eq_true rfl) (Nat.le_of_ble_eq_true rfl)
abbrev Y_J0_isLatin1_aae02 : YT := (yJ0_isLatin1_aae02, cJ0_isLatin1_aae02, 1, (some .boolean), 0, 0, 0, 0)
theorem okC_J0_isLatin1_aae02 : okC Y_J0_isLatin1_aae02 0 := ⟨wd_2_67, wd_1_18, by decide, by decide, by decide +kernel⟩
theorem okU_J0_isLatin1_aae02 : okU Y_J0_isLatin1_aae02 "java/lang/String" 0 := ⟨okC_J0_isLatin1_aae02, wd_2_66, wd_2_65⟩
def R_J0_isLatin1_aae02_0 (l : Launch) (G : GT) (F : FX) (Q : PQ) (QX : PX) : KT := (I_gs (.int 1) (I_ifeq (I_ic 0 (I_zr Q)) (I_al 0 (I_sgf "java/lang/String" "coder" "B" (I_ifne (I_ic 0 (I_zr Q)) (I_ic 1 (I_zr Q)))))))
set_option maxRecDepth 100000 in
theorem g_J0_isLatin1_aae02_0 {l : Launch} {G : GT} {F : FX} {Q : PQ} {QX : PX} : Le (R_J0_isLatin1_aae02_0 l G F Q QX) (Wj true l G F Y_J0_isLatin1_aae02 Q QX 0 0 0) := by
  unfold R_J0_isLatin1_aae02_0
  refine r_gs (pc := 0) (q := ("java/lang/String", "COMPACT_STRINGS", "Z", .int 1)) ?_ dJ0_isLatin1_aae02_0 (by unfold SZt; simp) wd_2_58
  refine r_ifeq (pc := 3) (t := 17) ?_ ?_ dJ0_isLatin1_aae02_3 (by decide)
  · refine r_iconst (pc := 17) ?_ dJ0_isLatin1_aae02_17 (by decide)
    exact r_zr dJ0_isLatin1_aae02_18 rfl (Nat.le_of_ble_eq_true rfl) (Nat.le_of_ble_eq_true rfl)
  · refine r_aload_n (pc := 6) ?_ dJ0_isLatin1_aae02_6 rfl
    refine r_sgf (pc := 7) ?_ dJ0_isLatin1_aae02_7 wd_7_92
    refine r_ifne (pc := 10) (t := 17) ?_ ?_ dJ0_isLatin1_aae02_10 (by decide)
    · refine r_iconst (pc := 17) ?_ dJ0_isLatin1_aae02_17 (by decide)
      exact r_zr dJ0_isLatin1_aae02_18 rfl (Nat.le_of_ble_eq_true rfl) (Nat.le_of_ble_eq_true rfl)
    · refine r_iconst (pc := 13) ?_ dJ0_isLatin1_aae02_13 (by decide)
      refine r_goto (pc := 14) (t := 18) ?_ dJ0_isLatin1_aae02_14 (by decide)
      exact r_zr dJ0_isLatin1_aae02_18 rfl (Nat.le_of_ble_eq_true rfl) (Nat.le_of_ble_eq_true rfl)
abbrev Y_J0_length_8abf5 : YT := (yJ0_length_8abf5, cJ0_length_8abf5, 1, (some .int), 1, 20, 0, 0)
theorem okC_J0_length_8abf5 : okC Y_J0_length_8abf5 0 := ⟨wd_2_53, wd_1_18, by decide, by decide, by decide +kernel⟩
theorem okU_J0_length_8abf5 : okU Y_J0_length_8abf5 "java/lang/String" 0 := ⟨okC_J0_length_8abf5, wd_2_52, wd_2_51⟩
def R_J0_length_8abf5_0 (l : Launch) (G : GT) (F : FX) (Q : PQ) (QX : PX) : KT := (I_al 0 (I_sgf "java/lang/String" "value" "[B" (I_sln (I_al 0 (I_cvS (Tr true l G Y_J0_coder_7d493) "java/lang/String" 0 QX (I_ishr (I_ir Q)))))))
set_option maxRecDepth 100000 in
theorem g_J0_length_8abf5_0 {l : Launch} {G : GT} {F : FX} {Q : PQ} {QX : PX} : Le (R_J0_length_8abf5_0 l G F Q QX) (Wj true l G F Y_J0_length_8abf5 Q QX 0 0 0) := by
  unfold R_J0_length_8abf5_0
  refine r_aload_n (pc := 0) ?_ dJ0_length_8abf5_0 rfl
  refine r_sgf (pc := 1) ?_ dJ0_length_8abf5_1 wd_7_91
  refine r_sln (pc := 4) ?_ dJ0_length_8abf5_4
  refine r_aload_n (pc := 5) ?_ dJ0_length_8abf5_5 rfl
  refine r_cvS (pc := 6) ?_ dJ0_length_8abf5_6 okU_J0_coder_7d493 wd_2_54 ⟨Nat.le_of_ble_eq_true rfl, Nat.le_of_ble_eq_true rfl⟩ ⟨Nat.le_of_ble_eq_true rfl, Nat.le_of_ble_eq_true rfl⟩ rfl rfl
  refine r_ishr (pc := 9) ?_ dJ0_length_8abf5_9
  exact r_ir dJ0_length_8abf5_10 rfl (Nat.le_of_ble_eq_true rfl) (Nat.le_of_ble_eq_true rfl)
abbrev Y_J0_charAt_5068e : YT := (yJ0_charAt_5068e, cJ0_charAt_5068e, 2, (some .char), 4, 85, 0, 0)
theorem okC_J0_charAt_5068e : okC Y_J0_charAt_5068e 1 := ⟨wd_2_63, wd_1_18, by decide, by decide, by decide +kernel⟩
theorem okU_J0_charAt_5068e : okU Y_J0_charAt_5068e "java/lang/String" 1 := ⟨okC_J0_charAt_5068e, wd_2_62, wd_2_61⟩
def R_J0_charAt_5068e_0 (l : Launch) (G : GT) (F : FX) (Q : PQ) (QX : PX) : KT := (I_al 0 (I_cvS (Tr true l G Y_J0_isLatin1_aae02) "java/lang/String" 0 QX (I_ifeq I_no (I_al 0 (I_sgf "java/lang/String" "value" "[B" (I_il 1 (I_cs (Tr true l G Y_J1_charAt_3b067) 2 QX (I_nr .char Q))))))))
set_option maxRecDepth 100000 in
theorem g_J0_charAt_5068e_0 {l : Launch} {G : GT} {F : FX} {Q : PQ} {QX : PX} : Le (R_J0_charAt_5068e_0 l G F Q QX) (Wj true l G F Y_J0_charAt_5068e Q QX 0 0 0) := by
  unfold R_J0_charAt_5068e_0
  refine r_aload_n (pc := 0) ?_ dJ0_charAt_5068e_0 rfl
  refine r_cvS (pc := 1) ?_ dJ0_charAt_5068e_1 okU_J0_isLatin1_aae02 wd_2_64 ⟨Nat.le_of_ble_eq_true rfl, Nat.le_of_ble_eq_true rfl⟩ ⟨Nat.le_of_ble_eq_true rfl, Nat.le_of_ble_eq_true rfl⟩ rfl rfl
  refine r_ifeq (pc := 4) (t := 16) ?_ ?_ dJ0_charAt_5068e_4 (by decide)
  · exact r_no
  · refine r_aload_n (pc := 7) ?_ dJ0_charAt_5068e_7 rfl
    refine r_sgf (pc := 8) ?_ dJ0_charAt_5068e_8 wd_7_91
    refine r_iload_n (pc := 11) ?_ dJ0_charAt_5068e_11 rfl
    refine r_cs0 (pc := 12) ?_ dJ0_charAt_5068e_12 ok_J1_charAt_3b067 wd_2_68 ⟨Nat.le_of_ble_eq_true rfl, Nat.le_of_ble_eq_true rfl⟩ ⟨Nat.le_of_ble_eq_true rfl, Nat.le_of_ble_eq_true rfl⟩ rfl rfl
    exact r_nr dJ0_charAt_5068e_15 rfl (Nat.le_of_ble_eq_true rfl) (Nat.le_of_ble_eq_true rfl)
section EN
variable {l : Launch} {G : GT} {Q : PQ} {QX : PX} {M : Mm}
theorem en_J3_checkIndex_8e157n {a0 : Int32} {a1 : Int32} (body : ∀ F, R_J3_checkIndex_8e157_0 l G F Q QX [.int a0, .int a1, .null] [] M) : Tr true l G Y_J3_checkIndex_8e157 [.int a0, .int a1, .null] M Q QX := tr_of (by decide) (Nat.le_of_ble_eq_true rfl) rfl fun F => g_J3_checkIndex_8e157_0 _ _ _ (body F)
theorem en_J3_checkIndex_8e157r {a0 : Int32} {a1 : Int32} {a2 : Nat} (body : ∀ F, R_J3_checkIndex_8e157_0 l G F Q QX [.int a0, .int a1, .ref a2] [] M) : Tr true l G Y_J3_checkIndex_8e157 [.int a0, .int a1, .ref a2] M Q QX := tr_of (by decide) (Nat.le_of_ble_eq_true rfl) rfl fun F => g_J3_checkIndex_8e157_0 _ _ _ (body F)
theorem en_J0_checkIndex_df160 {a0 : Int32} {a1 : Int32} (body : ∀ F, R_J0_checkIndex_df160_0 l G F Q QX [.int a0, .int a1] [] M) : Tr true l G Y_J0_checkIndex_df160 [.int a0, .int a1] M Q QX := tr_of (by decide) (Nat.le_of_ble_eq_true rfl) rfl fun F => g_J0_checkIndex_df160_0 _ _ _ (body F)
theorem en_J1_charAt_3b067 {a0 : Nat} {a1 : Int32} (body : ∀ F, R_J1_charAt_3b067_0 l G F Q QX [.ref a0, .int a1] [] M) : Tr true l G Y_J1_charAt_3b067 [.ref a0, .int a1] M Q QX := tr_of (by decide) (Nat.le_of_ble_eq_true rfl) rfl fun F => g_J1_charAt_3b067_0 _ _ _ (body F)
theorem en_J0_coder_7d493 {o : Nat} (body : ∀ F, R_J0_coder_7d493_0 l G F Q QX [.ref o] [] M) : Tr true l G Y_J0_coder_7d493 [.ref o] M Q QX := tr_of (by decide) (Nat.le_of_ble_eq_true rfl) rfl fun F => g_J0_coder_7d493_0 _ _ _ (body F)
theorem en_J0_isLatin1_aae02 {o : Nat} (body : ∀ F, R_J0_isLatin1_aae02_0 l G F Q QX [.ref o] [] M) : Tr true l G Y_J0_isLatin1_aae02 [.ref o] M Q QX := tr_of (by decide) (Nat.le_of_ble_eq_true rfl) rfl fun F => g_J0_isLatin1_aae02_0 _ _ _ (body F)
theorem en_J0_length_8abf5 {o : Nat} (body : ∀ F, R_J0_length_8abf5_0 l G F Q QX [.ref o] [] M) : Tr true l G Y_J0_length_8abf5 [.ref o] M Q QX := tr_of (by decide) (Nat.le_of_ble_eq_true rfl) rfl fun F => g_J0_length_8abf5_0 _ _ _ (body F)
theorem en_J0_charAt_5068e {o : Nat} {a0 : Int32} (body : ∀ F, R_J0_charAt_5068e_0 l G F Q QX [.ref o, .int a0] [] M) : Tr true l G Y_J0_charAt_5068e [.ref o, .int a0] M Q QX := tr_of (by decide) (Nat.le_of_ble_eq_true rfl) rfl fun F => g_J0_charAt_5068e_0 _ _ _ (body F)
end EN
