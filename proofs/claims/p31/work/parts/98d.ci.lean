/-! ===== the constructors: their regions ===== -/
theorem df_X1 : ∀ j, j < 11 → defaultValue (tyX1 j) = dvF 0 j := by decide +kernel
theorem df_X3 : ∀ j, j < 11 → defaultValue (tyX3 j) = dvF 1 j := by decide +kernel
theorem df_X4 : ∀ j, j < 2 → defaultValue (tyX4 j) = dvF 2 j := by decide +kernel
theorem df_X5 : ∀ j, j < 2 → defaultValue (tyX5 j) = dvF 3 j := by decide +kernel
theorem df_X6 : ∀ j, j < 3 → defaultValue (tyX6 j) = dvF 4 j := by decide +kernel
theorem df_X7 : ∀ j, j < 9 → defaultValue (tyX7 j) = dvF 5 j := by decide +kernel
theorem df_X8 : ∀ j, j < 3 → defaultValue (tyX8 j) = dvF 6 j := by decide +kernel
theorem df_X9 : ∀ j, j < 3 → defaultValue (tyX9 j) = dvF 7 j := by decide +kernel
section CIR
variable {l : Launch} {G : GT} {M : Mm} {Q : PQ} {QX : PX} {F : FX}
abbrev Y_X6_init : YT := (yX6_init, cX6_init, 1, none, 1, 12, 0, 0)
theorem ok_X6_init : okC Y_X6_init 0 := ⟨wd_1_40, wd_1_3, by decide, by decide, by decide +kernel⟩
def R_X6_init_0 (l : Launch) (G : GT) (F : FX) (Q : PQ) (QX : PX) : KT := (I_al 0 (I_oi (I_vr Q)))
set_option maxRecDepth 100000 in
theorem g_X6_init_0 : Le (R_X6_init_0 l G F Q QX) (Wj false l G F Y_X6_init Q QX 0 0 0) := by
  unfold R_X6_init_0
  refine r_aload_n (pc := 0) ?_ dX6_init_0 rfl
  refine r_oi (pc := 1) ?_ dX6_init_1 wd_1_41 ⟨Nat.le_of_ble_eq_true rfl, Nat.le_of_ble_eq_true rfl⟩
  exact r_vr dX6_init_4 rfl (Nat.le_of_ble_eq_true rfl) (Nat.le_of_ble_eq_true rfl)
theorem en_X6_init {o : Nat} (body : ∀ F, R_X6_init_0 l G F Q QX [.ref o] [] M) : Tr false l G Y_X6_init [.ref o] M Q QX := tr_of (by decide) (Nat.le_of_ble_eq_true rfl) rfl fun F => g_X6_init_0 _ _ _ (body F)
abbrev Y_X4_init : YT := (yX4_init, cX4_init, 1, none, 1, 12, 1, 4)
theorem ok_X4_init : okC Y_X4_init 0 := ⟨wd_1_81, wd_1_6, by decide, by decide, by decide +kernel⟩
def R_X4_init_0 (l : Launch) (G : GT) (F : FX) (Q : PQ) (QX : PX) : KT := (I_al 0 (I_oi (I_al 0 (I_ic 4 (I_naL 4 4 (I_pp 2 0 2 (I_vr Q)))))))
set_option maxRecDepth 100000 in
theorem g_X4_init_0 : Le (R_X4_init_0 l G F Q QX) (Wj false l G F Y_X4_init Q QX 0 0 0) := by
  unfold R_X4_init_0
  refine r_aload_n (pc := 0) ?_ dX4_init_0 rfl
  refine r_oi (pc := 1) ?_ dX4_init_1 wd_1_82 ⟨Nat.le_of_ble_eq_true rfl, Nat.le_of_ble_eq_true rfl⟩
  refine r_aload_n (pc := 4) ?_ dX4_init_4 rfl
  refine r_iconst (pc := 5) ?_ dX4_init_5 (by decide)
  refine r_naL (pc := 6) (k := 0) (n := 0) (len := 4) ?_ dX4_init_6 wd_1_91 (by decide) (by decide) (Nat.le_of_ble_eq_true rfl) ⟨Nat.le_of_ble_eq_true rfl, Nat.le_of_ble_eq_true rfl⟩
  refine r_pp (pc := 8) (kf := 0) ?_ dX4_init_8 cl_X4 (Nat.le_of_ble_eq_true rfl) rfl wd_1_83 rfl rfl rfl rfl (fun _ => ⟨rfl, rfl⟩)
  exact r_vr dX4_init_11 rfl (Nat.le_of_ble_eq_true rfl) (Nat.le_of_ble_eq_true rfl)
theorem en_X4_init {o : Nat} (body : ∀ F, R_X4_init_0 l G F Q QX [.ref o] [] M) : Tr false l G Y_X4_init [.ref o] M Q QX := tr_of (by decide) (Nat.le_of_ble_eq_true rfl) rfl fun F => g_X4_init_0 _ _ _ (body F)
abbrev Y_X5_init : YT := (yX5_init, cX5_init, 1, none, 1, 12, 5, 84)
theorem ok_X5_init : okC Y_X5_init 0 := ⟨wd_1_65, wd_1_5, by decide, by decide, by decide +kernel⟩
def R_X5_init_0 (l : Launch) (G : GT) (F : FX) (Q : PQ) (QX : PX) : KT := (I_al 0 (I_oi (I_al 0 (I_ic 4 (I_ic 20 (I_mnA 4 20 4 20 (I_pp 3 0 2 (I_vr Q))))))))
set_option maxRecDepth 100000 in
theorem g_X5_init_0 : Le (R_X5_init_0 l G F Q QX) (Wj false l G F Y_X5_init Q QX 0 0 0) := by
  unfold R_X5_init_0
  refine r_aload_n (pc := 0) ?_ dX5_init_0 rfl
  refine r_oi (pc := 1) ?_ dX5_init_1 wd_1_66 ⟨Nat.le_of_ble_eq_true rfl, Nat.le_of_ble_eq_true rfl⟩
  refine r_aload_n (pc := 4) ?_ dX5_init_4 rfl
  refine r_iconst (pc := 5) ?_ dX5_init_5 (by decide)
  refine r_bipush (pc := 6) ?_ dX5_init_6 (by decide)
  refine r_mnA (pc := 8) (k := 0) (n := 0) (N := 4) (D := 20) ?_ dX5_init_8 wd_1_67 (by decide) (by decide) (by decide) (by decide) ⟨Nat.le_of_ble_eq_true rfl, Nat.le_of_ble_eq_true rfl⟩ ⟨Nat.le_of_ble_eq_true rfl, Nat.le_of_ble_eq_true rfl⟩
  refine r_pp (pc := 12) (kf := 0) ?_ dX5_init_12 cl_X5 (Nat.le_of_ble_eq_true rfl) rfl wd_1_68 rfl rfl rfl rfl (fun _ => ⟨rfl, rfl⟩)
  exact r_vr dX5_init_15 rfl (Nat.le_of_ble_eq_true rfl) (Nat.le_of_ble_eq_true rfl)
theorem en_X5_init {o : Nat} (body : ∀ F, R_X5_init_0 l G F Q QX [.ref o] [] M) : Tr false l G Y_X5_init [.ref o] M Q QX := tr_of (by decide) (Nat.le_of_ble_eq_true rfl) rfl fun F => g_X5_init_0 _ _ _ (body F)
abbrev Y_X1_init : YT := (yX1_init, cX1_init, 1, none, 2, 32, 17, 187)
theorem ok_X1_init : okC Y_X1_init 0 := ⟨wd_1_59, wd_1_4, by decide, by decide, by decide +kernel⟩
def R_X1_init_0 (l : Launch) (G : GT) (F : FX) (Q : PQ) (QX : PX) : KT := (I_al 0 (I_oi (I_al 0 (I_ic 3 (I_naI 3 3 (I_pp 0 0 11 (I_al 0 (I_new 3 2 (I_dup (I_ci (fun As M Q => Tr false l G Y_X5_init As M Q NX) (I_pp 0 1 11 (I_al 0 (I_new 3 2 (I_dup (I_ci (fun As M Q => Tr false l G Y_X5_init As M Q NX) (I_pp 0 2 11 (I_al 0 (I_new 2 2 (I_dup (I_ci (fun As M Q => Tr false l G Y_X4_init As M Q NX) (I_pp 0 3 11 (I_al 0 (I_new 2 2 (I_dup (I_ci (fun As M Q => Tr false l G Y_X4_init As M Q NX) (I_pp 0 4 11 (I_vr Q)))))))))))))))))))))))))))
set_option maxRecDepth 100000 in
theorem g_X1_init_0 : Le (R_X1_init_0 l G F Q QX) (Wj false l G F Y_X1_init Q QX 0 0 0) := by
  unfold R_X1_init_0
  refine r_aload_n (pc := 0) ?_ dX1_init_0 rfl
  refine r_oi (pc := 1) ?_ dX1_init_1 wd_1_60 ⟨Nat.le_of_ble_eq_true rfl, Nat.le_of_ble_eq_true rfl⟩
  refine r_aload_n (pc := 4) ?_ dX1_init_4 rfl
  refine r_iconst (pc := 5) ?_ dX1_init_5 (by decide)
  refine r_naI (pc := 6) (k := 0) (n := 0) (len := 3) ?_ dX1_init_6 wd_1_55 (by decide) (by decide) (Nat.le_of_ble_eq_true rfl) ⟨Nat.le_of_ble_eq_true rfl, Nat.le_of_ble_eq_true rfl⟩
  refine r_pp (pc := 8) (kf := 0) ?_ dX1_init_8 cl_X1 (Nat.le_of_ble_eq_true rfl) rfl wd_1_92 rfl rfl rfl rfl (fun _ => ⟨rfl, rfl⟩)
  refine r_aload_n (pc := 11) ?_ dX1_init_11 rfl
  refine r_new (pc := 12) (k := 1) (n := 3) ?_ dX1_init_12 cl_X5 wd_1_61 wd_1_62 wd_1_5 df_X5 ⟨Nat.le_of_ble_eq_true rfl, Nat.le_of_ble_eq_true rfl⟩
  refine r_dup (pc := 15) ?_ dX1_init_15
  refine r_ciN (pc := 16) (k := 2) (n := 5) (Yc := Y_X5_init) ?_ dX1_init_16 ok_X5_init rfl rfl wd_1_64 (List.mem_cons_of_mem _ (List.mem_cons_of_mem _ (List.mem_cons_self ..))) ⟨Nat.le_of_ble_eq_true rfl, Nat.le_of_ble_eq_true rfl⟩ ⟨Nat.le_of_ble_eq_true rfl, Nat.le_of_ble_eq_true rfl⟩
  refine r_pp (pc := 19) (kf := 1) ?_ dX1_init_19 cl_X1 (Nat.le_of_ble_eq_true rfl) rfl wd_1_93 rfl rfl rfl rfl (fun _ => ⟨rfl, rfl⟩)
  refine r_aload_n (pc := 22) ?_ dX1_init_22 rfl
  refine r_new (pc := 23) (k := 7) (n := 89) ?_ dX1_init_23 cl_X5 wd_1_61 wd_1_62 wd_1_5 df_X5 ⟨Nat.le_of_ble_eq_true rfl, Nat.le_of_ble_eq_true rfl⟩
  refine r_dup (pc := 26) ?_ dX1_init_26
  refine r_ciN (pc := 27) (k := 8) (n := 91) (Yc := Y_X5_init) ?_ dX1_init_27 ok_X5_init rfl rfl wd_1_64 (List.mem_cons_of_mem _ (List.mem_cons_of_mem _ (List.mem_cons_self ..))) ⟨Nat.le_of_ble_eq_true rfl, Nat.le_of_ble_eq_true rfl⟩ ⟨Nat.le_of_ble_eq_true rfl, Nat.le_of_ble_eq_true rfl⟩
  refine r_pp (pc := 30) (kf := 2) ?_ dX1_init_30 cl_X1 (Nat.le_of_ble_eq_true rfl) rfl wd_1_95 rfl rfl rfl rfl (fun _ => ⟨rfl, rfl⟩)
  refine r_aload_n (pc := 33) ?_ dX1_init_33 rfl
  refine r_new (pc := 34) (k := 13) (n := 175) ?_ dX1_init_34 cl_X4 wd_1_77 wd_1_78 wd_1_6 df_X4 ⟨Nat.le_of_ble_eq_true rfl, Nat.le_of_ble_eq_true rfl⟩
  refine r_dup (pc := 37) ?_ dX1_init_37
  refine r_ciN (pc := 38) (k := 14) (n := 177) (Yc := Y_X4_init) ?_ dX1_init_38 ok_X4_init rfl rfl wd_1_80 (List.mem_cons_of_mem _ (List.mem_cons_of_mem _ (List.mem_cons_of_mem _ (List.mem_cons_self ..)))) ⟨Nat.le_of_ble_eq_true rfl, Nat.le_of_ble_eq_true rfl⟩ ⟨Nat.le_of_ble_eq_true rfl, Nat.le_of_ble_eq_true rfl⟩
  refine r_pp (pc := 41) (kf := 3) ?_ dX1_init_41 cl_X1 (Nat.le_of_ble_eq_true rfl) rfl wd_1_97 rfl rfl rfl rfl (fun _ => ⟨rfl, rfl⟩)
  refine r_aload_n (pc := 44) ?_ dX1_init_44 rfl
  refine r_new (pc := 45) (k := 15) (n := 181) ?_ dX1_init_45 cl_X4 wd_1_77 wd_1_78 wd_1_6 df_X4 ⟨Nat.le_of_ble_eq_true rfl, Nat.le_of_ble_eq_true rfl⟩
  refine r_dup (pc := 48) ?_ dX1_init_48
  refine r_ciN (pc := 49) (k := 16) (n := 183) (Yc := Y_X4_init) ?_ dX1_init_49 ok_X4_init rfl rfl wd_1_80 (List.mem_cons_of_mem _ (List.mem_cons_of_mem _ (List.mem_cons_of_mem _ (List.mem_cons_self ..)))) ⟨Nat.le_of_ble_eq_true rfl, Nat.le_of_ble_eq_true rfl⟩ ⟨Nat.le_of_ble_eq_true rfl, Nat.le_of_ble_eq_true rfl⟩
  refine r_pp (pc := 52) (kf := 4) ?_ dX1_init_52 cl_X1 (Nat.le_of_ble_eq_true rfl) rfl wd_1_99 rfl rfl rfl rfl (fun _ => ⟨rfl, rfl⟩)
  exact r_vr dX1_init_55 rfl (Nat.le_of_ble_eq_true rfl) (Nat.le_of_ble_eq_true rfl)
theorem en_X1_init {o : Nat} (body : ∀ F, R_X1_init_0 l G F Q QX [.ref o] [] M) : Tr false l G Y_X1_init [.ref o] M Q QX := tr_of (by decide) (Nat.le_of_ble_eq_true rfl) rfl fun F => g_X1_init_0 _ _ _ (body F)
abbrev Y_X7_init : YT := (yX7_init, cX7_init, 2, none, 3, 52, 213, 2235)
theorem ok_X7_init : okC Y_X7_init 0 := ⟨wd_1_29, wd_1_2, by decide, by decide, by decide +kernel⟩
def R_X7_init_0 (l : Launch) (G : GT) (F : FX) (Q : PQ) (QX : PX) : KT := (I_al 0 (I_oi (I_al 0 (I_ic 5 (I_ic 3 (I_mnA 5 3 5 3 (I_pp 5 0 9 (I_al 0 (I_ic 6 (I_naA 6 3 6 (I_pp 5 1 9 (I_al 0 (I_ic 10 (I_naA 10 4 10 (I_pp 5 2 9 (I_al 0 (I_new 4 3 (I_dup (I_ci (fun As M Q => Tr false l G Y_X6_init As M Q NX) (I_pp 5 3 9 (I_al 0 (I_new 0 11 (I_dup (I_ci (fun As M Q => Tr false l G Y_X1_init As M Q NX) (I_pp 5 4 9 (I_ic 0 (I_is 1 (Wj false l G F Y_X7_init Q QX 27 237 56))))))))))))))))))))))))))))
set_option maxRecDepth 100000 in
theorem g_X7_init_0 : Le (R_X7_init_0 l G F Q QX) (Wj false l G F Y_X7_init Q QX 0 0 0) := by
  unfold R_X7_init_0
  refine r_aload_n (pc := 0) ?_ dX7_init_0 rfl
  refine r_oi (pc := 1) ?_ dX7_init_1 wd_1_30 ⟨Nat.le_of_ble_eq_true rfl, Nat.le_of_ble_eq_true rfl⟩
  refine r_aload_n (pc := 4) ?_ dX7_init_4 rfl
  refine r_iconst (pc := 5) ?_ dX7_init_5 (by decide)
  refine r_iconst (pc := 6) ?_ dX7_init_6 (by decide)
  refine r_mnA (pc := 7) (k := 0) (n := 0) (N := 5) (D := 3) ?_ dX7_init_7 wd_1_31 (by decide) (by decide) (by decide) (by decide) ⟨Nat.le_of_ble_eq_true rfl, Nat.le_of_ble_eq_true rfl⟩ ⟨Nat.le_of_ble_eq_true rfl, Nat.le_of_ble_eq_true rfl⟩
  refine r_pp (pc := 11) (kf := 0) ?_ dX7_init_11 cl_X7 (Nat.le_of_ble_eq_true rfl) rfl wd_1_136 rfl rfl rfl rfl (fun _ => ⟨rfl, rfl⟩)
  refine r_aload_n (pc := 14) ?_ dX7_init_14 rfl
  refine r_bipush (pc := 15) ?_ dX7_init_15 (by decide)
  refine r_naA (pc := 17) (k := 6) (n := 20) (ci := 3) (len := 6) ?_ dX7_init_17 wd_1_33 (List.mem_cons_self ..) rfl (by decide) (by decide) (by decide) (Nat.le_of_ble_eq_true rfl) ⟨Nat.le_of_ble_eq_true rfl, Nat.le_of_ble_eq_true rfl⟩
  refine r_pp (pc := 20) (kf := 1) ?_ dX7_init_20 cl_X7 (Nat.le_of_ble_eq_true rfl) rfl wd_1_137 rfl rfl rfl rfl (fun _ => ⟨rfl, rfl⟩)
  refine r_aload_n (pc := 23) ?_ dX7_init_23 rfl
  refine r_bipush (pc := 24) ?_ dX7_init_24 (by decide)
  refine r_naA (pc := 26) (k := 7) (n := 26) (ci := 4) (len := 10) ?_ dX7_init_26 wd_1_35 (List.mem_cons_of_mem _ (List.mem_cons_self ..)) rfl (by decide) (by decide) (by decide) (Nat.le_of_ble_eq_true rfl) ⟨Nat.le_of_ble_eq_true rfl, Nat.le_of_ble_eq_true rfl⟩
  refine r_pp (pc := 29) (kf := 2) ?_ dX7_init_29 cl_X7 (Nat.le_of_ble_eq_true rfl) rfl wd_1_138 rfl rfl rfl rfl (fun _ => ⟨rfl, rfl⟩)
  refine r_aload_n (pc := 32) ?_ dX7_init_32 rfl
  refine r_new (pc := 33) (k := 8) (n := 36) ?_ dX7_init_33 cl_X6 wd_1_33 wd_1_37 wd_1_3 df_X6 ⟨Nat.le_of_ble_eq_true rfl, Nat.le_of_ble_eq_true rfl⟩
  refine r_dup (pc := 36) ?_ dX7_init_36
  refine r_ciN (pc := 37) (k := 9) (n := 39) (Yc := Y_X6_init) ?_ dX7_init_37 ok_X6_init rfl rfl wd_1_39 (List.mem_cons_self ..) ⟨Nat.le_of_ble_eq_true rfl, Nat.le_of_ble_eq_true rfl⟩ ⟨Nat.le_of_ble_eq_true rfl, Nat.le_of_ble_eq_true rfl⟩
  refine r_pp (pc := 40) (kf := 3) ?_ dX7_init_40 cl_X7 (Nat.le_of_ble_eq_true rfl) rfl wd_1_139 rfl rfl rfl rfl (fun _ => ⟨rfl, rfl⟩)
  refine r_aload_n (pc := 43) ?_ dX7_init_43 rfl
  refine r_new (pc := 44) (k := 9) (n := 39) ?_ dX7_init_44 cl_X1 wd_1_35 wd_1_56 wd_1_4 df_X1 ⟨Nat.le_of_ble_eq_true rfl, Nat.le_of_ble_eq_true rfl⟩
  refine r_dup (pc := 47) ?_ dX7_init_47
  refine r_ciN (pc := 48) (k := 10) (n := 50) (Yc := Y_X1_init) ?_ dX7_init_48 ok_X1_init rfl rfl wd_1_58 (List.mem_cons_of_mem _ (List.mem_cons_self ..)) ⟨Nat.le_of_ble_eq_true rfl, Nat.le_of_ble_eq_true rfl⟩ ⟨Nat.le_of_ble_eq_true rfl, Nat.le_of_ble_eq_true rfl⟩
  refine r_pp (pc := 51) (kf := 4) ?_ dX7_init_51 cl_X7 (Nat.le_of_ble_eq_true rfl) rfl wd_1_140 rfl rfl rfl rfl (fun _ => ⟨rfl, rfl⟩)
  refine r_iconst (pc := 54) ?_ dX7_init_54 (by decide)
  refine r_istore_n (pc := 55) ?_ dX7_init_55 rfl (Nat.le_of_ble_eq_true rfl)
  exact Le.rf
theorem en_X7_init {o : Nat} (body : ∀ F, R_X7_init_0 l G F Q QX [.ref o, xx] [] M) : Tr false l G Y_X7_init [.ref o] M Q QX := tr_of (by decide) (Nat.le_of_ble_eq_true rfl) rfl fun F => g_X7_init_0 _ _ _ (body F)
def R_X7_init_56 (l : Launch) (G : GT) (F : FX) (Q : PQ) (QX : PX) (k n : Nat) : KT := (I_il 1 (I_ic 6 (I_icge (I_ic 0 (I_is 1 (Wj false l G F Y_X7_init Q QX k n 83))) (I_al 0 (I_gq 5 1 9 (I_il 1 (I_new 4 3 (I_dup (I_ci (fun As M Q => Tr false l G Y_X6_init As M Q NX) (I_asz 3 6 4 3 (I_inc 1 1 (Wj false l G F Y_X7_init Q QX (k + 1) (n + 3) 56))))))))))))
set_option maxRecDepth 100000 in
theorem g_X7_init_56 {k n : Nat} (hk : k + 1 ≤ 213 ∧ n + 3 ≤ 2235) : Le (R_X7_init_56 l G F Q QX k n) (Wj false l G F Y_X7_init Q QX k n 56) := by
  unfold R_X7_init_56
  refine r_iload_n (pc := 56) ?_ dX7_init_56 rfl
  refine r_bipush (pc := 57) ?_ dX7_init_57 (by decide)
  refine r_icge (pc := 59) (t := 81) ?_ ?_ dX7_init_59 (by decide)
  · refine r_iconst (pc := 81) ?_ dX7_init_81 (by decide)
    refine r_istore_n (pc := 82) ?_ dX7_init_82 rfl (Nat.le_of_ble_eq_true rfl)
    exact Le.rf
  · refine r_aload_n (pc := 62) ?_ dX7_init_62 rfl
    refine r_gq (pc := 63) (kf := 1) ?_ dX7_init_63 cl_X7 (Nat.le_of_ble_eq_true rfl) rfl wd_1_137
    refine r_iload_n (pc := 66) ?_ dX7_init_66 rfl
    refine r_new (pc := 67) (k := k) (n := n) ?_ dX7_init_67 cl_X6 wd_1_33 wd_1_37 wd_1_3 df_X6 ⟨(show k + 1 ≤ 213 by omega), (show n + 3 ≤ 2235 by omega)⟩
    refine r_dup (pc := 70) ?_ dX7_init_70
    refine r_ciN (pc := 71) (k := (k + 1)) (n := (n + 3)) (Yc := Y_X6_init) ?_ dX7_init_71 ok_X6_init rfl rfl wd_1_39 (List.mem_cons_self ..) ⟨Nat.le_of_ble_eq_true rfl, Nat.le_of_ble_eq_true rfl⟩ ⟨(show (k + 1) + 0 ≤ 213 by omega), (show (n + 3) + 0 ≤ 2235 by omega)⟩
    refine r_asz (pc := 74) (c0 := 3) ?_ dX7_init_74 cl_X6 rfl
    refine r_iinc (pc := 75) ?_ dX7_init_75 (by decide) (Nat.le_of_ble_eq_true rfl)
    refine r_goto (pc := 78) (t := 56) ?_ dX7_init_78 (by decide)
    exact Le.rf
def R_X7_init_83 (l : Launch) (G : GT) (F : FX) (Q : PQ) (QX : PX) (k n : Nat) : KT := (I_il 1 (I_ic 10 (I_icge (I_vr Q) (I_al 0 (I_gq 5 2 9 (I_il 1 (I_new 0 11 (I_dup (I_ci (fun As M Q => Tr false l G Y_X1_init As M Q NX) (I_asz 4 10 0 11 (I_inc 1 1 (Wj false l G F Y_X7_init Q QX (k + 18) (n + 198) 83))))))))))))
set_option maxRecDepth 100000 in
theorem g_X7_init_83 {k n : Nat} (hk : k + 18 ≤ 213 ∧ n + 198 ≤ 2235) : Le (R_X7_init_83 l G F Q QX k n) (Wj false l G F Y_X7_init Q QX k n 83) := by
  unfold R_X7_init_83
  refine r_iload_n (pc := 83) ?_ dX7_init_83 rfl
  refine r_bipush (pc := 84) ?_ dX7_init_84 (by decide)
  refine r_icge (pc := 86) (t := 108) ?_ ?_ dX7_init_86 (by decide)
  · exact r_vr dX7_init_108 rfl (show k ≤ 213 by omega) (show n ≤ 2235 by omega)
  · refine r_aload_n (pc := 89) ?_ dX7_init_89 rfl
    refine r_gq (pc := 90) (kf := 2) ?_ dX7_init_90 cl_X7 (Nat.le_of_ble_eq_true rfl) rfl wd_1_138
    refine r_iload_n (pc := 93) ?_ dX7_init_93 rfl
    refine r_new (pc := 94) (k := k) (n := n) ?_ dX7_init_94 cl_X1 wd_1_35 wd_1_56 wd_1_4 df_X1 ⟨(show k + 1 ≤ 213 by omega), (show n + 11 ≤ 2235 by omega)⟩
    refine r_dup (pc := 97) ?_ dX7_init_97
    refine r_ciN (pc := 98) (k := (k + 1)) (n := (n + 11)) (Yc := Y_X1_init) ?_ dX7_init_98 ok_X1_init rfl rfl wd_1_58 (List.mem_cons_of_mem _ (List.mem_cons_self ..)) ⟨Nat.le_of_ble_eq_true rfl, Nat.le_of_ble_eq_true rfl⟩ ⟨(show (k + 1) + 17 ≤ 213 by omega), (show (n + 11) + 187 ≤ 2235 by omega)⟩
    refine r_asz (pc := 101) (c0 := 4) ?_ dX7_init_101 cl_X1 rfl
    refine r_iinc (pc := 102) ?_ dX7_init_102 (by decide) (Nat.le_of_ble_eq_true rfl)
    refine r_goto (pc := 105) (t := 83) ?_ dX7_init_105 (by decide)
    exact Le.rf
abbrev Y_X8_init : YT := (yX8_init, cX8_init, 2, none, 4, 73, 857, 8980)
theorem ok_X8_init : okC Y_X8_init 0 := ⟨wd_1_172, wd_1_7, by decide, by decide, by decide +kernel⟩
def R_X8_init_0 (l : Launch) (G : GT) (F : FX) (Q : PQ) (QX : PX) : KT := (I_al 0 (I_oi (I_al 0 (I_ic 4 (I_naA 4 5 4 (I_pp 6 0 3 (I_ic 0 (I_is 1 (Wj false l G F Y_X8_init Q QX 1 4 14)))))))))
set_option maxRecDepth 100000 in
theorem g_X8_init_0 : Le (R_X8_init_0 l G F Q QX) (Wj false l G F Y_X8_init Q QX 0 0 0) := by
  unfold R_X8_init_0
  refine r_aload_n (pc := 0) ?_ dX8_init_0 rfl
  refine r_oi (pc := 1) ?_ dX8_init_1 wd_1_173 ⟨Nat.le_of_ble_eq_true rfl, Nat.le_of_ble_eq_true rfl⟩
  refine r_aload_n (pc := 4) ?_ dX8_init_4 rfl
  refine r_iconst (pc := 5) ?_ dX8_init_5 (by decide)
  refine r_naA (pc := 6) (k := 0) (n := 0) (ci := 5) (len := 4) ?_ dX8_init_6 wd_1_174 (List.mem_cons_of_mem _ (List.mem_cons_of_mem _ (List.mem_cons_self ..))) rfl (by decide) (by decide) (by decide) (Nat.le_of_ble_eq_true rfl) ⟨Nat.le_of_ble_eq_true rfl, Nat.le_of_ble_eq_true rfl⟩
  refine r_pp (pc := 9) (kf := 0) ?_ dX8_init_9 cl_X8 (Nat.le_of_ble_eq_true rfl) rfl wd_1_177 rfl rfl rfl rfl (fun _ => ⟨rfl, rfl⟩)
  refine r_iconst (pc := 12) ?_ dX8_init_12 (by decide)
  refine r_istore_n (pc := 13) ?_ dX8_init_13 rfl (Nat.le_of_ble_eq_true rfl)
  exact Le.rf
theorem en_X8_init {o : Nat} (body : ∀ F, R_X8_init_0 l G F Q QX [.ref o, xx] [] M) : Tr false l G Y_X8_init [.ref o] M Q QX := tr_of (by decide) (Nat.le_of_ble_eq_true rfl) rfl fun F => g_X8_init_0 _ _ _ (body F)
def R_X8_init_14 (l : Launch) (G : GT) (F : FX) (Q : PQ) (QX : PX) (k n : Nat) : KT := (I_il 1 (I_ic 4 (I_icge (I_vr Q) (I_al 0 (I_gq 6 0 3 (I_il 1 (I_new 5 9 (I_dup (I_ci (fun As M Q => Tr false l G Y_X7_init As M Q NX) (I_asz 5 4 5 9 (I_inc 1 1 (Wj false l G F Y_X8_init Q QX (k + 214) (n + 2244) 14))))))))))))
set_option maxRecDepth 100000 in
theorem g_X8_init_14 {k n : Nat} (hk : k + 214 ≤ 857 ∧ n + 2244 ≤ 8980) : Le (R_X8_init_14 l G F Q QX k n) (Wj false l G F Y_X8_init Q QX k n 14) := by
  unfold R_X8_init_14
  refine r_iload_n (pc := 14) ?_ dX8_init_14 rfl
  refine r_iconst (pc := 15) ?_ dX8_init_15 (by decide)
  refine r_icge (pc := 16) (t := 38) ?_ ?_ dX8_init_16 (by decide)
  · exact r_vr dX8_init_38 rfl (show k ≤ 857 by omega) (show n ≤ 8980 by omega)
  · refine r_aload_n (pc := 19) ?_ dX8_init_19 rfl
    refine r_gq (pc := 20) (kf := 0) ?_ dX8_init_20 cl_X8 (Nat.le_of_ble_eq_true rfl) rfl wd_1_177
    refine r_iload_n (pc := 23) ?_ dX8_init_23 rfl
    refine r_new (pc := 24) (k := k) (n := n) ?_ dX8_init_24 cl_X7 wd_1_174 wd_1_26 wd_1_2 df_X7 ⟨(show k + 1 ≤ 857 by omega), (show n + 9 ≤ 8980 by omega)⟩
    refine r_dup (pc := 27) ?_ dX8_init_27
    refine r_ci (pc := 28) (k := (k + 1)) (n := (n + 9)) (Yc := Y_X7_init) ?_ dX8_init_28 ok_X7_init rfl rfl wd_1_28 wd_1_176 ⟨Nat.le_of_ble_eq_true rfl, Nat.le_of_ble_eq_true rfl⟩ ⟨(show (k + 1) + 213 ≤ 857 by omega), (show (n + 9) + 2235 ≤ 8980 by omega)⟩
    refine r_asz (pc := 31) (c0 := 5) ?_ dX8_init_31 cl_X7 rfl
    refine r_iinc (pc := 32) ?_ dX8_init_32 (by decide) (Nat.le_of_ble_eq_true rfl)
    refine r_goto (pc := 35) (t := 14) ?_ dX8_init_35 (by decide)
    exact Le.rf
abbrev Y_X3_init : YT := (yX3_init, cX3_init, 1, none, 1, 12, 24, 255)
theorem ok_X3_init : okC Y_X3_init 0 := ⟨wd_1_192, wd_1_8, by decide, by decide, by decide +kernel⟩
def R_X3_init_0 (l : Launch) (G : GT) (F : FX) (Q : PQ) (QX : PX) : KT := (I_al 0 (I_oi (I_al 0 (I_ic 150 (I_naI 150 150 (I_pp 1 0 11 (I_al 0 (I_ic 21 (I_naA 21 6 21 (I_pp 1 1 11 (I_al 0 (I_ic 21 (I_ic 3 (I_mnA 21 3 21 3 (I_pp 1 2 11 (I_vr Q))))))))))))))))
set_option maxRecDepth 100000 in
theorem g_X3_init_0 : Le (R_X3_init_0 l G F Q QX) (Wj false l G F Y_X3_init Q QX 0 0 0) := by
  unfold R_X3_init_0
  refine r_aload_n (pc := 0) ?_ dX3_init_0 rfl
  refine r_oi (pc := 1) ?_ dX3_init_1 wd_1_193 ⟨Nat.le_of_ble_eq_true rfl, Nat.le_of_ble_eq_true rfl⟩
  refine r_aload_n (pc := 4) ?_ dX3_init_4 rfl
  refine r_sipush (pc := 5) ?_ dX3_init_5 (by decide)
  refine r_naI (pc := 8) (k := 0) (n := 0) (len := 150) ?_ dX3_init_8 wd_1_55 (by decide) (by decide) (Nat.le_of_ble_eq_true rfl) ⟨Nat.le_of_ble_eq_true rfl, Nat.le_of_ble_eq_true rfl⟩
  refine r_pp (pc := 10) (kf := 0) ?_ dX3_init_10 cl_X3 (Nat.le_of_ble_eq_true rfl) rfl wd_1_197 rfl rfl rfl rfl (fun _ => ⟨rfl, rfl⟩)
  refine r_aload_n (pc := 13) ?_ dX3_init_13 rfl
  refine r_bipush (pc := 14) ?_ dX3_init_14 (by decide)
  refine r_naA (pc := 16) (k := 1) (n := 150) (ci := 6) (len := 21) ?_ dX3_init_16 wd_1_194 (List.mem_cons_of_mem _ (List.mem_cons_of_mem _ (List.mem_cons_of_mem _ (List.mem_cons_self ..)))) rfl (by decide) (by decide) (by decide) (Nat.le_of_ble_eq_true rfl) ⟨Nat.le_of_ble_eq_true rfl, Nat.le_of_ble_eq_true rfl⟩
  refine r_pp (pc := 19) (kf := 1) ?_ dX3_init_19 cl_X3 (Nat.le_of_ble_eq_true rfl) rfl wd_1_198 rfl rfl rfl rfl (fun _ => ⟨rfl, rfl⟩)
  refine r_aload_n (pc := 22) ?_ dX3_init_22 rfl
  refine r_bipush (pc := 23) ?_ dX3_init_23 (by decide)
  refine r_iconst (pc := 25) ?_ dX3_init_25 (by decide)
  refine r_mnA (pc := 26) (k := 2) (n := 171) (N := 21) (D := 3) ?_ dX3_init_26 wd_1_196 (by decide) (by decide) (by decide) (by decide) ⟨Nat.le_of_ble_eq_true rfl, Nat.le_of_ble_eq_true rfl⟩ ⟨Nat.le_of_ble_eq_true rfl, Nat.le_of_ble_eq_true rfl⟩
  refine r_pp (pc := 30) (kf := 2) ?_ dX3_init_30 cl_X3 (Nat.le_of_ble_eq_true rfl) rfl wd_1_199 rfl rfl rfl rfl (fun _ => ⟨rfl, rfl⟩)
  exact r_vr dX3_init_33 rfl (Nat.le_of_ble_eq_true rfl) (Nat.le_of_ble_eq_true rfl)
theorem en_X3_init {o : Nat} (body : ∀ F, R_X3_init_0 l G F Q QX [.ref o] [] M) : Tr false l G Y_X3_init [.ref o] M Q QX := tr_of (by decide) (Nat.le_of_ble_eq_true rfl) rfl fun F => g_X3_init_0 _ _ _ (body F)
abbrev Y_X9_init : YT := (yX9_init, cX9_init, 1, none, 5, 94, 1097, 11493)
theorem ok_X9_init : okC Y_X9_init 0 := ⟨wd_1_21, wd_1_1, by decide, by decide, by decide +kernel⟩
def R_X9_init_0 (l : Launch) (G : GT) (F : FX) (Q : PQ) (QX : PX) : KT := (I_al 0 (I_oi (I_al 0 (I_new 5 9 (I_dup (I_ci (fun As M Q => Tr false l G Y_X7_init As M Q NX) (I_pp 7 0 3 (I_al 0 (I_new 6 3 (I_dup (I_ci (fun As M Q => Tr false l G Y_X8_init As M Q NX) (I_pp 7 1 3 (I_al 0 (I_new 1 11 (I_dup (I_ci (fun As M Q => Tr false l G Y_X3_init As M Q NX) (I_pp 7 2 3 (I_vr Q))))))))))))))))))
set_option maxRecDepth 100000 in
theorem g_X9_init_0 : Le (R_X9_init_0 l G F Q QX) (Wj false l G F Y_X9_init Q QX 0 0 0) := by
  unfold R_X9_init_0
  refine r_aload_n (pc := 0) ?_ dX9_init_0 rfl
  refine r_oi (pc := 1) ?_ dX9_init_1 wd_1_22 ⟨Nat.le_of_ble_eq_true rfl, Nat.le_of_ble_eq_true rfl⟩
  refine r_aload_n (pc := 4) ?_ dX9_init_4 rfl
  refine r_new (pc := 5) (k := 0) (n := 0) ?_ dX9_init_5 cl_X7 wd_1_25 wd_1_26 wd_1_2 df_X7 ⟨Nat.le_of_ble_eq_true rfl, Nat.le_of_ble_eq_true rfl⟩
  refine r_dup (pc := 8) ?_ dX9_init_8
  refine r_ci (pc := 9) (k := 1) (n := 9) (Yc := Y_X7_init) ?_ dX9_init_9 ok_X7_init rfl rfl wd_1_28 wd_1_27 ⟨Nat.le_of_ble_eq_true rfl, Nat.le_of_ble_eq_true rfl⟩ ⟨Nat.le_of_ble_eq_true rfl, Nat.le_of_ble_eq_true rfl⟩
  refine r_pp (pc := 12) (kf := 0) ?_ dX9_init_12 cl_X9 (Nat.le_of_ble_eq_true rfl) rfl wd_1_225 rfl rfl rfl rfl (fun _ => ⟨rfl, rfl⟩)
  refine r_aload_n (pc := 15) ?_ dX9_init_15 rfl
  refine r_new (pc := 16) (k := 214) (n := 2244) ?_ dX9_init_16 cl_X8 wd_1_168 wd_1_169 wd_1_7 df_X8 ⟨Nat.le_of_ble_eq_true rfl, Nat.le_of_ble_eq_true rfl⟩
  refine r_dup (pc := 19) ?_ dX9_init_19
  refine r_ci (pc := 20) (k := 215) (n := 2247) (Yc := Y_X8_init) ?_ dX9_init_20 ok_X8_init rfl rfl wd_1_171 wd_1_170 ⟨Nat.le_of_ble_eq_true rfl, Nat.le_of_ble_eq_true rfl⟩ ⟨Nat.le_of_ble_eq_true rfl, Nat.le_of_ble_eq_true rfl⟩
  refine r_pp (pc := 23) (kf := 1) ?_ dX9_init_23 cl_X9 (Nat.le_of_ble_eq_true rfl) rfl wd_1_226 rfl rfl rfl rfl (fun _ => ⟨rfl, rfl⟩)
  refine r_aload_n (pc := 26) ?_ dX9_init_26 rfl
  refine r_new (pc := 27) (k := 1072) (n := 11227) ?_ dX9_init_27 cl_X3 wd_1_188 wd_1_189 wd_1_8 df_X3 ⟨Nat.le_of_ble_eq_true rfl, Nat.le_of_ble_eq_true rfl⟩
  refine r_dup (pc := 30) ?_ dX9_init_30
  refine r_ciN (pc := 31) (k := 1073) (n := 11238) (Yc := Y_X3_init) ?_ dX9_init_31 ok_X3_init rfl rfl wd_1_191 (List.mem_cons_of_mem _ (List.mem_cons_of_mem _ (List.mem_cons_of_mem _ (List.mem_cons_of_mem _ (List.mem_cons_self ..))))) ⟨Nat.le_of_ble_eq_true rfl, Nat.le_of_ble_eq_true rfl⟩ ⟨Nat.le_of_ble_eq_true rfl, Nat.le_of_ble_eq_true rfl⟩
  refine r_pp (pc := 34) (kf := 2) ?_ dX9_init_34 cl_X9 (Nat.le_of_ble_eq_true rfl) rfl wd_1_227 rfl rfl rfl rfl (fun _ => ⟨rfl, rfl⟩)
  exact r_vr dX9_init_37 rfl (Nat.le_of_ble_eq_true rfl) (Nat.le_of_ble_eq_true rfl)
theorem en_X9_init {o : Nat} (body : ∀ F, R_X9_init_0 l G F Q QX [.ref o] [] M) : Tr false l G Y_X9_init [.ref o] M Q QX := tr_of (by decide) (Nat.le_of_ble_eq_true rfl) rfl fun F => g_X9_init_0 _ _ _ (body F)
theorem g_X7_init_83e {k n : Nat} (hk : k ≤ 213 ∧ n ≤ 2235) : Le (I_il 1 (I_ic 10 (I_icge (I_vr Q) I_no))) (Wj false l G F Y_X7_init Q QX k n 83) := by
  refine r_iload_n (pc := 83) ?_ dX7_init_83 rfl
  refine r_bipush (pc := 84) ?_ dX7_init_84 (by decide)
  refine r_icge (pc := 86) (t := 108) ?_ ?_ dX7_init_86 (by decide)
  · exact r_vr dX7_init_108 rfl hk.1 hk.2
  · exact r_no
theorem g_X8_init_14e {k n : Nat} (hk : k ≤ 857 ∧ n ≤ 8980) : Le (I_il 1 (I_ic 4 (I_icge (I_vr Q) I_no))) (Wj false l G F Y_X8_init Q QX k n 14) := by
  refine r_iload_n (pc := 14) ?_ dX8_init_14 rfl
  refine r_iconst (pc := 15) ?_ dX8_init_15 (by decide)
  refine r_icge (pc := 16) (t := 38) ?_ ?_ dX8_init_16 (by decide)
  · exact r_vr dX8_init_38 rfl hk.1 hk.2
  · exact r_no
end CIR
