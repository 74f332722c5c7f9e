/-! ===== the classes: fields, words, pointers ===== -/
theorem cl_X1 : CLO 0 11 RX1 TX1 tyX1 := ⟨rfl, fun w hw => by
    obtain ⟨k, hk, rfl⟩ := List.mem_map.mp hw
    have hk := List.mem_range.mp hk
    match k, hk with
    | 0, _ => exact wd_1_119
    | 1, _ => exact wd_1_121
    | 2, _ => exact wd_1_123
    | 3, _ => exact wd_1_125
    | 4, _ => exact wd_1_127
    | 5, _ => exact wd_1_129
    | 6, _ => exact wd_1_131
    | 7, _ => exact wd_1_133
    | 8, _ => exact wd_1_135
    | 9, _ => exact wd_1_137
    | 10, _ => exact wd_1_139
    | k + 11, hk => exact absurd hk (by omega), tyX1_ok, nmX1⟩
theorem pv_X1_0 : ∀ a, KX a = (1, 0, 11) → PV a 0 = a + 1 + 1 := by intro a h; unfold PV; rw [h]; rfl
theorem pv_X1_1 : ∀ a, KX a = (1, 0, 11) → PV a 1 = a + 2 + 1 := by intro a h; unfold PV; rw [h]; rfl
theorem pv_X1_2 : ∀ a, KX a = (1, 0, 11) → PV a 2 = a + 8 + 1 := by intro a h; unfold PV; rw [h]; rfl
theorem pv_X1_3 : ∀ a, KX a = (1, 0, 11) → PV a 3 = a + 14 + 1 := by intro a h; unfold PV; rw [h]; rfl
theorem pv_X1_4 : ∀ a, KX a = (1, 0, 11) → PV a 4 = a + 16 + 1 := by intro a h; unfold PV; rw [h]; rfl
theorem pd_X1_5 : parseFieldDescriptor (TX1 5).2.2.1 = some .int := by decide +kernel
theorem pd_X1_6 : parseFieldDescriptor (TX1 6).2.2.1 = some .int := by decide +kernel
theorem pd_X1_7 : parseFieldDescriptor (TX1 7).2.2.1 = some .int := by decide +kernel
theorem pd_X1_8 : parseFieldDescriptor (TX1 8).2.2.1 = some .int := by decide +kernel
theorem pd_X1_9 : parseFieldDescriptor (TX1 9).2.2.1 = some .int := by decide +kernel
theorem pd_X1_10 : parseFieldDescriptor (TX1 10).2.2.1 = some .int := by decide +kernel
theorem cl_X3 : CLO 1 11 RX3 TX3 tyX3 := ⟨rfl, fun w hw => by
    obtain ⟨k, hk, rfl⟩ := List.mem_map.mp hw
    have hk := List.mem_range.mp hk
    match k, hk with
    | 0, _ => exact wd_1_216
    | 1, _ => exact wd_1_218
    | 2, _ => exact wd_1_220
    | 3, _ => exact wd_1_222
    | 4, _ => exact wd_1_224
    | 5, _ => exact wd_1_226
    | 6, _ => exact wd_1_228
    | 7, _ => exact wd_1_230
    | 8, _ => exact wd_1_232
    | 9, _ => exact wd_1_234
    | 10, _ => exact wd_1_236
    | k + 11, hk => exact absurd hk (by omega), tyX3_ok, nmX3⟩
theorem pv_X3_0 : ∀ a, KX a = (1, 1, 11) → PV a 0 = a + 1 + 1 := by intro a h; unfold PV; rw [h]; rfl
theorem pv_X3_1 : ∀ a, KX a = (1, 1, 11) → PV a 1 = a + 2 + 1 := by intro a h; unfold PV; rw [h]; rfl
theorem pv_X3_2 : ∀ a, KX a = (1, 1, 11) → PV a 2 = a + 3 + 1 := by intro a h; unfold PV; rw [h]; rfl
theorem pd_X3_3 : parseFieldDescriptor (TX3 3).2.2.1 = some .int := by decide +kernel
theorem pd_X3_4 : parseFieldDescriptor (TX3 4).2.2.1 = some .int := by decide +kernel
theorem pd_X3_5 : parseFieldDescriptor (TX3 5).2.2.1 = some .int := by decide +kernel
theorem pd_X3_6 : parseFieldDescriptor (TX3 6).2.2.1 = some .int := by decide +kernel
theorem pd_X3_7 : parseFieldDescriptor (TX3 7).2.2.1 = some .int := by decide +kernel
theorem pd_X3_8 : parseFieldDescriptor (TX3 8).2.2.1 = some .int := by decide +kernel
theorem pd_X3_9 : parseFieldDescriptor (TX3 9).2.2.1 = some .int := by decide +kernel
theorem pd_X3_10 : parseFieldDescriptor (TX3 10).2.2.1 = some .int := by decide +kernel
theorem cl_X4 : CLO 2 2 RX4 TX4 tyX4 := ⟨rfl, fun w hw => by
    obtain ⟨k, hk, rfl⟩ := List.mem_map.mp hw
    have hk := List.mem_range.mp hk
    match k, hk with
    | 0, _ => exact wd_1_92
    | 1, _ => exact wd_1_94
    | k + 2, hk => exact absurd hk (by omega), tyX4_ok, nmX4⟩
theorem pv_X4_0 : ∀ a, KX a = (1, 2, 2) → PV a 0 = a + 1 + 1 := by intro a h; unfold PV; rw [h]; rfl
theorem pd_X4_1 : parseFieldDescriptor (TX4 1).2.2.1 = some .int := by decide +kernel
theorem cl_X5 : CLO 3 2 RX5 TX5 tyX5 := ⟨rfl, fun w hw => by
    obtain ⟨k, hk, rfl⟩ := List.mem_map.mp hw
    have hk := List.mem_range.mp hk
    match k, hk with
    | 0, _ => exact wd_1_78
    | 1, _ => exact wd_1_80
    | k + 2, hk => exact absurd hk (by omega), tyX5_ok, nmX5⟩
theorem pv_X5_0 : ∀ a, KX a = (1, 3, 2) → PV a 0 = a + 1 + 1 := by intro a h; unfold PV; rw [h]; rfl
theorem pd_X5_1 : parseFieldDescriptor (TX5 1).2.2.1 = some .int := by decide +kernel
theorem cl_X6 : CLO 4 3 RX6 TX6 tyX6 := ⟨rfl, fun w hw => by
    obtain ⟨k, hk, rfl⟩ := List.mem_map.mp hw
    have hk := List.mem_range.mp hk
    match k, hk with
    | 0, _ => exact wd_1_54
    | 1, _ => exact wd_1_56
    | 2, _ => exact wd_1_58
    | k + 3, hk => exact absurd hk (by omega), tyX6_ok, nmX6⟩
theorem pd_X6_0 : parseFieldDescriptor (TX6 0).2.2.1 = some .int := by decide +kernel
theorem pd_X6_1 : parseFieldDescriptor (TX6 1).2.2.1 = some .int := by decide +kernel
theorem pd_X6_2 : parseFieldDescriptor (TX6 2).2.2.1 = some .int := by decide +kernel
theorem cl_X7 : CLO 5 9 RX7 TX7 tyX7 := ⟨rfl, fun w hw => by
    obtain ⟨k, hk, rfl⟩ := List.mem_map.mp hw
    have hk := List.mem_range.mp hk
    match k, hk with
    | 0, _ => exact wd_1_155
    | 1, _ => exact wd_1_157
    | 2, _ => exact wd_1_159
    | 3, _ => exact wd_1_161
    | 4, _ => exact wd_1_163
    | 5, _ => exact wd_1_165
    | 6, _ => exact wd_1_167
    | 7, _ => exact wd_1_169
    | 8, _ => exact wd_1_171
    | k + 9, hk => exact absurd hk (by omega), tyX7_ok, nmX7⟩
theorem pv_X7_0 : ∀ a, KX a = (1, 5, 9) → PV a 0 = a + 1 + 1 := by intro a h; unfold PV; rw [h]; rfl
theorem pv_X7_1 : ∀ a, KX a = (1, 5, 9) → PV a 1 = a + 7 + 1 := by intro a h; unfold PV; rw [h]; rfl
theorem pv_X7_2 : ∀ a, KX a = (1, 5, 9) → PV a 2 = a + 8 + 1 := by intro a h; unfold PV; rw [h]; rfl
theorem pv_X7_3 : ∀ a, KX a = (1, 5, 9) → PV a 3 = a + 9 + 1 := by intro a h; unfold PV; rw [h]; rfl
theorem pv_X7_4 : ∀ a, KX a = (1, 5, 9) → PV a 4 = a + 10 + 1 := by intro a h; unfold PV; rw [h]; rfl
theorem pd_X7_5 : parseFieldDescriptor (TX7 5).2.2.1 = some .int := by decide +kernel
theorem pd_X7_6 : parseFieldDescriptor (TX7 6).2.2.1 = some .int := by decide +kernel
theorem pd_X7_7 : parseFieldDescriptor (TX7 7).2.2.1 = some .int := by decide +kernel
theorem pd_X7_8 : parseFieldDescriptor (TX7 8).2.2.1 = some .int := by decide +kernel
theorem cl_X8 : CLO 6 3 RX8 TX8 tyX8 := ⟨rfl, fun w hw => by
    obtain ⟨k, hk, rfl⟩ := List.mem_map.mp hw
    have hk := List.mem_range.mp hk
    match k, hk with
    | 0, _ => exact wd_1_187
    | 1, _ => exact wd_1_189
    | 2, _ => exact wd_1_191
    | k + 3, hk => exact absurd hk (by omega), tyX8_ok, nmX8⟩
theorem pv_X8_0 : ∀ a, KX a = (1, 6, 3) → PV a 0 = a + 1 + 1 := by intro a h; unfold PV; rw [h]; rfl
theorem pd_X8_1 : parseFieldDescriptor (TX8 1).2.2.1 = some .int := by decide +kernel
theorem pd_X8_2 : parseFieldDescriptor (TX8 2).2.2.1 = some .int := by decide +kernel
theorem cl_X9 : CLO 7 3 RX9 TX9 tyX9 := ⟨rfl, fun w hw => by
    obtain ⟨k, hk, rfl⟩ := List.mem_map.mp hw
    have hk := List.mem_range.mp hk
    match k, hk with
    | 0, _ => exact wd_2_2
    | 1, _ => exact wd_2_4
    | 2, _ => exact wd_2_6
    | k + 3, hk => exact absurd hk (by omega), tyX9_ok, nmX9⟩
theorem pv_X9_0 : ∀ a, KX a = (1, 7, 3) → PV a 0 = a + 1 + 1 := by intro a h; unfold PV; rw [h]; rfl
theorem pv_X9_1 : ∀ a, KX a = (1, 7, 3) → PV a 1 = a + 215 + 1 := by intro a h; unfold PV; rw [h]; rfl
theorem pv_X9_2 : ∀ a, KX a = (1, 7, 3) → PV a 2 = a + 1073 + 1 := by intro a h; unfold PV; rw [h]; rfl
theorem cl_X10 : CLO 8 13 RX10 TX10 tyX10 := ⟨rfl, fun w hw => by
    obtain ⟨k, hk, rfl⟩ := List.mem_map.mp hw
    have hk := List.mem_range.mp hk
    match k, hk with
    | 0, _ => exact wd_5_150
    | 1, _ => exact wd_5_152
    | 2, _ => exact wd_5_154
    | 3, _ => exact wd_5_156
    | 4, _ => exact wd_5_158
    | 5, _ => exact wd_5_160
    | 6, _ => exact wd_5_162
    | 7, _ => exact wd_5_164
    | 8, _ => exact wd_5_166
    | 9, _ => exact wd_5_168
    | 10, _ => exact wd_5_170
    | 11, _ => exact wd_5_172
    | 12, _ => exact wd_5_174
    | k + 13, hk => exact absurd hk (by omega), tyX10_ok, nmX10⟩
theorem pv_X10_0 : ∀ a, KX a = (1, 8, 13) → PV a 0 = a + 1 + 1 := by intro a h; unfold PV; rw [h]; rfl
theorem pv_X10_1 : ∀ a, KX a = (1, 8, 13) → PV a 1 = a + 2 + 1 := by intro a h; unfold PV; rw [h]; rfl
theorem pv_X10_2 : ∀ a, KX a = (1, 8, 13) → PV a 2 = a + 3 + 1 := by intro a h; unfold PV; rw [h]; rfl
theorem pd_X10_3 : parseFieldDescriptor (TX10 3).2.2.1 = some .int := by decide +kernel
theorem pd_X10_4 : parseFieldDescriptor (TX10 4).2.2.1 = some .int := by decide +kernel
theorem pd_X10_5 : parseFieldDescriptor (TX10 5).2.2.1 = some .long := by decide +kernel
theorem pv_X10_6 : ∀ a, KX a = (1, 8, 13) → PV a 6 = a + 4 + 1 := by intro a h; unfold PV; rw [h]; rfl
theorem pd_X10_7 : parseFieldDescriptor (TX10 7).2.2.1 = some .int := by decide +kernel
theorem pd_X10_8 : parseFieldDescriptor (TX10 8).2.2.1 = some .int := by decide +kernel
theorem pd_X10_9 : parseFieldDescriptor (TX10 9).2.2.1 = some .int := by decide +kernel
theorem pv_X10_10 : ∀ a, KX a = (1, 8, 13) → PV a 10 = a + 5 + 1 := by intro a h; unfold PV; rw [h]; rfl
theorem pv_X10_11 : ∀ a, KX a = (1, 8, 13) → PV a 11 = a + 6 + 1 := by intro a h; unfold PV; rw [h]; rfl
theorem pd_X10_12 : parseFieldDescriptor (TX10 12).2.2.1 = some .long := by decide +kernel
theorem pa_2 : ∀ a j m, KX a = (4, 2, m) → j < m → PV a j = a + 1 + 1 * j + 1 := by intro a j m h hj; unfold PV; rw [h]; show (if j < m then _ else 0) = _; rw [if_pos hj]; omega
theorem pa_3 : ∀ a j m, KX a = (4, 3, m) → j < m → PV a j = a + 21 + 1 * j + 1 := by intro a j m h hj; unfold PV; rw [h]; show (if j < m then _ else 0) = _; rw [if_pos hj]; omega
theorem pa_4 : ∀ a j m, KX a = (4, 4, m) → j < m → PV a j = a + 26 + 18 * j + 1 := by intro a j m h hj; unfold PV; rw [h]; show (if j < m then _ else 0) = _; rw [if_pos hj]; omega
theorem pa_5 : ∀ a j m, KX a = (4, 5, m) → j < m → PV a j = a + 1 + 214 * j + 1 := by intro a j m h hj; unfold PV; rw [h]; show (if j < m then _ else 0) = _; rw [if_pos hj]; omega
