/-! ===== the classes: fields, words, pointers ===== -/
theorem cl_X1 : CLO 0 11 RX1 TX1 tyX1 := ⟨rfl, fun w hw => by
    obtain ⟨k, hk, rfl⟩ := List.mem_map.mp hw
    have hk := List.mem_range.mp hk
    match k, hk with
    | 0, _ => exact wd_1_113
    | 1, _ => exact wd_1_115
    | 2, _ => exact wd_1_117
    | 3, _ => exact wd_1_119
    | 4, _ => exact wd_1_121
    | 5, _ => exact wd_1_123
    | 6, _ => exact wd_1_125
    | 7, _ => exact wd_1_127
    | 8, _ => exact wd_1_129
    | 9, _ => exact wd_1_131
    | 10, _ => exact wd_1_133
    | k + 11, hk => exact absurd hk (by omega), tyX1_ok, nmX1⟩
theorem pv_X1_0 : ∀ a, KX a = (1, 0, 11) → PV a 0 = a + 1 + 1 := by intro a h; unfold PV; rw [h]; rfl
theorem pv_X1_1 : ∀ a, KX a = (1, 0, 11) → PV a 1 = a + 2 + 1 := by intro a h; unfold PV; rw [h]; rfl
theorem pv_X1_2 : ∀ a, KX a = (1, 0, 11) → PV a 2 = a + 8 + 1 := by intro a h; unfold PV; rw [h]; rfl
theorem pv_X1_3 : ∀ a, KX a = (1, 0, 11) → PV a 3 = a + 14 + 1 := by intro a h; unfold PV; rw [h]; rfl
theorem pv_X1_4 : ∀ a, KX a = (1, 0, 11) → PV a 4 = a + 16 + 1 := by intro a h; unfold PV; rw [h]; rfl
theorem pd_X1_5 : parseFieldDescriptor (TX1 5).2.2.1 = some .int := by decide +kernel
theorem pd_X1_6 : parseFieldDescriptor (TX1 6).2.2.1 = some .int := by decide +kernel
theorem pd_X1_7 : parseFieldDescriptor (TX1 7).2.2.1 = some .int := by decide +kernel
theorem pd_X1_8 : parseFieldDescriptor (TX1 8).2.2.1 = some .int := by decide +kernel
theorem pd_X1_9 : parseFieldDescriptor (TX1 9).2.2.1 = some .int := by decide +kernel
theorem pd_X1_10 : parseFieldDescriptor (TX1 10).2.2.1 = some .int := by decide +kernel
theorem cl_X3 : CLO 1 11 RX3 TX3 tyX3 := ⟨rfl, fun w hw => by
    obtain ⟨k, hk, rfl⟩ := List.mem_map.mp hw
    have hk := List.mem_range.mp hk
    match k, hk with
    | 0, _ => exact wd_1_202
    | 1, _ => exact wd_1_204
    | 2, _ => exact wd_1_206
    | 3, _ => exact wd_1_208
    | 4, _ => exact wd_1_210
    | 5, _ => exact wd_1_212
    | 6, _ => exact wd_1_214
    | 7, _ => exact wd_1_216
    | 8, _ => exact wd_1_218
    | 9, _ => exact wd_1_220
    | 10, _ => exact wd_1_222
    | k + 11, hk => exact absurd hk (by omega), tyX3_ok, nmX3⟩
theorem pv_X3_0 : ∀ a, KX a = (1, 1, 11) → PV a 0 = a + 1 + 1 := by intro a h; unfold PV; rw [h]; rfl
theorem pv_X3_1 : ∀ a, KX a = (1, 1, 11) → PV a 1 = a + 2 + 1 := by intro a h; unfold PV; rw [h]; rfl
theorem pv_X3_2 : ∀ a, KX a = (1, 1, 11) → PV a 2 = a + 3 + 1 := by intro a h; unfold PV; rw [h]; rfl
theorem pd_X3_3 : parseFieldDescriptor (TX3 3).2.2.1 = some .int := by decide +kernel
theorem pd_X3_4 : parseFieldDescriptor (TX3 4).2.2.1 = some .int := by decide +kernel
theorem pd_X3_5 : parseFieldDescriptor (TX3 5).2.2.1 = some .int := by decide +kernel
theorem pd_X3_6 : parseFieldDescriptor (TX3 6).2.2.1 = some .int := by decide +kernel
theorem pd_X3_7 : parseFieldDescriptor (TX3 7).2.2.1 = some .int := by decide +kernel
theorem pd_X3_8 : parseFieldDescriptor (TX3 8).2.2.1 = some .int := by decide +kernel
theorem pd_X3_9 : parseFieldDescriptor (TX3 9).2.2.1 = some .int := by decide +kernel
theorem pd_X3_10 : parseFieldDescriptor (TX3 10).2.2.1 = some .int := by decide +kernel
theorem cl_X4 : CLO 2 2 RX4 TX4 tyX4 := ⟨rfl, fun w hw => by
    obtain ⟨k, hk, rfl⟩ := List.mem_map.mp hw
    have hk := List.mem_range.mp hk
    match k, hk with
    | 0, _ => exact wd_1_86
    | 1, _ => exact wd_1_88
    | k + 2, hk => exact absurd hk (by omega), tyX4_ok, nmX4⟩
theorem pv_X4_0 : ∀ a, KX a = (1, 2, 2) → PV a 0 = a + 1 + 1 := by intro a h; unfold PV; rw [h]; rfl
theorem pd_X4_1 : parseFieldDescriptor (TX4 1).2.2.1 = some .int := by decide +kernel
theorem cl_X5 : CLO 3 2 RX5 TX5 tyX5 := ⟨rfl, fun w hw => by
    obtain ⟨k, hk, rfl⟩ := List.mem_map.mp hw
    have hk := List.mem_range.mp hk
    match k, hk with
    | 0, _ => exact wd_1_72
    | 1, _ => exact wd_1_74
    | k + 2, hk => exact absurd hk (by omega), tyX5_ok, nmX5⟩
theorem pv_X5_0 : ∀ a, KX a = (1, 3, 2) → PV a 0 = a + 1 + 1 := by intro a h; unfold PV; rw [h]; rfl
theorem pd_X5_1 : parseFieldDescriptor (TX5 1).2.2.1 = some .int := by decide +kernel
theorem cl_X6 : CLO 4 3 RX6 TX6 tyX6 := ⟨rfl, fun w hw => by
    obtain ⟨k, hk, rfl⟩ := List.mem_map.mp hw
    have hk := List.mem_range.mp hk
    match k, hk with
    | 0, _ => exact wd_1_48
    | 1, _ => exact wd_1_50
    | 2, _ => exact wd_1_52
    | k + 3, hk => exact absurd hk (by omega), tyX6_ok, nmX6⟩
theorem pd_X6_0 : parseFieldDescriptor (TX6 0).2.2.1 = some .int := by decide +kernel
theorem pd_X6_1 : parseFieldDescriptor (TX6 1).2.2.1 = some .int := by decide +kernel
theorem pd_X6_2 : parseFieldDescriptor (TX6 2).2.2.1 = some .int := by decide +kernel
theorem cl_X7 : CLO 5 9 RX7 TX7 tyX7 := ⟨rfl, fun w hw => by
    obtain ⟨k, hk, rfl⟩ := List.mem_map.mp hw
    have hk := List.mem_range.mp hk
    match k, hk with
    | 0, _ => exact wd_1_149
    | 1, _ => exact wd_1_151
    | 2, _ => exact wd_1_153
    | 3, _ => exact wd_1_155
    | 4, _ => exact wd_1_157
    | 5, _ => exact wd_1_159
    | 6, _ => exact wd_1_161
    | 7, _ => exact wd_1_163
    | 8, _ => exact wd_1_165
    | k + 9, hk => exact absurd hk (by omega), tyX7_ok, nmX7⟩
theorem pv_X7_0 : ∀ a, KX a = (1, 5, 9) → PV a 0 = a + 1 + 1 := by intro a h; unfold PV; rw [h]; rfl
theorem pv_X7_1 : ∀ a, KX a = (1, 5, 9) → PV a 1 = a + 7 + 1 := by intro a h; unfold PV; rw [h]; rfl
theorem pv_X7_2 : ∀ a, KX a = (1, 5, 9) → PV a 2 = a + 8 + 1 := by intro a h; unfold PV; rw [h]; rfl
theorem pv_X7_3 : ∀ a, KX a = (1, 5, 9) → PV a 3 = a + 9 + 1 := by intro a h; unfold PV; rw [h]; rfl
theorem pv_X7_4 : ∀ a, KX a = (1, 5, 9) → PV a 4 = a + 10 + 1 := by intro a h; unfold PV; rw [h]; rfl
theorem pd_X7_5 : parseFieldDescriptor (TX7 5).2.2.1 = some .int := by decide +kernel
theorem pd_X7_6 : parseFieldDescriptor (TX7 6).2.2.1 = some .int := by decide +kernel
theorem pd_X7_7 : parseFieldDescriptor (TX7 7).2.2.1 = some .int := by decide +kernel
theorem pd_X7_8 : parseFieldDescriptor (TX7 8).2.2.1 = some .int := by decide +kernel
theorem cl_X8 : CLO 6 3 RX8 TX8 tyX8 := ⟨rfl, fun w hw => by
    obtain ⟨k, hk, rfl⟩ := List.mem_map.mp hw
    have hk := List.mem_range.mp hk
    match k, hk with
    | 0, _ => exact wd_1_181
    | 1, _ => exact wd_1_183
    | 2, _ => exact wd_1_185
    | k + 3, hk => exact absurd hk (by omega), tyX8_ok, nmX8⟩
theorem pv_X8_0 : ∀ a, KX a = (1, 6, 3) → PV a 0 = a + 1 + 1 := by intro a h; unfold PV; rw [h]; rfl
theorem pd_X8_1 : parseFieldDescriptor (TX8 1).2.2.1 = some .int := by decide +kernel
theorem pd_X8_2 : parseFieldDescriptor (TX8 2).2.2.1 = some .int := by decide +kernel
theorem cl_X9 : CLO 7 3 RX9 TX9 tyX9 := ⟨rfl, fun w hw => by
    obtain ⟨k, hk, rfl⟩ := List.mem_map.mp hw
    have hk := List.mem_range.mp hk
    match k, hk with
    | 0, _ => exact wd_1_228
    | 1, _ => exact wd_1_230
    | 2, _ => exact wd_1_232
    | k + 3, hk => exact absurd hk (by omega), tyX9_ok, nmX9⟩
theorem pv_X9_0 : ∀ a, KX a = (1, 7, 3) → PV a 0 = a + 1 + 1 := by intro a h; unfold PV; rw [h]; rfl
theorem pv_X9_1 : ∀ a, KX a = (1, 7, 3) → PV a 1 = a + 215 + 1 := by intro a h; unfold PV; rw [h]; rfl
theorem pv_X9_2 : ∀ a, KX a = (1, 7, 3) → PV a 2 = a + 1073 + 1 := by intro a h; unfold PV; rw [h]; rfl
theorem pa_2 : ∀ a j m, KX a = (4, 2, m) → j < m → PV a j = a + 1 + 1 * j + 1 := by intro a j m h hj; unfold PV; rw [h]; show (if j < m then _ else 0) = _; rw [if_pos hj]; omega
theorem pa_3 : ∀ a j m, KX a = (4, 3, m) → j < m → PV a j = a + 21 + 1 * j + 1 := by intro a j m h hj; unfold PV; rw [h]; show (if j < m then _ else 0) = _; rw [if_pos hj]; omega
theorem pa_4 : ∀ a j m, KX a = (4, 4, m) → j < m → PV a j = a + 26 + 18 * j + 1 := by intro a j m h hj; unfold PV; rw [h]; show (if j < m then _ else 0) = _; rw [if_pos hj]; omega
theorem pa_5 : ∀ a j m, KX a = (4, 5, m) → j < m → PV a j = a + 1 + 214 * j + 1 := by intro a j m h hj; unfold PV; rw [h]; show (if j < m then _ else 0) = _; rw [if_pos hj]; omega
