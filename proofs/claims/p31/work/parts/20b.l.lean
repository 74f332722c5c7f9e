/-! ===== longs by their numbers ===== -/
theorem l_b (x : Int64) : -9223372036854775808 ≤ x.toInt ∧ x.toInt ≤ 9223372036854775807 := ⟨Int64.le_toInt x, by have := Int64.toInt_lt x; omega⟩
theorem l_add {x y : Int64} (h1 : -9223372036854775808 ≤ x.toInt + y.toInt) (h2 : x.toInt + y.toInt ≤ 9223372036854775807) : (x + y).toInt = x.toInt + y.toInt := by
  rw [Int64.toInt_add]
  exact Int.bmod_eq_of_le (by omega) (by omega)
theorem l_sub {x y : Int64} (h1 : -9223372036854775808 ≤ x.toInt - y.toInt) (h2 : x.toInt - y.toInt ≤ 9223372036854775807) : (x - y).toInt = x.toInt - y.toInt := by
  rw [Int64.toInt_sub]
  exact Int.bmod_eq_of_le (by omega) (by omega)
theorem l_mul {x y : Int64} (h1 : -9223372036854775808 ≤ x.toInt * y.toInt) (h2 : x.toInt * y.toInt ≤ 9223372036854775807) : (x * y).toInt = x.toInt * y.toInt := by
  rw [Int64.toInt_mul]
  exact Int.bmod_eq_of_le (by omega) (by omega)
theorem l_of (x : Int32) : x.toInt64.toInt = x.toInt := Int32.toInt_toInt64 x
theorem l_to {x : Int64} (h1 : -2147483648 ≤ x.toInt) (h2 : x.toInt ≤ 2147483647) : x.toInt32.toInt = x.toInt := by
  rw [Int64.toInt_toInt32]
  exact Int.bmod_eq_of_le (by omega) (by omega)
theorem l_lt {x y : Int64} : x < y ↔ x.toInt < y.toInt := Int64.lt_iff_toInt_lt
theorem l_eq {x y : Int64} : x = y ↔ x.toInt = y.toInt := Int64.toInt_inj.symm
theorem lg_lt (x y : Int64) : ((lg_cmp x y).toInt < 0) = (x.toInt < y.toInt) := by
  unfold lg_cmp
  simp only [ap_done, ap_pend, ap_dbt, ap_rel, ap_wrk, ap_trade, ap_mentor, ap_refused, ap_wdays, ap_today, ap_moves, st_day, st_needs, st_ments, st_aps, ap_eta, st_eta, l_lt, l_eq]
  (repeat' split) <;> apply propext <;> simp <;> omega
theorem lg_gt (x y : Int64) : (0 < (lg_cmp x y).toInt) = (y.toInt < x.toInt) := by
  unfold lg_cmp
  simp only [ap_done, ap_pend, ap_dbt, ap_rel, ap_wrk, ap_trade, ap_mentor, ap_refused, ap_wdays, ap_today, ap_moves, st_day, st_needs, st_ments, st_aps, ap_eta, st_eta, l_lt, l_eq]
  (repeat' split) <;> apply propext <;> simp <;> omega
theorem lg_le (x y : Int64) : ((lg_cmp x y).toInt ≤ 0) = (x.toInt ≤ y.toInt) := by
  unfold lg_cmp
  simp only [ap_done, ap_pend, ap_dbt, ap_rel, ap_wrk, ap_trade, ap_mentor, ap_refused, ap_wdays, ap_today, ap_moves, st_day, st_needs, st_ments, st_aps, ap_eta, st_eta, l_lt, l_eq]
  (repeat' split) <;> apply propext <;> simp <;> omega
theorem lg_ge (x y : Int64) : (0 ≤ (lg_cmp x y).toInt) = (y.toInt ≤ x.toInt) := by
  unfold lg_cmp
  simp only [ap_done, ap_pend, ap_dbt, ap_rel, ap_wrk, ap_trade, ap_mentor, ap_refused, ap_wdays, ap_today, ap_moves, st_day, st_needs, st_ments, st_aps, ap_eta, st_eta, l_lt, l_eq]
  (repeat' split) <;> apply propext <;> simp <;> omega
theorem lg_eq (x y : Int64) : ((lg_cmp x y).toInt = 0) = (x.toInt = y.toInt) := by
  unfold lg_cmp
  simp only [ap_done, ap_pend, ap_dbt, ap_rel, ap_wrk, ap_trade, ap_mentor, ap_refused, ap_wdays, ap_today, ap_moves, st_day, st_needs, st_ments, st_aps, ap_eta, st_eta, l_lt, l_eq]
  (repeat' split) <;> apply propext <;> simp <;> omega
theorem tL_0 : (0 : Int64).toInt = 0 := rfl
theorem tL_1 : (1 : Int64).toInt = 1 := rfl
theorem tL_2 : (2 : Int64).toInt = 2 := rfl
theorem tL_3 : (3 : Int64).toInt = 3 := rfl
theorem tL_4 : (4 : Int64).toInt = 4 := rfl
theorem tL_5 : (5 : Int64).toInt = 5 := rfl
theorem tL_6 : (6 : Int64).toInt = 6 := rfl
theorem tL_7 : (7 : Int64).toInt = 7 := rfl
theorem tL_8 : (8 : Int64).toInt = 8 := rfl
theorem tL_9 : (9 : Int64).toInt = 9 := rfl
theorem tL_10 : (10 : Int64).toInt = 10 := rfl
theorem tL_12 : (12 : Int64).toInt = 12 := rfl
theorem tL_20 : (20 : Int64).toInt = 20 := rfl
theorem tL_31 : (31 : Int64).toInt = 31 := rfl
theorem tL_32 : (32 : Int64).toInt = 32 := rfl
theorem tL_64 : (64 : Int64).toInt = 64 := rfl
theorem tL_96 : (96 : Int64).toInt = 96 := rfl
theorem tL_150 : (150 : Int64).toInt = 150 := rfl
theorem tL_427 : (427 : Int64).toInt = 427 := rfl
theorem tL_512 : (512 : Int64).toInt = 512 := rfl
theorem tL_2000 : (2000 : Int64).toInt = 2000 := rfl
theorem tL_9999 : (9999 : Int64).toInt = 9999 := rfl
theorem tL_43434 : (43434 : Int64).toInt = 43434 := rfl
theorem tL_2147483647 : (2147483647 : Int64).toInt = 2147483647 := rfl
theorem tL_m1 : ((-1) : Int64).toInt = -1 := rfl

