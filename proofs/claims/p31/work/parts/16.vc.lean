/-! ===== rows that the verification conditions are simplified by; ints ===== -/
theorem gt0 {a : Value} {l : List Value} : (a :: l)[0]? = some a := rfl
theorem s1_0 {a : Value} {v : Value} {l : List Value} : st1 (a :: l) 0 v = v :: l := rfl
theorem se_0 {a : Value} {v : Value} {l : List Value} : (a :: l).set 0 v = v :: l := rfl
theorem s2_0 {a b : Value} {v : Value} {l : List Value} : st2 (a :: b :: l) 0 v = v :: xx :: l := rfl
theorem gt1 {a b : Value} {l : List Value} : (a :: b :: l)[1]? = some b := rfl
theorem s1_1 {a b : Value} {v : Value} {l : List Value} : st1 (a :: b :: l) 1 v = kil a :: v :: l := rfl
theorem se_1 {a b : Value} {v : Value} {l : List Value} : (a :: b :: l).set 1 v = a :: v :: l := rfl
theorem s2_1 {a b c : Value} {v : Value} {l : List Value} : st2 (a :: b :: c :: l) 1 v = kil a :: v :: xx :: l := rfl
theorem gt2 {a b c : Value} {l : List Value} : (a :: b :: c :: l)[2]? = some c := rfl
theorem s1_2 {a b c : Value} {v : Value} {l : List Value} : st1 (a :: b :: c :: l) 2 v = a :: kil b :: v :: l := rfl
theorem se_2 {a b c : Value} {v : Value} {l : List Value} : (a :: b :: c :: l).set 2 v = a :: b :: v :: l := rfl
theorem s2_2 {a b c d : Value} {v : Value} {l : List Value} : st2 (a :: b :: c :: d :: l) 2 v = a :: kil b :: v :: xx :: l := rfl
theorem gt3 {a b c d : Value} {l : List Value} : (a :: b :: c :: d :: l)[3]? = some d := rfl
theorem s1_3 {a b c d : Value} {v : Value} {l : List Value} : st1 (a :: b :: c :: d :: l) 3 v = a :: b :: kil c :: v :: l := rfl
theorem se_3 {a b c d : Value} {v : Value} {l : List Value} : (a :: b :: c :: d :: l).set 3 v = a :: b :: c :: v :: l := rfl
theorem s2_3 {a b c d e : Value} {v : Value} {l : List Value} : st2 (a :: b :: c :: d :: e :: l) 3 v = a :: b :: kil c :: v :: xx :: l := rfl
theorem gt4 {a b c d e : Value} {l : List Value} : (a :: b :: c :: d :: e :: l)[4]? = some e := rfl
theorem s1_4 {a b c d e : Value} {v : Value} {l : List Value} : st1 (a :: b :: c :: d :: e :: l) 4 v = a :: b :: c :: kil d :: v :: l := rfl
theorem se_4 {a b c d e : Value} {v : Value} {l : List Value} : (a :: b :: c :: d :: e :: l).set 4 v = a :: b :: c :: d :: v :: l := rfl
theorem s2_4 {a b c d e f : Value} {v : Value} {l : List Value} : st2 (a :: b :: c :: d :: e :: f :: l) 4 v = a :: b :: c :: kil d :: v :: xx :: l := rfl
theorem gt5 {a b c d e f : Value} {l : List Value} : (a :: b :: c :: d :: e :: f :: l)[5]? = some f := rfl
theorem s1_5 {a b c d e f : Value} {v : Value} {l : List Value} : st1 (a :: b :: c :: d :: e :: f :: l) 5 v = a :: b :: c :: d :: kil e :: v :: l := rfl
theorem se_5 {a b c d e f : Value} {v : Value} {l : List Value} : (a :: b :: c :: d :: e :: f :: l).set 5 v = a :: b :: c :: d :: e :: v :: l := rfl
theorem s2_5 {a b c d e f g : Value} {v : Value} {l : List Value} : st2 (a :: b :: c :: d :: e :: f :: g :: l) 5 v = a :: b :: c :: d :: kil e :: v :: xx :: l := rfl
theorem gt6 {a b c d e f g : Value} {l : List Value} : (a :: b :: c :: d :: e :: f :: g :: l)[6]? = some g := rfl
theorem s1_6 {a b c d e f g : Value} {v : Value} {l : List Value} : st1 (a :: b :: c :: d :: e :: f :: g :: l) 6 v = a :: b :: c :: d :: e :: kil f :: v :: l := rfl
theorem se_6 {a b c d e f g : Value} {v : Value} {l : List Value} : (a :: b :: c :: d :: e :: f :: g :: l).set 6 v = a :: b :: c :: d :: e :: f :: v :: l := rfl
theorem s2_6 {a b c d e f g h : Value} {v : Value} {l : List Value} : st2 (a :: b :: c :: d :: e :: f :: g :: h :: l) 6 v = a :: b :: c :: d :: e :: kil f :: v :: xx :: l := rfl
theorem gt7 {a b c d e f g h : Value} {l : List Value} : (a :: b :: c :: d :: e :: f :: g :: h :: l)[7]? = some h := rfl
theorem s1_7 {a b c d e f g h : Value} {v : Value} {l : List Value} : st1 (a :: b :: c :: d :: e :: f :: g :: h :: l) 7 v = a :: b :: c :: d :: e :: f :: kil g :: v :: l := rfl
theorem se_7 {a b c d e f g h : Value} {v : Value} {l : List Value} : (a :: b :: c :: d :: e :: f :: g :: h :: l).set 7 v = a :: b :: c :: d :: e :: f :: g :: v :: l := rfl
theorem s2_7 {a b c d e f g h i : Value} {v : Value} {l : List Value} : st2 (a :: b :: c :: d :: e :: f :: g :: h :: i :: l) 7 v = a :: b :: c :: d :: e :: f :: kil g :: v :: xx :: l := rfl
theorem gt8 {a b c d e f g h i : Value} {l : List Value} : (a :: b :: c :: d :: e :: f :: g :: h :: i :: l)[8]? = some i := rfl
theorem s1_8 {a b c d e f g h i : Value} {v : Value} {l : List Value} : st1 (a :: b :: c :: d :: e :: f :: g :: h :: i :: l) 8 v = a :: b :: c :: d :: e :: f :: g :: kil h :: v :: l := rfl
theorem se_8 {a b c d e f g h i : Value} {v : Value} {l : List Value} : (a :: b :: c :: d :: e :: f :: g :: h :: i :: l).set 8 v = a :: b :: c :: d :: e :: f :: g :: h :: v :: l := rfl
theorem s2_8 {a b c d e f g h i j : Value} {v : Value} {l : List Value} : st2 (a :: b :: c :: d :: e :: f :: g :: h :: i :: j :: l) 8 v = a :: b :: c :: d :: e :: f :: g :: kil h :: v :: xx :: l := rfl
theorem gt9 {a b c d e f g h i j : Value} {l : List Value} : (a :: b :: c :: d :: e :: f :: g :: h :: i :: j :: l)[9]? = some j := rfl
theorem s1_9 {a b c d e f g h i j : Value} {v : Value} {l : List Value} : st1 (a :: b :: c :: d :: e :: f :: g :: h :: i :: j :: l) 9 v = a :: b :: c :: d :: e :: f :: g :: h :: kil i :: v :: l := rfl
theorem se_9 {a b c d e f g h i j : Value} {v : Value} {l : List Value} : (a :: b :: c :: d :: e :: f :: g :: h :: i :: j :: l).set 9 v = a :: b :: c :: d :: e :: f :: g :: h :: i :: v :: l := rfl
theorem s2_9 {a b c d e f g h i j k : Value} {v : Value} {l : List Value} : st2 (a :: b :: c :: d :: e :: f :: g :: h :: i :: j :: k :: l) 9 v = a :: b :: c :: d :: e :: f :: g :: h :: kil i :: v :: xx :: l := rfl
theorem gt10 {a b c d e f g h i j k : Value} {l : List Value} : (a :: b :: c :: d :: e :: f :: g :: h :: i :: j :: k :: l)[10]? = some k := rfl
theorem s1_10 {a b c d e f g h i j k : Value} {v : Value} {l : List Value} : st1 (a :: b :: c :: d :: e :: f :: g :: h :: i :: j :: k :: l) 10 v = a :: b :: c :: d :: e :: f :: g :: h :: i :: kil j :: v :: l := rfl
theorem se_10 {a b c d e f g h i j k : Value} {v : Value} {l : List Value} : (a :: b :: c :: d :: e :: f :: g :: h :: i :: j :: k :: l).set 10 v = a :: b :: c :: d :: e :: f :: g :: h :: i :: j :: v :: l := rfl
theorem s2_10 {a b c d e f g h i j k m : Value} {v : Value} {l : List Value} : st2 (a :: b :: c :: d :: e :: f :: g :: h :: i :: j :: k :: m :: l) 10 v = a :: b :: c :: d :: e :: f :: g :: h :: i :: kil j :: v :: xx :: l := rfl
theorem gt11 {a b c d e f g h i j k m : Value} {l : List Value} : (a :: b :: c :: d :: e :: f :: g :: h :: i :: j :: k :: m :: l)[11]? = some m := rfl
theorem s1_11 {a b c d e f g h i j k m : Value} {v : Value} {l : List Value} : st1 (a :: b :: c :: d :: e :: f :: g :: h :: i :: j :: k :: m :: l) 11 v = a :: b :: c :: d :: e :: f :: g :: h :: i :: j :: kil k :: v :: l := rfl
theorem se_11 {a b c d e f g h i j k m : Value} {v : Value} {l : List Value} : (a :: b :: c :: d :: e :: f :: g :: h :: i :: j :: k :: m :: l).set 11 v = a :: b :: c :: d :: e :: f :: g :: h :: i :: j :: k :: v :: l := rfl
theorem s2_11 {a b c d e f g h i j k m n : Value} {v : Value} {l : List Value} : st2 (a :: b :: c :: d :: e :: f :: g :: h :: i :: j :: k :: m :: n :: l) 11 v = a :: b :: c :: d :: e :: f :: g :: h :: i :: j :: kil k :: v :: xx :: l := rfl
theorem gt12 {a b c d e f g h i j k m n : Value} {l : List Value} : (a :: b :: c :: d :: e :: f :: g :: h :: i :: j :: k :: m :: n :: l)[12]? = some n := rfl
theorem s1_12 {a b c d e f g h i j k m n : Value} {v : Value} {l : List Value} : st1 (a :: b :: c :: d :: e :: f :: g :: h :: i :: j :: k :: m :: n :: l) 12 v = a :: b :: c :: d :: e :: f :: g :: h :: i :: j :: k :: kil m :: v :: l := rfl
theorem se_12 {a b c d e f g h i j k m n : Value} {v : Value} {l : List Value} : (a :: b :: c :: d :: e :: f :: g :: h :: i :: j :: k :: m :: n :: l).set 12 v = a :: b :: c :: d :: e :: f :: g :: h :: i :: j :: k :: m :: v :: l := rfl
theorem kil_i {x : Int32} : kil (.int x) = .int x := rfl
theorem kil_l {x : Int64} : kil (.long x) = xx := rfl
theorem kil_r {x : Nat} : kil (.ref x) = .ref x := rfl
theorem kil_n : kil .null = .null := rfl
theorem kil_x : kil xx = xx := rfl
/-! ints by their numbers -/
theorem i_lt {x y : Int32} : x < y ↔ x.toInt < y.toInt := Int32.lt_iff_toInt_lt
theorem i_le {x y : Int32} : x ≤ y ↔ x.toInt ≤ y.toInt := Int32.le_iff_toInt_le
theorem i_eq {x y : Int32} : x = y ↔ x.toInt = y.toInt := Int32.toInt_inj.symm
theorem tI_0 : (0 : Int32).toInt = 0 := rfl
theorem tI_1 : (1 : Int32).toInt = 1 := rfl
theorem tI_2 : (2 : Int32).toInt = 2 := rfl
theorem tI_3 : (3 : Int32).toInt = 3 := rfl
theorem tI_4 : (4 : Int32).toInt = 4 := rfl
theorem tI_5 : (5 : Int32).toInt = 5 := rfl
theorem tI_6 : (6 : Int32).toInt = 6 := rfl
theorem tI_7 : (7 : Int32).toInt = 7 := rfl
theorem tI_8 : (8 : Int32).toInt = 8 := rfl
theorem tI_9 : (9 : Int32).toInt = 9 := rfl
theorem tI_10 : (10 : Int32).toInt = 10 := rfl
theorem tI_11 : (11 : Int32).toInt = 11 := rfl
theorem tI_12 : (12 : Int32).toInt = 12 := rfl
theorem tI_14 : (14 : Int32).toInt = 14 := rfl
theorem tI_20 : (20 : Int32).toInt = 20 := rfl
theorem tI_31 : (31 : Int32).toInt = 31 := rfl
theorem tI_32 : (32 : Int32).toInt = 32 := rfl
theorem tI_48 : (48 : Int32).toInt = 48 := rfl
theorem tI_57 : (57 : Int32).toInt = 57 := rfl
theorem tI_59 : (59 : Int32).toInt = 59 := rfl
theorem tI_96 : (96 : Int32).toInt = 96 := rfl
theorem tI_97 : (97 : Int32).toInt = 97 := rfl
theorem tI_99 : (99 : Int32).toInt = 99 := rfl
theorem tI_100 : (100 : Int32).toInt = 100 := rfl
theorem tI_122 : (122 : Int32).toInt = 122 := rfl
theorem tI_127 : (127 : Int32).toInt = 127 := rfl
theorem tI_150 : (150 : Int32).toInt = 150 := rfl
theorem tI_199 : (199 : Int32).toInt = 199 := rfl
theorem tI_200 : (200 : Int32).toInt = 200 := rfl
theorem tI_255 : (255 : Int32).toInt = 255 := rfl
theorem tI_427 : (427 : Int32).toInt = 427 := rfl
theorem tI_1708 : (1708 : Int32).toInt = 1708 := rfl
theorem tI_2000 : (2000 : Int32).toInt = 2000 := rfl
theorem tI_9999 : (9999 : Int32).toInt = 9999 := rfl
theorem tI_m1 : ((-1) : Int32).toInt = -1 := rfl
theorem tI_m10 : ((-10) : Int32).toInt = -10 := rfl
theorem cN_0 : (0 : Int32).toNatClampNeg = 0 := rfl
theorem cN_1 : (1 : Int32).toNatClampNeg = 1 := rfl
theorem cN_2 : (2 : Int32).toNatClampNeg = 2 := rfl
theorem cN_3 : (3 : Int32).toNatClampNeg = 3 := rfl
theorem cN_4 : (4 : Int32).toNatClampNeg = 4 := rfl
theorem cN_5 : (5 : Int32).toNatClampNeg = 5 := rfl
theorem cN_6 : (6 : Int32).toNatClampNeg = 6 := rfl
theorem cN_7 : (7 : Int32).toNatClampNeg = 7 := rfl
theorem cN_8 : (8 : Int32).toNatClampNeg = 8 := rfl
theorem cN_9 : (9 : Int32).toNatClampNeg = 9 := rfl
theorem cN_10 : (10 : Int32).toNatClampNeg = 10 := rfl
theorem cN_11 : (11 : Int32).toNatClampNeg = 11 := rfl
theorem cN_12 : (12 : Int32).toNatClampNeg = 12 := rfl
theorem cN_14 : (14 : Int32).toNatClampNeg = 14 := rfl
theorem cN_20 : (20 : Int32).toNatClampNeg = 20 := rfl
theorem cN_31 : (31 : Int32).toNatClampNeg = 31 := rfl
theorem cN_32 : (32 : Int32).toNatClampNeg = 32 := rfl
theorem cN_48 : (48 : Int32).toNatClampNeg = 48 := rfl
theorem cN_57 : (57 : Int32).toNatClampNeg = 57 := rfl
theorem cN_59 : (59 : Int32).toNatClampNeg = 59 := rfl
theorem cN_96 : (96 : Int32).toNatClampNeg = 96 := rfl
theorem cN_97 : (97 : Int32).toNatClampNeg = 97 := rfl
theorem cN_99 : (99 : Int32).toNatClampNeg = 99 := rfl
theorem cN_100 : (100 : Int32).toNatClampNeg = 100 := rfl
theorem cN_122 : (122 : Int32).toNatClampNeg = 122 := rfl
theorem cN_127 : (127 : Int32).toNatClampNeg = 127 := rfl
theorem cN_150 : (150 : Int32).toNatClampNeg = 150 := rfl
theorem cN_199 : (199 : Int32).toNatClampNeg = 199 := rfl
theorem cN_200 : (200 : Int32).toNatClampNeg = 200 := rfl
theorem cN_255 : (255 : Int32).toNatClampNeg = 255 := rfl
theorem cN_427 : (427 : Int32).toNatClampNeg = 427 := rfl
theorem cN_1708 : (1708 : Int32).toNatClampNeg = 1708 := rfl
theorem cN_2000 : (2000 : Int32).toNatClampNeg = 2000 := rfl
theorem cN_9999 : (9999 : Int32).toNatClampNeg = 9999 := rfl
theorem ad_1 (q x : Nat) : q + 1 + 1 + 1 * x = q + 2 + x := by omega
theorem ad_2 (q x : Nat) : q + 7 + 21 + 1 * x = q + 28 + x := by omega
theorem ad_3 (q x : Nat) : q + 8 + 26 + 18 * x = q + 34 + 18 * x := by omega
theorem ad_4 (q x : Nat) : q + 1 + 1 + 214 * x = q + 2 + 214 * x := by omega
theorem ad_5 (q x : Nat) : q + 3 + 1 + 1 * x = q + 4 + x := by omega
theorem nq_2 (q x : Nat) : (q = q + 2 + x) = False := by simp [ap_done, ap_pend, ap_dbt, ap_rel, ap_wrk, ap_trade, ap_mentor, ap_refused, ap_wdays, ap_today, ap_moves, st_day, st_needs, st_ments, st_aps, ap_eta, st_eta]; omega
theorem i_cl (x : Int32) : x.toNatClampNeg = x.toInt.toNat := rfl
theorem i_in {x : Int32} {n : Nat} (h0 : 0 ≤ x.toInt) (h : x.toInt < n) : vp_in x n := vp_in_iff.mpr ⟨h0, h⟩
theorem i_b (x : Int32) : -2147483648 ≤ x.toInt ∧ x.toInt ≤ 2147483647 := ⟨Int32.le_toInt x, by have := Int32.toInt_lt x; omega⟩
theorem i_add {x y : Int32} (h1 : -2147483648 ≤ x.toInt + y.toInt) (h2 : x.toInt + y.toInt ≤ 2147483647) : (x + y).toInt = x.toInt + y.toInt := by
  rw [Int32.toInt_add]
  exact Int.bmod_eq_of_le (by omega) (by omega)
theorem i_sub {x y : Int32} (h1 : -2147483648 ≤ x.toInt - y.toInt) (h2 : x.toInt - y.toInt ≤ 2147483647) : (x - y).toInt = x.toInt - y.toInt := by
  rw [Int32.toInt_sub]
  exact Int.bmod_eq_of_le (by omega) (by omega)
theorem i_mul {x y : Int32} (h1 : -2147483648 ≤ x.toInt * y.toInt) (h2 : x.toInt * y.toInt ≤ 2147483647) : (x * y).toInt = x.toInt * y.toInt := by
  rw [Int32.toInt_mul]
  exact Int.bmod_eq_of_le (by omega) (by omega)
/-! memory: reading behind writing -/
theorem mI_sI (M : Mm) (a k : Nat) (v : Int32) (b j : Nat) : mI (sI M a k v) b j = if b = a ∧ j = k then v else mI M b j := rfl
theorem mI_sL (M : Mm) (a k : Nat) (v : Int64) : mI (sL M a k v) = mI M := rfl
theorem mI_cL (M : Mm) (a s b d n : Nat) : mI (cL M a s b d n) = mI M := rfl
theorem mL_sI (M : Mm) (a k : Nat) (v : Int32) : mL (sI M a k v) = mL M := rfl
theorem mL_cI (M : Mm) (a s b d n : Nat) : mL (cI M a s b d n) = mL M := rfl
theorem mL_sL (M : Mm) (a k : Nat) (v : Int64) (b j : Nat) : mL (sL M a k v) b j = if b = a ∧ j = k then v else mL M b j := rfl
theorem mI_cI (M : Mm) (a s b d n q j : Nat) : mI (cI M a s b d n) q j = if q = b then va_cpy (mI M a) (mI M b) s d n j else mI M q j := rfl
theorem mL_cL (M : Mm) (a s b d n q j : Nat) : mL (cL M a s b d n) q j = if q = b then va_cpy (mL M a) (mL M b) s d n j else mL M q j := rfl
theorem cpy_eq {α : Type} (f g : Nat → α) (s d n k : Nat) : va_cpy f g s d n k = if d ≤ k ∧ k < d + n then f (s + (k - d)) else g k := rfl
/-! what lies beside a cell of a kind -/
theorem k_dec {P : Nat → Prop} (h : ∀ a, a < 1098 → P a) (hn : ∀ a, 1098 ≤ a → P a) (a : Nat) : P a := by
  by_cases q : a < 1098
  · exact h a q
  · exact hn a (by omega)
theorem kx_big {a : Nat} (h : 1098 ≤ a) : KX a = (0, 0, 0) := by
  unfold KX
  repeat rw [if_neg (by omega)]
theorem k_q1 {a : Nat} (h : KX a = (1, 3, 2)) : KX (a + 1) = (4, 2, 4) := by
  have key : ∀ a, a < 1098 → KX a = (1, 3, 2) → KX (a + 1) = (4, 2, 4) := by decide +kernel
  exact key a (kx_lt' h (by decide)) h
theorem k_q2 {a : Nat} (h : KX a = (1, 3, 2)) : KX (a + 2) = (2, 0, 20) := by
  have key : ∀ a, a < 1098 → KX a = (1, 3, 2) → KX (a + 2) = (2, 0, 20) := by decide +kernel
  exact key a (kx_lt' h (by decide)) h
theorem k_q3 {a : Nat} (h : KX a = (1, 3, 2)) : KX (a + 3) = (2, 0, 20) := by
  have key : ∀ a, a < 1098 → KX a = (1, 3, 2) → KX (a + 3) = (2, 0, 20) := by decide +kernel
  exact key a (kx_lt' h (by decide)) h
theorem k_q4 {a : Nat} (h : KX a = (1, 3, 2)) : KX (a + 4) = (2, 0, 20) := by
  have key : ∀ a, a < 1098 → KX a = (1, 3, 2) → KX (a + 4) = (2, 0, 20) := by decide +kernel
  exact key a (kx_lt' h (by decide)) h
theorem k_q5 {a : Nat} (h : KX a = (1, 3, 2)) : KX (a + 5) = (2, 0, 20) := by
  have key : ∀ a, a < 1098 → KX a = (1, 3, 2) → KX (a + 5) = (2, 0, 20) := by decide +kernel
  exact key a (kx_lt' h (by decide)) h
theorem k_qc {a : Nat} (h : KX a = (1, 3, 2)) : ∀ j, j < 4 → KX (a + 2 + j) = (2, 0, 20) := by
  have key : ∀ a, a < 1098 → KX a = (1, 3, 2) → ∀ j, j < 4 → KX (a + 2 + j) = (2, 0, 20) := by decide +kernel
  exact key a (kx_lt' h (by decide)) h
theorem k_d1 {a : Nat} (h : KX a = (1, 2, 2)) : KX (a + 1) = (3, 1, 4) := by
  have key : ∀ a, a < 1098 → KX a = (1, 2, 2) → KX (a + 1) = (3, 1, 4) := by decide +kernel
  exact key a (kx_lt' h (by decide)) h
theorem k_a1 {a : Nat} (h : KX a = (1, 0, 11)) : KX (a + 1) = (2, 0, 3) := by
  have key : ∀ a, a < 1098 → KX a = (1, 0, 11) → KX (a + 1) = (2, 0, 3) := by decide +kernel
  exact key a (kx_lt' h (by decide)) h
theorem k_a2 {a : Nat} (h : KX a = (1, 0, 11)) : KX (a + 2) = (1, 3, 2) := by
  have key : ∀ a, a < 1098 → KX a = (1, 0, 11) → KX (a + 2) = (1, 3, 2) := by decide +kernel
  exact key a (kx_lt' h (by decide)) h
theorem k_a8 {a : Nat} (h : KX a = (1, 0, 11)) : KX (a + 8) = (1, 3, 2) := by
  have key : ∀ a, a < 1098 → KX a = (1, 0, 11) → KX (a + 8) = (1, 3, 2) := by decide +kernel
  exact key a (kx_lt' h (by decide)) h
theorem k_a14 {a : Nat} (h : KX a = (1, 0, 11)) : KX (a + 14) = (1, 2, 2) := by
  have key : ∀ a, a < 1098 → KX a = (1, 0, 11) → KX (a + 14) = (1, 2, 2) := by decide +kernel
  exact key a (kx_lt' h (by decide)) h
theorem k_a16 {a : Nat} (h : KX a = (1, 0, 11)) : KX (a + 16) = (1, 2, 2) := by
  have key : ∀ a, a < 1098 → KX a = (1, 0, 11) → KX (a + 16) = (1, 2, 2) := by decide +kernel
  exact key a (kx_lt' h (by decide)) h
theorem k_s1 {a : Nat} (h : KX a = (1, 5, 9)) : KX (a + 1) = (4, 2, 5) := by
  have key : ∀ a, a < 1098 → KX a = (1, 5, 9) → KX (a + 1) = (4, 2, 5) := by decide +kernel
  exact key a (kx_lt' h (by decide)) h
theorem k_s7 {a : Nat} (h : KX a = (1, 5, 9)) : KX (a + 7) = (4, 3, 6) := by
  have key : ∀ a, a < 1098 → KX a = (1, 5, 9) → KX (a + 7) = (4, 3, 6) := by decide +kernel
  exact key a (kx_lt' h (by decide)) h
theorem k_s8 {a : Nat} (h : KX a = (1, 5, 9)) : KX (a + 8) = (4, 4, 10) := by
  have key : ∀ a, a < 1098 → KX a = (1, 5, 9) → KX (a + 8) = (4, 4, 10) := by decide +kernel
  exact key a (kx_lt' h (by decide)) h
theorem k_s9 {a : Nat} (h : KX a = (1, 5, 9)) : KX (a + 9) = (1, 4, 3) := by
  have key : ∀ a, a < 1098 → KX a = (1, 5, 9) → KX (a + 9) = (1, 4, 3) := by decide +kernel
  exact key a (kx_lt' h (by decide)) h
theorem k_s10 {a : Nat} (h : KX a = (1, 5, 9)) : KX (a + 10) = (1, 0, 11) := by
  have key : ∀ a, a < 1098 → KX a = (1, 5, 9) → KX (a + 10) = (1, 0, 11) := by decide +kernel
  exact key a (kx_lt' h (by decide)) h
theorem k_sn {a : Nat} (h : KX a = (1, 5, 9)) : ∀ j, j < 5 → KX (a + 2 + j) = (2, 0, 3) := by
  have key : ∀ a, a < 1098 → KX a = (1, 5, 9) → ∀ j, j < 5 → KX (a + 2 + j) = (2, 0, 3) := by decide +kernel
  exact key a (kx_lt' h (by decide)) h
theorem k_sm {a : Nat} (h : KX a = (1, 5, 9)) : ∀ j, j < 6 → KX (a + 28 + j) = (1, 4, 3) := by
  have key : ∀ a, a < 1098 → KX a = (1, 5, 9) → ∀ j, j < 6 → KX (a + 28 + j) = (1, 4, 3) := by decide +kernel
  exact key a (kx_lt' h (by decide)) h
theorem k_sa {a : Nat} (h : KX a = (1, 5, 9)) : ∀ j, j < 10 → KX (a + 34 + 18 * j) = (1, 0, 11) := by
  have key : ∀ a, a < 1098 → KX a = (1, 5, 9) → ∀ j, j < 10 → KX (a + 34 + 18 * j) = (1, 0, 11) := by decide +kernel
  exact key a (kx_lt' h (by decide)) h

