/-! ===== the ground: all together ===== -/
section GRS
variable {args : Array Value} {s : State} {A : Nat → Prop}
/-- what the static cells hold, by places g -/
theorem gr_stat (hts : ∀ w ∈ lw_tbl, w.before args s = true) (hq : ∀ w ∈ GWs, w.before args s = true) (hA : ∀ a : Nat, a < s.heap.size → ¬ A a) : ∃ (ad sd td : Nat → Nat) (c0 m0 : Nat),
    (∀ i, i < 12 → va_O "TradeLogs$Command" (ad i) A s s.heap ∧ va_OF "TradeLogs$Command" "word" "Ljava/lang/String;" (.ref (sd i)) (ad i) A s s.heap ∧ va_OF "TradeLogs$Command" "numbers" "I" (.int (nbW.getD i 0)) (ad i) A s s.heap ∧ va_OF "java/lang/Enum" "ordinal" "I" (.int (Int32.ofNat i)) (ad i) A s s.heap) ∧
    (∀ i, i < 12 → va_O "java/lang/String" (sd i) A s s.heap ∧ va_OF "java/lang/String" "coder" "B" (.int 0) (sd i) A s s.heap ∧ va_OF "java/lang/String" "value" "[B" (.ref (td i)) (sd i) A s s.heap) ∧
    (∀ i, i < 12 → va_T .byte (td i) (cmdW.getD i []).length (fun j => .int ((cmdW.getD i []).getD j 0)) A s s.heap) ∧
    va_T (.object "TradeLogs$Command") c0 12 (fun j => .ref (ad j)) A s s.heap ∧ va_T .int m0 12 (fun j => .int (smW.getD j 0)) A s s.heap ∧
    va_Z "TradeLogs$CommandText" "COMMANDS" "[LTradeLogs$Command;" (.ref c0) A s s.heap ∧ va_Z "TradeLogs$1" "$SwitchMap$TradeLogs$Command" "[I" (.ref m0) A s s.heap ∧ va_Z "java/lang/String" "COMPACT_STRINGS" "Z" (.int 1) A s s.heap := by
  obtain ⟨ad, had⟩ := choose12 (P := fun i t => (ctW i).eval args s none [] s = some (.ref t)) fun i hi => ex_at (hq _ (fw_ex i hi))
  obtain ⟨sd, hsd⟩ := choose12 (P := fun i t => (swT i).eval args s none [] s = some (.ref t)) fun i hi => ex_at (hq _ (fw_sx i hi))
  have hlen : ∀ i, i < 12 → (cmdW.getD i []).length < 2 ^ 31 := by decide
  obtain ⟨td, htd⟩ := choose12 (P := fun i t => (svT i).eval args s none [] s = some (.ref t) ∧ va_T .byte t (cmdW.getD i []).length (fun j => .int ((cmdW.getD i []).getD j 0)) A s s.heap) fun i hi =>
    va_Tof (hlen i hi) (hq _ (fw_sa i hi)) (va_eqt (hq _ (fw_sl i hi))) (fun j hj => va_eqt (hq _ (fw_se i hi j hj))) hA
  obtain ⟨c0, hc, hcT⟩ := va_Tof (tm := cmT) (ty := .object "TradeLogs$Command") (N := 12) (f := fun j => .ref (ad j)) (A := A) (by decide) (hq _ fw_ca) (va_eqt (hq _ fw_cl)) (fun j hj => va_eqv (hq _ (fw_ce j hj)) (had j hj)) hA
  obtain ⟨m0, hm, hmT⟩ := va_Tof (tm := smT) (ty := .int) (N := 12) (f := fun j => .int (smW.getD j 0)) (A := A) (by decide) (hq _ fw_ma) (va_eqt (hq _ fw_ml)) (fun j hj => va_eqt (hq _ (fw_me j hj))) hA
  refine ⟨ad, sd, td, c0, m0, fun i hi => ⟨va_Oof (hq _ (fw_ex i hi)) (had i hi) hA, of_at (had i hi) (va_eqv (hq _ (fw_wd i hi)) (hsd i hi)) hA, of_at (had i hi) (va_eqt (hq _ (fw_nb i hi))) hA, of_at (had i hi) (va_eqt (hq _ (fw_or i hi))) hA⟩,
    fun i hi => ⟨va_Oof (hq _ (fw_sx i hi)) (hsd i hi) hA, of_at (hsd i hi) (va_eqt (hq _ (fw_sc i hi))) hA, of_at (hsd i hi) (htd i hi).1 hA⟩, fun i hi => (htd i hi).2, hcT, hmT, ?_, ?_, ?_⟩
  · have h := tb_ls _ (List.mem_of_getElem? (i := 0) rfl)
    exact va_Zof (hts _ (tb_lw h.1)) (hts _ (tb_lw h.2)) hc hA
  · have h := tb_ls _ (List.mem_of_getElem? (i := 1) rfl)
    exact va_Zof (hts _ (tb_lw h.1)) (hts _ (tb_lw h.2)) hm hA
  · have h := tb_ls _ (List.mem_of_getElem? (i := 2) rfl)
    exact va_Zof (hts _ (tb_lw h.1)) (hts _ (tb_lw h.2)) (va_eqi (hq _ fw_cs)) hA
theorem gr_nw (hts : ∀ w ∈ lw_tbl, w.before args s = true) (hq : ∀ w ∈ GWs, w.before args s = true) (hm : mnZ s) : nwZ s :=
  ⟨fun X hX => va_Nw.of rfl (hts _ (tb_lw (tb_cs X hX))), fun X hX => va_Nw.of rfl (hts _ (tb_lw (tb_dc X hX))), fun q h => va_Nc.of (hq _ (fw_nc q h)), fun C hC => va_AO.of (hts _ (tb_lw (tb_ao C hC))), hm⟩
theorem gr_str (hts : ∀ w ∈ lw_tbl, w.before args s = true) (hq : ∀ w ∈ GWs, w.before args s = true) : ∀ q ∈ strW, ∃ a : Nat, vk_R q.1 q.2.1 q.2.2 a s := fun q h => by
  obtain ⟨a, ha⟩ := ex_at (hq _ (fw_st q h))
  exact ⟨a, vk_R.of (hts _ (tb_lw (tb_st q h))) ha⟩
theorem rh_st (G : GT) (k : Nat) : rh G (1000000 + k) = gS G k := by
  unfold rh
  rw [if_neg (by omega), Nat.add_sub_cancel_left]
theorem ground (b : Nat) (hts : ∀ w ∈ lw_tbl, w.before args s = true) (hq : ∀ w ∈ GWs, w.before args s = true) : ∃ G : GT, gB G = s.heap.size ∧ gS G 100 = b ∧ va_K (gD G) vwCl (tysG G) s ∧ ZF G s s.heap := by
  have hA : ∀ a : Nat, a < s.heap.size → ¬ (fun q : Nat => s.heap.size ≤ q) a := fun a h => Nat.not_le.mpr h
  obtain ⟨dC, dI, hC⟩ := gr_cls hts
  obtain ⟨cA, hmn, hT⟩ := gr_arr hts
  obtain ⟨ad, sd, td, c0, m0, h1, h2, h3, h4, h5, h6, h7, h8⟩ := gr_stat (A := fun q : Nat => s.heap.size ≤ q) hts hq hA
  have hu : vx_Zq Bundle.tN "UNASSIGNED_STACK" Bundle.steD (fun q : Nat => s.heap.size ≤ q) s s.heap := vx_Zqof (hts _ (tb_lw tb_us)) (hts _ (tb_lw tb_ti)) (hq _ fw_us) hA
  have hs : vx_Zq Bundle.tN "SUPPRESSED_SENTINEL" Bundle.listD (fun q : Nat => s.heap.size ≤ q) s s.heap := vx_Zqof (hts _ (tb_lw tb_ss)) (hts _ (tb_lw tb_ti)) (hq _ fw_ss) hA
  have hf : ∃ f0 : Nat, va_Z "jdk/internal/util/Preconditions" "SIOOBE_FORMATTER" "Ljava/util/function/BiFunction;" .null (fun q : Nat => s.heap.size ≤ q) s s.heap ∨ va_Z "jdk/internal/util/Preconditions" "SIOOBE_FORMATTER" "Ljava/util/function/BiFunction;" (.ref f0) (fun q : Nat => s.heap.size ≤ q) s s.heap := by
    rcases va_Zqof (hts _ (tb_lw tb_fm)) (hts _ (tb_lw tb_fi)) (hq _ fw_fm) hA with h | ⟨t, h⟩
    · exact ⟨0, Or.inl h⟩
    · exact ⟨t, Or.inr h⟩
  obtain ⟨f0, hf⟩ := hf
  obtain ⟨g, e0, e1, e2, e3, e4, e5, e6⟩ : ∃ g : Nat → Nat, g 0 = c0 ∧ (∀ i, i < 12 → g (1 + i) = ad i) ∧ (∀ i, i < 12 → g (20 + i) = sd i) ∧ (∀ i, i < 12 → g (40 + i) = td i) ∧ g 60 = m0 ∧ g 99 = f0 ∧ g 100 = b := by
    refine ⟨fun k => if k = 0 then c0 else if k < 20 then ad (k - 1) else if k < 40 then sd (k - 20) else if k < 60 then td (k - 40) else if k = 60 then m0 else if k = 99 then f0 else b, rfl, fun i hi => ?_, fun i hi => ?_, fun i hi => ?_, rfl, rfl, rfl⟩
    · show (if 1 + i = 0 then c0 else if 1 + i < 20 then _ else _) = _
      rw [if_neg (by omega), if_pos (by omega), Nat.add_sub_cancel_left]
    · show (if 20 + i = 0 then c0 else if 20 + i < 20 then _ else if 20 + i < 40 then _ else _) = _
      rw [if_neg (by omega), if_neg (by omega), if_pos (by omega), Nat.add_sub_cancel_left]
    · show (if 40 + i = 0 then c0 else if 40 + i < 20 then _ else if 40 + i < 40 then _ else if 40 + i < 60 then _ else _) = _
      rw [if_neg (by omega), if_neg (by omega), if_neg (by omega), if_pos (by omega), Nat.add_sub_cancel_left]
  refine ⟨(s.heap.size, (dC, dI), cA, g), rfl, e6, ⟨hC, fun k q hk => ?_⟩, fun q h => va_Nw.of rfl (hts _ (tb_lw (tb_ne q h))), ⟨hu, hs, ?_, gr_nw hts hq hmn⟩, gr_str hts hq, fun q h => ?_, fun k C h => ?_, fun k o n d v h => ?_, fun k ty n f h => ?_⟩
  · match k, hk with
    | 0, hk => cases hk; exact hT 0 _ rfl
    | 1, hk => cases hk; exact hT 1 _ rfl
    | 2, hk => cases hk; exact hT 2 _ rfl
    | 3, hk => cases hk; exact hT 3 _ rfl
    | 4, hk => cases hk; exact hT 4 _ rfl
    | 5, hk => cases hk; exact hT 5 _ rfl
    | 6, hk => cases hk; exact hT 6 _ rfl
    | k + 7, hk => simp [tysG] at hk
  · refine hf.imp id fun h => ?_
    show va_Z _ _ _ (.ref (rh _ (1000000 + 99))) _ _ _
    rw [rh_st]
    show va_Z _ _ _ (.ref (g 99)) _ _ _
    rw [e5]
    exact h
  · have hq3 : q = ("TradeLogs$CommandText", "COMMANDS", "[LTradeLogs$Command;", .ref 1000000) ∨ q = ("TradeLogs$1", "$SwitchMap$TradeLogs$Command", "[I", .ref 1000060) ∨ q = ("java/lang/String", "COMPACT_STRINGS", "Z", .int 1) := by
      unfold SZt at h
      simpa using h
    rcases hq3 with rfl | rfl | rfl
    · show va_Z _ _ _ (.ref (rh _ (1000000 + 0))) _ _ _
      rw [rh_st]
      show va_Z _ _ _ (.ref (g 0)) _ _ _
      rw [e0]
      exact h6
    · show va_Z _ _ _ (.ref (rh _ (1000000 + 60))) _ _ _
      rw [rh_st]
      show va_Z _ _ _ (.ref (g 60)) _ _ _
      rw [e4]
      exact h7
    · exact h8
  · rcases h with ⟨a, b, rfl⟩ | ⟨a, b, rfl⟩
    · obtain ⟨i, rfl⟩ : ∃ i, k = 1 + i := ⟨k - 1, by omega⟩
      show va_O _ (g (1 + i)) _ _ _
      rw [e1 i (by omega)]
      exact (h1 i (by omega)).1
    · obtain ⟨i, rfl⟩ : ∃ i, k = 20 + i := ⟨k - 20, by omega⟩
      show va_O _ (g (20 + i)) _ _ _
      rw [e2 i (by omega)]
      exact (h2 i (by omega)).1
  · rcases h with ⟨a, b, rfl, rfl, rfl, rfl⟩ | ⟨a, b, rfl, rfl, rfl, rfl⟩ | ⟨a, b, rfl, rfl, rfl, rfl⟩ | ⟨a, b, rfl, rfl, rfl, rfl⟩ | ⟨a, b, rfl, rfl, rfl, rfl⟩
    · obtain ⟨i, rfl⟩ : ∃ i, k = 1 + i := ⟨k - 1, by omega⟩
      show va_OF _ _ _ (.ref (rh _ (1000019 + (1 + i)))) (g (1 + i)) _ _ _
      rw [show 1000019 + (1 + i) = 1000000 + (20 + i) by omega, rh_st]
      show va_OF _ _ _ (.ref (g (20 + i))) (g (1 + i)) _ _ _
      rw [e1 i (by omega), e2 i (by omega)]
      exact (h1 i (by omega)).2.1
    · obtain ⟨i, rfl⟩ : ∃ i, k = 1 + i := ⟨k - 1, by omega⟩
      show va_OF _ _ _ (.int (nbW.getD (1 + i - 1) 0)) (g (1 + i)) _ _ _
      rw [e1 i (by omega), Nat.add_sub_cancel_left]
      exact (h1 i (by omega)).2.2.1
    · obtain ⟨i, rfl⟩ : ∃ i, k = 1 + i := ⟨k - 1, by omega⟩
      show va_OF _ _ _ (.int (Int32.ofNat (1 + i - 1))) (g (1 + i)) _ _ _
      rw [e1 i (by omega), Nat.add_sub_cancel_left]
      exact (h1 i (by omega)).2.2.2
    · obtain ⟨i, rfl⟩ : ∃ i, k = 20 + i := ⟨k - 20, by omega⟩
      show va_OF _ _ _ (.ref (rh _ (1000020 + (20 + i)))) (g (20 + i)) _ _ _
      rw [show 1000020 + (20 + i) = 1000000 + (40 + i) by omega, rh_st]
      show va_OF _ _ _ (.ref (g (40 + i))) (g (20 + i)) _ _ _
      rw [e2 i (by omega), e3 i (by omega)]
      exact (h2 i (by omega)).2.2
    · obtain ⟨i, rfl⟩ : ∃ i, k = 20 + i := ⟨k - 20, by omega⟩
      show va_OF _ _ _ (.int 0) (g (20 + i)) _ _ _
      rw [e2 i (by omega)]
      exact (h2 i (by omega)).2.1
  · rcases h with ⟨rfl, rfl, rfl, rfl⟩ | ⟨rfl, rfl, rfl, rfl⟩ | ⟨a, b, rfl, rfl, rfl⟩
    · show va_T _ (g 0) 12 (fun j => .ref (rh _ (1000001 + j))) _ _ _
      rw [e0]
      obtain ⟨cell, q1, q2, q3, q4, q5, q6, q7⟩ := h4
      refine ⟨cell, q1, q2, q3, q4, q5, fun j hj => ?_, q7⟩
      show _ = some (Value.ref (rh _ (1000001 + j)))
      rw [q6 j hj, show 1000001 + j = 1000000 + (1 + j) by omega, rh_st]
      show _ = some (Value.ref (g (1 + j)))
      rw [e1 j hj]
    · show va_T _ (g 60) 12 (fun j => .int (smW.getD j 0)) _ _ _
      rw [e4]
      exact h5
    · obtain ⟨i, rfl⟩ : ∃ i, k = 40 + i := ⟨k - 40, by omega⟩
      show va_T _ (g (40 + i)) (cmdW.getD (40 + i - 40) []).length (fun j => .int ((cmdW.getD (40 + i - 40) []).getD j 0)) _ _ _
      rw [e3 i (by omega), Nat.add_sub_cancel_left]
      exact h3 i (by omega)
end GRS
