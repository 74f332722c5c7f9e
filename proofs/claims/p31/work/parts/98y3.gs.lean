/-! ===== the ground: all together ===== -/
section GRS
variable {args : Array Value} {s : State} {A : Nat → Prop}
theorem gr_nw (hts : ∀ w ∈ lw_tbl, w.before args s = true) (hq : ∀ w ∈ GWs, w.before args s = true) (hm : mnZ s) : nwZ s :=
  ⟨fun X hX => va_Nw.of rfl (hts _ (tb_lw (tb_cs X hX))), fun X hX => va_Nw.of rfl (hts _ (tb_lw (tb_dc X hX))), fun q h => va_Nc.of (hq _ (fw_nc q h)), fun C hC => va_AO.of (hts _ (tb_lw (tb_ao C hC))), hm⟩
theorem gr_str (hts : ∀ w ∈ lw_tbl, w.before args s = true) (hq : ∀ w ∈ GWs, w.before args s = true) : ∀ q ∈ strW, ∃ a : Nat, vk_R q.1 q.2.1 q.2.2 a s := fun q h => by
  obtain ⟨a, ha⟩ := ex_at (hq _ (fw_st q h))
  exact ⟨a, vk_R.of (hts _ (tb_lw (tb_st q h))) ha⟩
theorem rh_st (G : GT) (k : Nat) : rh G (1000000 + k) = gS G k := by
  unfold rh
  rw [if_neg (by omega), Nat.add_sub_cancel_left]
theorem ground (b : Nat) (L : Nat) (xs : Nat → Int32) (hb : b < s.heap.size) (hX : va_X b L xs s s.heap) (hts : ∀ w ∈ lw_tbl, w.before args s = true) (hq : ∀ w ∈ GWs, w.before args s = true) : ∃ G : GT, gB G = s.heap.size ∧ gS G 100 = b ∧ gXL G = L ∧ va_K (gD G) vwCl (tysG G) s ∧ ZF G s s.heap := by
  have hA : ∀ a : Nat, a < s.heap.size → ¬ (fun q : Nat => s.heap.size ≤ q) a := fun a h => Nat.not_le.mpr h
  obtain ⟨dC, dI, hC⟩ := gr_cls hts
  obtain ⟨cA, hmn, hT⟩ := gr_arr hts
  have hu : vx_Zq Bundle.tN "UNASSIGNED_STACK" Bundle.steD (fun q : Nat => s.heap.size ≤ q) s s.heap := vx_Zqof (hts _ (tb_lw tb_us)) (hts _ (tb_lw tb_ti)) (hq _ fw_us) hA
  have hs : vx_Zq Bundle.tN "SUPPRESSED_SENTINEL" Bundle.listD (fun q : Nat => s.heap.size ≤ q) s s.heap := vx_Zqof (hts _ (tb_lw tb_ss)) (hts _ (tb_lw tb_ti)) (hq _ fw_ss) hA
  refine ⟨(s.heap.size, (dC, dI), cA, (fun _ => b), L, xs), rfl, rfl, rfl, ⟨hC, fun k q hk => ?_⟩, fun q h => va_Nw.of rfl (hts _ (tb_lw (tb_ne q h))), ⟨hu, hs, ⟨rfl, rfl, rfl⟩, gr_nw hts hq hmn⟩, gr_str hts hq, fun q h => ?_, fun k C h => ?_, fun k o n d v h => ?_, fun k ty n f h => ?_⟩
  · match k, hk with
    | 0, hk => cases hk; exact hT 0 _ rfl
    | 1, hk => cases hk; exact hT 1 _ rfl
    | 2, hk => cases hk; exact hT 2 _ rfl
    | 3, hk => cases hk; exact hT 3 _ rfl
    | 4, hk => cases hk; exact hT 4 _ rfl
    | 5, hk => cases hk; exact hT 5 _ rfl
    | 6, hk => cases hk; exact hT 6 _ rfl
    | k + 7, hk => simp [tysG] at hk
  · cases h
  · exact h.2.2.elim
  · exact h.2.2.2.2.2.elim
  · obtain ⟨rfl, rfl, rfl, rfl⟩ := h
    obtain ⟨scr, h1, h2, h3, h4, h5⟩ := hX
    exact ⟨scr, h1, h2, h3, Nat.le_of_eq h4.symm, by rw [h4], fun j hj => h5 j hj, Nat.not_le.mpr hb⟩
end GRS
