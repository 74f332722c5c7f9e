/-! ===== the ground: where the static cells lie ===== -/
section GRO
variable {args : Array Value} {s : State} {A : Nat → Prop}
theorem ex_at {t : Term} {nm : String} (h : (Cond.exactly t nm).before args s = true) : ∃ a : Nat, t.eval args s none [] s = some (.ref a) := by
  obtain ⟨a, c, cell, k, q1, -⟩ := Cond.exactly_spec h
  exact ⟨a, q1⟩
theorem ar_cls {ty : FieldType} (h : (Cond.arrayClass ty).before args s = true) : ∃ (cA : ClassId) (kA : Class) (cc : ClassId), ArrOfT s cA ty ∧ s.vm.findClass ("[" ++ ty.toString) = some cA ∧ s.vm.classes[cA]? = some kA ∧ kA.kind = .array cc ty := by
  obtain ⟨c, k, comp, h1, h2, h3⟩ := Cond.arrayClass_spec h
  exact ⟨c, k, comp, fun n z => ⟨(fun k h => by cases h), k, h2, comp, h3⟩, h1, h2, h3⟩
theorem ar_obj {C : String} (h : (Cond.arrayOver (.object C)).before args s = true) : ∃ cA : ClassId, ArrOfT s cA (.object C) ∧ va_RA s cA (.object C) := by
  obtain ⟨comp, c, k, h1, -, h3, h4, h5⟩ := Cond.arrayOver_spec h
  exact ⟨c, fun n z => ⟨(fun k h => by cases h), k, h3, comp, h4⟩, k, comp, h3, h4, h1, h5⟩
theorem ar_arr {t : FieldType} (h : (Cond.arrayOver (.array t)).before args s = true) : ∃ (comp c : ClassId) (k : Class), s.vm.findClass (FieldType.array t).toString = some comp ∧ s.vm.classes[c]? = some k ∧ k.kind = .array comp (.array t) ∧ s.vm.findClass ("[" ++ (FieldType.array t).toString) = some c := by
  simp only [Cond.before, Cond.holds, Cond.value, beq_iff_eq] at h
  cases hc : s.vm.findClass (FieldType.array t).toString with
  | none => simp [hc] at h
  | some comp =>
    simp only [hc, Option.bind_some, Option.bind_eq_some_iff, Option.map_eq_some_iff] at h
    obtain ⟨c, hi, k, hk, hb⟩ := h
    obtain ⟨hlt, hp, -⟩ := Array.findIdx?_eq_some_iff_getElem.mp hi
    have hkk : s.vm.classes[c] = k := (Array.getElem?_eq_some_iff.mp hk).2
    rw [hkk] at hp
    cases hkind : k.kind with
    | array component ty =>
      rw [hkind] at hb hp
      simp at hb hp
      exact ⟨comp, c, k, rfl, hk, by rw [hkind, hp, hb.1], hb.2⟩
    | _ => rw [hkind] at hb; simp at hb
/-- the array classes -/
theorem gr_arr (hts : ∀ w ∈ lw_tbl, w.before args s = true) : ∃ cA : Nat → ClassId, mnZ s ∧ ∀ (k : Nat) (ty : FieldType), [FieldType.int, .long, .array .int, .object RX6, .object RX1, .object RX7, .object RX2][k]? = some ty → ArrOfT s (cA k) ty ∧ va_RA s (cA k) ty := by
  obtain ⟨c0, k0, y0, a0, f0, g0, i0⟩ := ar_cls (hts _ (tb_lw tb_ai))
  obtain ⟨c1, k1, y1, a1, f1, g1, i1⟩ := ar_cls (hts _ (tb_lw tb_al))
  obtain ⟨comp, c2, k2, f2, g2, i2, j2⟩ := ar_arr (hts _ (tb_lw tb_aa))
  obtain ⟨c3, a3, f3⟩ := ar_obj (hts _ (tb_lw (tb_ao RX6 (by decide))))
  obtain ⟨c4, a4, f4⟩ := ar_obj (hts _ (tb_lw (tb_ao RX1 (by decide))))
  obtain ⟨c5, a5, f5⟩ := ar_obj (hts _ (tb_lw (tb_ao RX7 (by decide))))
  obtain ⟨c6, a6, f6⟩ := ar_obj (hts _ (tb_lw (tb_ao RX2 (by decide))))
  refine ⟨fun k => match k with
    | 0 => c0
    | 1 => c1
    | 2 => c2
    | 3 => c3
    | 4 => c4
    | 5 => c5
    | _ => c6, ⟨c2, comp, y0, k2, k0, j2, g2, i2, f2, ?_, i0⟩, fun k ty h => ?_⟩
  · have e : c0 = comp := Option.some.inj (f0.symm.trans f2)
    rw [← e]
    exact g0
  · match k, h with
    | 0, h => cases h; exact ⟨a0, f0⟩
    | 1, h => cases h; exact ⟨a1, f1⟩
    | 2, h => cases h; exact ⟨fun n z => ⟨(fun k h => by cases h), k2, g2, comp, i2⟩, j2⟩
    | 3, h => cases h; exact ⟨a3, f3⟩
    | 4, h => cases h; exact ⟨a4, f4⟩
    | 5, h => cases h; exact ⟨a5, f5⟩
    | 6, h => cases h; exact ⟨a6, f6⟩
    | k + 7, h => simp at h
/-- the classes -/
theorem gr_cls (hts : ∀ w ∈ lw_tbl, w.before args s = true) : ∃ (dC : Nat → ClassId) (dI : Nat → Nat → Nat), ∀ (k : Nat) (q : vw_C), vwCl[k]? = some q → u_Kn s q.1 q.2.1 q.2.2 (dC k) (dI k) := by
  have hws : ∀ w ∈ WS, w.before args s = true := fun w h => hts w (ws_lw w h)
  have h : ∀ k : Nat, ∃ (c : ClassId) (i : Nat → Nat), ∀ q : vw_C, vwCl[k]? = some q → u_Kn s q.1 q.2.1 q.2.2 c i := by
    intro k
    match k with
    | 0 => obtain ⟨c, i, h⟩ := u_known hws cl_X1.2.1 (hts _ (tb_lw (tb_in (RX1, TX1, 11) (List.mem_of_getElem? (i := 0) rfl)))); exact ⟨c, i, fun q hq => by cases hq; exact h⟩
    | 1 => obtain ⟨c, i, h⟩ := u_known hws cl_X3.2.1 (hts _ (tb_lw (tb_in (RX3, TX3, 11) (List.mem_of_getElem? (i := 1) rfl)))); exact ⟨c, i, fun q hq => by cases hq; exact h⟩
    | 2 => obtain ⟨c, i, h⟩ := u_known hws cl_X4.2.1 (hts _ (tb_lw (tb_in (RX4, TX4, 2) (List.mem_of_getElem? (i := 2) rfl)))); exact ⟨c, i, fun q hq => by cases hq; exact h⟩
    | 3 => obtain ⟨c, i, h⟩ := u_known hws cl_X5.2.1 (hts _ (tb_lw (tb_in (RX5, TX5, 2) (List.mem_of_getElem? (i := 3) rfl)))); exact ⟨c, i, fun q hq => by cases hq; exact h⟩
    | 4 => obtain ⟨c, i, h⟩ := u_known hws cl_X6.2.1 (hts _ (tb_lw (tb_in (RX6, TX6, 3) (List.mem_of_getElem? (i := 4) rfl)))); exact ⟨c, i, fun q hq => by cases hq; exact h⟩
    | 5 => obtain ⟨c, i, h⟩ := u_known hws cl_X7.2.1 (hts _ (tb_lw (tb_in (RX7, TX7, 9) (List.mem_of_getElem? (i := 5) rfl)))); exact ⟨c, i, fun q hq => by cases hq; exact h⟩
    | 6 => obtain ⟨c, i, h⟩ := u_known hws cl_X8.2.1 (hts _ (tb_lw (tb_in (RX8, TX8, 3) (List.mem_of_getElem? (i := 6) rfl)))); exact ⟨c, i, fun q hq => by cases hq; exact h⟩
    | 7 => obtain ⟨c, i, h⟩ := u_known hws cl_X9.2.1 (hts _ (tb_lw (tb_in (RX9, TX9, 3) (List.mem_of_getElem? (i := 7) rfl)))); exact ⟨c, i, fun q hq => by cases hq; exact h⟩
    | k + 8 => exact ⟨0, fun _ => 0, fun q hq => by simp [vwCl] at hq⟩
  obtain ⟨dC, h1⟩ := Classical.axiomOfChoice h
  obtain ⟨dI, h2⟩ := Classical.axiomOfChoice h1
  exact ⟨dC, dI, h2⟩
end GRO
