/-! ===== the reference: exchange ===== -/
theorem WfS.setA {X : St} {a : Nat} {x : Ap} (ws : WfS X) (wa : WfA X x) : WfS (X.setA a x) := ⟨ws.day, ws.l5, ws.l6, by have := ws.l10; unfold St.setA; rw [st_aps, List.length_set]; exact this, ws.nb, ws.mb, fun z hz => by
  unfold St.setA at hz
  rw [st_aps] at hz
  rcases List.mem_or_eq_of_mem_set hz with h | h
  · exact (ws.ab z h).of (Nat.le_refl _) (Nat.le_refl _)
  · subst h; exact wa.of (Nat.le_refl _) (Nat.le_refl _)⟩
theorem WfA.lead {X : St} {x : Ap} {m : Int} (h : WfA X x) (h0 : -1 ≤ m) (h1 : m < X.ments.length) (hv : x.moves < 100000000) : WfA X (aLead x m) :=
  have h2 := h.dbt (fun e => decide (¬ e.2.2.2 = m))
  ⟨h2.t0, h2.t1, h0, h1, h2.dn, h2.ln, h2.td, h2.rf, h2.wd, ⟨by have := h.mv.1; show 0 ≤ x.moves + 1; omega, by show x.moves + 1 ≤ 100000000; omega⟩, h2.ep, h2.ed⟩
section SPRe
variable {l : Launch} {G : GT} {M : Mm} {Q : PQ} {QX : PX} {X : St} {v w : Int32}
end SPRe
