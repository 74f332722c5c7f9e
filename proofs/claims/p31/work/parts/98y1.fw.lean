/-! ===== what the Statement gives of the start: words by their places ===== -/
def GWs : List Cond := flatC (Jvm.Cond.and given_1 narrow_1)
theorem fw_us : Cond.isRef (.static Bundle.tN "UNASSIGNED_STACK" Bundle.steD) ∈ GWs := by decide +kernel
theorem fw_ss : Cond.isRef (.static Bundle.tN "SUPPRESSED_SENTINEL" Bundle.listD) ∈ GWs := by decide +kernel
theorem fw_st : ∀ q ∈ strW, Cond.exactly (.string q.1 q.2.1) "java/lang/String" ∈ GWs := by decide +kernel
theorem fw_nc : ∀ q ∈ ncsW, Cond.not (.castable q.1 q.2) ∈ GWs := by decide +kernel
/-! words of the tables -/
theorem tb_ne : ∀ q ∈ nestW, Cond.methodLinkNest q.1 q.2.1 q.2.2 "TradeLogs" ∈ tables_1 := by decide +kernel
theorem tb_st : ∀ q ∈ strW, Cond.stringRef q.1 q.2.1 q.2.2 ∈ tables_1 := by decide +kernel
theorem tb_us : Cond.laysStatic Bundle.tN "UNASSIGNED_STACK" Bundle.steD ∈ tables_1 := by decide +kernel
theorem tb_ss : Cond.laysStatic Bundle.tN "SUPPRESSED_SENTINEL" Bundle.listD ∈ tables_1 := by decide +kernel
theorem tb_ti : Cond.initialized Bundle.tN ∈ tables_1 := by decide +kernel
theorem tb_cs : ∀ X ∈ cstW, Cond.castable X X ∈ tables_1 := by decide +kernel
theorem tb_dc : ∀ X ∈ dclW, Cond.declares (Bundle.initS X) ∈ tables_1 := by decide +kernel
theorem tb_ao : ∀ C ∈ aovW, Cond.arrayOver (.object C) ∈ tables_1 := by decide +kernel
theorem tb_aa : Cond.arrayOver (.array .int) ∈ tables_1 := by decide +kernel
theorem tb_ai : Cond.arrayClass .int ∈ tables_1 := by decide +kernel
theorem tb_al : Cond.arrayClass .long ∈ tables_1 := by decide +kernel
theorem tb_in : ∀ q ∈ vwCl, Cond.instantiable q.1 q.2.2 ∈ tables_1 := by decide +kernel
theorem tb_lw {w : Cond} (h : w ∈ tables_1) : w ∈ lw_tbl := List.mem_append_right _ h

