/-! ===== more rules: inherited methods, narrow returns, roads that are never gone ===== -/
theorem wd_2_170 : Jvm.Cond.sameMethod "TradeLogs$Command" "java/lang/Enum" "ordinal" "()I" ∈ WS := ws_2 170 rfl rfl
section RU2
variable {z : Bool} {l : Launch} {G : GT} {F : FX} {Y : YT} {Q : PQ} {QX : PX} {k n pc : Nat} {K Kt : KT}
def I_no : KT := fun _ _ _ => False
theorem r_no : Le I_no (Wj z l G F Y Q QX k n pc) := fun _ _ _ h => h.elim
def I_nr (ty : FieldType) (Q : PQ) : KT := fun _ st M => match st with
  | [.int x] => narrow ty (.int x) = .int x ∧ Q (some (.int x)) M
  | _ => False
theorem r_nr {ty : FieldType} (d : decode (yB Y) pc = .ok (.ireturn, 1)) (hr : yR Y = some ty) (hk : k ≤ yC Y) (hn : n ≤ yS Y) : Le (I_nr ty Q) (Wj z l G F Y Q QX k n pc) := by
  intro L st M h
  unfold I_nr at h
  split at h
  next x =>
    intro C
    obtain ⟨p, e, s, m, args, below, meth, c⟩ := F
    intro H locs ls hR hB hz hlo hv
    exact W.widen hk hn (vx_ret (W.zret C.ex C.by (C.rt.trans hr) h.1 (fun t ht _ => qr_of C h.2 hR hB hz t ht) hlo d C.lk))
  next => exact h.elim
/-- the call of ordinal on a constant -/
def I_ord (K : KT) : KT := fun L st M => match st with
  | .ref o :: r => (1000001 ≤ o ∧ o ≤ 1000012) ∧ (r.map Value.category).sum ≤ 7 ∧ K L (.int (Int32.ofNat (o - 1000001)) :: r) M
  | _ => False
theorem r_ord {ix : Nat} (hK : Le K (Wj z l G F Y Q QX k n (pc + 3))) (d : decode (yB Y) pc = .ok (.invokevirtual ix, 3)) (hl : Cond.methodLink (yN Y).cls ix ({ cls := "TradeLogs$Command", name := "ordinal", desc := "()I" } : MethodName) ∈ WS) (hf : 1 ≤ yF Y ∧ 20 ≤ yW Y) (hk : k ≤ yC Y ∧ n ≤ yS Y) : Le (I_ord K) (Wj z l G F Y Q QX k n pc) := by
  intro L st M h
  unfold I_ord at h
  split at h
  next o r =>
    intro C
    obtain ⟨p, e, s, m, args, below, meth, c⟩ := F
    intro H locs ls hR hB hz hlo hv T hT X
    obtain ⟨ho, hcat, h⟩ := h
    rw [show o - 1000001 = o - 1000000 - 1 from (Nat.sub_sub o 1000000 1).symm] at h
    have hzf : ZF G s s.heap := C.zz
    have o1 : 1 ≤ o - 1000000 ∧ o - 1000000 ≤ 12 := ⟨Nat.le_sub_of_add_le ho.1, Nat.sub_le_of_le_add ho.2⟩
    have o2 : 1000000 ≤ o := Nat.le_trans (Nat.le_of_ble_eq_true rfl) ho.1
    have hO := hzf.2.2.2.2.1 (o - 1000000) RX2 (Or.inl ⟨o1.1, o1.2, rfl⟩)
    have hOF := hzf.2.2.2.2.2.1 (o - 1000000) "java/lang/Enum" "ordinal" "I" (.int (Int32.ofNat (o - 1000000 - 1))) (Or.inr (Or.inr (Or.inl ⟨o1.1, o1.2, rfl, rfl, rfl, rfl⟩)))
    rw [← rh_s' o2] at hO hOF
    obtain ⟨cv, g1, g2, g3⟩ := va_Orecv hO (zz_S hB hz hlo)
    have hinst := C.ws _ wd_2_173
    have hcode := C.ws _ wd_2_174
    have hsame := C.ws _ wd_2_170
    obtain ⟨r0, rr, hn, hrm, hstR, hsigR⟩ := va_Decl.of hinst hcode
    obtain ⟨cn, ck, r1, hcn, hck, hni, hf1, hn1⟩ := Cond.sameMethod_found hsame
    have hn1' : s.methodNamed? ({ cls := "java/lang/Enum", name := "ordinal", desc := "()I" } : MethodName) = some r1 := hn1
    cases hn.symm.trans hn1'
    obtain ⟨r9, methM, hnamed, hmethM, -, habM⟩ := Cond.instanceMethod_spec hinst
    cases hn.symm.trans hnamed
    cases hrm.symm.trans hmethM
    obtain ⟨methY, cY, hmY, hcY, hbY, hlY, hrY, hkY, -, -⟩ := Cond.code_spec hn hcode
    cases hrm.symm.trans hmY
    obtain ⟨c2, r2, m2, q1, q2, q3, q4, kP, hkP, hkPi⟩ := Cond.selects_spec (C.ws _ wd_2_172)
    cases g3.symm.trans q1
    cases hf1.symm.trans q2
    cases hn.symm.trans q3
    have hselP : selectMethod e.platform s.vm cv.cls r0 = .method r0 := by rw [Launch.admits_selectMethod X.admits]; exact q4
    have hps : rr.sig.parameters.length = 0 := by
      have h' : parseMethodDescriptor "()I" = some rr.sig := hsigR
      rw [show parseMethodDescriptor "()I" = some ⟨[], some .int⟩ from by decide +kernel] at h'
      rw [← Option.some.inj h']; rfl
    obtain ⟨vm₁, X₁, hstep₁⟩ := X.invokevirtualUp C.ex (own := (yN Y).cls) (owner := "java/lang/Enum") (index := ix) (x := { cls := "TradeLogs$Command", name := "ordinal", desc := "()I" }) C.ow (C.ws _ hl) hsame ⟨by decide, by decide⟩ hn hrm hstR (a := rh G o) (cell := cv) (by rw [hT]; exact g1)
      (fun z9 h9 => by rw [h9] at g2; cases g2) hselP hrm habM hkP hkPi (g := F0 m pc ls (List.map (tv G) (.ref o :: r))) rfl (argsL := []) (rest := r.map (tv G)) hps.symm rfl (by rw [C.by]; exact d)
    have hbe : ∀ w ∈ WS, w.before #[.ref (rh G o)] ((T.setVm vm₁).calling (F0 m pc ls (r.map (tv G))) r0 #[.ref (rh G o)]) = true := fun w hw => word_at (s := s) (U := (T.setVm vm₁).calling (F0 m pc ls (r.map (tv G))) r0 #[.ref (rh G o)]) X₁.warmed (ws_good w hw) (C.ws w hw)
    have hmW : (T.setVm vm₁).vm.method? r0 = some rr := by rw [X₁.warmed.alike.method?]; exact hrm
    have hl9 : cY.maxLocals = 1 := hlY
    have hal : s.vm.Alike vm₁ := X₁.warmed.alike
    have hown9 : ((T.setVm vm₁).calling (F0 m pc ls (r.map (tv G))) r0 #[.ref (rh G o)]).vm.findClass "java/lang/Enum" = some r0.cls := findClass_of_methodNamed (x := { cls := "java/lang/Enum", name := "ordinal", desc := "()I" }) (X₁.named hn)
    have hof9 : va_OF "java/lang/Enum" "ordinal" "I" (.int (Int32.ofNat (o - 1000000 - 1))) (rh G o) (fun q => gB G ≤ q) ((T.setVm vm₁).calling (F0 m pc ls (r.map (tv G))) r0 #[.ref (rh G o)]) H := va_OF.moved hal (hOF.kept (zz_S hB hz hlo).2.1)
    obtain ⟨v, B, t, L9, XB, hq, hBh, hL9, hst9⟩ := in_call (Qc := fun _ _ o9 t => o9 = .returned (some (.int (Int32.ofNat (o - 1000000 - 1)))) ∧ t.heap = H) (free := fun q => gB G ≤ q) (g := F0 m pc ls (r.map (tv G))) (y := { cls := "java/lang/Enum", name := "ordinal", desc := "()I" }) (mk := r0) (a := #[.ref (rh G o)]) X₁ rfl (hv.1.trans C.ml.symm) (by rw [C.by]; exact d) (X₁.named hn) (by decide) hmW hcY hkY hf.1 (by
      have hc9 : (List.map (fun v => v.category) (r.map (tv G))).sum ≤ 7 := by rw [cat_sum]; exact hcat
      show 2 * 0 + (List.map (fun v => v.category) (r.map (tv G))).sum + (cY.maxLocals + 11) ≤ yW Y
      rw [hl9]
      have := hf.2
      omega) hk.1 hk.2 (by
      rw [hl9]
      have e9 := lg_entry_eq r0 [.ref (rh G o)] 1
      have hl8 := lv_entry [.ref (rh G o)] (n := 1) (Nat.le_of_ble_eq_true rfl)
      rw [show (#[.ref (rh G o)] : Array Value) = ([.ref (rh G o)] : List Value).toArray from rfl, e9]
      refine lv_aload_n C.ex hbY dJx29ce0_ordinal_8abf5_0 rfl (lv_at hl8 0 rfl) ?_
      have hHT : (T.setVm vm₁).heap = H := hT
      rw [hHT]
      refine vk_getf (A := fun q => gB G ≤ q) C.ex hbY (by
        have : ((T.setVm vm₁).calling (F0 m pc ls (r.map (tv G))) r0 #[.ref (rh G o)]).heap = H := hT
        rw [this]
        exact hof9) ⟨Nat.le_of_eq (congrArg Array.size hT), fun q _ _ => by rw [show ((T.setVm vm₁).calling (F0 m pc ls (r.map (tv G))) r0 #[.ref (rh G o)]).heap = H from hT], fun _ h9 => by cases h9⟩ hown9 (hbe _ wd_7_94) (fun _ h9 => h9) dJx29ce0_ordinal_8abf5_1 ?_
      exact W.iret C.ex hbY hrY (fun t9 ht9 _ => ⟨rfl, ht9⟩) (fun _ h9 => by cases h9) dJx29ce0_ordinal_8abf5_4)
    cases hq.1
    have hw := hK _ _ _ h C H (locs ++ L9) ls hR hB hz (fun x hx => by
      rcases List.mem_append.mp hx with h9 | h9
      · exact hlo x h9
      · exact hL9 x h9) hv B (hBh.trans hq.2) XB
    obtain ⟨t2, a1, b1⟩ := hw
    refine ⟨t2, hstep₁ _ fun acts => ?_, b1⟩
    rw [doInvoke_state]
    exact hst9.trans a1
  next => exact h.elim
end RU2
