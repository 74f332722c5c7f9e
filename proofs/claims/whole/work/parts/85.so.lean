/-! ===== texts of commands: step by step ===== -/
abbrev Rt : Type := List Cmd × Option (List Int)
noncomputable def finC (f : Nat) (q : Option Cmd × List Int) : Rt := match q with
  | (some d, R2) => (d :: (tAll f R2).1, (tAll f R2).2)
  | (none, R2) => ([], some R2)
noncomputable def restN (f : Nat) (w : Int) (n k : Nat) (g : Nat → Int) (R : List Int) : Rt := finC f (tFin w (tNs n k g R))
noncomputable def afterN (f : Nat) (w : Int) (n k : Nat) (g : Nat → Int) (q : Option Int × List Int) : Rt := match q with
  | (some v, R2) => restN f w n (k + 1) (updN g k v) R2
  | (none, R2) => ([], some R2)
noncomputable def inN (f : Nat) (w : Int) (n k : Nat) (g : Nat → Int) (m : Nat) (v : Int) (R : List Int) : Rt := pIf (isDh (dgs m v R).2) ([], some (dgs m v R).2) (restN f w n (k + 1) (updN g k (dgs m v R).1) (dgs m v R).2)
noncomputable def finN (f : Nat) (w : Int) (g : Nat → Int) (R : List Int) : Rt := finC f (tFin w (some g, R))
theorem sk_sp (R : List Int) : sk (32 :: R) = sk R := by rw [sk, if_pos rfl]
theorem sk_ne {c : Int} {R : List Int} (h : ¬ c = 32) : sk (c :: R) = c :: R := by rw [sk, if_neg h]
theorem tAll_s (f : Nat) (c : Int) (R : List Int) : tAll (f + 1) (c :: R) = finC f (tCmd (c :: R)) := by
  rw [tAll]
  rcases hq : tCmd (c :: R) with ⟨_ | d, R2⟩ <;> rfl
theorem after_dg {f : Nat} {w : Int} {n k : Nat} {g : Nat → Int} {c : Int} {R : List Int} (h : isDg c) : afterN f w n k g (rdN (sk (c :: R))) = inN f w n k g 3 (c - 48) R := by
  have hc : ¬ c = 32 := by omega
  have hl := (dgs_sfx 3 (c - 48) R).len
  have e : dgs 4 0 (c :: R) = dgs 3 (c - 48) R := by
    rw [dgs, if_pos h]
    congr 1
    omega
  rw [sk_ne hc]
  unfold inN
  by_cases hd : isDh (dgs 3 (c - 48) R).2
  · rw [pIf_p hd, rdN_no (by rw [e]; exact Or.inr hd), e]
    rfl
  · rw [pIf_n hd, rdN_yes (by
      rw [e]
      rintro (q | q)
      · simp only [ap_done, ap_pend, ap_dbt, ap_rel, ap_wrk, ap_trade, ap_mentor, ap_refused, ap_wdays, ap_today, ap_moves, st_day, st_needs, st_ments, st_aps, ap_eta, st_eta, List.length_cons] at q; omega
      · exact hd q), e]
    rfl
theorem after_no {f : Nat} {w : Int} {n k : Nat} {g : Nat → Int} {c : Int} {R : List Int} (h : ¬ isDg c) (hc : ¬ c = 32) : afterN f w n k g (rdN (sk (c :: R))) = ([], some (c :: R)) := by
  have e : dgs 4 0 (c :: R) = (0, c :: R) := by rw [dgs, if_neg h]
  rw [sk_ne hc, rdN_no (by rw [e]; exact Or.inl rfl), e]
  rfl
theorem after_nil {f : Nat} {w : Int} {n k : Nat} {g : Nat → Int} : afterN f w n k g (rdN (sk [])) = ([], some []) := by
  rw [sk, rdN_no (Or.inl rfl)]
  rfl
theorem in_dg {f : Nat} {w : Int} {n k m : Nat} {g : Nat → Int} {v c : Int} {R : List Int} (h : isDg c) : inN f w n k g (m + 1) v (c :: R) = inN f w n k g m (10 * v + (c - 48)) R := by
  unfold inN
  rw [dgs, if_pos h]
theorem in_4 {f : Nat} {w : Int} {n k : Nat} {g : Nat → Int} {v c : Int} {R : List Int} (h : isDg c) : inN f w n k g 0 v (c :: R) = ([], some (c :: R)) := by
  unfold inN
  rw [pIf_p (by exact h)]
  rfl
theorem in_no {f : Nat} {w : Int} {n k m : Nat} {g : Nat → Int} {v c : Int} {R : List Int} (h : ¬ isDg c) : inN f w n k g m v (c :: R) = restN f w n (k + 1) (updN g k v) (c :: R) := by
  unfold inN
  have e : dgs m v (c :: R) = (v, c :: R) := by
    cases m with
    | zero => rfl
    | succ m => rw [dgs, if_neg h]
  rw [e, pIf_n (by exact h)]
theorem in_nil {f : Nat} {w : Int} {n k m : Nat} {g : Nat → Int} {v : Int} : inN f w n k g m v [] = restN f w n (k + 1) (updN g k v) [] := by
  unfold inN
  have e : dgs m v [] = (v, []) := by cases m <;> rfl
  rw [e]
  exact pIf_n (P := isDh []) (fun h => h)
theorem rest_0 {f : Nat} {w : Int} {k : Nat} {g : Nat → Int} {R : List Int} : restN f w 0 k g R = finN f w g R := rfl
theorem rest_sp {f : Nat} {w : Int} {n k : Nat} {g : Nat → Int} {R : List Int} : restN f w (n + 1) k g (32 :: R) = afterN f w n k g (rdN (sk R)) := by
  unfold restN
  rw [tNs, tNum, if_pos rfl]
  rcases hq : rdN (sk R) with ⟨_ | v, R2⟩ <;> rfl
theorem rest_no {f : Nat} {w : Int} {n k : Nat} {g : Nat → Int} {c : Int} {R : List Int} (h : ¬ c = 32) : restN f w (n + 1) k g (c :: R) = ([], some (c :: R)) := by
  unfold restN
  rw [tNs, tNum, if_neg h]
  rfl
theorem rest_nil {f : Nat} {w : Int} {n k : Nat} {g : Nat → Int} : restN f w (n + 1) k g [] = ([], some []) := rfl
theorem fin_sp {f : Nat} {w : Int} {g : Nat → Int} {R : List Int} : finN f w g (32 :: R) = finN f w g R := by
  unfold finN tFin tEnd
  simp only [ap_done, ap_pend, ap_dbt, ap_rel, ap_wrk, ap_trade, ap_mentor, ap_refused, ap_wdays, ap_today, ap_moves, st_day, st_needs, st_ments, st_aps, ap_eta, st_eta, sk_sp]
theorem fin_y {f : Nat} {w : Int} {g : Nat → Int} {R : List Int} : finN f w g (59 :: R) = ((w, g) :: (tAll f (sk R)).1, (tAll f (sk R)).2) := by
  unfold finN
  rw [tFin_y (sk_ne (by decide))]
  rfl
theorem fin_no {f : Nat} {w : Int} {g : Nat → Int} {c : Int} {R : List Int} (h1 : ¬ c = 32) (h2 : ¬ c = 59) : finN f w g (c :: R) = ([], some (c :: R)) := by
  unfold finN
  rw [tFin_n (fun R' e => by
    rw [sk_ne h1] at e
    exact h2 (List.cons.inj e).1), sk_ne h1]
  rfl
theorem fin_nil {f : Nat} {w : Int} {g : Nat → Int} : finN f w g [] = ([], some []) := rfl
theorem word_go {f : Nat} {V R : List Int} (hV : ∀ c ∈ V, isLt c) (hne : ¬ V = []) (hR : ∀ c R', R = c :: R' → ¬ isLt c) : tAll (f + 1) (V ++ R) = if wd V = -1 then ([], some (V ++ R)) else restN f (wd V) (mny (wd V)) 0 (fun _ => 0) R := by
  have el : lts (V ++ R) = V := by rw [lts_app _ _ hV, lts_0 hR, List.append_nil]
  have er : rst (V ++ R) = R := by rw [rst_app _ _ hV, rst_0 hR]
  cases hVR : V ++ R with
  | nil =>
    exfalso
    apply hne
    cases V with
    | nil => rfl
    | cons c V => cases hVR
  | cons c S =>
    rw [hVR] at el er
    rw [tAll_s]
    unfold tCmd
    rw [el, er]
    by_cases h : wd V = -1
    · rw [if_pos h, if_pos h]
      rfl
    · rw [if_neg h, if_neg h]
      rfl
theorem word_no {f : Nat} {c : Int} {R : List Int} (h : ¬ isLt c) : tAll (f + 1) (c :: R) = ([], some (c :: R)) := by
  rw [tAll_s]
  unfold tCmd
  rw [lts, if_neg h, if_pos (by decide)]
  rfl
/-- the letters of each word, and what follows at least -/
def wl (w : Int) : Nat := (wdT.getD w.toNat []).length
theorem wl_b : ∀ w : Nat, w < 12 → 6 ≤ wl w + 2 * mny w := by decide +kernel
theorem wl_wd {V : List Int} (h : ¬ wd V = -1) : wl (wd V) = V.length ∧ 0 ≤ wd V ∧ wd V ≤ 11 := by
  have hb := wd_b V
  by_cases hx : ∃ k : Nat, k < 12 ∧ V = cw k
  · obtain ⟨k, hk, e⟩ := hx
    have h2 := cw_wd k hk
    have e2 := wd_en hk e
    refine ⟨?_, by omega, by omega⟩
    unfold wl
    rw [e2, Int.toNat_natCast, h2.1, ← e]
  · exact absurd (wd_none fun k hk e => hx ⟨k, hk, e⟩) h
