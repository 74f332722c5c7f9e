/-! ===== texts of commands: what is read ===== -/
def wdT : List (List Int) := [[116, 114, 97, 100, 101], [108, 111, 103], [109, 101, 110, 116, 111, 114], [112, 117, 112, 105, 108], [109, 111, 118, 101], [115, 119, 97, 112], [102, 114, 101, 101], [99, 111, 110, 102, 105, 114, 109], [100, 111, 117, 98, 116], [97, 99, 99, 101, 112, 116], [114, 101, 102, 117, 115, 101], [100, 97, 121, 115]]
def wdI (W : List Int) : List (List Int) → Int → Int
  | [], _ => -1
  | V :: L, i => if W = V then i else wdI W L (i + 1)
/-- the number of the command of a word; -1: none -/
def wd (W : List Int) : Int := wdI W wdT 0
def mny (w : Int) : Nat := if w < 2 then 3 else if w < 7 then 2 else 1
abbrev isLt (c : Int) : Prop := 97 ≤ c ∧ c ≤ 122
abbrev isDg (c : Int) : Prop := 48 ≤ c ∧ c ≤ 57
def sk : List Int → List Int
  | [] => []
  | c :: R => if c = 32 then sk R else c :: R
def lts : List Int → List Int
  | [] => []
  | c :: R => if isLt c then c :: lts R else []
def rst : List Int → List Int
  | [] => []
  | c :: R => if isLt c then rst R else c :: R
def dgs : Nat → Int → List Int → Int × List Int
  | 0, v, R => (v, R)
  | _ + 1, v, [] => (v, [])
  | k + 1, v, c :: R => if isDg c then dgs k (10 * v + (c - 48)) R else (v, c :: R)
def isDh : List Int → Prop
  | [] => False
  | c :: _ => isDg c
/-- behind the spaces: a number -/
noncomputable def rdN (R : List Int) : Option Int × List Int := pIf ((dgs 4 0 R).2.length = R.length ∨ isDh (dgs 4 0 R).2) (none, (dgs 4 0 R).2) (some (dgs 4 0 R).1, (dgs 4 0 R).2)
noncomputable def tNum : List Int → Option Int × List Int
  | [] => (none, [])
  | c :: R => if c = 32 then rdN (sk R) else (none, c :: R)
def updN (g : Nat → Int) (k : Nat) (v : Int) : Nat → Int := fun j => if j = k then v else g j
noncomputable def tNs : Nat → Nat → (Nat → Int) → List Int → Option (Nat → Int) × List Int
  | 0, _, g, R => (some g, R)
  | n + 1, k, g, R => match tNum R with
    | (some v, R2) => tNs n (k + 1) (updN g k v) R2
    | (none, R2) => (none, R2)
/-- behind the numbers -/
def tEnd (R : List Int) : Bool × List Int := match sk R with
  | [] => (false, [])
  | c :: R2 => if c = 59 then (true, sk R2) else (false, c :: R2)
abbrev Cmd : Type := Int × (Nat → Int)
noncomputable def tFin (w : Int) (q : Option (Nat → Int) × List Int) : Option Cmd × List Int := match q with
  | (none, R2) => (none, R2)
  | (some g, R2) => match tEnd R2 with
    | (true, R3) => (some (w, g), R3)
    | (false, R3) => (none, R3)
noncomputable def tCmd (R : List Int) : Option Cmd × List Int := if wd (lts R) = -1 then (none, R) else tFin (wd (lts R)) (tNs (mny (wd (lts R))) 0 (fun _ => 0) (rst R))
noncomputable def tAll : Nat → List Int → List Cmd × Option (List Int)
  | _, [] => ([], none)
  | 0, c :: R => ([], some (c :: R))
  | f + 1, c :: R => match tCmd (c :: R) with
    | (some d, R2) => (d :: (tAll f R2).1, (tAll f R2).2)
    | (none, R2) => ([], some R2)
/-! suffixes -/
abbrev Sfx (T R : List Int) : Prop := ∃ K, T = K ++ R
theorem Sfx.refl (T : List Int) : Sfx T T := ⟨[], rfl⟩
theorem Sfx.tail {T R : List Int} {c : Int} (h : Sfx T (c :: R)) : Sfx T R := by
  obtain ⟨K, hK⟩ := h
  exact ⟨K ++ [c], by rw [hK]; simp⟩
theorem Sfx.trans {T R S : List Int} (h : Sfx T R) (h2 : Sfx R S) : Sfx T S := by
  obtain ⟨K, hK⟩ := h
  obtain ⟨K2, hK2⟩ := h2
  exact ⟨K ++ K2, by rw [hK, hK2]; simp⟩
theorem Sfx.len {T R : List Int} (h : Sfx T R) : R.length ≤ T.length := by
  obtain ⟨K, hK⟩ := h
  rw [hK, List.length_append]
  omega
theorem sk_sfx : ∀ R : List Int, Sfx R (sk R)
  | [] => Sfx.refl _
  | c :: R => by
    rw [sk]
    by_cases h : c = 32
    · rw [if_pos h]; exact (Sfx.refl (c :: R)).tail.trans (sk_sfx R)
    · rw [if_neg h]; exact Sfx.refl _
theorem rst_sfx : ∀ R : List Int, Sfx R (rst R)
  | [] => Sfx.refl _
  | c :: R => by
    rw [rst]
    by_cases h : isLt c
    · rw [if_pos h]; exact (Sfx.refl (c :: R)).tail.trans (rst_sfx R)
    · rw [if_neg h]; exact Sfx.refl _
theorem dgs_sfx : ∀ (k : Nat) (v : Int) (R : List Int), Sfx R (dgs k v R).2
  | 0, v, R => Sfx.refl _
  | k + 1, v, [] => Sfx.refl _
  | k + 1, v, c :: R => by
    rw [dgs]
    by_cases h : isDg c
    · rw [if_pos h]; exact (Sfx.refl (c :: R)).tail.trans (dgs_sfx k _ R)
    · rw [if_neg h]; exact Sfx.refl _
theorem rdN_sfx (R : List Int) : Sfx R (rdN R).2 := by
  unfold rdN
  by_cases h : (dgs 4 0 R).2.length = R.length ∨ isDh (dgs 4 0 R).2
  · rw [pIf_p h]; exact dgs_sfx _ _ _
  · rw [pIf_n h]; exact dgs_sfx _ _ _
theorem tNum_sfx : ∀ R : List Int, Sfx R (tNum R).2
  | [] => Sfx.refl _
  | c :: R => by
    rw [tNum]
    by_cases h : c = 32
    · rw [if_pos h]; exact (Sfx.refl (c :: R)).tail.trans ((sk_sfx R).trans (rdN_sfx _))
    · rw [if_neg h]; exact Sfx.refl _
theorem tNs_sfx : ∀ (n k : Nat) (g : Nat → Int) (R : List Int), Sfx R (tNs n k g R).2
  | 0, k, g, R => Sfx.refl _
  | n + 1, k, g, R => by
    have h := tNum_sfx R
    rw [tNs]
    rcases hq : tNum R with ⟨_ | v, R2⟩
    · rw [hq] at h
      exact h
    · rw [hq] at h
      exact h.trans (tNs_sfx n (k + 1) _ R2)
theorem tEnd_sfx (R : List Int) : Sfx R (tEnd R).2 := by
  unfold tEnd
  have h := sk_sfx R
  rcases hq : sk R with _ | ⟨c, R2⟩
  · rw [hq] at h
    exact h
  · rw [hq] at h
    show Sfx R (if c = 59 then (true, sk R2) else (false, c :: R2)).2
    by_cases h2 : c = 59
    · rw [if_pos h2]; exact h.tail.trans (sk_sfx R2)
    · rw [if_neg h2]; exact h
theorem tFin_sfx {w : Int} {q : Option (Nat → Int) × List Int} {R : List Int} (h : Sfx R q.2) : Sfx R (tFin w q).2 := by
  unfold tFin
  rcases q with ⟨_ | g, R2⟩
  · exact h
  · have h2 := tEnd_sfx R2
    rcases hq : tEnd R2 with ⟨_ | _, R3⟩
    · rw [hq] at h2
      simp only [ap_done, ap_pend, ap_dbt, ap_rel, ap_wrk, ap_trade, ap_mentor, ap_refused, ap_wdays, ap_today, ap_moves, st_day, st_needs, st_ments, st_aps, ap_eta, st_eta, hq]
      exact Sfx.trans h h2
    · rw [hq] at h2
      simp only [ap_done, ap_pend, ap_dbt, ap_rel, ap_wrk, ap_trade, ap_mentor, ap_refused, ap_wdays, ap_today, ap_moves, st_day, st_needs, st_ments, st_aps, ap_eta, st_eta, hq]
      exact Sfx.trans h h2
theorem tCmd_sfx (R : List Int) : Sfx R (tCmd R).2 := by
  unfold tCmd
  by_cases h : wd (lts R) = -1
  · rw [if_pos h]; exact Sfx.refl _
  · rw [if_neg h]; exact tFin_sfx ((rst_sfx R).trans (tNs_sfx _ _ _ _))
/-! words by numbers to the base of 32 -/
def valR : List Int → Int
  | [] => 0
  | c :: V => 32 * valR V + (c - 96)
theorem valR_b : ∀ P : List Int, (∀ c ∈ P, isLt c) → 0 ≤ valR P
  | [], _ => by simp [ap_done, ap_pend, ap_dbt, ap_rel, ap_wrk, ap_trade, ap_mentor, ap_refused, ap_wdays, ap_today, ap_moves, st_day, st_needs, st_ments, st_aps, ap_eta, st_eta, valR]
  | c :: V, h => by
    have h1 := valR_b V fun x hx => h x (List.mem_cons_of_mem _ hx)
    have h2 := h c (List.mem_cons_self ..)
    rw [valR]
    omega
theorem valR_inj : ∀ P P' : List Int, (∀ c ∈ P, isLt c) → (∀ c ∈ P', isLt c) → valR P = valR P' → P = P'
  | [], [], _, _, _ => rfl
  | [], c :: V, _, h, e => by
    have h1 := valR_b V fun x hx => h x (List.mem_cons_of_mem _ hx)
    have h2 := h c (List.mem_cons_self ..)
    simp only [ap_done, ap_pend, ap_dbt, ap_rel, ap_wrk, ap_trade, ap_mentor, ap_refused, ap_wdays, ap_today, ap_moves, st_day, st_needs, st_ments, st_aps, ap_eta, st_eta, valR] at e
    omega
  | c :: V, [], h, _, e => by
    have h1 := valR_b V fun x hx => h x (List.mem_cons_of_mem _ hx)
    have h2 := h c (List.mem_cons_self ..)
    simp only [ap_done, ap_pend, ap_dbt, ap_rel, ap_wrk, ap_trade, ap_mentor, ap_refused, ap_wdays, ap_today, ap_moves, st_day, st_needs, st_ments, st_aps, ap_eta, st_eta, valR] at e
    omega
  | c :: V, d :: V', h, h', e => by
    have h2 := h c (List.mem_cons_self ..)
    have h3 := h' d (List.mem_cons_self ..)
    simp only [ap_done, ap_pend, ap_dbt, ap_rel, ap_wrk, ap_trade, ap_mentor, ap_refused, ap_wdays, ap_today, ap_moves, st_day, st_needs, st_ments, st_aps, ap_eta, st_eta, valR] at e
    have e1 : c = d := by omega
    have e2 := valR_inj V V' (fun x hx => h x (List.mem_cons_of_mem _ hx)) (fun x hx => h' x (List.mem_cons_of_mem _ hx)) (by omega)
    rw [e1, e2]
theorem wd_long {W : List Int} (h : 8 < W.length) : wd W = -1 := by
  unfold wd wdT
  have n : ∀ V : List Int, V.length ≤ 8 → ¬ W = V := fun V hV e => by rw [e] at h; omega
  simp only [ap_done, ap_pend, ap_dbt, ap_rel, ap_wrk, ap_trade, ap_mentor, ap_refused, ap_wdays, ap_today, ap_moves, st_day, st_needs, st_ments, st_aps, ap_eta, st_eta, wdI]
  repeat rw [if_neg (n _ (by decide))]
theorem wdI_b (W : List Int) : ∀ (L : List (List Int)) (i : Int), 0 ≤ i → -1 ≤ wdI W L i ∧ wdI W L i < i + L.length
  | [], i, h => by simp [ap_done, ap_pend, ap_dbt, ap_rel, ap_wrk, ap_trade, ap_mentor, ap_refused, ap_wdays, ap_today, ap_moves, st_day, st_needs, st_ments, st_aps, ap_eta, st_eta, wdI]; omega
  | V :: L, i, h => by
    have := wdI_b W L (i + 1) (by omega)
    rw [wdI, List.length_cons]
    split <;> omega
theorem wd_b (W : List Int) : -1 ≤ wd W ∧ wd W ≤ 11 := by
  have := wdI_b W wdT 0 (by decide)
  unfold wd
  have e : (wdT.length : Int) = 12 := rfl
  omega
