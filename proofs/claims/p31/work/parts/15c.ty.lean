/-! ===== what the proofs speak of: entries, mentors, apprentices, states ===== -/
/-- an entry: part, hours, day, mentor -/
abbrev En : Type := Int × Int × Int × Int
/-- a mentor: ratio, trades, confirmed -/
abbrev Mt : Type := Int × Int × Int
def Ap : Type := (Nat → Int) × (List En) × (List En) × (Nat → Bool) × (Nat → Bool) × (Int) × (Int) × (Int) × (Int) × (Int) × (Int)
def mkAp (v0 : Nat → Int) (v1 : List En) (v2 : List En) (v3 : Nat → Bool) (v4 : Nat → Bool) (v5 : Int) (v6 : Int) (v7 : Int) (v8 : Int) (v9 : Int) (v10 : Int) : Ap := (v0, v1, v2, v3, v4, v5, v6, v7, v8, v9, v10)
def Ap.done (x : Ap) : Nat → Int := x.1
def Ap.pend (x : Ap) : List En := x.2.1
def Ap.dbt (x : Ap) : List En := x.2.2.1
def Ap.rel (x : Ap) : Nat → Bool := x.2.2.2.1
def Ap.wrk (x : Ap) : Nat → Bool := x.2.2.2.2.1
def Ap.trade (x : Ap) : Int := x.2.2.2.2.2.1
def Ap.mentor (x : Ap) : Int := x.2.2.2.2.2.2.1
def Ap.refused (x : Ap) : Int := x.2.2.2.2.2.2.2.1
def Ap.wdays (x : Ap) : Int := x.2.2.2.2.2.2.2.2.1
def Ap.today (x : Ap) : Int := x.2.2.2.2.2.2.2.2.2.1
def Ap.moves (x : Ap) : Int := x.2.2.2.2.2.2.2.2.2.2
theorem ap_done {v0 : Nat → Int} {v1 : List En} {v2 : List En} {v3 : Nat → Bool} {v4 : Nat → Bool} {v5 : Int} {v6 : Int} {v7 : Int} {v8 : Int} {v9 : Int} {v10 : Int} : (mkAp v0 v1 v2 v3 v4 v5 v6 v7 v8 v9 v10).done = v0 := rfl
theorem ap_pend {v0 : Nat → Int} {v1 : List En} {v2 : List En} {v3 : Nat → Bool} {v4 : Nat → Bool} {v5 : Int} {v6 : Int} {v7 : Int} {v8 : Int} {v9 : Int} {v10 : Int} : (mkAp v0 v1 v2 v3 v4 v5 v6 v7 v8 v9 v10).pend = v1 := rfl
theorem ap_dbt {v0 : Nat → Int} {v1 : List En} {v2 : List En} {v3 : Nat → Bool} {v4 : Nat → Bool} {v5 : Int} {v6 : Int} {v7 : Int} {v8 : Int} {v9 : Int} {v10 : Int} : (mkAp v0 v1 v2 v3 v4 v5 v6 v7 v8 v9 v10).dbt = v2 := rfl
theorem ap_rel {v0 : Nat → Int} {v1 : List En} {v2 : List En} {v3 : Nat → Bool} {v4 : Nat → Bool} {v5 : Int} {v6 : Int} {v7 : Int} {v8 : Int} {v9 : Int} {v10 : Int} : (mkAp v0 v1 v2 v3 v4 v5 v6 v7 v8 v9 v10).rel = v3 := rfl
theorem ap_wrk {v0 : Nat → Int} {v1 : List En} {v2 : List En} {v3 : Nat → Bool} {v4 : Nat → Bool} {v5 : Int} {v6 : Int} {v7 : Int} {v8 : Int} {v9 : Int} {v10 : Int} : (mkAp v0 v1 v2 v3 v4 v5 v6 v7 v8 v9 v10).wrk = v4 := rfl
theorem ap_trade {v0 : Nat → Int} {v1 : List En} {v2 : List En} {v3 : Nat → Bool} {v4 : Nat → Bool} {v5 : Int} {v6 : Int} {v7 : Int} {v8 : Int} {v9 : Int} {v10 : Int} : (mkAp v0 v1 v2 v3 v4 v5 v6 v7 v8 v9 v10).trade = v5 := rfl
theorem ap_mentor {v0 : Nat → Int} {v1 : List En} {v2 : List En} {v3 : Nat → Bool} {v4 : Nat → Bool} {v5 : Int} {v6 : Int} {v7 : Int} {v8 : Int} {v9 : Int} {v10 : Int} : (mkAp v0 v1 v2 v3 v4 v5 v6 v7 v8 v9 v10).mentor = v6 := rfl
theorem ap_refused {v0 : Nat → Int} {v1 : List En} {v2 : List En} {v3 : Nat → Bool} {v4 : Nat → Bool} {v5 : Int} {v6 : Int} {v7 : Int} {v8 : Int} {v9 : Int} {v10 : Int} : (mkAp v0 v1 v2 v3 v4 v5 v6 v7 v8 v9 v10).refused = v7 := rfl
theorem ap_wdays {v0 : Nat → Int} {v1 : List En} {v2 : List En} {v3 : Nat → Bool} {v4 : Nat → Bool} {v5 : Int} {v6 : Int} {v7 : Int} {v8 : Int} {v9 : Int} {v10 : Int} : (mkAp v0 v1 v2 v3 v4 v5 v6 v7 v8 v9 v10).wdays = v8 := rfl
theorem ap_today {v0 : Nat → Int} {v1 : List En} {v2 : List En} {v3 : Nat → Bool} {v4 : Nat → Bool} {v5 : Int} {v6 : Int} {v7 : Int} {v8 : Int} {v9 : Int} {v10 : Int} : (mkAp v0 v1 v2 v3 v4 v5 v6 v7 v8 v9 v10).today = v9 := rfl
theorem ap_moves {v0 : Nat → Int} {v1 : List En} {v2 : List En} {v3 : Nat → Bool} {v4 : Nat → Bool} {v5 : Int} {v6 : Int} {v7 : Int} {v8 : Int} {v9 : Int} {v10 : Int} : (mkAp v0 v1 v2 v3 v4 v5 v6 v7 v8 v9 v10).moves = v10 := rfl
def St : Type := (Int) × (List (Nat → Int)) × (List Mt) × (List Ap)
def mkSt (v0 : Int) (v1 : List (Nat → Int)) (v2 : List Mt) (v3 : List Ap) : St := (v0, v1, v2, v3)
def St.day (x : St) : Int := x.1
def St.needs (x : St) : List (Nat → Int) := x.2.1
def St.ments (x : St) : List Mt := x.2.2.1
def St.aps (x : St) : List Ap := x.2.2.2
theorem st_day {v0 : Int} {v1 : List (Nat → Int)} {v2 : List Mt} {v3 : List Ap} : (mkSt v0 v1 v2 v3).day = v0 := rfl
theorem st_needs {v0 : Int} {v1 : List (Nat → Int)} {v2 : List Mt} {v3 : List Ap} : (mkSt v0 v1 v2 v3).needs = v1 := rfl
theorem st_ments {v0 : Int} {v1 : List (Nat → Int)} {v2 : List Mt} {v3 : List Ap} : (mkSt v0 v1 v2 v3).ments = v2 := rfl
theorem st_aps {v0 : Int} {v1 : List (Nat → Int)} {v2 : List Mt} {v3 : List Ap} : (mkSt v0 v1 v2 v3).aps = v3 := rfl
theorem ap_eta {x : Ap} : mkAp x.done x.pend x.dbt x.rel x.wrk x.trade x.mentor x.refused x.wdays x.today x.moves = x := rfl
theorem st_eta {x : St} : mkSt x.day x.needs x.ments x.aps = x := rfl

