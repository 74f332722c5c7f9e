/-! ===== the reference: settles ===== -/
section SPRk
variable {l : Launch} {G : GT} {M : Mm} {Q : PQ} {QX : PX} {X : St} {v : Int32}
/-- what an accepted or refused entry leaves behind -/
def aSet (x : Ap) (b : Int) (e : En) (L : List En) : Ap := if b = 0 then (mkAp (Ap.done (x)) (Ap.pend (x)) (L) (Ap.rel (x)) (Ap.wrk (x)) (Ap.trade (x)) (Ap.mentor (x)) (x.refused + e.2.1) (Ap.wdays (x)) (Ap.today (x)) (Ap.moves (x))) else (mkAp (dAdd x.done e.1 e.2.1) (Ap.pend (x)) (L) (Ap.rel (x)) (Ap.wrk (x)) (Ap.trade (x)) (Ap.mentor (x)) (Ap.refused (x)) (Ap.wdays (x)) (Ap.today (x)) (Ap.moves (x)))
end SPRk
