/-! ===== the reference: what it tells of mentors and of all ===== -/
section SPRq
variable {l : Launch} {G : GT} {M : Mm} {Q : PQ} {QX : PX} {X : St} {v : Int32}
/-- what whole tells, with the length of the text -/
def wTold (X : St) (t : Int) (w : Int) : Int := if w = 9 then t else wVal X w
end SPRq
