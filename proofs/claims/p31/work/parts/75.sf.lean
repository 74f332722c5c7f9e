/-! ===== texts of commands: what is read ===== -/
def wdT : List (List Int) := [[116, 114, 97, 100, 101], [108, 111, 103], [109, 101, 110, 116, 111, 114], [112, 117, 112, 105, 108], [109, 111, 118, 101], [115, 119, 97, 112], [102, 114, 101, 101], [99, 111, 110, 102, 105, 114, 109], [100, 111, 117, 98, 116], [97, 99, 99, 101, 112, 116], [114, 101, 102, 117, 115, 101], [100, 97, 121, 115]]
def wdI (W : List Int) : List (List Int) → Int → Int
  | [], _ => -1
  | V :: L, i => if W = V then i else wdI W L (i + 1)
/-- the number of the command of a word; -1: none -/
def wd (W : List Int) : Int := wdI W wdT 0
/-! suffixes -/
/-! words by numbers to the base of 32 -/
