/-! Text: its tokens, and what is read of them. -/
-- what is read
def uσ (σ : Int → Int) (i v : Int) : Int → Int := fun j => if j = i then v else σ j
/-- a protocol more -/
def addP (σ : Int → Int) (k b o r h s a x y : Int) : Int → Int := fun j =>
  if j = 3 then σ 3 + 1 else if j = 4 + 9 * σ 3 then k else if j = 4 + 9 * σ 3 + 1 then h else if j = 4 + 9 * σ 3 + 2 then s else if j = 4 + 9 * σ 3 + 3 then a else if j = 4 + 9 * σ 3 + 4 then x else if j = 4 + 9 * σ 3 + 5 then y else if j = 4 + 9 * σ 3 + 6 then b else if j = 4 + 9 * σ 3 + 7 then o else if j = 4 + 9 * σ 3 + 8 then r else σ j
def addB (σ : Int → Int) (x y : Int) : Int → Int := fun j => if j = 58 then σ 58 + 1 else if j = 59 + 2 * σ 58 then x else if j = 60 + 2 * σ 58 then y else σ j
-- words
