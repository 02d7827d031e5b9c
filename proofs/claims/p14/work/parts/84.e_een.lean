/-! a step of the codes -/
/-- a step of the model's codes as the class writes it -/
def eEn (op v : Int) : Int := if op = 110 then v else if op = 118 then -1 - v else if op = 33 then -20 else if op = 38 then -19 else if op = 124 then -18 else -op
