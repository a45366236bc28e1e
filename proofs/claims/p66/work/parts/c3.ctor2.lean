/-! the state of a new object -/
def sO0 : SO := (sG0, [], none, [], -1, -1, [])
