/-! one call on fresh objects: each operation, for all arguments -/
def sFull : Int × Int := (-2147483648, 2147483647)
def sCx (a b : Int) : SCx := [sFull, sFull, sFull, sFull, sFull, sFull, (a, b)]
