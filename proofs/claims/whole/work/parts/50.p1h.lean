def sFull : Int × Int := (-2147483648, 2147483647)
def sCx (c : Nat) : SCx := [sFull, sFull, sFull, sFull, sFull, sFull, ((c : Int), (c : Int))]
def sFin : SK := fun _ r σ => match r with
  | some (.inl (.int x)) => decide (x = 1) && Nat.ble σ.length 600000 && Nat.ble (mSl σ) 7302250
  | _ => false
