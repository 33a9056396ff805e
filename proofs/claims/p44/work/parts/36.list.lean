/-- is the receiver named: where its role has more cells than one -/
def slfL (E : ET) (sm : SM) : Bool := match sm.2.1 with
  | (2, r, _) :: _ => !(eO E r)
  | _ => false
