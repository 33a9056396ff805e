/-! WHAT THE MAKERS MAKE: 0 the object, 171 the reference, 201 the answers' array -/
def c_x0 : cH := (1, [(0, 110, 17)], [], [])
def c_x : cO := ccD 3000 5 mX10_init [.ref 0] c_x0
def c_m0 (c : cH) : cH := (c.1 + 1, (c.1, 111, 53) :: c.2.1, c.2.2.1, c.2.2.2)
def c_m : cO := match c_x with
  | some (_, c, _, _) => ccD 3000 5 mX11_init [.ref c.1] (c_m0 c)
  | none => none
theorem c_x_t : (match c_x with
  | some (none, c, a, b) => Nat.beq c.1 171 && Nat.beq a 170 && Nat.ble b 20000
  | _ => false) = true := by decide +kernel
theorem c_m_t : (match c_m with
  | some (none, c, a, b) => Nat.beq c.1 201 && Nat.beq a 29 && Nat.ble b 20000
  | _ => false) = true := by decide +kernel
