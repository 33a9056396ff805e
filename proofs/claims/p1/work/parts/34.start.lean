/-! WHAT THE MAKERS MAKE -/
def c_x0 : cH := (1, [(0, 110, 17)], [], [])
def c_x : cO := ccD 3000 5 mX10_init [.ref 0] c_x0
theorem c_x_t : (match c_x with
  | some (none, c, a, b) => Nat.beq c.1 171 && Nat.beq a 170 && Nat.ble b 20000
  | _ => false) = true := by decide +kernel
