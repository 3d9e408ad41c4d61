/-! the methods' bytes decode as the tables have it; the methods' own words -/
def qo_ck (f : Nat → Option (Instr × Nat)) (b : ByteArray) (n : Nat) : Bool := (List.range n).all fun pc => match f pc with
  | none => true
  | some q => decide (decode b pc = .ok q)
set_option maxRecDepth 100000 in
theorem qo_d0 : ∀ j, j < 10 → qo_ck (qt_code (0 + j)) (qt_bytes (0 + j)) (qt_size (0 + j)) = true := by decide +kernel
set_option maxRecDepth 100000 in
theorem qo_d1 : ∀ j, j < 10 → qo_ck (qt_code (10 + j)) (qt_bytes (10 + j)) (qt_size (10 + j)) = true := by decide +kernel
set_option maxRecDepth 100000 in
theorem qo_d2 : ∀ j, j < 10 → qo_ck (qt_code (20 + j)) (qt_bytes (20 + j)) (qt_size (20 + j)) = true := by decide +kernel
set_option maxRecDepth 100000 in
theorem qo_d3 : ∀ j, j < 10 → qo_ck (qt_code (30 + j)) (qt_bytes (30 + j)) (qt_size (30 + j)) = true := by decide +kernel
set_option maxRecDepth 100000 in
theorem qo_d4 : ∀ j, j < 10 → qo_ck (qt_code (40 + j)) (qt_bytes (40 + j)) (qt_size (40 + j)) = true := by decide +kernel
set_option maxRecDepth 100000 in
theorem qo_d5 : ∀ j, j < 10 → qo_ck (qt_code (50 + j)) (qt_bytes (50 + j)) (qt_size (50 + j)) = true := by decide +kernel
set_option maxRecDepth 100000 in
theorem qo_d6 : ∀ j, j < 10 → qo_ck (qt_code (60 + j)) (qt_bytes (60 + j)) (qt_size (60 + j)) = true := by decide +kernel
set_option maxRecDepth 100000 in
theorem qo_d7 : ∀ j, j < 10 → qo_ck (qt_code (70 + j)) (qt_bytes (70 + j)) (qt_size (70 + j)) = true := by decide +kernel
set_option maxRecDepth 100000 in
theorem qo_d8 : ∀ j, j < 10 → qo_ck (qt_code (80 + j)) (qt_bytes (80 + j)) (qt_size (80 + j)) = true := by decide +kernel
