/-! the law's own bytes decode as the table has it -/
def qo_ckR (f : Nat → Option (Instr × Nat)) (b : ByteArray) (lo n : Nat) : Bool := (List.range n).all fun j => match f (lo + j) with
  | none => true
  | some q => decide (decode b (lo + j) = .ok q)
set_option maxRecDepth 100000 in
theorem qo_l0 : qo_ckR qc_169 code 0 100 = true := by decide +kernel
set_option maxRecDepth 100000 in
theorem qo_l1 : qo_ckR qc_169 code 100 100 = true := by decide +kernel
set_option maxRecDepth 100000 in
theorem qo_l2 : qo_ckR qc_169 code 200 100 = true := by decide +kernel
set_option maxRecDepth 100000 in
theorem qo_l3 : qo_ckR qc_169 code 300 100 = true := by decide +kernel
set_option maxRecDepth 100000 in
theorem qo_l4 : qo_ckR qc_169 code 400 100 = true := by decide +kernel
set_option maxRecDepth 100000 in
theorem qo_l5 : qo_ckR qc_169 code 500 100 = true := by decide +kernel
