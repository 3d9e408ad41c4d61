/-! more of them -/
set_option maxRecDepth 100000 in
theorem qo_d9 : ∀ j, j < 10 → qo_ck (qt_code (90 + j)) (qt_bytes (90 + j)) (qt_size (90 + j)) = true := by decide +kernel
set_option maxRecDepth 100000 in
theorem qo_d10 : ∀ j, j < 10 → qo_ck (qt_code (100 + j)) (qt_bytes (100 + j)) (qt_size (100 + j)) = true := by decide +kernel
set_option maxRecDepth 100000 in
theorem qo_d11 : ∀ j, j < 10 → qo_ck (qt_code (110 + j)) (qt_bytes (110 + j)) (qt_size (110 + j)) = true := by decide +kernel
set_option maxRecDepth 100000 in
theorem qo_d12 : ∀ j, j < 10 → qo_ck (qt_code (120 + j)) (qt_bytes (120 + j)) (qt_size (120 + j)) = true := by decide +kernel
set_option maxRecDepth 100000 in
theorem qo_d13 : ∀ j, j < 10 → qo_ck (qt_code (130 + j)) (qt_bytes (130 + j)) (qt_size (130 + j)) = true := by decide +kernel
set_option maxRecDepth 100000 in
theorem qo_d14 : ∀ j, j < 10 → qo_ck (qt_code (140 + j)) (qt_bytes (140 + j)) (qt_size (140 + j)) = true := by decide +kernel
set_option maxRecDepth 100000 in
theorem qo_d15 : ∀ j, j < 10 → qo_ck (qt_code (150 + j)) (qt_bytes (150 + j)) (qt_size (150 + j)) = true := by decide +kernel
set_option maxRecDepth 100000 in
theorem qo_d16 : ∀ j, j < 9 → qo_ck (qt_code (160 + j)) (qt_bytes (160 + j)) (qt_size (160 + j)) = true := by decide +kernel
