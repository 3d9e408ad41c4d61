/-! the rest of them -/
set_option maxRecDepth 100000 in
theorem qo_l6 : qo_ckR qc_169 code 600 100 = true := by decide +kernel
set_option maxRecDepth 100000 in
theorem qo_l7 : qo_ckR qc_169 code 700 100 = true := by decide +kernel
set_option maxRecDepth 100000 in
theorem qo_l8 : qo_ckR qc_169 code 800 100 = true := by decide +kernel
set_option maxRecDepth 100000 in
theorem qo_l9 : qo_ckR qc_169 code 900 100 = true := by decide +kernel
set_option maxRecDepth 100000 in
theorem qo_l10 : qo_ckR qc_169 code 1000 100 = true := by decide +kernel
set_option maxRecDepth 100000 in
theorem qo_l11 : qo_ckR qc_169 code 1100 55 = true := by decide +kernel
