/-! ===== The law: its code's check, 2 ===== -/
set_option maxRecDepth 100000 in
theorem kT_360 : chkT code 40 (tL_law.drop 360) = true := by decide +kernel
set_option maxRecDepth 100000 in
theorem kT_400 : chkT code 40 (tL_law.drop 400) = true := by decide +kernel
set_option maxRecDepth 100000 in
theorem kT_440 : chkT code 40 (tL_law.drop 440) = true := by decide +kernel
set_option maxRecDepth 100000 in
theorem kT_480 : chkT code 40 (tL_law.drop 480) = true := by decide +kernel
set_option maxRecDepth 100000 in
theorem kT_520 : chkT code 40 (tL_law.drop 520) = true := by decide +kernel
set_option maxRecDepth 100000 in
theorem kT_560 : chkT code 40 (tL_law.drop 560) = true := by decide +kernel
set_option maxRecDepth 100000 in
theorem kT_600 : chkT code 40 (tL_law.drop 600) = true := by decide +kernel
set_option maxRecDepth 100000 in
theorem kT_640 : chkT code 40 (tL_law.drop 640) = true := by decide +kernel
set_option maxRecDepth 100000 in
theorem kT_680 : chkT code 40 (tL_law.drop 680) = true := by decide +kernel
