/-! ===== The law: its code's check, 3 ===== -/
set_option maxRecDepth 100000 in
theorem kT_720 : chkT code 40 (tL_law.drop 720) = true := by decide +kernel
set_option maxRecDepth 100000 in
theorem kT_760 : chkT code 40 (tL_law.drop 760) = true := by decide +kernel
set_option maxRecDepth 100000 in
theorem kT_800 : chkT code 40 (tL_law.drop 800) = true := by decide +kernel
set_option maxRecDepth 100000 in
theorem kT_840 : chkT code 40 (tL_law.drop 840) = true := by decide +kernel
set_option maxRecDepth 100000 in
theorem kT_880 : chkT code 40 (tL_law.drop 880) = true := by decide +kernel
set_option maxRecDepth 100000 in
theorem kT_920 : chkT code 40 (tL_law.drop 920) = true := by decide +kernel
set_option maxRecDepth 100000 in
theorem kT_960 : chkT code 40 (tL_law.drop 960) = true := by decide +kernel
set_option maxRecDepth 100000 in
theorem kT_1000 : chkT code 40 (tL_law.drop 1000) = true := by decide +kernel
set_option maxRecDepth 100000 in
theorem kT_1040 : chkT code 40 (tL_law.drop 1040) = true := by decide +kernel
