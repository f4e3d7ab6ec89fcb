/-! ===== The law: its code's check, 4 ===== -/
set_option maxRecDepth 100000 in
theorem kT_1080 : chkT code 40 (tL_law.drop 1080) = true := by decide +kernel
set_option maxRecDepth 100000 in
theorem kT_1120 : chkT code 40 (tL_law.drop 1120) = true := by decide +kernel
set_option maxRecDepth 100000 in
theorem kT_1160 : chkT code 40 (tL_law.drop 1160) = true := by decide +kernel
set_option maxRecDepth 100000 in
theorem kT_1200 : chkT code 40 (tL_law.drop 1200) = true := by decide +kernel
set_option maxRecDepth 100000 in
theorem kT_1240 : chkT code 40 (tL_law.drop 1240) = true := by decide +kernel
set_option maxRecDepth 100000 in
theorem kT_1280 : chkT code 40 (tL_law.drop 1280) = true := by decide +kernel
set_option maxRecDepth 100000 in
theorem kL_law : chk code tL_law = true := by
  have h1335 : chk code (tL_law.drop 1320) = true := by decide +kernel
  have g1280 : chk code (tL_law.drop 1280) = true := chk_dr kT_1280 rfl h1335
  have g1240 : chk code (tL_law.drop 1240) = true := chk_dr kT_1240 rfl g1280
  have g1200 : chk code (tL_law.drop 1200) = true := chk_dr kT_1200 rfl g1240
  have g1160 : chk code (tL_law.drop 1160) = true := chk_dr kT_1160 rfl g1200
  have g1120 : chk code (tL_law.drop 1120) = true := chk_dr kT_1120 rfl g1160
  have g1080 : chk code (tL_law.drop 1080) = true := chk_dr kT_1080 rfl g1120
  have g1040 : chk code (tL_law.drop 1040) = true := chk_dr kT_1040 rfl g1080
  have g1000 : chk code (tL_law.drop 1000) = true := chk_dr kT_1000 rfl g1040
  have g960 : chk code (tL_law.drop 960) = true := chk_dr kT_960 rfl g1000
  have g920 : chk code (tL_law.drop 920) = true := chk_dr kT_920 rfl g960
  have g880 : chk code (tL_law.drop 880) = true := chk_dr kT_880 rfl g920
  have g840 : chk code (tL_law.drop 840) = true := chk_dr kT_840 rfl g880
  have g800 : chk code (tL_law.drop 800) = true := chk_dr kT_800 rfl g840
  have g760 : chk code (tL_law.drop 760) = true := chk_dr kT_760 rfl g800
  have g720 : chk code (tL_law.drop 720) = true := chk_dr kT_720 rfl g760
  have g680 : chk code (tL_law.drop 680) = true := chk_dr kT_680 rfl g720
  have g640 : chk code (tL_law.drop 640) = true := chk_dr kT_640 rfl g680
  have g600 : chk code (tL_law.drop 600) = true := chk_dr kT_600 rfl g640
  have g560 : chk code (tL_law.drop 560) = true := chk_dr kT_560 rfl g600
  have g520 : chk code (tL_law.drop 520) = true := chk_dr kT_520 rfl g560
  have g480 : chk code (tL_law.drop 480) = true := chk_dr kT_480 rfl g520
  have g440 : chk code (tL_law.drop 440) = true := chk_dr kT_440 rfl g480
  have g400 : chk code (tL_law.drop 400) = true := chk_dr kT_400 rfl g440
  have g360 : chk code (tL_law.drop 360) = true := chk_dr kT_360 rfl g400
  have g320 : chk code (tL_law.drop 320) = true := chk_dr kT_320 rfl g360
  have g280 : chk code (tL_law.drop 280) = true := chk_dr kT_280 rfl g320
  have g240 : chk code (tL_law.drop 240) = true := chk_dr kT_240 rfl g280
  have g200 : chk code (tL_law.drop 200) = true := chk_dr kT_200 rfl g240
  have g160 : chk code (tL_law.drop 160) = true := chk_dr kT_160 rfl g200
  have g120 : chk code (tL_law.drop 120) = true := chk_dr kT_120 rfl g160
  have g80 : chk code (tL_law.drop 80) = true := chk_dr kT_80 rfl g120
  have g40 : chk code (tL_law.drop 40) = true := chk_dr kT_40 rfl g80
  have g0 : chk code (tL_law.drop 0) = true := chk_dr kT_0 rfl g40
  exact g0
