set_option maxRecDepth 100000 in
theorem am_gl576 : am_gd (am_m182, (am_c182.drop 576).take 48) := by decide +kernel
set_option maxRecDepth 100000 in
theorem am_gl624 : am_gd (am_m182, (am_c182.drop 624).take 48) := by decide +kernel
set_option maxRecDepth 100000 in
theorem am_gl672 : am_gd (am_m182, (am_c182.drop 672).take 48) := by decide +kernel
