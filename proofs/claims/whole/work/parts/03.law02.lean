set_option maxRecDepth 100000 in
theorem am_gl384 : am_gd (am_m182, (am_c182.drop 384).take 48) := by decide +kernel
set_option maxRecDepth 100000 in
theorem am_gl432 : am_gd (am_m182, (am_c182.drop 432).take 48) := by decide +kernel
set_option maxRecDepth 100000 in
theorem am_gl480 : am_gd (am_m182, (am_c182.drop 480).take 48) := by decide +kernel
set_option maxRecDepth 100000 in
theorem am_gl528 : am_gd (am_m182, (am_c182.drop 528).take 48) := by decide +kernel
