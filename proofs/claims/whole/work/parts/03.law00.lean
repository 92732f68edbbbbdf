set_option maxRecDepth 100000 in
theorem am_gl0 : am_gd (am_m182, (am_c182.drop 0).take 48) := by decide +kernel
set_option maxRecDepth 100000 in
theorem am_gl48 : am_gd (am_m182, (am_c182.drop 48).take 48) := by decide +kernel
set_option maxRecDepth 100000 in
theorem am_gl96 : am_gd (am_m182, (am_c182.drop 96).take 48) := by decide +kernel
set_option maxRecDepth 100000 in
theorem am_gl144 : am_gd (am_m182, (am_c182.drop 144).take 48) := by decide +kernel
