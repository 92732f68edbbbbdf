set_option maxRecDepth 100000 in
theorem am_gl192 : am_gd (am_m182, (am_c182.drop 192).take 48) := by decide +kernel
set_option maxRecDepth 100000 in
theorem am_gl240 : am_gd (am_m182, (am_c182.drop 240).take 48) := by decide +kernel
set_option maxRecDepth 100000 in
theorem am_gl288 : am_gd (am_m182, (am_c182.drop 288).take 48) := by decide +kernel
set_option maxRecDepth 100000 in
theorem am_gl336 : am_gd (am_m182, (am_c182.drop 336).take 48) := by decide +kernel
