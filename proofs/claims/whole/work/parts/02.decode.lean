/-! WHAT THE TABLES SAY: the links of each class, by number; every instruction is decoded so, and is one that the machine has. -/
def am_FL : List (Nat × Nat × Nat × Nat) := [(0, 9, 0, 0), (0, 15, 0, 1), (0, 43, 3, 2), (0, 57, 4, 6), (0, 61, 3, 3), (0, 68, 3, 4), (0, 71, 4, 4), (1, 9, 1, 1), (1, 15, 1, 0), (1, 19, 3, 1), (1, 42, 4, 3), (1, 57, 3, 2), (1, 60, 4, 4), (1, 75, 4, 6), (2, 9, 2, 2), (2, 15, 2, 3), (2, 18, 2, 0), (2, 22, 2, 1), (2, 48, 3, 1), (2, 74, 4, 4), (2, 79, 2, 4), (2, 82, 2, 5), (2, 85, 1, 1), (3, 9, 3, 0), (3, 15, 3, 2), (3, 18, 3, 3), (3, 21, 3, 1), (3, 25, 3, 4), (4, 9, 4, 0), (4, 15, 4, 1), (4, 18, 4, 2), (4, 21, 4, 3), (4, 24, 4, 4), (4, 27, 4, 5), (4, 31, 4, 6), (5, 9, 5, 3), (5, 15, 5, 0), (5, 19, 5, 1), (5, 23, 5, 2), (5, 49, 3, 2), (5, 56, 4, 4), (5, 61, 1, 1), (6, 11, 6, 0), (6, 18, 6, 2), (6, 22, 6, 1), (7, 9, 7, 2), (7, 15, 7, 3), (7, 18, 7, 0), (7, 22, 7, 1), (7, 26, 7, 4), (7, 34, 3, 1), (8, 9, 8, 0), (8, 15, 8, 1), (8, 50, 4, 5), (8, 61, 4, 6), (9, 12, 9, 0), (9, 19, 9, 1), (9, 28, 9, 2), (9, 37, 9, 3), (9, 46, 9, 4), (9, 53, 9, 5), (9, 60, 9, 6), (9, 67, 9, 7), (9, 74, 9, 8), (9, 78, 9, 9), (9, 81, 9, 10), (9, 85, 9, 11), (9, 93, 8, 1), (9, 108, 4, 5), (9, 111, 4, 6), (9, 117, 4, 0), (9, 121, 4, 1), (9, 124, 4, 2), (9, 127, 4, 3), (9, 137, 3, 2), (9, 140, 4, 4), (9, 147, 3, 3), (9, 168, 3, 4), (9, 175, 6, 2), (9, 176, 3, 1), (9, 214, 7, 4), (9, 225, 1, 1), (9, 250, 9, 12), (10, 7, 10, 2), (10, 13, 10, 3), (10, 16, 10, 4), (10, 19, 10, 5), (10, 22, 10, 6), (10, 25, 10, 7), (10, 28, 10, 8), (10, 31, 10, 9), (10, 34, 10, 10), (10, 37, 10, 14), (10, 40, 10, 18), (10, 43, 10, 21), (10, 46, 10, 23), (10, 49, 10, 24), (10, 52, 10, 26), (10, 56, 10, 27), (10, 59, 10, 0), (10, 69, 10, 15), (10, 72, 10, 17), (10, 75, 10, 16), (10, 84, 10, 13), (10, 87, 10, 11), (10, 90, 10, 12), (10, 108, 10, 1), (10, 111, 10, 19), (10, 146, 10, 20), (10, 213, 10, 22), (10, 240, 10, 25)]
def am_MV : List (Nat × Nat × Nat) := [(0, 19, 2), (0, 23, 45), (0, 29, 33), (0, 34, 34), (0, 37, 35), (0, 40, 46), (0, 47, 3), (0, 51, 6), (0, 64, 9), (0, 74, 14), (0, 77, 30), (1, 25, 31), (1, 29, 47), (1, 35, 48), (1, 38, 49), (1, 45, 5), (1, 63, 9), (1, 71, 6), (2, 26, 37), (2, 36, 12), (2, 62, 8), (2, 92, 25), (2, 96, 26), (3, 28, 32), (3, 32, 34), (3, 36, 36), (3, 40, 37), (5, 27, 37), (5, 39, 8), (5, 45, 6), (5, 52, 53), (5, 68, 9), (5, 72, 55), (5, 76, 39), (5, 79, 40), (5, 83, 38), (5, 86, 1), (6, 25, 29), (7, 30, 66), (7, 39, 31), (7, 43, 6), (7, 49, 46), (7, 55, 9), (8, 19, 70), (8, 23, 71), (8, 27, 73), (8, 33, 72), (8, 42, 42), (8, 47, 28), (8, 53, 34), (8, 57, 43), (8, 64, 30), (8, 68, 44), (9, 89, 68), (9, 97, 69), (9, 101, 75), (9, 105, 60), (9, 114, 45), (9, 130, 32), (9, 134, 46), (9, 143, 8), (9, 150, 5), (9, 153, 13), (9, 157, 14), (9, 160, 90), (9, 164, 91), (9, 171, 62), (9, 179, 29), (9, 183, 1), (9, 187, 61), (9, 193, 51), (9, 196, 52), (9, 199, 54), (9, 202, 57), (9, 205, 56), (9, 208, 58), (9, 211, 64), (9, 217, 65), (9, 221, 6), (9, 232, 16), (9, 236, 22), (9, 240, 23), (9, 243, 24), (9, 246, 19), (9, 260, 10), (9, 263, 38), (9, 266, 11), (10, 93, 119), (10, 97, 116), (10, 101, 117), (10, 104, 118), (10, 114, 124), (10, 117, 126), (10, 121, 127), (10, 124, 128), (10, 128, 122), (10, 132, 125), (10, 135, 123), (10, 138, 129), (10, 143, 132), (10, 149, 139), (10, 152, 134), (10, 155, 135), (10, 159, 141), (10, 165, 136), (10, 169, 137), (10, 173, 138), (10, 176, 147), (10, 187, 149), (10, 190, 148), (10, 193, 152), (10, 199, 156), (10, 202, 157), (10, 210, 160), (10, 216, 164), (10, 221, 168), (10, 230, 171), (10, 233, 172), (12, 13, 77), (12, 17, 114), (12, 18, 78), (12, 22, 115), (12, 23, 79), (12, 26, 120), (12, 27, 80), (12, 30, 121), (12, 31, 81), (12, 35, 130), (12, 36, 82), (12, 39, 131), (12, 40, 83), (12, 43, 133), (12, 44, 84), (12, 47, 140), (12, 48, 85), (12, 51, 142), (12, 52, 86), (12, 55, 143), (12, 56, 87), (12, 59, 144), (12, 60, 88), (12, 63, 145), (12, 64, 89), (12, 67, 146), (12, 68, 92), (12, 71, 151), (12, 72, 93), (12, 75, 153), (12, 76, 94), (12, 79, 154), (12, 80, 95), (12, 84, 158), (12, 85, 96), (12, 88, 161), (12, 89, 98), (12, 92, 162), (12, 93, 99), (12, 96, 163), (12, 97, 100), (12, 100, 165), (12, 101, 101), (12, 104, 166), (12, 105, 102), (12, 109, 169), (12, 110, 103), (12, 114, 173), (12, 115, 104), (12, 119, 175), (12, 122, 105), (12, 126, 176), (12, 127, 106), (12, 130, 177), (12, 131, 107), (12, 134, 178), (12, 135, 108), (12, 138, 179), (12, 139, 109), (12, 142, 180)]
def am_MS : List (Nat × Nat × Nat) := [(1, 67, 7), (2, 32, 21), (2, 42, 181), (2, 52, 17), (2, 56, 18), (2, 66, 20), (2, 88, 7), (5, 33, 181), (5, 64, 7), (8, 30, 74), (9, 190, 97), (9, 228, 7), (10, 65, 111), (10, 80, 112), (10, 181, 150), (10, 184, 113), (10, 196, 155), (10, 207, 159), (10, 224, 167), (10, 227, 170), (10, 237, 174)]
def am_MI : List (Nat × Nat × Nat) := [(9, 25, 4), (9, 34, 0), (9, 43, 50), (9, 52, 15), (9, 59, 63), (9, 66, 59), (12, 9, 76), (12, 12, 110)]
def am_MN : List (Nat × Nat × Nat) := [(6, 17, 27), (9, 11, 67), (9, 18, 41), (9, 73, 27)]
def am_MO : List (Nat × Nat × Nat) := [(0, 3, 0), (1, 3, 0), (2, 3, 0), (3, 3, 0), (4, 3, 0), (5, 3, 0), (6, 3, 0), (7, 3, 0), (8, 3, 0), (9, 3, 0), (10, 1, 0)]
def am_NW : List (Nat × Nat × Nat) := [(6, 9, 3), (9, 9, 8), (9, 16, 4), (9, 23, 1), (9, 32, 0), (9, 41, 5), (9, 50, 2), (9, 57, 7), (9, 64, 6), (9, 71, 3), (12, 7, 9), (12, 10, 10)]
def am_AN : List (Nat × Nat) := [(6, 9), (9, 71)]
def am_GS : List (Nat × Nat) := [(2, 59)]
def am_KL : List (Nat × Nat × Nat) := [(9, 254, 6364136223846793005), (9, 256, 1442695040888963407), (9, 258, 18), (10, 63, 255), (10, 78, 9), (10, 141, 5), (10, 163, 2), (10, 179, 10), (10, 205, 4), (10, 219, 3), (10, 244, 30), (10, 246, 6364136223846793005), (10, 248, 1442695040888963407), (10, 250, 18), (12, 120, 4294967295)]
def am_KI : List (Nat × Nat × Nat) := [(11, 265, 1431655765), (11, 266, 858993459), (11, 267, 252645135)]
def am_MM : List (Nat × Nat × Nat) := [(1, 49, 5), (1, 54, 6), (2, 69, 7), (5, 92, 5), (6, 29, 6), (8, 37, 6)]
def am_tx (c : Nat) : u_T := match c with
  | 0 => TX0
  | 1 => TX1
  | 2 => TX2
  | 3 => TX3
  | 4 => TX4
  | 5 => TX5
  | 6 => TX6
  | 7 => TX7
  | 8 => TX8
  | 9 => TX9
  | _ => TX10
def am_ok (o : Nat) (ini : Bool) (i : am_I) : Bool := match i.1 with
  | .iconst _ | .lconst _ | .iload_n _ | .lload_n _ | .aload_n _ | .istore_n _ | .astore_n _ | .lstore_n _ | .iadd | .isub | .imul | .ineg | .idiv | .irem | .iand | .ior | .ixor | .ishl | .ishr | .iushr | .ladd | .lmul | .land | .lor | .lrem | .lshl | .lushr | .lcmp | .i2l | .l2i | .dup | .dup2 | .pop | .iaload | .baload | .iastore | .bastore | .aaload | .aastore | .arraylength | .ireturn | .lreturn | .return_ => i.2.1 == 1
  | .bipush _ | .iload _ | .lload _ | .aload _ | .istore _ | .newarray _ => i.2.1 == 2
  | .sipush _ | .iinc _ _ | .goto _ | .ifCond _ _ | .if_icmp _ _ => i.2.1 == 3
  | .tableswitch _ _ _ _ => true
  | .ldc_w x => i.2.1 == 3 && am_KI.contains (o, x, i.2.2.1)
  | .ldc2_w x => i.2.1 == 3 && am_KL.contains (o, x, i.2.2.1)
  | .getfield x => i.2.1 == 3 && am_FL.contains (o, x, i.2.2.1, i.2.2.2)
  | .putfield x => i.2.1 == 3 && am_FL.contains (o, x, i.2.2.1, i.2.2.2) && (!(am_tx i.2.2.1 i.2.2.2).2.2.2 || (ini && i.2.2.1 == o))
  | .getstatic x => i.2.1 == 3 && am_GS.contains (o, x)
  | .anewarray x => i.2.1 == 3 && am_AN.contains (o, x)
  | .new x => i.2.1 == 3 && am_NW.contains (o, x, i.2.2.1)
  | .invokevirtual x => i.2.1 == 3 && am_MV.contains (o, x, i.2.2.2)
  | .invokestatic x => i.2.1 == 3 && ((i.2.2.1 == 1 && am_MS.contains (o, x, i.2.2.2)) || am_MM.contains (o, x, i.2.2.1))
  | .invokespecial x => i.2.1 == 3 && ((i.2.2.1 == 2 && am_MI.contains (o, x, i.2.2.2)) || (i.2.2.1 == 3 && am_MN.contains (o, x, i.2.2.2)) || (i.2.2.1 == 4 && am_MO.contains (o, x, 0)))
  | _ => false
abbrev am_gd (q : am_R × List (Nat × am_I)) : Prop := ∀ x ∈ q.2, decode q.1.2.1 x.1 = .ok (x.2.1, x.2.2.1) ∧ am_ok q.1.2.2.2.2.1 (q.1.1.name == "<init>") x.2 = true
set_option maxRecDepth 100000 in
theorem am_g0 : am_gd (am_m0, am_c0) := by decide +kernel
set_option maxRecDepth 100000 in
theorem am_g1 : am_gd (am_m1, am_c1) := by decide +kernel
set_option maxRecDepth 100000 in
theorem am_g2 : am_gd (am_m2, am_c2) := by decide +kernel
set_option maxRecDepth 100000 in
theorem am_g3 : am_gd (am_m3, am_c3) := by decide +kernel
set_option maxRecDepth 100000 in
theorem am_g4 : am_gd (am_m4, am_c4) := by decide +kernel
set_option maxRecDepth 100000 in
theorem am_g5 : am_gd (am_m5, am_c5) := by decide +kernel
set_option maxRecDepth 100000 in
theorem am_g6 : am_gd (am_m6, am_c6) := by decide +kernel
set_option maxRecDepth 100000 in
theorem am_g7 : am_gd (am_m7, am_c7) := by decide +kernel
set_option maxRecDepth 100000 in
theorem am_g8 : am_gd (am_m8, am_c8) := by decide +kernel
set_option maxRecDepth 100000 in
theorem am_g9 : am_gd (am_m9, am_c9) := by decide +kernel
set_option maxRecDepth 100000 in
theorem am_g10 : am_gd (am_m10, am_c10) := by decide +kernel
set_option maxRecDepth 100000 in
theorem am_g11 : am_gd (am_m11, am_c11) := by decide +kernel
set_option maxRecDepth 100000 in
theorem am_g12 : am_gd (am_m12, am_c12) := by decide +kernel
set_option maxRecDepth 100000 in
theorem am_g13 : am_gd (am_m13, am_c13) := by decide +kernel
set_option maxRecDepth 100000 in
theorem am_g14 : am_gd (am_m14, am_c14) := by decide +kernel
set_option maxRecDepth 100000 in
theorem am_g15 : am_gd (am_m15, am_c15) := by decide +kernel
set_option maxRecDepth 100000 in
theorem am_g16 : am_gd (am_m16, am_c16) := by decide +kernel
set_option maxRecDepth 100000 in
theorem am_g17 : am_gd (am_m17, am_c17) := by decide +kernel
set_option maxRecDepth 100000 in
theorem am_g18 : am_gd (am_m18, am_c18) := by decide +kernel
set_option maxRecDepth 100000 in
theorem am_g19 : am_gd (am_m19, am_c19) := by decide +kernel
set_option maxRecDepth 100000 in
theorem am_g20 : am_gd (am_m20, am_c20) := by decide +kernel
set_option maxRecDepth 100000 in
theorem am_g21 : am_gd (am_m21, am_c21) := by decide +kernel
set_option maxRecDepth 100000 in
theorem am_g22 : am_gd (am_m22, am_c22) := by decide +kernel
set_option maxRecDepth 100000 in
theorem am_g23 : am_gd (am_m23, am_c23) := by decide +kernel
set_option maxRecDepth 100000 in
theorem am_g24 : am_gd (am_m24, am_c24) := by decide +kernel
set_option maxRecDepth 100000 in
theorem am_g25 : am_gd (am_m25, am_c25) := by decide +kernel
set_option maxRecDepth 100000 in
theorem am_g26 : am_gd (am_m26, am_c26) := by decide +kernel
set_option maxRecDepth 100000 in
theorem am_g27 : am_gd (am_m27, am_c27) := by decide +kernel
set_option maxRecDepth 100000 in
theorem am_g28 : am_gd (am_m28, am_c28) := by decide +kernel
set_option maxRecDepth 100000 in
theorem am_g29 : am_gd (am_m29, am_c29) := by decide +kernel
set_option maxRecDepth 100000 in
theorem am_g30 : am_gd (am_m30, am_c30) := by decide +kernel
set_option maxRecDepth 100000 in
theorem am_g31 : am_gd (am_m31, am_c31) := by decide +kernel
set_option maxRecDepth 100000 in
theorem am_g32 : am_gd (am_m32, am_c32) := by decide +kernel
set_option maxRecDepth 100000 in
theorem am_g33 : am_gd (am_m33, am_c33) := by decide +kernel
set_option maxRecDepth 100000 in
theorem am_g34 : am_gd (am_m34, am_c34) := by decide +kernel
set_option maxRecDepth 100000 in
theorem am_g35 : am_gd (am_m35, am_c35) := by decide +kernel
set_option maxRecDepth 100000 in
theorem am_g36 : am_gd (am_m36, am_c36) := by decide +kernel
set_option maxRecDepth 100000 in
theorem am_g37 : am_gd (am_m37, am_c37) := by decide +kernel
set_option maxRecDepth 100000 in
theorem am_g38 : am_gd (am_m38, am_c38) := by decide +kernel
set_option maxRecDepth 100000 in
theorem am_g39 : am_gd (am_m39, am_c39) := by decide +kernel
set_option maxRecDepth 100000 in
theorem am_g40 : am_gd (am_m40, am_c40) := by decide +kernel
set_option maxRecDepth 100000 in
theorem am_g41 : am_gd (am_m41, am_c41) := by decide +kernel
set_option maxRecDepth 100000 in
theorem am_g42 : am_gd (am_m42, am_c42) := by decide +kernel
set_option maxRecDepth 100000 in
theorem am_g43 : am_gd (am_m43, am_c43) := by decide +kernel
set_option maxRecDepth 100000 in
theorem am_g44 : am_gd (am_m44, am_c44) := by decide +kernel
set_option maxRecDepth 100000 in
theorem am_g45 : am_gd (am_m45, am_c45) := by decide +kernel
set_option maxRecDepth 100000 in
theorem am_g46 : am_gd (am_m46, am_c46) := by decide +kernel
set_option maxRecDepth 100000 in
theorem am_g47 : am_gd (am_m47, am_c47) := by decide +kernel
set_option maxRecDepth 100000 in
theorem am_g48 : am_gd (am_m48, am_c48) := by decide +kernel
set_option maxRecDepth 100000 in
theorem am_g49 : am_gd (am_m49, am_c49) := by decide +kernel
set_option maxRecDepth 100000 in
theorem am_g50 : am_gd (am_m50, am_c50) := by decide +kernel
set_option maxRecDepth 100000 in
theorem am_g51 : am_gd (am_m51, am_c51) := by decide +kernel
set_option maxRecDepth 100000 in
theorem am_g52 : am_gd (am_m52, am_c52) := by decide +kernel
set_option maxRecDepth 100000 in
theorem am_g53 : am_gd (am_m53, am_c53) := by decide +kernel
set_option maxRecDepth 100000 in
theorem am_g54 : am_gd (am_m54, am_c54) := by decide +kernel
set_option maxRecDepth 100000 in
theorem am_g55 : am_gd (am_m55, am_c55) := by decide +kernel
set_option maxRecDepth 100000 in
theorem am_g56 : am_gd (am_m56, am_c56) := by decide +kernel
set_option maxRecDepth 100000 in
theorem am_g57 : am_gd (am_m57, am_c57) := by decide +kernel
set_option maxRecDepth 100000 in
theorem am_g58 : am_gd (am_m58, am_c58) := by decide +kernel
set_option maxRecDepth 100000 in
theorem am_g59 : am_gd (am_m59, am_c59) := by decide +kernel
set_option maxRecDepth 100000 in
theorem am_g60 : am_gd (am_m60, am_c60) := by decide +kernel
set_option maxRecDepth 100000 in
theorem am_g61 : am_gd (am_m61, am_c61) := by decide +kernel
set_option maxRecDepth 100000 in
theorem am_g62 : am_gd (am_m62, am_c62) := by decide +kernel
set_option maxRecDepth 100000 in
theorem am_g63 : am_gd (am_m63, am_c63) := by decide +kernel
set_option maxRecDepth 100000 in
theorem am_g64 : am_gd (am_m64, am_c64) := by decide +kernel
set_option maxRecDepth 100000 in
theorem am_g65 : am_gd (am_m65, am_c65) := by decide +kernel
set_option maxRecDepth 100000 in
theorem am_g66 : am_gd (am_m66, am_c66) := by decide +kernel
set_option maxRecDepth 100000 in
theorem am_g67 : am_gd (am_m67, am_c67) := by decide +kernel
set_option maxRecDepth 100000 in
theorem am_g68 : am_gd (am_m68, am_c68) := by decide +kernel
set_option maxRecDepth 100000 in
theorem am_g69 : am_gd (am_m69, am_c69) := by decide +kernel
set_option maxRecDepth 100000 in
theorem am_g70 : am_gd (am_m70, am_c70) := by decide +kernel
set_option maxRecDepth 100000 in
theorem am_g71 : am_gd (am_m71, am_c71) := by decide +kernel
set_option maxRecDepth 100000 in
theorem am_g72 : am_gd (am_m72, am_c72) := by decide +kernel
set_option maxRecDepth 100000 in
theorem am_g73 : am_gd (am_m73, am_c73) := by decide +kernel
set_option maxRecDepth 100000 in
theorem am_g74 : am_gd (am_m74, am_c74) := by decide +kernel
set_option maxRecDepth 100000 in
theorem am_g75 : am_gd (am_m75, am_c75) := by decide +kernel
set_option maxRecDepth 100000 in
theorem am_g76 : am_gd (am_m76, am_c76) := by decide +kernel
set_option maxRecDepth 100000 in
theorem am_g77 : am_gd (am_m77, am_c77) := by decide +kernel
set_option maxRecDepth 100000 in
theorem am_g78 : am_gd (am_m78, am_c78) := by decide +kernel
set_option maxRecDepth 100000 in
theorem am_g79 : am_gd (am_m79, am_c79) := by decide +kernel
set_option maxRecDepth 100000 in
theorem am_g80 : am_gd (am_m80, am_c80) := by decide +kernel
set_option maxRecDepth 100000 in
theorem am_g81 : am_gd (am_m81, am_c81) := by decide +kernel
set_option maxRecDepth 100000 in
theorem am_g82 : am_gd (am_m82, am_c82) := by decide +kernel
set_option maxRecDepth 100000 in
theorem am_g83 : am_gd (am_m83, am_c83) := by decide +kernel
set_option maxRecDepth 100000 in
theorem am_g84 : am_gd (am_m84, am_c84) := by decide +kernel
set_option maxRecDepth 100000 in
theorem am_g85 : am_gd (am_m85, am_c85) := by decide +kernel
set_option maxRecDepth 100000 in
theorem am_g86 : am_gd (am_m86, am_c86) := by decide +kernel
set_option maxRecDepth 100000 in
theorem am_g87 : am_gd (am_m87, am_c87) := by decide +kernel
set_option maxRecDepth 100000 in
theorem am_g88 : am_gd (am_m88, am_c88) := by decide +kernel
set_option maxRecDepth 100000 in
theorem am_g89 : am_gd (am_m89, am_c89) := by decide +kernel
set_option maxRecDepth 100000 in
theorem am_g90 : am_gd (am_m90, am_c90) := by decide +kernel
set_option maxRecDepth 100000 in
theorem am_g91 : am_gd (am_m91, am_c91) := by decide +kernel
set_option maxRecDepth 100000 in
theorem am_g92 : am_gd (am_m92, am_c92) := by decide +kernel
set_option maxRecDepth 100000 in
theorem am_g93 : am_gd (am_m93, am_c93) := by decide +kernel
set_option maxRecDepth 100000 in
theorem am_g94 : am_gd (am_m94, am_c94) := by decide +kernel
set_option maxRecDepth 100000 in
theorem am_g95 : am_gd (am_m95, am_c95) := by decide +kernel
set_option maxRecDepth 100000 in
theorem am_g96 : am_gd (am_m96, am_c96) := by decide +kernel
set_option maxRecDepth 100000 in
theorem am_g97 : am_gd (am_m97, am_c97) := by decide +kernel
set_option maxRecDepth 100000 in
theorem am_g98 : am_gd (am_m98, am_c98) := by decide +kernel
set_option maxRecDepth 100000 in
theorem am_g99 : am_gd (am_m99, am_c99) := by decide +kernel
set_option maxRecDepth 100000 in
theorem am_g100 : am_gd (am_m100, am_c100) := by decide +kernel
set_option maxRecDepth 100000 in
theorem am_g101 : am_gd (am_m101, am_c101) := by decide +kernel
set_option maxRecDepth 100000 in
theorem am_g102 : am_gd (am_m102, am_c102) := by decide +kernel
set_option maxRecDepth 100000 in
theorem am_g103 : am_gd (am_m103, am_c103) := by decide +kernel
set_option maxRecDepth 100000 in
theorem am_g104 : am_gd (am_m104, am_c104) := by decide +kernel
set_option maxRecDepth 100000 in
theorem am_g105 : am_gd (am_m105, am_c105) := by decide +kernel
set_option maxRecDepth 100000 in
theorem am_g106 : am_gd (am_m106, am_c106) := by decide +kernel
set_option maxRecDepth 100000 in
theorem am_g107 : am_gd (am_m107, am_c107) := by decide +kernel
set_option maxRecDepth 100000 in
theorem am_g108 : am_gd (am_m108, am_c108) := by decide +kernel
set_option maxRecDepth 100000 in
theorem am_g109 : am_gd (am_m109, am_c109) := by decide +kernel
set_option maxRecDepth 100000 in
theorem am_g110 : am_gd (am_m110, am_c110) := by decide +kernel
set_option maxRecDepth 100000 in
theorem am_g111 : am_gd (am_m111, am_c111) := by decide +kernel
set_option maxRecDepth 100000 in
theorem am_g112 : am_gd (am_m112, am_c112) := by decide +kernel
set_option maxRecDepth 100000 in
theorem am_g113 : am_gd (am_m113, am_c113) := by decide +kernel
set_option maxRecDepth 100000 in
theorem am_g114 : am_gd (am_m114, am_c114) := by decide +kernel
set_option maxRecDepth 100000 in
theorem am_g115 : am_gd (am_m115, am_c115) := by decide +kernel
set_option maxRecDepth 100000 in
theorem am_g116 : am_gd (am_m116, am_c116) := by decide +kernel
set_option maxRecDepth 100000 in
theorem am_g117 : am_gd (am_m117, am_c117) := by decide +kernel
set_option maxRecDepth 100000 in
theorem am_g118 : am_gd (am_m118, am_c118) := by decide +kernel
set_option maxRecDepth 100000 in
theorem am_g119 : am_gd (am_m119, am_c119) := by decide +kernel
set_option maxRecDepth 100000 in
theorem am_g120 : am_gd (am_m120, am_c120) := by decide +kernel
set_option maxRecDepth 100000 in
theorem am_g121 : am_gd (am_m121, am_c121) := by decide +kernel
set_option maxRecDepth 100000 in
theorem am_g122 : am_gd (am_m122, am_c122) := by decide +kernel
set_option maxRecDepth 100000 in
theorem am_g123 : am_gd (am_m123, am_c123) := by decide +kernel
set_option maxRecDepth 100000 in
theorem am_g124 : am_gd (am_m124, am_c124) := by decide +kernel
set_option maxRecDepth 100000 in
theorem am_g125 : am_gd (am_m125, am_c125) := by decide +kernel
set_option maxRecDepth 100000 in
theorem am_g126 : am_gd (am_m126, am_c126) := by decide +kernel
set_option maxRecDepth 100000 in
theorem am_g127 : am_gd (am_m127, am_c127) := by decide +kernel
set_option maxRecDepth 100000 in
theorem am_g128 : am_gd (am_m128, am_c128) := by decide +kernel
set_option maxRecDepth 100000 in
theorem am_g129 : am_gd (am_m129, am_c129) := by decide +kernel
set_option maxRecDepth 100000 in
theorem am_g130 : am_gd (am_m130, am_c130) := by decide +kernel
set_option maxRecDepth 100000 in
theorem am_g131 : am_gd (am_m131, am_c131) := by decide +kernel
set_option maxRecDepth 100000 in
theorem am_g132 : am_gd (am_m132, am_c132) := by decide +kernel
set_option maxRecDepth 100000 in
theorem am_g133 : am_gd (am_m133, am_c133) := by decide +kernel
set_option maxRecDepth 100000 in
theorem am_g134 : am_gd (am_m134, am_c134) := by decide +kernel
set_option maxRecDepth 100000 in
theorem am_g135 : am_gd (am_m135, am_c135) := by decide +kernel
set_option maxRecDepth 100000 in
theorem am_g136 : am_gd (am_m136, am_c136) := by decide +kernel
set_option maxRecDepth 100000 in
theorem am_g137 : am_gd (am_m137, am_c137) := by decide +kernel
set_option maxRecDepth 100000 in
theorem am_g138 : am_gd (am_m138, am_c138) := by decide +kernel
set_option maxRecDepth 100000 in
theorem am_g139 : am_gd (am_m139, am_c139) := by decide +kernel
set_option maxRecDepth 100000 in
theorem am_g140 : am_gd (am_m140, am_c140) := by decide +kernel
set_option maxRecDepth 100000 in
theorem am_g141 : am_gd (am_m141, am_c141) := by decide +kernel
set_option maxRecDepth 100000 in
theorem am_g142 : am_gd (am_m142, am_c142) := by decide +kernel
set_option maxRecDepth 100000 in
theorem am_g143 : am_gd (am_m143, am_c143) := by decide +kernel
set_option maxRecDepth 100000 in
theorem am_g144 : am_gd (am_m144, am_c144) := by decide +kernel
set_option maxRecDepth 100000 in
theorem am_g145 : am_gd (am_m145, am_c145) := by decide +kernel
set_option maxRecDepth 100000 in
theorem am_g146 : am_gd (am_m146, am_c146) := by decide +kernel
set_option maxRecDepth 100000 in
theorem am_g147 : am_gd (am_m147, am_c147) := by decide +kernel
set_option maxRecDepth 100000 in
theorem am_g148 : am_gd (am_m148, am_c148) := by decide +kernel
set_option maxRecDepth 100000 in
theorem am_g149 : am_gd (am_m149, am_c149) := by decide +kernel
set_option maxRecDepth 100000 in
theorem am_g150 : am_gd (am_m150, am_c150) := by decide +kernel
set_option maxRecDepth 100000 in
theorem am_g151 : am_gd (am_m151, am_c151) := by decide +kernel
set_option maxRecDepth 100000 in
theorem am_g152 : am_gd (am_m152, am_c152) := by decide +kernel
set_option maxRecDepth 100000 in
theorem am_g153 : am_gd (am_m153, am_c153) := by decide +kernel
set_option maxRecDepth 100000 in
theorem am_g154 : am_gd (am_m154, am_c154) := by decide +kernel
set_option maxRecDepth 100000 in
theorem am_g155 : am_gd (am_m155, am_c155) := by decide +kernel
set_option maxRecDepth 100000 in
theorem am_g156 : am_gd (am_m156, am_c156) := by decide +kernel
set_option maxRecDepth 100000 in
theorem am_g157 : am_gd (am_m157, am_c157) := by decide +kernel
set_option maxRecDepth 100000 in
theorem am_g158 : am_gd (am_m158, am_c158) := by decide +kernel
set_option maxRecDepth 100000 in
theorem am_g159 : am_gd (am_m159, am_c159) := by decide +kernel
set_option maxRecDepth 100000 in
theorem am_g160 : am_gd (am_m160, am_c160) := by decide +kernel
set_option maxRecDepth 100000 in
theorem am_g161 : am_gd (am_m161, am_c161) := by decide +kernel
set_option maxRecDepth 100000 in
theorem am_g162 : am_gd (am_m162, am_c162) := by decide +kernel
set_option maxRecDepth 100000 in
theorem am_g163 : am_gd (am_m163, am_c163) := by decide +kernel
set_option maxRecDepth 100000 in
theorem am_g164 : am_gd (am_m164, am_c164) := by decide +kernel
set_option maxRecDepth 100000 in
theorem am_g165 : am_gd (am_m165, am_c165) := by decide +kernel
set_option maxRecDepth 100000 in
theorem am_g166 : am_gd (am_m166, am_c166) := by decide +kernel
set_option maxRecDepth 100000 in
theorem am_g167 : am_gd (am_m167, am_c167) := by decide +kernel
set_option maxRecDepth 100000 in
theorem am_g168 : am_gd (am_m168, am_c168) := by decide +kernel
set_option maxRecDepth 100000 in
theorem am_g169 : am_gd (am_m169, am_c169) := by decide +kernel
set_option maxRecDepth 100000 in
theorem am_g170 : am_gd (am_m170, am_c170) := by decide +kernel
set_option maxRecDepth 100000 in
theorem am_g171 : am_gd (am_m171, am_c171) := by decide +kernel
set_option maxRecDepth 100000 in
theorem am_g172 : am_gd (am_m172, am_c172) := by decide +kernel
set_option maxRecDepth 100000 in
theorem am_g173 : am_gd (am_m173, am_c173) := by decide +kernel
set_option maxRecDepth 100000 in
theorem am_g174 : am_gd (am_m174, am_c174) := by decide +kernel
set_option maxRecDepth 100000 in
theorem am_g175 : am_gd (am_m175, am_c175) := by decide +kernel
set_option maxRecDepth 100000 in
theorem am_g176 : am_gd (am_m176, am_c176) := by decide +kernel
set_option maxRecDepth 100000 in
theorem am_g177 : am_gd (am_m177, am_c177) := by decide +kernel
set_option maxRecDepth 100000 in
theorem am_g178 : am_gd (am_m178, am_c178) := by decide +kernel
set_option maxRecDepth 100000 in
theorem am_g179 : am_gd (am_m179, am_c179) := by decide +kernel
set_option maxRecDepth 100000 in
theorem am_g180 : am_gd (am_m180, am_c180) := by decide +kernel
set_option maxRecDepth 100000 in
theorem am_g181 : am_gd (am_m181, am_c181) := by decide +kernel
