/-! THE WORDS that the tables hold, by the numbers of 04 -/
def am_gw : List Cond := lw_tbl.filter goodWord
theorem am_gwin {w : Cond} (h : w ∈ lw_tbl) (g : goodWord w = true) : w ∈ am_gw := List.mem_filter.mpr ⟨h, g⟩
theorem am_gwgood : ∀ w ∈ am_gw, (w.onTables && w.keeps) = true ∨ ∃ ty, w = .arrayClass ty := fun w h => good_of_word (List.mem_filter.mp h).2
theorem am_byp {α : Type} {l : List α} {f : α → Cond} {ps : List Nat} (h : l.map f = ps.filterMap (fun i => lw_tbl[i]?)) {q : α} (hq : q ∈ l) : f q ∈ lw_tbl := by
  have h1 : f q ∈ l.map f := List.mem_map.mpr ⟨q, hq, rfl⟩
  rw [h] at h1
  obtain ⟨i, -, hi⟩ := List.mem_filterMap.mp h1
  exact List.mem_of_getElem? hi
set_option maxRecDepth 100000 in
theorem am_fFL : ∀ q ∈ am_FL, q.2.2.1 < 11 ∧ q.2.2.2 < am_nf q.2.2.1 ∧ Cond.fieldLink (am_cn q.1) q.2.1 (am_tx q.2.2.1 q.2.2.2).1 (am_tx q.2.2.1 q.2.2.2).2.1 (am_tx q.2.2.1 q.2.2.2).2.2.1 ∈ lw_tbl := by decide +kernel
set_option maxRecDepth 100000 in
theorem am_fMV : ∀ q ∈ am_MV, q.2.2 < 182 ∧ am_ow q.2.2 < 11 := by decide +kernel
set_option maxRecDepth 100000 in
theorem am_pMV1 : am_MV.map (fun q => Cond.methodLink (am_cn q.1) q.2.1 (am_rc q.2.2).1) = ([484, 493, 494, 498, 499, 508, 509, 488, 492, 513, 514, 428, 432, 436, 440, 424, 444, 743, 671, 678, 724, 704, 708, 379, 503, 504, 606, 556, 566, 575, 576, 589, 590, 602, 611, 607, 627, 519, 649, 656, 653, 654, 655, 337, 349, 345, 341, 367, 371, 375, 383, 387, 391, 321, 333, 363, 395, 403, 407, 412, 416, 455, 456, 460, 468, 472, 541, 476, 480, 515, 552, 571, 585, 598, 615, 623, 633, 645, 661, 667, 695, 700, 712, 720, 739, 756, 757, 872, 876, 884, 868, 928, 924, 920, 916, 896, 900, 908, 912, 937, 945, 949, 961, 957, 974, 978, 986, 1013, 1005, 1009, 1021, 1036, 1040, 1052, 1068, 1081, 1096, 1092, 317, 852, 325, 860, 329, 864, 359, 888, 399, 892, 408, 904, 451, 932, 464, 941, 521, 953, 525, 965, 529, 969, 533, 982, 537, 990, 545, 994, 567, 1017, 581, 1025, 594, 1029, 619, 1044, 629, 1056, 637, 1060, 641, 1064, 657, 1072, 663, 1077, 691, 1088, 716, 1103, 728, 1110, 732, 1114, 744, 1122, 748, 1126, 752, 1130] : List Nat).filterMap (fun i => lw_tbl[i]?) := by decide +kernel
set_option maxRecDepth 100000 in
theorem am_pMV2 : am_MV.map (fun q => Cond.instanceMethod (am_rc q.2.2).1) = ([486, 404, 495, 376, 500, 413, 511, 489, 445, 461, 388, 429, 433, 437, 441, 425, 445, 489, 557, 679, 417, 706, 710, 380, 376, 506, 557, 557, 417, 489, 578, 445, 592, 603, 612, 608, 481, 477, 651, 429, 489, 413, 445, 339, 351, 347, 343, 368, 372, 376, 384, 388, 392, 322, 334, 364, 396, 404, 380, 413, 417, 425, 457, 461, 470, 474, 542, 477, 481, 516, 553, 572, 586, 599, 616, 624, 634, 646, 489, 668, 696, 701, 713, 721, 740, 608, 758, 874, 878, 886, 870, 930, 926, 922, 918, 898, 902, 910, 914, 939, 947, 951, 963, 959, 976, 980, 988, 1015, 1007, 1011, 1023, 1038, 1042, 1054, 1070, 1083, 1098, 1094, 318, 853, 326, 861, 330, 865, 360, 889, 400, 893, 409, 905, 452, 933, 465, 942, 522, 954, 526, 966, 530, 970, 534, 983, 538, 991, 546, 995, 568, 1018, 582, 1026, 595, 1030, 620, 1045, 630, 1057, 638, 1061, 642, 1065, 658, 1073, 664, 1078, 692, 1089, 717, 1104, 729, 1111, 733, 1115, 745, 1123, 749, 1127, 753, 1131] : List Nat).filterMap (fun i => lw_tbl[i]?) := by decide +kernel
set_option maxRecDepth 100000 in
theorem am_pMV3 : am_MV.map (fun q => Cond.selects (am_rc q.2.2).1.cls (am_rc q.2.2).1 (am_rc q.2.2).1) = ([6, 405, 496, 377, 501, 414, 8, 490, 446, 462, 389, 430, 434, 438, 442, 426, 446, 490, 558, 680, 418, 12, 13, 381, 377, 7, 558, 558, 418, 490, 9, 446, 10, 604, 613, 609, 482, 478, 11, 430, 490, 414, 446, 0, 3, 2, 1, 369, 373, 377, 385, 389, 393, 323, 335, 365, 397, 405, 381, 414, 418, 426, 458, 462, 4, 5, 543, 478, 482, 517, 554, 573, 587, 600, 617, 625, 635, 647, 490, 669, 697, 702, 714, 722, 741, 609, 759, 15, 16, 17, 14, 25, 24, 23, 22, 18, 19, 20, 21, 26, 27, 28, 30, 29, 31, 32, 33, 36, 34, 35, 37, 38, 39, 40, 41, 42, 44, 43, 319, 854, 327, 862, 331, 866, 361, 890, 401, 894, 410, 906, 453, 934, 466, 943, 523, 955, 527, 967, 531, 971, 535, 984, 539, 992, 547, 996, 569, 1019, 583, 1027, 596, 1031, 621, 1046, 631, 1058, 639, 1062, 643, 1066, 659, 1074, 665, 1079, 693, 1090, 718, 1105, 730, 1112, 734, 1116, 746, 1124, 750, 1128, 754, 1132] : List Nat).filterMap (fun i => lw_tbl[i]?) := by decide +kernel
set_option maxRecDepth 100000 in
theorem am_fMS : ∀ q ∈ am_MS, q.2.2 < 182 := by decide +kernel
set_option maxRecDepth 100000 in
theorem am_pMS1 : am_MS.map (fun q => Cond.methodLink (am_cn q.1) q.2.1 (am_rc q.2.2).1) = ([448, 672, 682, 683, 686, 725, 699, 560, 580, 353, 549, 662, 857, 881, 998, 1002, 1033, 1049, 1085, 1100, 1107] : List Nat).filterMap (fun i => lw_tbl[i]?) := by decide +kernel
set_option maxRecDepth 100000 in
theorem am_pMS2 : am_MS.map (fun q => Cond.static (am_rc q.2.2).1) = ([449, 673, 561, 684, 687, 726, 449, 561, 449, 354, 550, 449, 858, 882, 999, 1003, 1034, 1050, 1086, 1101, 1108] : List Nat).filterMap (fun i => lw_tbl[i]?) := by decide +kernel
set_option maxRecDepth 100000 in
theorem am_fMI : ∀ q ∈ am_MI, q.2.2 < 182 ∧ (am_rc q.2.2).1.name = "<init>" ∧ am_rt q.2.2 = none ∧ Cond.methodLink (am_cn q.1) q.2.1 (am_rc q.2.2).1 ∈ lw_tbl ∧ Cond.instanceMethod (am_rc q.2.2).1 ∈ lw_tbl := by decide +kernel
set_option maxRecDepth 100000 in
theorem am_fMN : ∀ q ∈ am_MN, q.2.2 < 182 ∧ (am_rc q.2.2).1.name = "<init>" ∧ am_rt q.2.2 = none ∧ Cond.methodLinkNest (am_cn q.1) q.2.1 (am_rc q.2.2).1 "CenturyBeds" ∈ lw_tbl ∧ Cond.instanceMethod (am_rc q.2.2).1 ∈ lw_tbl := by decide +kernel
set_option maxRecDepth 100000 in
theorem am_fMO : ∀ q ∈ am_MO, Cond.methodLink (am_cn q.1) q.2.1 objectInit ∈ lw_tbl := by decide +kernel
def am_my (k : Nat) : MethodName := if k = 5 then Lib.Math.max.name else if k = 6 then Lib.Math.min.name else Lib.Math.abs.name
set_option maxRecDepth 100000 in
theorem am_fMM : ∀ q ∈ am_MM, (q.2.2 = 5 ∨ q.2.2 = 6 ∨ q.2.2 = 7) ∧ Cond.methodLink (am_cn q.1) q.2.1 (am_my q.2.2) ∈ lw_tbl := by decide +kernel
set_option maxRecDepth 100000 in
theorem am_fmath : Cond.static Lib.Math.max.name ∈ lw_tbl ∧ Cond.static Lib.Math.min.name ∈ lw_tbl ∧ Cond.static Lib.Math.abs.name ∈ lw_tbl ∧ Cond.initialized "java/lang/Math" ∈ lw_tbl := by decide +kernel
set_option maxRecDepth 100000 in
theorem am_fmmax : Cond.code Lib.Math.max.name Lib.Math.max.code 2 (some .int) ∈ lw_tbl := List.mem_of_getElem? (i := 423) rfl
set_option maxRecDepth 100000 in
theorem am_fmmin : Cond.code Lib.Math.min.name Lib.Math.min.code 2 (some .int) ∈ lw_tbl := List.mem_of_getElem? (i := 358) rfl
set_option maxRecDepth 100000 in
theorem am_fmabs : Cond.code Lib.Math.abs.name Lib.Math.abs.code 1 (some .int) ∈ lw_tbl := List.mem_of_getElem? (i := 677) rfl
set_option maxRecDepth 100000 in
theorem am_fNW : ∀ q ∈ am_NW, q.2.2 < 11 ∧ Cond.classLink (am_cn q.1) q.2.1 (am_cn q.2.2) ∈ lw_tbl ∧ Cond.instantiable (am_cn q.2.2) (am_nf q.2.2) ∈ lw_tbl ∧ Cond.initialized (am_cn q.2.2) ∈ lw_tbl := by decide +kernel
set_option maxRecDepth 100000 in
theorem am_fAN : ∀ q ∈ am_AN, Cond.classLink (am_cn q.1) q.2 "CenturyBeds$Layout" ∈ lw_tbl := by decide +kernel
set_option maxRecDepth 100000 in
theorem am_fGS : ∀ q ∈ am_GS, Cond.fieldLink (am_cn q.1) q.2 "CenturyBeds$Chances" "FACTORIALS" "[I" ∈ lw_tbl := by decide +kernel
set_option maxRecDepth 100000 in
theorem am_fKL : ∀ q ∈ am_KL, Cond.constantLong (am_cn q.1) q.2.1 (Int64.ofInt (q.2.2 : Int)) ∈ lw_tbl := by decide +kernel
set_option maxRecDepth 100000 in
theorem am_fKI : ∀ q ∈ am_KI, Cond.constant (am_cn q.1) q.2.1 (Int32.ofInt (q.2.2 : Int)) ∈ lw_tbl := by decide +kernel
set_option maxRecDepth 100000 in
theorem am_fob : Cond.instanceMethod objectInit ∈ lw_tbl := by decide +kernel
set_option maxRecDepth 100000 in
theorem am_fac : Cond.arrayClass .int ∈ lw_tbl ∧ Cond.arrayClass .boolean ∈ lw_tbl ∧ Cond.arrayOver (.object "CenturyBeds$Layout") ∈ lw_tbl ∧ Cond.laysStatic "CenturyBeds$Chances" "FACTORIALS" "[I" ∈ lw_tbl ∧ Cond.initialized "CenturyBeds$Chances" ∈ lw_tbl := by decide +kernel
def am_cw (k : Nat) : Cond := .code (am_rc k).1 (am_rc k).2.1 (am_ml k) (am_rt k)
set_option maxRecDepth 100000 in
theorem am_cws : (List.range 182).map (am_cw) = ([146, 483, 487, 512, 130, 427, 491, 450, 419, 447, 742, 760, 681, 459, 463, 178, 670, 685, 688, 723, 727, 674, 698, 703, 715, 707, 711, 233, 374, 479, 390, 431, 382, 497, 378, 502, 507, 559, 610, 605, 614, 86, 370, 386, 394, 406, 415, 435, 439, 443, 159, 555, 574, 579, 588, 593, 618, 601, 626, 226, 398, 518, 544, 203, 636, 648, 652, 71, 324, 336, 340, 352, 344, 348, 355, 366, 63, 320, 328, 332, 362, 402, 411, 454, 467, 524, 528, 532, 536, 540, 471, 475, 548, 570, 584, 597, 622, 551, 632, 640, 644, 660, 666, 694, 719, 731, 735, 747, 751, 755, 765, 859, 883, 1004, 855, 863, 879, 887, 871, 875, 867, 891, 899, 911, 931, 903, 927, 923, 919, 915, 895, 907, 940, 935, 952, 964, 977, 981, 989, 948, 944, 960, 956, 968, 972, 985, 993, 1016, 1012, 1008, 1000, 997, 1024, 1020, 1028, 1035, 1039, 1043, 1032, 1051, 1055, 1047, 1059, 1063, 1071, 1067, 1075, 1087, 1084, 1080, 1102, 1099, 1095, 1091, 1109, 1106, 1113, 1117, 1125, 1129, 1133, 562] : List Nat).filterMap (fun i => lw_tbl[i]?) := rfl
theorem am_cwin {k : Nat} (h : k < 182) : am_cw k ∈ lw_tbl := am_byp am_cws (List.mem_range.mpr h)
set_option maxRecDepth 100000 in
theorem am_cwob : Cond.code objectInit ⟨#[0xb1]⟩ 1 none ∈ lw_tbl := List.mem_of_getElem? (i := 66) rfl
set_option maxRecDepth 100000 in
theorem am_mws : ∀ k < 182, Jvm.plainName (am_rc k).1.cls = true ∧ (am_rc k).1.cls = am_cn (am_ow k) ∧ (am_rc k).1.cls ≠ "java/lang/invoke/MethodHandle" ∧ (am_rc k).1.cls ≠ "java/lang/invoke/VarHandle" ∧ am_ow k < 12 := by decide +kernel
set_option maxRecDepth 100000 in
theorem am_mwd : ∀ k < 182, (parseMethodDescriptor (am_rc k).1.desc).map (fun d => d.parameters.length) = some (am_np k) := by decide +kernel
set_option maxRecDepth 100000 in
theorem am_mwi : ∀ c < 12, Cond.initialized (am_cn c) ∈ lw_tbl := by decide +kernel
abbrev am_fr (k : Nat) : Nat := (am_rc k).2.2.2.2.2.2.1
abbrev am_lo (k : Nat) : Nat := (am_rc k).2.2.2.2.2.2.2
/-- the room of the calls: what an instruction of method k asks -/
def am_rk (k : Nat) (i : am_I) : Bool := match i.1 with
  | .invokevirtual _ => decide (am_fr i.2.2.2 + 1 ≤ am_fr k) && decide (8 + (am_ml i.2.2.2 + 11) + am_lo i.2.2.2 ≤ am_lo k)
  | .invokestatic _ => if i.2.2.1 = 1 then decide (am_fr i.2.2.2 + 1 ≤ am_fr k) && decide (8 + (am_ml i.2.2.2 + 11) + am_lo i.2.2.2 ≤ am_lo k) else decide (1 ≤ am_fr k) && decide (21 ≤ am_lo k)
  | .invokespecial _ => if i.2.2.1 = 4 then decide (1 ≤ am_fr k) && decide (20 ≤ am_lo k) else decide (am_fr i.2.2.2 + 1 ≤ am_fr k) && decide (8 + (am_ml i.2.2.2 + 11) + am_lo i.2.2.2 ≤ am_lo k)
  | _ => true
set_option maxRecDepth 100000 in
theorem am_rks : ∀ k < 183, ∀ x ∈ (am_P.getD k (am_m0, [])).2, am_rk k x.2 = true := by decide +kernel
theorem am_cf : ∀ c < 11, vwCl[c]? = some (am_cn c, am_tx c, am_nf c) ∧ (∀ w ∈ u_ws (am_cn c) (am_tx c) (am_nf c), w ∈ lw_tbl) ∧ (∀ k, k < am_nf c → parseFieldDescriptor (am_tx c k).2.2.1 = some (am_ty c k)) ∧ (∀ a, a < am_nf c → ∀ b, b < am_nf c → a ≠ b → (am_tx c a).2.1 ≠ (am_tx c b).2.1) := by
  intro c hc
  match c, hc with
  | 0, _ => exact ⟨rfl, am_inX0, tyX0_ok, nmX0⟩
  | 1, _ => exact ⟨rfl, am_inX1, tyX1_ok, nmX1⟩
  | 2, _ => exact ⟨rfl, am_inX2, tyX2_ok, nmX2⟩
  | 3, _ => exact ⟨rfl, am_inX3, tyX3_ok, nmX3⟩
  | 4, _ => exact ⟨rfl, am_inX4, tyX4_ok, nmX4⟩
  | 5, _ => exact ⟨rfl, am_inX5, tyX5_ok, nmX5⟩
  | 6, _ => exact ⟨rfl, am_inX6, tyX6_ok, nmX6⟩
  | 7, _ => exact ⟨rfl, am_inX7, tyX7_ok, nmX7⟩
  | 8, _ => exact ⟨rfl, am_inX8, tyX8_ok, nmX8⟩
  | 9, _ => exact ⟨rfl, am_inX9, tyX9_ok, nmX9⟩
  | 10, _ => exact ⟨rfl, am_inX10, tyX10_ok, nmX10⟩
  | c + 11, h => exact absurd h (by omega)
