/-! the model: a bed is told -/
theorem up_srt {α : Type} {S : Nat → α} {i j : Nat} {v w : α} (h : i < j) : up (up S j v) i w = up (up S i w) j v := up_com (by omega)
theorem pl_put_fz {g : Int → Int} : ∀ (vs : List Int) (k : Nat) (xs : List Int), (∀ i < vs.length, g ((k + i : Nat) : Int) = vs.getD i 0) → pl_fz (fun xs q => si xs q (g q)) (k : Int) vs.length xs = pl_put xs k vs
  | [], _, _, _ => rfl
  | v :: vs, k, xs, h => by
    rw [List.length_cons, pl_fz, pl_put]
    have h0 := h 0 (by rw [List.length_cons]; omega)
    rw [Nat.add_zero, List.getD_cons_zero] at h0
    rw [h0]
    exact pl_put_fz vs (k + 1) _ (fun i hi => by
      have h1 := h (i + 1) (by rw [List.length_cons]; omega)
      rw [List.getD_cons_succ] at h1
      rw [show k + 1 + i = k + (i + 1) by omega]
      exact h1)
theorem pl_put_hi : ∀ (vs xs : List Int) (k i : Nat), k + vs.length ≤ i → (pl_put xs k vs).getD i 0 = xs.getD i 0
  | [], _, _, _, _ => rfl
  | v :: vs, xs, k, i, h => by
    rw [List.length_cons] at h
    rw [pl_put, pl_put_hi vs _ (k + 1) i (by omega), List.getD_eq_getElem?_getD, List.getElem?_set_ne (by omega), ← List.getD_eq_getElem?_getD]
theorem pl_map_at {α : Type} {f : α → Int} {Q : List α} {d : α} {i : Nat} (h : i < Q.length) : (Q.map f).getD i 0 = f (Q.getD i d) := by
  rw [List.getD_eq_getElem?_getD, List.getD_eq_getElem?_getD, List.getElem?_map, List.getElem?_eq_getElem h]
  rfl
section MBD
variable {C : Nat → am_C} {S : Nat → Int} {V : Nat → List Int} {n : Nat}
/-- the blankets' arrays and the layout, one behind another -/
def m_b5 (V : Nat → List Int) (a : List Int × List Int × List Int × List Int × List Int) : Nat → List Int := up (up (up (up (up V 97 a.1) 98 a.2.1) 99 a.2.2.1) 100 a.2.2.2.1) 102 a.2.2.2.2
theorem X10_bed_z {E : List (List Int)} {K : Option am_V → am_H → Prop} (l102 : (V 102).length = 28) : ∃ N, N.length = 28 ∧ (∀ i : Int, 0 ≤ i → gi N i = if i < 14 then 0 else gi (V 102) i) ∧ ∀ E K, Wp E 121 28 [some (am_r (some 96)), none] [] (mk C S V) K = Wp E 121 51 [some (am_r (some 96)), some (am_i 0)] [] (mk C S (up V 102 N)) K := by
  obtain ⟨i1, i2⟩ := m_cp (g := fun _ => 0) (d := 0) (V 102) (by omega) (by omega)
  simp only [Int.zero_add] at i1 i2
  have lo := fun (E : List (List Int)) (K : Option am_V → am_H → Prop) => am_foldz (W := fun k R => Wp E 121 30 [some (am_r (some 96)), some (am_i k)] [] (mk C S (up V 102 R)) K) (f := fun R k => si R k 0) (I := fun _ R => R.length = 28) (lo := 0) (N := 14) (by
    intro k R k0 k1 hI
    refine ⟨by rw [si_len]; exact hI, ?_⟩
    rw [e121_30]
    simp (disch := first | omega | (simp (disch := omega) only [up_eq, up_ne, si_len, List.length_set]; omega)) only [↓e121_31, ↓e121_33, ↓e121_36, ↓e121_37, ↓e121_40, ↓e121_41, ↓e121_42, ↓e121_43, ↓e121_46, ↓am_ilp, ↓am_iln, ↓am_iep, ↓am_ien, ↓am_zlp, ↓am_zln, ↓am_zep, ↓am_zen, ↓am_zgp, ↓am_zgn, ↓am_zhp, ↓am_zhn, ↓am_b01, true_or, true_and, and_true, or_true, if_true, if_false, ↓am_bdl_z, ↓am_bdl_s, ↓am_bsl_z, ↓am_bsl_s, ↓am_k1_i, ↓am_k1_r, ↓am_k1_e, ↓am_k1_n, ↓am_bd_s, am_k1_t, eq_self, am_nl_i, am_nl_r, am_nl_e, am_nl_n, Option.toList_some, Option.toList_none, Option.map_some, Option.map_none, List.cons_append, List.nil_append, List.length_cons, List.length_nil, List.set_cons_zero, List.set_cons_succ, List.getElem?_cons_zero, List.getElem?_cons_succ, am_bd_s, ↓am_tls, ↓am_tln, ↓mk_oc, ↓ma_r, ↓ma_w, ↓mz_r, ↓mz_w, ↓mr0, ↓mr1, ↓mr2, ↓mr3, ↓mr4, ↓mr5, ↓mr6, ↓mr7, ↓mr8, ↓mr9, ↓mr10, ↓mr11, ↓mr12, ↓mr13, ↓mr14, ↓mr15, ↓mr16, ↓mr17, ↓mr18, ↓mr19, ↓mr20, ↓mr21, ↓mr22, ↓mr23, ↓mr24, ↓mr25, ↓mr26, ↓mr27, ↓mw0, ↓mw1, ↓mw11, ↓mw12, ↓mw13, ↓mw15, ↓mw16, ↓mw17, ↓mw19, ↓mw20, ↓mw22, ↓mw25, up_eq, up_ne, up_up, si_len]) 14 0 (V 102) (by omega) (by omega) l102
  obtain ⟨N, hN⟩ : ∃ N, N = pl_fz (fun R k => si R k 0) 0 14 (V 102) := ⟨_, rfl⟩
  rw [← hN] at i1 i2 lo
  rw [up_same] at lo
  refine ⟨N, by omega, fun i hi => ?_, fun E K => ?_⟩
  · rw [i2 i hi]
    by_cases q : i < 14
    · rw [if_pos ⟨hi, q⟩, if_pos q]
    · rw [if_neg (fun z => q z.2), if_neg q]
  · simp (disch := first | omega | (simp (disch := omega) only [up_eq, up_ne, si_len, List.length_set]; omega)) only [↓e121_28, ↓e121_29, ↓am_ilp, ↓am_iln, ↓am_iep, ↓am_ien, ↓am_zlp, ↓am_zln, ↓am_zep, ↓am_zen, ↓am_zgp, ↓am_zgn, ↓am_zhp, ↓am_zhn, ↓am_b01, true_or, true_and, and_true, or_true, if_true, if_false, ↓am_bdl_z, ↓am_bdl_s, ↓am_bsl_z, ↓am_bsl_s, ↓am_k1_i, ↓am_k1_r, ↓am_k1_e, ↓am_k1_n, ↓am_bd_s, am_k1_t, eq_self, am_nl_i, am_nl_r, am_nl_e, am_nl_n, Option.toList_some, Option.toList_none, Option.map_some, Option.map_none, List.cons_append, List.nil_append, List.length_cons, List.length_nil, List.set_cons_zero, List.set_cons_succ, List.getElem?_cons_zero, List.getElem?_cons_succ, am_bd_s]
    refine Eq.trans (lo E K).1 ?_
    rw [e121_30]
    simp (disch := first | omega | (simp (disch := omega) only [up_eq, up_ne, si_len, List.length_set]; omega)) only [↓e121_31, ↓e121_33, ↓e121_49, ↓e121_50, ↓am_ilp, ↓am_iln, ↓am_iep, ↓am_ien, ↓am_zlp, ↓am_zln, ↓am_zep, ↓am_zen, ↓am_zgp, ↓am_zgn, ↓am_zhp, ↓am_zhn, ↓am_b01, true_or, true_and, and_true, or_true, if_true, if_false, ↓am_bdl_z, ↓am_bdl_s, ↓am_bsl_z, ↓am_bsl_s, ↓am_k1_i, ↓am_k1_r, ↓am_k1_e, ↓am_k1_n, ↓am_bd_s, am_k1_t, eq_self, am_nl_i, am_nl_r, am_nl_e, am_nl_n, Option.toList_some, Option.toList_none, Option.map_some, Option.map_none, List.cons_append, List.nil_append, List.length_cons, List.length_nil, List.set_cons_zero, List.set_cons_succ, List.getElem?_cons_zero, List.getElem?_cons_succ, am_bd_s]
theorem X10_bed_q {nb : Nat} (h0 : S 0 = (nb : Int)) (hnb : nb ≤ 6) (l97 : (V 97).length = 6) (l98 : (V 98).length = 6) (l99 : (V 99).length = 6) (l100 : (V 100).length = 6) (l102 : (V 102).length = 28) (l103 : (V 103).length = 24) : ∃ N, N.length = 28 ∧ (∀ i : Int, 0 ≤ i → gi N i = if i < (nb : Int) then i else gi (V 102) i) ∧ ∀ E K, Wp E 121 51 [some (am_r (some 96)), some (am_i 0)] [] (mk C S V) K = Wp E 121 134 [some (am_r (some 96)), some (am_i (nb : Int))] [] (mk C S (m_b5 V (pl_fz (fun xs q => si xs q (gi (V 103) (4 * q))) 0 nb (V 97), pl_fz (fun xs q => si xs q (gi (V 103) (4 * q + 1))) 0 nb (V 98), pl_fz (fun xs q => si xs q (gi (V 103) (4 * q + 2))) 0 nb (V 99), pl_fz (fun xs q => si xs q (gi (V 103) (4 * q + 3))) 0 nb (V 100), N))) K := by
  have lo := fun (E : List (List Int)) (K : Option am_V → am_H → Prop) => am_foldz (W := fun q a => Wp E 121 51 [some (am_r (some 96)), some (am_i q)] [] (mk C S (m_b5 V a)) K) (f := fun a q => (si a.1 q (gi (V 103) (4 * q)), si a.2.1 q (gi (V 103) (4 * q + 1)), si a.2.2.1 q (gi (V 103) (4 * q + 2)), si a.2.2.2.1 q (gi (V 103) (4 * q + 3)), si a.2.2.2.2 q q)) (I := fun q a => a.1.length = 6 ∧ a.2.1.length = 6 ∧ a.2.2.1.length = 6 ∧ a.2.2.2.1.length = 6 ∧ a.2.2.2.2.length = 28 ∧ ∀ i : Int, 0 ≤ i → gi a.2.2.2.2 i = if i < q then i else gi (V 102) i) (lo := 0) (N := (nb : Int)) (by
    rintro q ⟨a1, a2, a3, a4, N⟩ q0 q1 ⟨z1, z2, z3, z4, z5, z6⟩
    dsimp only at z1 z2 z3 z4 z5 z6 ⊢
    refine ⟨⟨by rw [si_len]; exact z1, by rw [si_len]; exact z2, by rw [si_len]; exact z3, by rw [si_len]; exact z4, by rw [si_len]; exact z5, fun i hi => ?_⟩, ?_⟩
    · by_cases c : i = q
      · subst c
        rw [gi_eq (by omega), if_pos (by omega)]
      · rw [gi_ne (by omega), z6 i hi]
        by_cases c2 : i < q
        · rw [if_pos c2, if_pos (by omega)]
        · rw [if_neg c2, if_neg (by omega)]
    · unfold m_b5
      dsimp only
      rw [e121_51]
      simp (disch := first | omega | (simp (disch := omega) only [up_eq, up_ne, si_len, List.length_set]; omega)) only [↓e121_52, ↓e121_53, ↓e121_56, ↓e121_59, ↓e121_60, ↓e121_63, ↓e121_64, ↓e121_65, ↓e121_68, ↓e121_69, ↓e121_70, ↓e121_71, ↓e121_72, ↓e121_73, ↓e121_74, ↓e121_77, ↓e121_78, ↓e121_79, ↓e121_82, ↓e121_83, ↓e121_84, ↓e121_85, ↓e121_86, ↓e121_87, ↓e121_88, ↓e121_89, ↓e121_90, ↓e121_93, ↓e121_94, ↓e121_95, ↓e121_98, ↓e121_99, ↓e121_100, ↓e121_101, ↓e121_102, ↓e121_103, ↓e121_104, ↓e121_105, ↓e121_106, ↓e121_109, ↓e121_110, ↓e121_111, ↓e121_114, ↓e121_115, ↓e121_116, ↓e121_117, ↓e121_118, ↓e121_119, ↓e121_120, ↓e121_121, ↓e121_122, ↓e121_125, ↓e121_126, ↓e121_127, ↓e121_128, ↓e121_131, ↓am_ilp, ↓am_iln, ↓am_iep, ↓am_ien, ↓am_zlp, ↓am_zln, ↓am_zep, ↓am_zen, ↓am_zgp, ↓am_zgn, ↓am_zhp, ↓am_zhn, ↓am_b01, true_or, true_and, and_true, or_true, if_true, if_false, ↓am_bdl_z, ↓am_bdl_s, ↓am_bsl_z, ↓am_bsl_s, ↓am_k1_i, ↓am_k1_r, ↓am_k1_e, ↓am_k1_n, ↓am_bd_s, am_k1_t, eq_self, am_nl_i, am_nl_r, am_nl_e, am_nl_n, Option.toList_some, Option.toList_none, Option.map_some, Option.map_none, List.cons_append, List.nil_append, List.length_cons, List.length_nil, List.set_cons_zero, List.set_cons_succ, List.getElem?_cons_zero, List.getElem?_cons_succ, am_bd_s, ↓am_tls, ↓am_tln, ↓mk_oc, ↓ma_r, ↓ma_w, ↓mz_r, ↓mz_w, ↓mr0, ↓mr1, ↓mr2, ↓mr3, ↓mr4, ↓mr5, ↓mr6, ↓mr7, ↓mr8, ↓mr9, ↓mr10, ↓mr11, ↓mr12, ↓mr13, ↓mr14, ↓mr15, ↓mr16, ↓mr17, ↓mr18, ↓mr19, ↓mr20, ↓mr21, ↓mr22, ↓mr23, ↓mr24, ↓mr25, ↓mr26, ↓mr27, ↓mw0, ↓mw1, ↓mw11, ↓mw12, ↓mw13, ↓mw15, ↓mw16, ↓mw17, ↓mw19, ↓mw20, ↓mw22, ↓mw25, up_eq, up_ne, up_up, si_len, up_srt]) nb 0 (V 97, V 98, V 99, V 100, V 102) (by omega) (by omega) ⟨l97, l98, l99, l100, l102, fun i hi => by rw [if_neg (by omega)]⟩
  have key : ∀ (k : Nat) (q : Int) (a : List Int × List Int × List Int × List Int × List Int), pl_fz (fun (a : List Int × List Int × List Int × List Int × List Int) q => (si a.1 q (gi (V 103) (4 * q)), si a.2.1 q (gi (V 103) (4 * q + 1)), si a.2.2.1 q (gi (V 103) (4 * q + 2)), si a.2.2.2.1 q (gi (V 103) (4 * q + 3)), si a.2.2.2.2 q q)) q k a = (pl_fz (fun xs q => si xs q (gi (V 103) (4 * q))) q k a.1, pl_fz (fun xs q => si xs q (gi (V 103) (4 * q + 1))) q k a.2.1, pl_fz (fun xs q => si xs q (gi (V 103) (4 * q + 2))) q k a.2.2.1, pl_fz (fun xs q => si xs q (gi (V 103) (4 * q + 3))) q k a.2.2.2.1, pl_fz (fun xs q => si xs q q) q k a.2.2.2.2) := by
    intro k
    induction k with
    | zero => intro q a; rfl
    | succ k ih => intro q a; rw [pl_fz, ih]; rfl
  rw [key] at lo
  have ei : m_b5 V (V 97, V 98, V 99, V 100, V 102) = V := by
    unfold m_b5
    dsimp only
    rw [up_same, up_same, up_same, up_same, up_same]
  rw [ei] at lo
  obtain ⟨y1, y2, y3, y4, y5, y6⟩ := (lo [] (fun _ _ => True)).2
  refine ⟨_, y5, y6, fun E K => ?_⟩
  refine Eq.trans (lo E K).1 ?_
  dsimp only
  rw [e121_51]
  simp (disch := first | omega | (simp (disch := omega) only [up_eq, up_ne, si_len, List.length_set]; omega)) only [↓e121_52, ↓e121_53, ↓e121_56, ↓am_ilp, ↓am_iln, ↓am_iep, ↓am_ien, ↓am_zlp, ↓am_zln, ↓am_zep, ↓am_zen, ↓am_zgp, ↓am_zgn, ↓am_zhp, ↓am_zhn, ↓am_b01, true_or, true_and, and_true, or_true, if_true, if_false, ↓am_bdl_z, ↓am_bdl_s, ↓am_bsl_z, ↓am_bsl_s, ↓am_k1_i, ↓am_k1_r, ↓am_k1_e, ↓am_k1_n, ↓am_bd_s, am_k1_t, eq_self, am_nl_i, am_nl_r, am_nl_e, am_nl_n, Option.toList_some, Option.toList_none, Option.map_some, Option.map_none, List.cons_append, List.nil_append, List.length_cons, List.length_nil, List.set_cons_zero, List.set_cons_succ, List.getElem?_cons_zero, List.getElem?_cons_succ, am_bd_s, ↓am_tls, ↓am_tln, ↓mk_oc, ↓ma_r, ↓ma_w, ↓mz_r, ↓mz_w, ↓mr0, ↓mr1, ↓mr2, ↓mr3, ↓mr4, ↓mr5, ↓mr6, ↓mr7, ↓mr8, ↓mr9, ↓mr10, ↓mr11, ↓mr12, ↓mr13, ↓mr14, ↓mr15, ↓mr16, ↓mr17, ↓mr18, ↓mr19, ↓mr20, ↓mr21, ↓mr22, ↓mr23, ↓mr24, ↓mr25, ↓mr26, ↓mr27, ↓mw0, ↓mw1, ↓mw11, ↓mw12, ↓mw13, ↓mw15, ↓mw16, ↓mw17, ↓mw19, ↓mw20, ↓mw22, ↓mw25, up_eq, up_ne, up_up, si_len]
theorem X10_bed_s {ns : Nat} (h1 : S 1 = (ns : Int)) (hns : ns ≤ 3) (l101 : (V 101).length = 3) (l102 : (V 102).length = 28) (l104 : (V 104).length = 3) (l105 : (V 105).length = 3) : ∃ N, N.length = 28 ∧ (∀ i : Int, 0 ≤ i → gi N i = if 7 ≤ i ∧ i < 7 + (ns : Int) then gi (V 104) (i - 7) else gi (V 102) i) ∧ ∀ E K, Wp E 121 147 [some (am_r (some 96)), some (am_i 0)] [] (mk C S V) K = Wp E 121 188 [some (am_r (some 96)), some (am_i (ns : Int))] [] (mk C S (up (up V 101 (pl_fz (fun xs q => si xs q (gi (V 105) q)) 0 ns (V 101))) 102 N)) K := by
  have lo := fun (E : List (List Int)) (K : Option am_V → am_H → Prop) => am_foldz (W := fun q (a : List Int × List Int) => Wp E 121 147 [some (am_r (some 96)), some (am_i q)] [] (mk C S (up (up V 101 a.1) 102 a.2)) K) (f := fun a q => (si a.1 q (gi (V 105) q), si a.2 (7 + q) (gi (V 104) q))) (I := fun q a => a.1.length = 3 ∧ a.2.length = 28 ∧ ∀ i : Int, 0 ≤ i → gi a.2 i = if 7 ≤ i ∧ i < 7 + q then gi (V 104) (i - 7) else gi (V 102) i) (lo := 0) (N := (ns : Int)) (by
    rintro q ⟨a1, N⟩ q0 q1 ⟨z1, z5, z6⟩
    dsimp only at z1 z5 z6 ⊢
    refine ⟨⟨by rw [si_len]; exact z1, by rw [si_len]; exact z5, fun i hi => ?_⟩, ?_⟩
    · by_cases c : i = 7 + q
      · subst c
        rw [gi_eq (by omega), if_pos (by omega)]
        congr 1
        omega
      · rw [gi_ne (by omega), z6 i hi]
        by_cases c2 : 7 ≤ i ∧ i < 7 + q
        · rw [if_pos c2, if_pos (by omega)]
        · rw [if_neg c2, if_neg (by omega)]
    · rw [e121_147]
      simp (disch := first | omega | (simp (disch := omega) only [up_eq, up_ne, si_len, List.length_set]; omega)) only [↓e121_148, ↓e121_149, ↓e121_152, ↓e121_155, ↓e121_156, ↓e121_159, ↓e121_161, ↓e121_162, ↓e121_163, ↓e121_164, ↓e121_167, ↓e121_168, ↓e121_169, ↓e121_170, ↓e121_171, ↓e121_174, ↓e121_175, ↓e121_176, ↓e121_179, ↓e121_180, ↓e121_181, ↓e121_182, ↓e121_185, ↓am_ilp, ↓am_iln, ↓am_iep, ↓am_ien, ↓am_zlp, ↓am_zln, ↓am_zep, ↓am_zen, ↓am_zgp, ↓am_zgn, ↓am_zhp, ↓am_zhn, ↓am_b01, true_or, true_and, and_true, or_true, if_true, if_false, ↓am_bdl_z, ↓am_bdl_s, ↓am_bsl_z, ↓am_bsl_s, ↓am_k1_i, ↓am_k1_r, ↓am_k1_e, ↓am_k1_n, ↓am_bd_s, am_k1_t, eq_self, am_nl_i, am_nl_r, am_nl_e, am_nl_n, Option.toList_some, Option.toList_none, Option.map_some, Option.map_none, List.cons_append, List.nil_append, List.length_cons, List.length_nil, List.set_cons_zero, List.set_cons_succ, List.getElem?_cons_zero, List.getElem?_cons_succ, am_bd_s, ↓am_tls, ↓am_tln, ↓mk_oc, ↓ma_r, ↓ma_w, ↓mz_r, ↓mz_w, ↓mr0, ↓mr1, ↓mr2, ↓mr3, ↓mr4, ↓mr5, ↓mr6, ↓mr7, ↓mr8, ↓mr9, ↓mr10, ↓mr11, ↓mr12, ↓mr13, ↓mr14, ↓mr15, ↓mr16, ↓mr17, ↓mr18, ↓mr19, ↓mr20, ↓mr21, ↓mr22, ↓mr23, ↓mr24, ↓mr25, ↓mr26, ↓mr27, ↓mw0, ↓mw1, ↓mw11, ↓mw12, ↓mw13, ↓mw15, ↓mw16, ↓mw17, ↓mw19, ↓mw20, ↓mw22, ↓mw25, up_eq, up_ne, up_up, si_len, up_srt]) ns 0 (V 101, V 102) (by omega) (by omega) ⟨l101, l102, fun i hi => by rw [if_neg (by omega)]⟩
  have key : ∀ (k : Nat) (q : Int) (a : List Int × List Int), pl_fz (fun (a : List Int × List Int) q => (si a.1 q (gi (V 105) q), si a.2 (7 + q) (gi (V 104) q))) q k a = (pl_fz (fun xs q => si xs q (gi (V 105) q)) q k a.1, pl_fz (fun xs q => si xs (7 + q) (gi (V 104) q)) q k a.2) := by
    intro k
    induction k with
    | zero => intro q a; rfl
    | succ k ih => intro q a; rw [pl_fz, ih]; rfl
  rw [key] at lo
  have ei : up (up V 101 (V 101)) 102 (V 102) = V := by rw [up_same, up_same]
  rw [ei] at lo
  obtain ⟨y1, y5, y6⟩ := (lo [] (fun _ _ => True)).2
  refine ⟨_, y5, y6, fun E K => ?_⟩
  refine Eq.trans (lo E K).1 ?_
  rw [e121_147]
  simp (disch := first | omega | (simp (disch := omega) only [up_eq, up_ne, si_len, List.length_set]; omega)) only [↓e121_148, ↓e121_149, ↓e121_152, ↓am_ilp, ↓am_iln, ↓am_iep, ↓am_ien, ↓am_zlp, ↓am_zln, ↓am_zep, ↓am_zen, ↓am_zgp, ↓am_zgn, ↓am_zhp, ↓am_zhn, ↓am_b01, true_or, true_and, and_true, or_true, if_true, if_false, ↓am_bdl_z, ↓am_bdl_s, ↓am_bsl_z, ↓am_bsl_s, ↓am_k1_i, ↓am_k1_r, ↓am_k1_e, ↓am_k1_n, ↓am_bd_s, am_k1_t, eq_self, am_nl_i, am_nl_r, am_nl_e, am_nl_n, Option.toList_some, Option.toList_none, Option.map_some, Option.map_none, List.cons_append, List.nil_append, List.length_cons, List.length_nil, List.set_cons_zero, List.set_cons_succ, List.getElem?_cons_zero, List.getElem?_cons_succ, am_bd_s, ↓am_tls, ↓am_tln, ↓mk_oc, ↓ma_r, ↓ma_w, ↓mz_r, ↓mz_w, ↓mr0, ↓mr1, ↓mr2, ↓mr3, ↓mr4, ↓mr5, ↓mr6, ↓mr7, ↓mr8, ↓mr9, ↓mr10, ↓mr11, ↓mr12, ↓mr13, ↓mr14, ↓mr15, ↓mr16, ↓mr17, ↓mr18, ↓mr19, ↓mr20, ↓mr21, ↓mr22, ↓mr23, ↓mr24, ↓mr25, ↓mr26, ↓mr27, ↓mw0, ↓mw1, ↓mw11, ↓mw12, ↓mw13, ↓mw15, ↓mw16, ↓mw17, ↓mw19, ↓mw20, ↓mw22, ↓mw25, up_eq, up_ne, up_up, si_len]
theorem X10_bed_no {nb ns : Nat} (mp : MP S V nb ns) (mt : MT S V n) (h : (pl_text (V 106) n).1 ≠ -9) (hr : -9 ≤ (pl_text (V 106) n).1 ∧ (pl_text (V 106) n).1 ≤ 1000) : ∃ S' V', Kp [11, 12, 13, 16, 17] [103, 104, 105] S S' V V' ∧ (V' 103).length = 24 ∧ (V' 104).length = 3 ∧ (V' 105).length = 3 ∧ ∀ E K, Wp E 121 0 [some (am_r (some 96)), none] [] (mk C S V) K = K (some (am_i (-3))) (mk C S' V') := by
  obtain ⟨S', V', k, a3, a4, a5, w, -⟩ := X10_readText_w (C := C) mt
  refine ⟨S', V', k, a3, a4, a5, fun E K => ?_⟩
  simp (disch := first | omega | (simp (disch := omega) only [up_eq, up_ne, si_len, List.length_set]; omega)) only [↓e121_0, ↓e121_1, ↓e121_4, ↓e121_6, ↓e121_9, ↓e121_11, ↓am_ilp, ↓am_iln, ↓am_iep, ↓am_ien, ↓am_zlp, ↓am_zln, ↓am_zep, ↓am_zen, ↓am_zgp, ↓am_zgn, ↓am_zhp, ↓am_zhn, ↓am_b01, true_or, true_and, and_true, or_true, if_true, if_false, ↓am_bdl_z, ↓am_bdl_s, ↓am_bsl_z, ↓am_bsl_s, ↓am_k1_i, ↓am_k1_r, ↓am_k1_e, ↓am_k1_n, ↓am_bd_s, am_k1_t, eq_self, am_nl_i, am_nl_r, am_nl_e, am_nl_n, Option.toList_some, Option.toList_none, Option.map_some, Option.map_none, List.cons_append, List.nil_append, List.length_cons, List.length_nil, List.set_cons_zero, List.set_cons_succ, List.getElem?_cons_zero, List.getElem?_cons_succ, am_bd_s, ↓am_tls, ↓am_tln, ↓mk_oc, ↓ma_r, ↓ma_w, ↓mz_r, ↓mz_w, ↓mr0, ↓mr1, ↓mr2, ↓mr3, ↓mr4, ↓mr5, ↓mr6, ↓mr7, ↓mr8, ↓mr9, ↓mr10, ↓mr11, ↓mr12, ↓mr13, ↓mr14, ↓mr15, ↓mr16, ↓mr17, ↓mr18, ↓mr19, ↓mr20, ↓mr21, ↓mr22, ↓mr23, ↓mr24, ↓mr25, ↓mr26, ↓mr27, ↓mw0, ↓mw1, ↓mw11, ↓mw12, ↓mw13, ↓mw15, ↓mw16, ↓mw17, ↓mw19, ↓mw20, ↓mw22, ↓mw25, up_eq, up_ne, up_up, si_len, ↓w]
theorem X10_bed_w {nb ns : Nat} {Q : List pl_Q} {Sr : List (Int × Int)} (mp : MP S V nb ns) (mt : MT S V n) (l111 : (V 111).length = 2) (h : pl_text (V 106) n = (-9, Q, Sr)) : Q.length ≤ 6 ∧ Sr.length ≤ 3 ∧ ∃ S' V', Kp [0, 1, 11, 12, 13, 16, 17, 19] [97, 98, 99, 100, 101, 102, 103, 104, 105, 111] S S' V V' ∧ (V' 103).length = 24 ∧ (V' 104).length = 3 ∧ (V' 105).length = 3 ∧ S' 0 = (Q.length : Int) ∧ S' 1 = (Sr.length : Int) ∧ S' 19 = 0 ∧ V' 97 = pl_put (V 97) 0 (Q.map fun q => q.1) ∧ V' 98 = pl_put (V 98) 0 (Q.map fun q => q.2.1) ∧ V' 99 = pl_put (V 99) 0 (Q.map fun q => q.2.2.1) ∧ V' 100 = pl_put (V 100) 0 (Q.map fun q => q.2.2.2) ∧ V' 101 = pl_put (V 101) 0 (Sr.map fun q => q.2) ∧ (V' 102).length = 28 ∧ V' 111 = [0, 0] ∧ Ly (V' 102) 0 (List.range Q.length, pl_put [0, 0, 0] 0 (Sr.map fun q => q.1), [0, 0, 0], 0) ∧ ∀ E K, Wp E 121 0 [some (am_r (some 96)), none] [] (mk C S V) K = K (some (am_i (10 * (Q.length : Int) + (Sr.length : Int)))) (mk C S' V') := by
  obtain ⟨s0, s1, hnb, hns, l97, l98, l99, l100, l101, l102, l107, pv, wv⟩ := id mp
  obtain ⟨S1, V1, k, a3, a4, a5, w, fin⟩ := X10_readText_w (C := C) mt
  rw [h] at w fin
  obtain ⟨d1, d2, d3, d4, d5, d6⟩ := fin rfl
  dsimp only at d1 d2 d3 d4 d5 d6 w
  refine ⟨d1, d2, ?_⟩
  have v97 := k.2 97 (by decide)
  have v98 := k.2 98 (by decide)
  have v99 := k.2 99 (by decide)
  have v100 := k.2 100 (by decide)
  have v101 := k.2 101 (by decide)
  have v102 := k.2 102 (by decide)
  have v111 := k.2 111 (by decide)
  obtain ⟨S2, hS2⟩ : ∃ S2, S2 = up (up S1 0 (Q.length : Int)) 1 (Sr.length : Int) := ⟨_, rfl⟩
  obtain ⟨N1, n1, n2, w1⟩ := X10_bed_z (E := []) (K := fun _ _ => True) (C := C) (S := S2) (V := V1) (by rw [v102]; exact l102)
  obtain ⟨N2, n3, n4, w2⟩ := X10_bed_q (C := C) (S := S2) (V := up V1 102 N1) (nb := Q.length) (by rw [hS2]; rfl) d1 (by rw [up_ne (by decide), v97]; exact l97) (by rw [up_ne (by decide), v98]; exact l98) (by rw [up_ne (by decide), v99]; exact l99) (by rw [up_ne (by decide), v100]; exact l100) (by rw [up_eq]; exact n1) (by rw [up_ne (by decide)]; exact a3)
  have r97 : pl_fz (fun xs q => si xs q (gi (V1 103) (4 * q))) 0 Q.length (V 97) = pl_put (V 97) 0 (Q.map fun q => q.1) := by
    have := pl_put_fz (g := fun q => gi (V1 103) (4 * q)) (Q.map fun q => q.1) 0 (V 97) (fun i hi => by rw [List.length_map] at hi; rw [pl_map_at (d := (0, 0, 0, 0)) hi]; exact (d5 i hi).1)
    rw [List.length_map] at this
    exact this
  have r98 : pl_fz (fun xs q => si xs q (gi (V1 103) (4 * q + 1))) 0 Q.length (V 98) = pl_put (V 98) 0 (Q.map fun q => q.2.1) := by
    have := pl_put_fz (g := fun q => gi (V1 103) (4 * q + 1)) (Q.map fun q => q.2.1) 0 (V 98) (fun i hi => by rw [List.length_map] at hi; rw [pl_map_at (d := (0, 0, 0, 0)) hi]; exact (d5 i hi).2.1)
    rw [List.length_map] at this
    exact this
  have r99 : pl_fz (fun xs q => si xs q (gi (V1 103) (4 * q + 2))) 0 Q.length (V 99) = pl_put (V 99) 0 (Q.map fun q => q.2.2.1) := by
    have := pl_put_fz (g := fun q => gi (V1 103) (4 * q + 2)) (Q.map fun q => q.2.2.1) 0 (V 99) (fun i hi => by rw [List.length_map] at hi; rw [pl_map_at (d := (0, 0, 0, 0)) hi]; exact (d5 i hi).2.2.1)
    rw [List.length_map] at this
    exact this
  have r100 : pl_fz (fun xs q => si xs q (gi (V1 103) (4 * q + 3))) 0 Q.length (V 100) = pl_put (V 100) 0 (Q.map fun q => q.2.2.2) := by
    have := pl_put_fz (g := fun q => gi (V1 103) (4 * q + 3)) (Q.map fun q => q.2.2.2) 0 (V 100) (fun i hi => by rw [List.length_map] at hi; rw [pl_map_at (d := (0, 0, 0, 0)) hi]; exact (d5 i hi).2.2.2)
    rw [List.length_map] at this
    exact this
  have r101 : pl_fz (fun xs q => si xs q (gi (V1 105) q)) 0 Sr.length (V 101) = pl_put (V 101) 0 (Sr.map fun q => q.2) := by
    have := pl_put_fz (g := fun q => gi (V1 105) q) (Sr.map fun q => q.2) 0 (V 101) (fun i hi => by rw [List.length_map] at hi; rw [pl_map_at (d := (0, 0)) hi]; exact (d6 i hi).2)
    rw [List.length_map] at this
    exact this
  simp only [up_ne (show (97 : Nat) ≠ 102 by decide), up_ne (show (98 : Nat) ≠ 102 by decide), up_ne (show (99 : Nat) ≠ 102 by decide), up_ne (show (100 : Nat) ≠ 102 by decide), up_ne (show (103 : Nat) ≠ 102 by decide), v97, v98, v99, v100, r97, r98, r99, r100] at w2
  obtain ⟨V3, hV3⟩ : ∃ V3, V3 = m_b5 (up V1 102 N1) (pl_put (V 97) 0 (Q.map fun q => q.1), pl_put (V 98) 0 (Q.map fun q => q.2.1), pl_put (V 99) 0 (Q.map fun q => q.2.2.1), pl_put (V 100) 0 (Q.map fun q => q.2.2.2), N2) := ⟨_, rfl⟩
  rw [← hV3] at w2
  have x102 : V3 102 = N2 := by rw [hV3]; rfl
  obtain ⟨V4, hV4⟩ : ∃ V4, V4 = up V3 102 (si (V3 102) 6 (Q.length : Int)) := ⟨_, rfl⟩
  have x101 : V4 101 = V 101 := by rw [hV4, hV3]; exact v101
  have x104 : V4 104 = V1 104 := by rw [hV4, hV3]; rfl
  have x105 : V4 105 = V1 105 := by rw [hV4, hV3]; rfl
  have x2 : V4 102 = si N2 6 (Q.length : Int) := by rw [hV4, up_eq, x102]
  obtain ⟨N3, n5, n6, w3⟩ := X10_bed_s (C := C) (S := S2) (V := V4) (ns := Sr.length) (by rw [hS2]; rfl) d2 (by rw [x101]; exact l101) (by rw [x2, si_len]; exact n3) (by rw [x104]; exact a4) (by rw [x105]; exact a5)
  rw [x101, x105, r101] at w3
  rw [x104, x2] at n6
  obtain ⟨V5, hV5⟩ : ∃ V5, V5 = up (up V4 101 (pl_put (V 101) 0 (Sr.map fun q => q.2))) 102 N3 := ⟨_, rfl⟩
  rw [← hV5] at w3
  have y111 : V5 111 = V 111 := by rw [hV5, hV4, hV3]; exact v111
  have e111 : si (si (V 111) 0 0) 1 0 = [0, 0] := by
    match V 111, l111 with
    | [a, b], _ => rfl
  refine ⟨up S2 19 0, up V5 111 (si (si (V 111) 0 0) 1 0), ⟨fun i hi => ?_, fun i hi => ?_⟩, ?_, ?_, ?_, ?_, ?_, ?_, ?_, ?_, ?_, ?_, ?_, ?_, ?_, ?_, fun E K => ?_⟩
  · rw [hS2, up_nm hi (by decide), up_nm hi (by decide), up_nm hi (by decide)]
    exact k.1 i (fun z => hi (by
      have hd : ∀ x ∈ [11, 12, 13, 16, 17], x ∈ [0, 1, 11, 12, 13, 16, 17, 19] := by decide
      exact hd i z))
  · rw [hV5, hV4, hV3, m_b5]
    rw [up_nm hi (by decide), up_nm hi (by decide), up_nm hi (by decide), up_nm hi (by decide), up_nm hi (by decide), up_nm hi (by decide), up_nm hi (by decide), up_nm hi (by decide), up_nm hi (by decide), up_nm hi (by decide)]
    exact k.2 i (fun z => hi (by
      have hd : ∀ x ∈ [103, 104, 105], x ∈ [97, 98, 99, 100, 101, 102, 103, 104, 105, 111] := by decide
      exact hd i z))
  · rw [hV5, hV4, hV3]; exact a3
  · rw [hV5, hV4, hV3]; exact a4
  · rw [hV5, hV4, hV3]; exact a5
  · rw [hS2]; rfl
  · rw [hS2]; rfl
  · rw [up_eq]
  · rw [hV5, hV4, hV3]; rfl
  · rw [hV5, hV4, hV3]; rfl
  · rw [hV5, hV4, hV3]; rfl
  · rw [hV5, hV4, hV3]; rfl
  · rw [hV5]; rfl
  · rw [hV5]; exact n5
  · rw [up_eq]; exact e111
  · have ge : ∀ i : Int, 0 ≤ i → gi N3 i = if 7 ≤ i ∧ i < 7 + (Sr.length : Int) then gi (V1 104) (i - 7) else if i = 6 then (Q.length : Int) else if i < (Q.length : Int) then i else if i < 14 then 0 else gi (V1 102) i := by
      intro i hi
      rw [n6 i hi]
      by_cases c1 : 7 ≤ i ∧ i < 7 + (Sr.length : Int)
      · rw [if_pos c1, if_pos c1]
      · rw [if_neg c1, if_neg c1]
        by_cases c2 : i = 6
        · rw [if_pos c2, c2, gi_eq (by omega)]
        · rw [if_neg c2, gi_ne (by omega), n4 i hi, up_eq, n2 i hi]
    have h102 : up V5 111 (si (si (V 111) 0 0) 1 0) 102 = N3 := by rw [hV5]; rfl
    rw [h102]
    refine ⟨by rw [List.length_range]; exact d1, ?_, fun i hi => ?_, by rw [pl_put_len]; rfl, rfl, fun s hs => ?_, fun s hs => ?_, ?_⟩
    · rw [ge _ (by omega), if_neg (by omega), if_pos (by omega), List.length_range]
    · rw [List.length_range] at hi
      rw [ge _ (by omega), if_neg (by omega), if_neg (by omega), if_pos (by omega), List.getD_eq_getElem?_getD, List.getElem?_range hi]
      simp
    · rw [ge _ (by omega)]
      by_cases c1 : s < Sr.length
      · rw [if_pos (by omega), show (0 : Int) + 7 + (s : Int) - 7 = ((0 + s : Nat) : Int) by omega, (d6 s c1).1]
        have := pl_put_at (Sr.map fun q => q.1) [0, 0, 0] 0 s (by rw [List.length_map]; exact c1) (by simp; omega)
        rw [Nat.zero_add] at this
        dsimp only
        rw [this, pl_map_at (d := (0, 0)) c1]
      · rw [if_neg (by omega), if_neg (by omega), if_neg (by omega), if_pos (by omega)]
        dsimp only
        rw [pl_put_hi _ _ _ _ (by rw [List.length_map]; omega)]
        match s, hs with
        | 0, _ => rfl
        | 1, _ => rfl
        | 2, _ => rfl
    · rw [ge _ (by omega), if_neg (by omega), if_neg (by omega), if_neg (by omega), if_pos (by omega)]
      match s, hs with
      | 0, _ => rfl
      | 1, _ => rfl
      | 2, _ => rfl
    · rw [ge _ (by omega), if_neg (by omega), if_neg (by omega), if_neg (by omega), if_pos (by omega)]
  · have w1' := w1 E K
    have w2' := w2 E K
    have w3' := w3 E K
    have z0 : S2 0 = (Q.length : Int) := by rw [hS2]; rfl
    have z1 : S2 1 = (Sr.length : Int) := by rw [hS2]; rfl
    have st1 : Wp E 121 0 [some (am_r (some 96)), none] [] (mk C S V) K = Wp E 121 28 [some (am_r (some 96)), none] [] (mk C S2 V1) K := by
      rw [hS2]
      simp (disch := first | omega | (simp (disch := omega) only [up_eq, up_ne, si_len, List.length_set]; omega)) only [↓e121_0, ↓e121_1, ↓e121_4, ↓e121_6, ↓e121_9, ↓e121_11, ↓e121_12, ↓e121_13, ↓e121_14, ↓e121_17, ↓e121_20, ↓e121_21, ↓e121_22, ↓e121_25, ↓am_ilp, ↓am_iln, ↓am_iep, ↓am_ien, ↓am_zlp, ↓am_zln, ↓am_zep, ↓am_zen, ↓am_zgp, ↓am_zgn, ↓am_zhp, ↓am_zhn, ↓am_b01, true_or, true_and, and_true, or_true, if_true, if_false, ↓am_bdl_z, ↓am_bdl_s, ↓am_bsl_z, ↓am_bsl_s, ↓am_k1_i, ↓am_k1_r, ↓am_k1_e, ↓am_k1_n, ↓am_bd_s, am_k1_t, eq_self, am_nl_i, am_nl_r, am_nl_e, am_nl_n, Option.toList_some, Option.toList_none, Option.map_some, Option.map_none, List.cons_append, List.nil_append, List.length_cons, List.length_nil, List.set_cons_zero, List.set_cons_succ, List.getElem?_cons_zero, List.getElem?_cons_succ, am_bd_s, ↓am_tls, ↓am_tln, ↓mk_oc, ↓ma_r, ↓ma_w, ↓mz_r, ↓mz_w, ↓mr0, ↓mr1, ↓mr2, ↓mr3, ↓mr4, ↓mr5, ↓mr6, ↓mr7, ↓mr8, ↓mr9, ↓mr10, ↓mr11, ↓mr12, ↓mr13, ↓mr14, ↓mr15, ↓mr16, ↓mr17, ↓mr18, ↓mr19, ↓mr20, ↓mr21, ↓mr22, ↓mr23, ↓mr24, ↓mr25, ↓mr26, ↓mr27, ↓mw0, ↓mw1, ↓mw11, ↓mw12, ↓mw13, ↓mw15, ↓mw16, ↓mw17, ↓mw19, ↓mw20, ↓mw22, ↓mw25, up_eq, up_ne, up_up, si_len, ↓w, d3, d4]
    have x28 : (V3 102).length = 28 := by rw [x102]; exact n3
    have st2 : Wp E 121 134 [some (am_r (some 96)), some (am_i (Q.length : Int))] [] (mk C S2 V3) K = Wp E 121 147 [some (am_r (some 96)), some (am_i 0)] [] (mk C S2 V4) K := by
      rw [hV4]
      simp (disch := first | omega | (simp (disch := omega) only [up_eq, up_ne, si_len, List.length_set]; omega)) only [↓e121_134, ↓e121_135, ↓e121_138, ↓e121_140, ↓e121_141, ↓e121_144, ↓e121_145, ↓e121_146, ↓am_ilp, ↓am_iln, ↓am_iep, ↓am_ien, ↓am_zlp, ↓am_zln, ↓am_zep, ↓am_zen, ↓am_zgp, ↓am_zgn, ↓am_zhp, ↓am_zhn, ↓am_b01, true_or, true_and, and_true, or_true, if_true, if_false, ↓am_bdl_z, ↓am_bdl_s, ↓am_bsl_z, ↓am_bsl_s, ↓am_k1_i, ↓am_k1_r, ↓am_k1_e, ↓am_k1_n, ↓am_bd_s, am_k1_t, eq_self, am_nl_i, am_nl_r, am_nl_e, am_nl_n, Option.toList_some, Option.toList_none, Option.map_some, Option.map_none, List.cons_append, List.nil_append, List.length_cons, List.length_nil, List.set_cons_zero, List.set_cons_succ, List.getElem?_cons_zero, List.getElem?_cons_succ, am_bd_s, ↓am_tls, ↓am_tln, ↓mk_oc, ↓ma_r, ↓ma_w, ↓mz_r, ↓mz_w, ↓mr0, ↓mr1, ↓mr2, ↓mr3, ↓mr4, ↓mr5, ↓mr6, ↓mr7, ↓mr8, ↓mr9, ↓mr10, ↓mr11, ↓mr12, ↓mr13, ↓mr14, ↓mr15, ↓mr16, ↓mr17, ↓mr18, ↓mr19, ↓mr20, ↓mr21, ↓mr22, ↓mr23, ↓mr24, ↓mr25, ↓mr26, ↓mr27, ↓mw0, ↓mw1, ↓mw11, ↓mw12, ↓mw13, ↓mw15, ↓mw16, ↓mw17, ↓mw19, ↓mw20, ↓mw22, ↓mw25, up_eq, up_ne, up_up, si_len, z0]
    have y2 : (V5 111).length = 2 := by rw [y111]; exact l111
    rw [st1, w1', w2', st2, w3']
    simp (disch := first | omega | (simp (disch := omega) only [up_eq, up_ne, si_len, List.length_set]; omega)) only [↓e121_188, ↓e121_189, ↓e121_190, ↓e121_193, ↓e121_194, ↓e121_197, ↓e121_198, ↓e121_199, ↓e121_200, ↓e121_201, ↓e121_204, ↓e121_205, ↓e121_206, ↓e121_207, ↓e121_209, ↓e121_210, ↓e121_213, ↓e121_214, ↓e121_215, ↓e121_218, ↓e121_219, ↓am_ilp, ↓am_iln, ↓am_iep, ↓am_ien, ↓am_zlp, ↓am_zln, ↓am_zep, ↓am_zen, ↓am_zgp, ↓am_zgn, ↓am_zhp, ↓am_zhn, ↓am_b01, true_or, true_and, and_true, or_true, if_true, if_false, ↓am_bdl_z, ↓am_bdl_s, ↓am_bsl_z, ↓am_bsl_s, ↓am_k1_i, ↓am_k1_r, ↓am_k1_e, ↓am_k1_n, ↓am_bd_s, am_k1_t, eq_self, am_nl_i, am_nl_r, am_nl_e, am_nl_n, Option.toList_some, Option.toList_none, Option.map_some, Option.map_none, List.cons_append, List.nil_append, List.length_cons, List.length_nil, List.set_cons_zero, List.set_cons_succ, List.getElem?_cons_zero, List.getElem?_cons_succ, am_bd_s, ↓am_tls, ↓am_tln, ↓mk_oc, ↓ma_r, ↓ma_w, ↓mz_r, ↓mz_w, ↓mr0, ↓mr1, ↓mr2, ↓mr3, ↓mr4, ↓mr5, ↓mr6, ↓mr7, ↓mr8, ↓mr9, ↓mr10, ↓mr11, ↓mr12, ↓mr13, ↓mr14, ↓mr15, ↓mr16, ↓mr17, ↓mr18, ↓mr19, ↓mr20, ↓mr21, ↓mr22, ↓mr23, ↓mr24, ↓mr25, ↓mr26, ↓mr27, ↓mw0, ↓mw1, ↓mw11, ↓mw12, ↓mw13, ↓mw15, ↓mw16, ↓mw17, ↓mw19, ↓mw20, ↓mw22, ↓mw25, up_eq, up_ne, up_up, si_len, z0, z1, y111]
end MBD
