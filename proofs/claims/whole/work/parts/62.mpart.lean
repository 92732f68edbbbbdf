/-! the model: a part of the text is read -/
section MPA
variable {C : Nat → am_C} {S : Nat → Int} {V : Nat → List Int} {X : List Int} {n : Nat}
theorem X10_readPart_q0 {E : List (List Int)} {K : Option am_V → am_H → Prop} {p : Int} (h16 : S 16 = p) (h11 : 0 ≤ S 11 ∧ S 11 < 6) : Wp E 119 0 [some (am_r (some 96)), some (am_i 81), none, none] [] (mk C S V) K = Wp E 119 28 [some (am_r (some 96)), some (am_i 81), none, none] [am_i 63, am_r (some 96)] (mk C (up S 16 (p + 1)) V) K := by
  simp (disch := first | omega | (simp (disch := omega) only [up_eq, up_ne, si_len, List.length_set]; omega)) only [↓e119_0, ↓e119_1, ↓e119_3, ↓e119_6, ↓e119_7, ↓e119_10, ↓e119_12, ↓e119_15, ↓e119_16, ↓e119_17, ↓e119_20, ↓e119_21, ↓e119_22, ↓e119_25, ↓e119_26, ↓am_ilp, ↓am_iln, ↓am_iep, ↓am_ien, ↓am_zlp, ↓am_zln, ↓am_zep, ↓am_zen, ↓am_zgp, ↓am_zgn, ↓am_zhp, ↓am_zhn, ↓am_b01, true_or, true_and, and_true, or_true, if_true, if_false, ↓am_bdl_z, ↓am_bdl_s, ↓am_bsl_z, ↓am_bsl_s, ↓am_k1_i, ↓am_k1_r, ↓am_k1_e, ↓am_k1_n, ↓am_bd_s, am_k1_t, eq_self, am_nl_i, am_nl_r, am_nl_e, am_nl_n, Option.toList_some, Option.toList_none, Option.map_some, Option.map_none, List.cons_append, List.nil_append, List.length_cons, List.length_nil, List.set_cons_zero, List.set_cons_succ, List.getElem?_cons_zero, List.getElem?_cons_succ, am_bd_s, ↓am_tls, ↓am_tln, ↓mk_oc, ↓ma_r, ↓ma_w, ↓mz_r, ↓mz_w, ↓mr0, ↓mr1, ↓mr2, ↓mr3, ↓mr4, ↓mr5, ↓mr6, ↓mr7, ↓mr8, ↓mr9, ↓mr10, ↓mr11, ↓mr12, ↓mr13, ↓mr14, ↓mr15, ↓mr16, ↓mr17, ↓mr18, ↓mr19, ↓mr20, ↓mr21, ↓mr22, ↓mr23, ↓mr24, ↓mr25, ↓mr26, ↓mr27, ↓mw0, ↓mw1, ↓mw11, ↓mw12, ↓mw13, ↓mw15, ↓mw16, ↓mw17, ↓mw19, ↓mw20, ↓mw22, ↓mw25, up_eq, up_ne, up_up, si_len, h16]
theorem X10_readPart_q1 {E : List (List Int)} {K : Option am_V → am_H → Prop} {a : Int} {S' : Nat → Int} (w : ∀ E K, Wp E 116 0 [some (am_r (some 96)), some (am_i 63), none] [] (mk C S V) K = K (some (am_i a)) (mk C S' V)) (h11 : 0 ≤ S' 11 ∧ S' 11 < 6) (l103 : (V 103).length = 24) : Wp E 119 28 [some (am_r (some 96)), some (am_i 81), none, none] [am_i 63, am_r (some 96)] (mk C S V) K = Wp E 119 63 [some (am_r (some 96)), some (am_i 81), some (am_i a), none] [am_i (64 - am_shl 1 a), am_r (some 96), am_i (4 * S' 11 + 1), am_r (some 103)] (mk C S' (up V 103 (si (V 103) (4 * S' 11) a))) K := by
  simp (disch := first | omega | (simp (disch := omega) only [up_eq, up_ne, si_len, List.length_set]; omega)) only [↓e119_28, ↓e119_31, ↓e119_32, ↓e119_33, ↓e119_36, ↓e119_37, ↓e119_38, ↓e119_41, ↓e119_42, ↓e119_43, ↓e119_44, ↓e119_45, ↓e119_48, ↓e119_49, ↓e119_50, ↓e119_53, ↓e119_54, ↓e119_55, ↓e119_56, ↓e119_57, ↓e119_59, ↓e119_60, ↓e119_61, ↓e119_62, ↓am_ilp, ↓am_iln, ↓am_iep, ↓am_ien, ↓am_zlp, ↓am_zln, ↓am_zep, ↓am_zen, ↓am_zgp, ↓am_zgn, ↓am_zhp, ↓am_zhn, ↓am_b01, true_or, true_and, and_true, or_true, if_true, if_false, ↓am_bdl_z, ↓am_bdl_s, ↓am_bsl_z, ↓am_bsl_s, ↓am_k1_i, ↓am_k1_r, ↓am_k1_e, ↓am_k1_n, ↓am_bd_s, am_k1_t, eq_self, am_nl_i, am_nl_r, am_nl_e, am_nl_n, Option.toList_some, Option.toList_none, Option.map_some, Option.map_none, List.cons_append, List.nil_append, List.length_cons, List.length_nil, List.set_cons_zero, List.set_cons_succ, List.getElem?_cons_zero, List.getElem?_cons_succ, am_bd_s, ↓am_tls, ↓am_tln, ↓mk_oc, ↓ma_r, ↓ma_w, ↓mz_r, ↓mz_w, ↓mr0, ↓mr1, ↓mr2, ↓mr3, ↓mr4, ↓mr5, ↓mr6, ↓mr7, ↓mr8, ↓mr9, ↓mr10, ↓mr11, ↓mr12, ↓mr13, ↓mr14, ↓mr15, ↓mr16, ↓mr17, ↓mr18, ↓mr19, ↓mr20, ↓mr21, ↓mr22, ↓mr23, ↓mr24, ↓mr25, ↓mr26, ↓mr27, ↓mw0, ↓mw1, ↓mw11, ↓mw12, ↓mw13, ↓mw15, ↓mw16, ↓mw17, ↓mw19, ↓mw20, ↓mw22, ↓mw25, up_eq, up_ne, up_up, si_len, ↓w]
theorem X10_readPart_q2 {E : List (List Int)} {K : Option am_V → am_H → Prop} {a b al j : Int} {S' : Nat → Int} (w : ∀ E K, Wp E 116 0 [some (am_r (some 96)), some (am_i al), none] [] (mk C S V) K = K (some (am_i b)) (mk C S' V)) (h11 : 0 ≤ S' 11 ∧ S' 11 < 6) (hj : 0 ≤ j ∧ j < 24) (l103 : (V 103).length = 24) : Wp E 119 63 [some (am_r (some 96)), some (am_i 81), some (am_i a), none] [am_i al, am_r (some 96), am_i j, am_r (some 103)] (mk C S V) K = Wp E 119 83 [some (am_r (some 96)), some (am_i 81), some (am_i a), none] [am_i 1023, am_r (some 96), am_i (4 * S' 11 + 2), am_r (some 103)] (mk C S' (up V 103 (si (V 103) j b))) K := by
  simp (disch := first | omega | (simp (disch := omega) only [up_eq, up_ne, si_len, List.length_set]; omega)) only [↓e119_63, ↓e119_66, ↓e119_67, ↓e119_68, ↓e119_71, ↓e119_72, ↓e119_73, ↓e119_76, ↓e119_77, ↓e119_78, ↓e119_79, ↓e119_80, ↓am_ilp, ↓am_iln, ↓am_iep, ↓am_ien, ↓am_zlp, ↓am_zln, ↓am_zep, ↓am_zen, ↓am_zgp, ↓am_zgn, ↓am_zhp, ↓am_zhn, ↓am_b01, true_or, true_and, and_true, or_true, if_true, if_false, ↓am_bdl_z, ↓am_bdl_s, ↓am_bsl_z, ↓am_bsl_s, ↓am_k1_i, ↓am_k1_r, ↓am_k1_e, ↓am_k1_n, ↓am_bd_s, am_k1_t, eq_self, am_nl_i, am_nl_r, am_nl_e, am_nl_n, Option.toList_some, Option.toList_none, Option.map_some, Option.map_none, List.cons_append, List.nil_append, List.length_cons, List.length_nil, List.set_cons_zero, List.set_cons_succ, List.getElem?_cons_zero, List.getElem?_cons_succ, am_bd_s, ↓am_tls, ↓am_tln, ↓mk_oc, ↓ma_r, ↓ma_w, ↓mz_r, ↓mz_w, ↓mr0, ↓mr1, ↓mr2, ↓mr3, ↓mr4, ↓mr5, ↓mr6, ↓mr7, ↓mr8, ↓mr9, ↓mr10, ↓mr11, ↓mr12, ↓mr13, ↓mr14, ↓mr15, ↓mr16, ↓mr17, ↓mr18, ↓mr19, ↓mr20, ↓mr21, ↓mr22, ↓mr23, ↓mr24, ↓mr25, ↓mr26, ↓mr27, ↓mw0, ↓mw1, ↓mw11, ↓mw12, ↓mw13, ↓mw15, ↓mw16, ↓mw17, ↓mw19, ↓mw20, ↓mw22, ↓mw25, up_eq, up_ne, up_up, si_len, ↓w]
theorem X10_readPart_q3 {E : List (List Int)} {K : Option am_V → am_H → Prop} {a b j : Int} {S' : Nat → Int} (w : ∀ E K, Wp E 116 0 [some (am_r (some 96)), some (am_i 1023), none] [] (mk C S V) K = K (some (am_i b)) (mk C S' V)) (h11 : 0 ≤ S' 11 ∧ S' 11 < 6) (hj : 0 ≤ j ∧ j < 24) (l103 : (V 103).length = 24) : Wp E 119 83 [some (am_r (some 96)), some (am_i 81), some (am_i a), none] [am_i 1023, am_r (some 96), am_i j, am_r (some 103)] (mk C S V) K = Wp E 119 102 [some (am_r (some 96)), some (am_i 81), some (am_i a), none] [am_i 15, am_r (some 96), am_i (4 * S' 11 + 3), am_r (some 103)] (mk C S' (up V 103 (si (V 103) j b))) K := by
  simp (disch := first | omega | (simp (disch := omega) only [up_eq, up_ne, si_len, List.length_set]; omega)) only [↓e119_83, ↓e119_86, ↓e119_87, ↓e119_88, ↓e119_91, ↓e119_92, ↓e119_93, ↓e119_96, ↓e119_97, ↓e119_98, ↓e119_99, ↓e119_100, ↓am_ilp, ↓am_iln, ↓am_iep, ↓am_ien, ↓am_zlp, ↓am_zln, ↓am_zep, ↓am_zen, ↓am_zgp, ↓am_zgn, ↓am_zhp, ↓am_zhn, ↓am_b01, true_or, true_and, and_true, or_true, if_true, if_false, ↓am_bdl_z, ↓am_bdl_s, ↓am_bsl_z, ↓am_bsl_s, ↓am_k1_i, ↓am_k1_r, ↓am_k1_e, ↓am_k1_n, ↓am_bd_s, am_k1_t, eq_self, am_nl_i, am_nl_r, am_nl_e, am_nl_n, Option.toList_some, Option.toList_none, Option.map_some, Option.map_none, List.cons_append, List.nil_append, List.length_cons, List.length_nil, List.set_cons_zero, List.set_cons_succ, List.getElem?_cons_zero, List.getElem?_cons_succ, am_bd_s, ↓am_tls, ↓am_tln, ↓mk_oc, ↓ma_r, ↓ma_w, ↓mz_r, ↓mz_w, ↓mr0, ↓mr1, ↓mr2, ↓mr3, ↓mr4, ↓mr5, ↓mr6, ↓mr7, ↓mr8, ↓mr9, ↓mr10, ↓mr11, ↓mr12, ↓mr13, ↓mr14, ↓mr15, ↓mr16, ↓mr17, ↓mr18, ↓mr19, ↓mr20, ↓mr21, ↓mr22, ↓mr23, ↓mr24, ↓mr25, ↓mr26, ↓mr27, ↓mw0, ↓mw1, ↓mw11, ↓mw12, ↓mw13, ↓mw15, ↓mw16, ↓mw17, ↓mw19, ↓mw20, ↓mw22, ↓mw25, up_eq, up_ne, up_up, si_len, ↓w]
theorem X10_readPart_q4 {E : List (List Int)} {K : Option am_V → am_H → Prop} {a b j : Int} {S' : Nat → Int} (w : ∀ E K, Wp E 116 0 [some (am_r (some 96)), some (am_i 15), none] [] (mk C S V) K = K (some (am_i b)) (mk C S' V)) (hj : 0 ≤ j ∧ j < 24) (l103 : (V 103).length = 24) : Wp E 119 102 [some (am_r (some 96)), some (am_i 81), some (am_i a), none] [am_i 15, am_r (some 96), am_i j, am_r (some 103)] (mk C S V) K = K none (mk C (up S' 11 (S' 11 + 1)) (up V 103 (si (V 103) j b))) := by
  simp (disch := first | omega | (simp (disch := omega) only [up_eq, up_ne, si_len, List.length_set]; omega)) only [↓e119_102, ↓e119_105, ↓e119_106, ↓e119_107, ↓e119_108, ↓e119_111, ↓e119_112, ↓e119_113, ↓e119_116, ↓e119_246, ↓am_ilp, ↓am_iln, ↓am_iep, ↓am_ien, ↓am_zlp, ↓am_zln, ↓am_zep, ↓am_zen, ↓am_zgp, ↓am_zgn, ↓am_zhp, ↓am_zhn, ↓am_b01, true_or, true_and, and_true, or_true, if_true, if_false, ↓am_bdl_z, ↓am_bdl_s, ↓am_bsl_z, ↓am_bsl_s, ↓am_k1_i, ↓am_k1_r, ↓am_k1_e, ↓am_k1_n, ↓am_bd_s, am_k1_t, eq_self, am_nl_i, am_nl_r, am_nl_e, am_nl_n, Option.toList_some, Option.toList_none, Option.map_some, Option.map_none, List.cons_append, List.nil_append, List.length_cons, List.length_nil, List.set_cons_zero, List.set_cons_succ, List.getElem?_cons_zero, List.getElem?_cons_succ, am_bd_s, ↓am_tls, ↓am_tln, ↓mk_oc, ↓ma_r, ↓ma_w, ↓mz_r, ↓mz_w, ↓mr0, ↓mr1, ↓mr2, ↓mr3, ↓mr4, ↓mr5, ↓mr6, ↓mr7, ↓mr8, ↓mr9, ↓mr10, ↓mr11, ↓mr12, ↓mr13, ↓mr14, ↓mr15, ↓mr16, ↓mr17, ↓mr18, ↓mr19, ↓mr20, ↓mr21, ↓mr22, ↓mr23, ↓mr24, ↓mr25, ↓mr26, ↓mr27, ↓mw0, ↓mw1, ↓mw11, ↓mw12, ↓mw13, ↓mw15, ↓mw16, ↓mw17, ↓mw19, ↓mw20, ↓mw22, ↓mw25, up_eq, up_ne, up_up, si_len, ↓w]
/-- one more figure: what comes of it -/
theorem X10_figureOf_x {al : Nat} {q lo hi : Int} (hX : V 106 = X) (h15 : S 15 = (n : Int)) (h16 : S 16 = q) (lX : X.length = 44) (hn : n ≤ 44) (vX : ∀ i < 44, 0 ≤ X.getD i 0 ∧ X.getD i 0 ≤ 255) (hq : 0 ≤ q ∧ q ≤ n) (hal : al < 1024) (h17 : S 17 = -9) (hlo : 0 ≤ lo) (hhi : hi ≤ 9) (hb : ∀ v < 10, al.testBit v = decide (lo ≤ (v : Int) ∧ (v : Int) ≤ hi)) : ∃ S' a, (∀ E K, Wp E 116 0 [some (am_r (some 96)), some (am_i (al : Int)), none] [] (mk C S V) K = K (some (am_i a)) (mk C S' V)) ∧ ((pl_ff X n q lo hi = -9 ∧ a = pl_fa X n q ∧ lo ≤ a ∧ a ≤ hi ∧ S' = up S 16 (q + 1)) ∨ (pl_ff X n q lo hi = q ∧ a = 0 ∧ S' = up S 17 q)) := by
  rcases m_ff (X := X) hq.2 hlo hhi hb with ⟨o1, o2, o3, o4⟩ | ⟨o1, o2, -⟩ | o1
  · exact ⟨_, _, X10_figureOf_A hX h15 h16 h17 lX hn vX hq.1 hal o1, Or.inl ⟨o2, rfl, o3, o4, rfl⟩⟩
  · exact ⟨_, _, X10_figureOf_B hX h15 h16 h17 lX hn vX (by omega) hal o1, Or.inr ⟨o2, rfl, rfl⟩⟩
  · omega
def m_q4 (N : List Int) (b : Int) (d : pl_Q) : List Int := si (si (si (si N (4 * b) d.1) (4 * b + 1) d.2.1) (4 * b + 2) d.2.2.1) (4 * b + 3) d.2.2.2
theorem X10_readPart_q {p : Int} (hX : V 106 = X) (h15 : S 15 = (n : Int)) (h16 : S 16 = p) (h17 : S 17 = -9) (lX : X.length = 44) (hn : n ≤ 44) (vX : ∀ i < 44, 0 ≤ X.getD i 0 ∧ X.getD i 0 ≤ 255) (hp : 0 ≤ p ∧ p < n) (h11 : 0 ≤ S 11 ∧ S 11 < 6) (l103 : (V 103).length = 24) : ∃ S' V', (∀ E K, Wp E 119 0 [some (am_r (some 96)), some (am_i 81), none, none] [] (mk C S V) K = K none (mk C S' V')) ∧ Kp [11, 16, 17] [103] S S' V V' ∧ (V' 103).length = 24 ∧ S' 17 = pl_bf X n p ∧ (pl_bf X n p = -9 → S' 16 = p + 5 ∧ S' 11 = S 11 + 1 ∧ V' 103 = m_q4 (V 103) (S 11) (pl_fa X n (p + 1), pl_fa X n (p + 2), pl_fa X n (p + 3), pl_fa X n (p + 4))) := by
  have st := fun E K => X10_readPart_q0 (E := E) (K := K) (C := C) (V := V) h16 h11
  obtain ⟨S1, a1, w1, c1⟩ := X10_figureOf_x (C := C) (S := up S 16 (p + 1)) (V := V) (X := X) (n := n) (al := 63) (q := p + 1) (lo := 0) (hi := 5) hX h15 (by rw [up_eq]) lX hn vX (by omega) (by omega) h17 (by omega) (by omega) (fun v hv => by rw [m_b63 v hv]; apply decide_eq_decide.mpr; omega)
  have b11 : S1 11 = S 11 := by rcases c1 with ⟨-, -, -, -, e⟩ | ⟨-, -, e⟩ <;> rw [e] <;> rfl
  have a5 : 0 ≤ a1 ∧ a1 ≤ 5 := by rcases c1 with ⟨-, -, h1, h2, -⟩ | ⟨-, e, -⟩ <;> omega
  obtain ⟨z1, z2⟩ := m_al_ok a1.toNat (by omega)
  rw [show ((a1.toNat : Nat) : Int) = a1 by omega] at z1
  have s1 := fun E K => X10_readPart_q1 (E := E) (K := K) w1 (by omega) l103
  have V1_106 : up V 103 (si (V 103) (4 * S1 11) a1) 106 = X := hX
  have hlt : 64 - 2 ^ a1.toNat < 1024 := Nat.lt_of_le_of_lt (Nat.sub_le _ _) (by omega)
  -- the second figure
  have second : ∃ S2 a2, (∀ E K, Wp E 116 0 [some (am_r (some 96)), some (am_i (64 - am_shl 1 a1)), none] [] (mk C S1 (up V 103 (si (V 103) (4 * S1 11) a1))) K = K (some (am_i a2)) (mk C S2 (up V 103 (si (V 103) (4 * S1 11) a1)))) ∧ ((pl_ff X n (p + 1) 0 5 = -9 ∧ pl_ff X n (p + 2) (pl_fa X n (p + 1)) 5 = -9 ∧ a1 = pl_fa X n (p + 1) ∧ a2 = pl_fa X n (p + 2) ∧ S2 = up S 16 (p + 3)) ∨ (pl_ff X n (p + 1) 0 5 = -9 ∧ pl_ff X n (p + 2) (pl_fa X n (p + 1)) 5 = p + 2 ∧ S2 = up (up S 16 (p + 2)) 17 (p + 2)) ∨ (pl_ff X n (p + 1) 0 5 = p + 1 ∧ S2 = up (up S 16 (p + 1)) 17 (p + 1))) := by
    rcases c1 with ⟨f1, e1, -, -, eS⟩ | ⟨f1, e1, eS⟩
    · have eS' : S1 = up S 16 (p + 2) := by rw [eS, up_up]; congr 1; omega
      obtain ⟨hpn, -⟩ := pl_ff_ok f1 (by omega)
      obtain ⟨S2, a2, w2, c2⟩ := X10_figureOf_x (C := C) (S := S1) (V := up V 103 (si (V 103) (4 * S1 11) a1)) (X := X) (n := n) (al := 64 - 2 ^ a1.toNat) (q := p + 2) (lo := a1) (hi := 5) V1_106 (by rw [eS']; exact h15) (by rw [eS', up_eq]) lX hn vX (by omega) hlt (by rw [eS']; exact h17) (by omega) (by omega) (fun v hv => by rw [z2 v hv]; apply decide_eq_decide.mpr; omega)
      rw [← z1] at w2
      refine ⟨S2, a2, w2, ?_⟩
      rcases c2 with ⟨f2, e2, -, -, eS2⟩ | ⟨f2, e2, eS2⟩
      · exact Or.inl ⟨f1, by rw [← e1]; exact f2, e1, e2, by rw [eS2, eS', up_up]; congr 1; omega⟩
      · exact Or.inr (Or.inl ⟨f1, by rw [← e1]; exact f2, by rw [eS2, eS']⟩)
    · have e17 : S1 17 = p + 1 := by rw [eS, up_eq]
      exact ⟨S1, 0, X10_figureOf_C (by omega) (by omega), Or.inr (Or.inr ⟨f1, eS⟩)⟩
  obtain ⟨S2, a2, w2, c2⟩ := second
  have b12 : S2 11 = S 11 := by rcases c2 with ⟨-, -, -, -, e⟩ | ⟨-, -, e⟩ | ⟨-, e⟩ <;> rw [e] <;> rfl
  have l1 : (up V 103 (si (V 103) (4 * S1 11) a1) 103).length = 24 := by rw [up_eq, si_len]; exact l103
  have s2 := fun E K => X10_readPart_q2 (E := E) (K := K) (a := a1) (j := 4 * S1 11 + 1) w2 (by omega) (by omega) l1
  obtain ⟨V2, hV2⟩ : ∃ V2, V2 = up (up V 103 (si (V 103) (4 * S1 11) a1)) 103 (si (up V 103 (si (V 103) (4 * S1 11) a1) 103) (4 * S1 11 + 1) a2) := ⟨_, rfl⟩
  rw [← hV2] at s2
  have hV2' : V2 = up V 103 (si (si (V 103) (4 * S 11) a1) (4 * S 11 + 1) a2) := by rw [hV2, up_up, up_eq, b11]
  have x2 : V2 106 = X := by rw [hV2']; exact hX
  have l2 : (V2 103).length = 24 := by rw [hV2', up_eq, si_len, si_len]; exact l103
  have third : ∃ S3 a3, (∀ E K, Wp E 116 0 [some (am_r (some 96)), some (am_i 1023), none] [] (mk C S2 V2) K = K (some (am_i a3)) (mk C S3 V2)) ∧ ((pl_ff X n (p + 1) 0 5 = -9 ∧ pl_ff X n (p + 2) (pl_fa X n (p + 1)) 5 = -9 ∧ pl_ff X n (p + 3) 0 9 = -9 ∧ a1 = pl_fa X n (p + 1) ∧ a2 = pl_fa X n (p + 2) ∧ a3 = pl_fa X n (p + 3) ∧ S3 = up S 16 (p + 4)) ∨ (∃ x y, S3 = up (up S 16 x) 17 y ∧ 0 ≤ y ∧ y ≤ 100 ∧ ((pl_ff X n (p + 1) 0 5 = -9 ∧ pl_ff X n (p + 2) (pl_fa X n (p + 1)) 5 = -9 ∧ pl_ff X n (p + 3) 0 9 = y) ∨ (pl_ff X n (p + 1) 0 5 = -9 ∧ pl_ff X n (p + 2) (pl_fa X n (p + 1)) 5 = y) ∨ pl_ff X n (p + 1) 0 5 = y))) := by
    rcases c2 with ⟨f1, f2, e1, e2, eS⟩ | ⟨f1, f2, eS⟩ | ⟨f1, eS⟩
    · obtain ⟨hpn, -⟩ := pl_ff_ok f2 (by omega)
      obtain ⟨S3, a3, w3, c3⟩ := X10_figureOf_x (C := C) (S := S2) (V := V2) (X := X) (n := n) (al := 1023) (q := p + 3) (lo := 0) (hi := 9) x2 (by rw [eS]; exact h15) (by rw [eS, up_eq]) lX hn vX (by omega) (by omega) (by rw [eS]; exact h17) (by omega) (by omega) (fun v hv => by rw [m_b1023 v hv]; symm; apply decide_eq_true; omega)
      refine ⟨S3, a3, w3, ?_⟩
      rcases c3 with ⟨f3, e3, -, -, eS3⟩ | ⟨f3, e3, eS3⟩
      · exact Or.inl ⟨f1, f2, f3, e1, e2, e3, by rw [eS3, eS, up_up]; congr 1; omega⟩
      · exact Or.inr ⟨p + 3, p + 3, by rw [eS3, eS], by omega, by omega, Or.inl ⟨f1, f2, f3⟩⟩
    · have e17 : S2 17 = p + 2 := by rw [eS, up_eq]
      exact ⟨S2, 0, X10_figureOf_C (by omega) (by omega), Or.inr ⟨_, _, eS, by omega, by omega, Or.inr (Or.inl ⟨f1, f2⟩)⟩⟩
    · have e17 : S2 17 = p + 1 := by rw [eS, up_eq]
      exact ⟨S2, 0, X10_figureOf_C (by omega) (by omega), Or.inr ⟨_, _, eS, by omega, by omega, Or.inr (Or.inr f1)⟩⟩
  obtain ⟨S3, a3, w3, c3⟩ := third
  have b13 : S3 11 = S 11 := by rcases c3 with ⟨-, -, -, -, -, -, e⟩ | ⟨x, y, e, -⟩ <;> rw [e] <;> rfl
  have s3 := fun E K => X10_readPart_q3 (E := E) (K := K) (a := a1) (j := 4 * S2 11 + 2) w3 (by omega) (by omega) l2
  obtain ⟨V3, hV3⟩ : ∃ V3, V3 = up V2 103 (si (V2 103) (4 * S2 11 + 2) a3) := ⟨_, rfl⟩
  rw [← hV3] at s3
  have hV3' : V3 = up V 103 (si (si (si (V 103) (4 * S 11) a1) (4 * S 11 + 1) a2) (4 * S 11 + 2) a3) := by rw [hV3, hV2', up_up, up_eq, b12]
  have x3 : V3 106 = X := by rw [hV3']; exact hX
  have l3 : (V3 103).length = 24 := by rw [hV3', up_eq, si_len, si_len, si_len]; exact l103
  have fourth : ∃ S4 a4, (∀ E K, Wp E 116 0 [some (am_r (some 96)), some (am_i 15), none] [] (mk C S3 V3) K = K (some (am_i a4)) (mk C S4 V3)) ∧ ((pl_bf X n p = -9 ∧ a1 = pl_fa X n (p + 1) ∧ a2 = pl_fa X n (p + 2) ∧ a3 = pl_fa X n (p + 3) ∧ a4 = pl_fa X n (p + 4) ∧ S4 = up S 16 (p + 5)) ∨ (∃ x y, S4 = up (up S 16 x) 17 y ∧ y ≠ -9 ∧ pl_bf X n p = y)) := by
    unfold pl_bf
    rcases c3 with ⟨f1, f2, f3, e1, e2, e3, eS⟩ | ⟨x, y, eS, y0, y1, ff⟩
    · obtain ⟨hpn, -⟩ := pl_ff_ok f3 (by omega)
      rw [if_neg (fun z => z f1), if_neg (fun z => z f2), if_neg (fun z => z f3)]
      obtain ⟨S4, a4, w4, c4⟩ := X10_figureOf_x (C := C) (S := S3) (V := V3) (X := X) (n := n) (al := 15) (q := p + 4) (lo := 0) (hi := 3) x3 (by rw [eS]; exact h15) (by rw [eS, up_eq]) lX hn vX (by omega) (by omega) (by rw [eS]; exact h17) (by omega) (by omega) (fun v hv => by rw [m_b15 v hv]; apply decide_eq_decide.mpr; omega)
      refine ⟨S4, a4, w4, ?_⟩
      rcases c4 with ⟨f4, e4, -, -, eS4⟩ | ⟨f4, e4, eS4⟩
      · exact Or.inl ⟨f4, e1, e2, e3, e4, by rw [eS4, eS, up_up]; congr 1; omega⟩
      · exact Or.inr ⟨p + 4, p + 4, by rw [eS4, eS], by omega, f4⟩
    · have e17 : S3 17 = y := by rw [eS, up_eq]
      refine ⟨S3, 0, X10_figureOf_C (by omega) (by omega), Or.inr ⟨x, y, eS, by omega, ?_⟩⟩
      rcases ff with ⟨f1, f2, f3⟩ | ⟨f1, f2⟩ | f1
      · rw [if_neg (fun z => z f1), if_neg (fun z => z f2), if_pos (by rw [f3]; omega), f3]
      · rw [if_neg (fun z => z f1), if_pos (by rw [f2]; omega), f2]
      · rw [if_pos (by rw [f1]; omega), f1]
  obtain ⟨S4, a4, w4, c4⟩ := fourth
  have b14 : S4 11 = S 11 := by rcases c4 with ⟨-, -, -, -, -, e⟩ | ⟨x, y, e, -⟩ <;> rw [e] <;> rfl
  have s4 := fun E K => X10_readPart_q4 (E := E) (K := K) (a := a1) (j := 4 * S3 11 + 3) w4 (by omega) l3
  refine ⟨up S4 11 (S4 11 + 1), up V3 103 (si (V3 103) (4 * S3 11 + 3) a4), fun E K => ?_, ⟨fun i hi => ?_, fun i hi => ?_⟩, by rw [up_eq, si_len]; exact l3, ?_, fun hbf => ?_⟩
  · rw [st, s1, s2, s3, s4]
  · rw [up_nm hi (by decide)]
    rcases c4 with ⟨-, -, -, -, -, e⟩ | ⟨x, y, e, -⟩
    · rw [e, up_nm hi (by decide)]
    · rw [e, up_nm hi (by decide), up_nm hi (by decide)]
  · rw [up_nm hi (by decide), hV3', up_nm hi (by decide)]
  · rw [up_ne (by decide)]
    rcases c4 with ⟨f, -, -, -, -, e⟩ | ⟨x, y, e, -, f⟩
    · rw [e, up_ne (by decide), f, h17]
    · rw [e, up_eq, f]
  · rcases c4 with ⟨-, e1, e2, e3, e4, e⟩ | ⟨x, y, e, hy, f⟩
    · refine ⟨by rw [up_ne (by decide), e, up_eq], by rw [up_eq, b14], ?_⟩
      rw [up_eq, hV3', up_eq, b13, e1, e2, e3, e4]
      rfl
    · exact absurd (f.symm.trans hbf) hy
end MPA
