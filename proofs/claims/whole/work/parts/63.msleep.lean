/-! the model: a sleeper of the text; the whole text -/
section MSL
variable {C : Nat → am_C} {S : Nat → Int} {V : Nat → List Int} {X : List Int} {n : Nat}
theorem X10_readPart_s0 {E : List (List Int)} {K : Option am_V → am_H → Prop} {p : Int} {m : Nat} (h16 : S 16 = p) (h12 : 0 ≤ S 12 ∧ S 12 < 3) (h13 : S 13 = (m : Int)) (hm : m < 63) : Wp E 119 0 [some (am_r (some 96)), some (am_i 83), none, none] [] (mk C S V) K = Wp E 119 162 [some (am_r (some 96)), some (am_i 83), none, none] [am_i (am_and 63 (am_xor (m : Int) (-1))), am_r (some 96)] (mk C (up S 16 (p + 1)) V) K := by
  simp (disch := first | omega | (simp (disch := omega) only [up_eq, up_ne, si_len, List.length_set]; omega)) only [↓e119_0, ↓e119_1, ↓e119_3, ↓e119_6, ↓e119_7, ↓e119_10, ↓e119_12, ↓e119_15, ↓e119_16, ↓e119_17, ↓e119_20, ↓e119_21, ↓e119_22, ↓e119_25, ↓e119_26, ↓e119_28, ↓e119_31, ↓e119_32, ↓e119_33, ↓e119_36, ↓e119_37, ↓e119_38, ↓e119_41, ↓e119_42, ↓e119_43, ↓e119_44, ↓e119_45, ↓e119_48, ↓e119_49, ↓e119_50, ↓e119_53, ↓e119_54, ↓e119_55, ↓e119_56, ↓e119_57, ↓e119_59, ↓e119_60, ↓e119_61, ↓e119_62, ↓e119_63, ↓e119_66, ↓e119_67, ↓e119_68, ↓e119_71, ↓e119_72, ↓e119_73, ↓e119_76, ↓e119_77, ↓e119_78, ↓e119_79, ↓e119_80, ↓e119_83, ↓e119_86, ↓e119_87, ↓e119_88, ↓e119_91, ↓e119_92, ↓e119_93, ↓e119_96, ↓e119_97, ↓e119_98, ↓e119_99, ↓e119_100, ↓e119_102, ↓e119_105, ↓e119_106, ↓e119_107, ↓e119_108, ↓e119_111, ↓e119_112, ↓e119_113, ↓e119_116, ↓e119_119, ↓e119_120, ↓e119_122, ↓e119_125, ↓e119_126, ↓e119_129, ↓e119_130, ↓e119_133, ↓e119_134, ↓e119_137, ↓e119_139, ↓e119_142, ↓e119_143, ↓e119_144, ↓e119_147, ↓e119_148, ↓e119_149, ↓e119_152, ↓e119_153, ↓e119_155, ↓e119_156, ↓e119_159, ↓e119_160, ↓e119_161, ↓am_ilp, ↓am_iln, ↓am_iep, ↓am_ien, ↓am_zlp, ↓am_zln, ↓am_zep, ↓am_zen, ↓am_zgp, ↓am_zgn, ↓am_zhp, ↓am_zhn, ↓am_b01, true_or, true_and, and_true, or_true, if_true, if_false, ↓am_bdl_z, ↓am_bdl_s, ↓am_bsl_z, ↓am_bsl_s, ↓am_k1_i, ↓am_k1_r, ↓am_k1_e, ↓am_k1_n, ↓am_bd_s, am_k1_t, eq_self, am_nl_i, am_nl_r, am_nl_e, am_nl_n, Option.toList_some, Option.toList_none, Option.map_some, Option.map_none, List.cons_append, List.nil_append, List.length_cons, List.length_nil, List.set_cons_zero, List.set_cons_succ, List.getElem?_cons_zero, List.getElem?_cons_succ, am_bd_s, ↓am_tls, ↓am_tln, ↓mk_oc, ↓ma_r, ↓ma_w, ↓mz_r, ↓mz_w, ↓mr0, ↓mr1, ↓mr2, ↓mr3, ↓mr4, ↓mr5, ↓mr6, ↓mr7, ↓mr8, ↓mr9, ↓mr10, ↓mr11, ↓mr12, ↓mr13, ↓mr14, ↓mr15, ↓mr16, ↓mr17, ↓mr18, ↓mr19, ↓mr20, ↓mr21, ↓mr22, ↓mr23, ↓mr24, ↓mr25, ↓mr26, ↓mr27, ↓mw0, ↓mw1, ↓mw11, ↓mw12, ↓mw13, ↓mw15, ↓mw16, ↓mw17, ↓mw19, ↓mw20, ↓mw22, ↓mw25, up_eq, up_ne, up_up, si_len, h16, h13]
theorem X10_readPart_s1 {E : List (List Int)} {K : Option am_V → am_H → Prop} {a al wd : Int} {S' : Nat → Int} (w : ∀ E K, Wp E 116 0 [some (am_r (some 96)), some (am_i al), none] [] (mk C S V) K = K (some (am_i a)) (mk C S' V)) (w2 : ∀ E K, Wp E 117 0 [some (am_r (some 96)), some (am_i a), none, none, none] [] (mk C S' V) K = K (some (am_i wd)) (mk C S' V)) : Wp E 119 162 [some (am_r (some 96)), some (am_i 83), none, none] [am_i al, am_r (some 96)] (mk C S V) K = Wp E 119 172 [some (am_r (some 96)), some (am_i 83), some (am_i a), none] [am_i wd, am_r (some 96)] (mk C S' V) K := by
  simp (disch := first | omega | (simp (disch := omega) only [up_eq, up_ne, si_len, List.length_set]; omega)) only [↓e119_162, ↓e119_165, ↓e119_166, ↓e119_167, ↓e119_168, ↓e119_169, ↓am_ilp, ↓am_iln, ↓am_iep, ↓am_ien, ↓am_zlp, ↓am_zln, ↓am_zep, ↓am_zen, ↓am_zgp, ↓am_zgn, ↓am_zhp, ↓am_zhn, ↓am_b01, true_or, true_and, and_true, or_true, if_true, if_false, ↓am_bdl_z, ↓am_bdl_s, ↓am_bsl_z, ↓am_bsl_s, ↓am_k1_i, ↓am_k1_r, ↓am_k1_e, ↓am_k1_n, ↓am_bd_s, am_k1_t, eq_self, am_nl_i, am_nl_r, am_nl_e, am_nl_n, Option.toList_some, Option.toList_none, Option.map_some, Option.map_none, List.cons_append, List.nil_append, List.length_cons, List.length_nil, List.set_cons_zero, List.set_cons_succ, List.getElem?_cons_zero, List.getElem?_cons_succ, am_bd_s, ↓am_tls, ↓am_tln, ↓mk_oc, ↓ma_r, ↓ma_w, ↓mz_r, ↓mz_w, ↓mr0, ↓mr1, ↓mr2, ↓mr3, ↓mr4, ↓mr5, ↓mr6, ↓mr7, ↓mr8, ↓mr9, ↓mr10, ↓mr11, ↓mr12, ↓mr13, ↓mr14, ↓mr15, ↓mr16, ↓mr17, ↓mr18, ↓mr19, ↓mr20, ↓mr21, ↓mr22, ↓mr23, ↓mr24, ↓mr25, ↓mr26, ↓mr27, ↓mw0, ↓mw1, ↓mw11, ↓mw12, ↓mw13, ↓mw15, ↓mw16, ↓mw17, ↓mw19, ↓mw20, ↓mw22, ↓mw25, up_eq, up_ne, up_up, si_len, ↓w, ↓w2]
theorem X10_readPart_s2 {E : List (List Int)} {K : Option am_V → am_H → Prop} {a b wd : Int} {S' : Nat → Int} (w : ∀ E K, Wp E 116 0 [some (am_r (some 96)), some (am_i wd), none] [] (mk C S V) K = K (some (am_i b)) (mk C S' V)) (h12 : 0 ≤ S' 12 ∧ S' 12 < 3) (h17 : -100 ≤ S' 17 ∧ S' 17 ≤ 1000) (l104 : (V 104).length = 3) (l105 : (V 105).length = 3) : Wp E 119 172 [some (am_r (some 96)), some (am_i 83), some (am_i a), none] [am_i wd, am_r (some 96)] (mk C S V) K = K none (mk C (up (up S' 12 (S' 12 + 1)) 13 (am_or (S' 13) (if S' 17 = -9 then am_shl (am_shl 1 b - 1) a else 0))) (up (up V 104 (si (V 104) (S' 12) a)) 105 (si (V 105) (S' 12) b))) := by
  by_cases q : S' 17 = -9
  · rw [if_pos q]
    simp (disch := first | omega | (simp (disch := omega) only [up_eq, up_ne, si_len, List.length_set]; omega)) only [↓e119_172, ↓e119_175, ↓e119_176, ↓e119_177, ↓e119_180, ↓e119_181, ↓e119_184, ↓e119_185, ↓e119_186, ↓e119_187, ↓e119_190, ↓e119_191, ↓e119_194, ↓e119_195, ↓e119_196, ↓e119_197, ↓e119_198, ↓e119_201, ↓e119_202, ↓e119_203, ↓e119_206, ↓e119_207, ↓e119_208, ↓e119_211, ↓e119_212, ↓e119_215, ↓e119_217, ↓e119_220, ↓e119_221, ↓e119_222, ↓e119_223, ↓e119_224, ↓e119_225, ↓e119_226, ↓e119_227, ↓e119_230, ↓e119_231, ↓e119_232, ↓e119_235, ↓e119_246, ↓am_ilp, ↓am_iln, ↓am_iep, ↓am_ien, ↓am_zlp, ↓am_zln, ↓am_zep, ↓am_zen, ↓am_zgp, ↓am_zgn, ↓am_zhp, ↓am_zhn, ↓am_b01, true_or, true_and, and_true, or_true, if_true, if_false, ↓am_bdl_z, ↓am_bdl_s, ↓am_bsl_z, ↓am_bsl_s, ↓am_k1_i, ↓am_k1_r, ↓am_k1_e, ↓am_k1_n, ↓am_bd_s, am_k1_t, eq_self, am_nl_i, am_nl_r, am_nl_e, am_nl_n, Option.toList_some, Option.toList_none, Option.map_some, Option.map_none, List.cons_append, List.nil_append, List.length_cons, List.length_nil, List.set_cons_zero, List.set_cons_succ, List.getElem?_cons_zero, List.getElem?_cons_succ, am_bd_s, ↓am_tls, ↓am_tln, ↓mk_oc, ↓ma_r, ↓ma_w, ↓mz_r, ↓mz_w, ↓mr0, ↓mr1, ↓mr2, ↓mr3, ↓mr4, ↓mr5, ↓mr6, ↓mr7, ↓mr8, ↓mr9, ↓mr10, ↓mr11, ↓mr12, ↓mr13, ↓mr14, ↓mr15, ↓mr16, ↓mr17, ↓mr18, ↓mr19, ↓mr20, ↓mr21, ↓mr22, ↓mr23, ↓mr24, ↓mr25, ↓mr26, ↓mr27, ↓mw0, ↓mw1, ↓mw11, ↓mw12, ↓mw13, ↓mw15, ↓mw16, ↓mw17, ↓mw19, ↓mw20, ↓mw22, ↓mw25, up_eq, up_ne, up_up, si_len, ↓w]
  · rw [if_neg q]
    simp (disch := first | omega | (simp (disch := omega) only [up_eq, up_ne, si_len, List.length_set]; omega)) only [↓e119_172, ↓e119_175, ↓e119_176, ↓e119_177, ↓e119_180, ↓e119_181, ↓e119_184, ↓e119_185, ↓e119_186, ↓e119_187, ↓e119_190, ↓e119_191, ↓e119_194, ↓e119_195, ↓e119_196, ↓e119_197, ↓e119_198, ↓e119_201, ↓e119_202, ↓e119_203, ↓e119_206, ↓e119_207, ↓e119_208, ↓e119_211, ↓e119_212, ↓e119_215, ↓e119_217, ↓e119_220, ↓e119_221, ↓e119_222, ↓e119_223, ↓e119_224, ↓e119_225, ↓e119_226, ↓e119_227, ↓e119_230, ↓e119_231, ↓e119_232, ↓e119_235, ↓e119_246, ↓am_ilp, ↓am_iln, ↓am_iep, ↓am_ien, ↓am_zlp, ↓am_zln, ↓am_zep, ↓am_zen, ↓am_zgp, ↓am_zgn, ↓am_zhp, ↓am_zhn, ↓am_b01, true_or, true_and, and_true, or_true, if_true, if_false, ↓am_bdl_z, ↓am_bdl_s, ↓am_bsl_z, ↓am_bsl_s, ↓am_k1_i, ↓am_k1_r, ↓am_k1_e, ↓am_k1_n, ↓am_bd_s, am_k1_t, eq_self, am_nl_i, am_nl_r, am_nl_e, am_nl_n, Option.toList_some, Option.toList_none, Option.map_some, Option.map_none, List.cons_append, List.nil_append, List.length_cons, List.length_nil, List.set_cons_zero, List.set_cons_succ, List.getElem?_cons_zero, List.getElem?_cons_succ, am_bd_s, ↓am_tls, ↓am_tln, ↓mk_oc, ↓ma_r, ↓ma_w, ↓mz_r, ↓mz_w, ↓mr0, ↓mr1, ↓mr2, ↓mr3, ↓mr4, ↓mr5, ↓mr6, ↓mr7, ↓mr8, ↓mr9, ↓mr10, ↓mr11, ↓mr12, ↓mr13, ↓mr14, ↓mr15, ↓mr16, ↓mr17, ↓mr18, ↓mr19, ↓mr20, ↓mr21, ↓mr22, ↓mr23, ↓mr24, ↓mr25, ↓mr26, ↓mr27, ↓mw0, ↓mw1, ↓mw11, ↓mw12, ↓mw13, ↓mw15, ↓mw16, ↓mw17, ↓mw19, ↓mw20, ↓mw22, ↓mw25, up_eq, up_ne, up_up, si_len, ↓w]
theorem X10_readPart_s {p : Int} {m : Nat} (hX : V 106 = X) (h15 : S 15 = (n : Int)) (h16 : S 16 = p) (h17 : S 17 = -9) (lX : X.length = 44) (hn : n ≤ 44) (vX : ∀ i < 44, 0 ≤ X.getD i 0 ∧ X.getD i 0 ≤ 255) (hp : 0 ≤ p ∧ p < n) (h12 : 0 ≤ S 12 ∧ S 12 < 3) (h13 : S 13 = (m : Int)) (hm : m < 63) (l104 : (V 104).length = 3) (l105 : (V 105).length = 3) : ∃ S' V', (∀ E K, Wp E 119 0 [some (am_r (some 96)), some (am_i 83), none, none] [] (mk C S V) K = K none (mk C S' V')) ∧ Kp [12, 13, 16, 17] [104, 105] S S' V V' ∧ (V' 104).length = 3 ∧ (V' 105).length = 3 ∧ S' 17 = pl_sf X n p m ∧ (pl_sf X n p m = -9 → S' 16 = p + 3 ∧ S' 12 = S 12 + 1 ∧ S' 13 = ((m ||| pl_cb (pl_fa X n (p + 1)).toNat (pl_fa X n (p + 2)).toNat : Nat) : Int) ∧ V' 104 = si (V 104) (S 12) (pl_fa X n (p + 1)) ∧ V' 105 = si (V 105) (S 12) (pl_fa X n (p + 2))) := by
  obtain ⟨t1, t2, t3⟩ := m_tk_ok m (by omega)
  have st := fun E K => X10_readPart_s0 (E := E) (K := K) (C := C) (V := V) h16 h12 h13 hm
  rw [t1] at st
  have first : ∃ S1 a, (∀ E K, Wp E 116 0 [some (am_r (some 96)), some (am_i ((pl_wo 63 m : Nat) : Int)), none] [] (mk C (up S 16 (p + 1)) V) K = K (some (am_i a)) (mk C S1 V)) ∧ ((pl_ff X n (p + 1) 0 5 = -9 ∧ m &&& pl_cb (pl_fa X n (p + 1)).toNat 1 = 0 ∧ a = pl_fa X n (p + 1) ∧ S1 = up S 16 (p + 2)) ∨ (pl_sf X n p m = p + 1 ∧ a = 0 ∧ S1 = up (up S 16 (p + 1)) 17 (p + 1))) := by
    by_cases ok : m_fok X n (p + 1) (pl_wo 63 m)
    · have w := X10_figureOf_A (C := C) (S := up S 16 (p + 1)) (V := V) (X := X) (n := n) (al := pl_wo 63 m) (q := p + 1) hX h15 (by rw [up_eq]) h17 lX hn vX (by omega) (by omega) ok
      obtain ⟨o1, o2, o3, o4⟩ := ok
      have h1 := t3 (pl_fa X n (p + 1)).toNat (by omega)
      rw [h1] at o4
      have h2 := of_decide_eq_true o4
      refine ⟨_, _, w, Or.inl ⟨?_, h2.2, rfl, by rw [up_up]; congr 1; omega⟩⟩
      unfold pl_ff
      rw [if_neg (by omega), if_neg (by omega)]
    · have w := X10_figureOf_B (C := C) (S := up S 16 (p + 1)) (V := V) (X := X) (n := n) (al := pl_wo 63 m) (q := p + 1) hX h15 (by rw [up_eq]) h17 lX hn vX (by omega) (by omega) ok
      refine ⟨_, _, w, Or.inr ⟨?_, rfl, rfl⟩⟩
      unfold pl_sf
      by_cases f1 : pl_ff X n (p + 1) 0 5 = -9
      · obtain ⟨g1, g2, g3⟩ := pl_ff_ok f1 (by omega)
        rw [if_neg (fun z => z f1), if_pos]
        intro z
        apply ok
        refine ⟨g1, by omega, by omega, ?_⟩
        rw [t3 (pl_fa X n (p + 1)).toNat (by omega)]
        exact decide_eq_true ⟨by omega, z⟩
      · rw [if_pos f1]
        unfold pl_ff at f1 ⊢
        by_cases q1 : (n : Int) ≤ p + 1
        · rw [if_pos q1]; omega
        · rw [if_neg q1] at f1 ⊢
          by_cases q2 : pl_fa X n (p + 1) < 0 ∨ 5 < pl_fa X n (p + 1)
          · rw [if_pos q2]
          · rw [if_neg q2] at f1
            exact absurd rfl f1
  obtain ⟨S1, a, w1, c1⟩ := first
  have b12 : S1 12 = S 12 := by rcases c1 with ⟨-, -, -, e⟩ | ⟨-, -, e⟩ <;> rw [e] <;> rfl
  have b13 : S1 13 = (m : Int) := by rw [← h13]; rcases c1 with ⟨-, -, -, e⟩ | ⟨-, -, e⟩ <;> rw [e] <;> rfl
  have a5 : 0 ≤ a ∧ a < 6 := by
    rcases c1 with ⟨f, -, e, -⟩ | ⟨-, e, -⟩
    · have := pl_ff_ok f (by omega)
      omega
    · omega
  have ww := X10_widths_w (C := C) (S := S1) (V := V) (p := a) b13 (by omega) a5
  obtain ⟨-, d1, d2⟩ := m_wd_ok m (by omega) a.toNat (by omega)
  have s1 := fun E K => X10_readPart_s1 (E := E) (K := K) w1 ww
  have second : ∃ S2 b, (∀ E K, Wp E 116 0 [some (am_r (some 96)), some (am_i ((m_wd m a.toNat : Nat) : Int)), none] [] (mk C S1 V) K = K (some (am_i b)) (mk C S2 V)) ∧ ((pl_sf X n p m = -9 ∧ a = pl_fa X n (p + 1) ∧ b = pl_fa X n (p + 2) ∧ S2 = up S 16 (p + 3)) ∨ (∃ x y, pl_sf X n p m = y ∧ 0 ≤ y ∧ y ≤ 100 ∧ S2 = up (up S 16 x) 17 y)) := by
    rcases c1 with ⟨f1, f2, e1, eS⟩ | ⟨f1, e1, eS⟩
    · obtain ⟨hpn, g2, g3⟩ := pl_ff_ok f1 (by omega)
      have hsf : pl_sf X n p m = if pl_ff X n (p + 2) 1 (min 3 (6 - pl_fa X n (p + 1))) ≠ -9 then pl_ff X n (p + 2) 1 (min 3 (6 - pl_fa X n (p + 1))) else if m &&& pl_cb (pl_fa X n (p + 1)).toNat (pl_fa X n (p + 2)).toNat ≠ 0 then p + 2 else -9 := by
        unfold pl_sf
        rw [if_neg (fun z => z f1), if_neg (fun z => z f2)]
      by_cases ok : m_fok X n (p + 2) (m_wd m a.toNat)
      · have w := X10_figureOf_A (C := C) (S := S1) (V := V) (X := X) (n := n) (al := m_wd m a.toNat) (q := p + 2) hX (by rw [eS]; exact h15) (by rw [eS, up_eq]) (by rw [eS]; exact h17) lX hn vX (by omega) (by omega) ok
        obtain ⟨o1, o2, o3, o4⟩ := ok
        rw [d2 (pl_fa X n (p + 2)).toNat (by omega), e1] at o4
        have h2 := of_decide_eq_true o4
        have f3 : pl_ff X n (p + 2) 1 (min 3 (6 - pl_fa X n (p + 1))) = -9 := by
          unfold pl_ff
          rw [if_neg (by omega), if_neg (by omega)]
        refine ⟨_, _, w, Or.inl ⟨?_, e1, rfl, by rw [eS, up_up]; congr 1; omega⟩⟩
        rw [hsf, if_neg (fun z => z f3), if_neg (fun z => z h2.2.2.2)]
      · have w := X10_figureOf_B (C := C) (S := S1) (V := V) (X := X) (n := n) (al := m_wd m a.toNat) (q := p + 2) hX (by rw [eS]; exact h15) (by rw [eS, up_eq]) (by rw [eS]; exact h17) lX hn vX (by omega) (by omega) ok
        refine ⟨_, _, w, Or.inr ⟨p + 2, p + 2, ?_, by omega, by omega, by rw [eS]⟩⟩
        rw [hsf]
        by_cases f3 : pl_ff X n (p + 2) 1 (min 3 (6 - pl_fa X n (p + 1))) = -9
        · obtain ⟨k1, k2, k3⟩ := pl_ff_ok f3 (by omega)
          rw [if_neg (fun z => z f3), if_pos]
          intro z
          apply ok
          refine ⟨k1, by omega, by omega, ?_⟩
          rw [d2 (pl_fa X n (p + 2)).toNat (by omega), e1]
          exact decide_eq_true ⟨by omega, by omega, by omega, z⟩
        · rw [if_pos f3]
          unfold pl_ff at f3 ⊢
          by_cases q1 : (n : Int) ≤ p + 2
          · rw [if_pos q1]; omega
          · rw [if_neg q1] at f3 ⊢
            by_cases q2 : pl_fa X n (p + 2) < 1 ∨ min 3 (6 - pl_fa X n (p + 1)) < pl_fa X n (p + 2)
            · rw [if_pos q2]
            · rw [if_neg q2] at f3
              exact absurd rfl f3
    · have e17 : S1 17 = p + 1 := by rw [eS, up_eq]
      exact ⟨S1, 0, X10_figureOf_C (by omega) (by omega), Or.inr ⟨_, _, f1, by omega, by omega, eS⟩⟩
  obtain ⟨S2, b, w2, c2⟩ := second
  have b22 : S2 12 = S 12 := by rcases c2 with ⟨-, -, -, e⟩ | ⟨x, y, -, -, -, e⟩ <;> rw [e] <;> rfl
  have b23 : S2 13 = (m : Int) := by rw [← h13]; rcases c2 with ⟨-, -, -, e⟩ | ⟨x, y, -, -, -, e⟩ <;> rw [e] <;> rfl
  have b27 : S2 17 = pl_sf X n p m := by
    rcases c2 with ⟨f, -, -, e⟩ | ⟨x, y, f, -, -, e⟩
    · rw [e, f]; exact h17
    · rw [e, up_eq, f]
  have r27 : -100 ≤ S2 17 ∧ S2 17 ≤ 1000 := by
    rcases c2 with ⟨f, -, -, e⟩ | ⟨x, y, f, f2, f3, e⟩
    · rw [b27]; omega
    · rw [b27]; omega
  have s2 := fun E K => X10_readPart_s2 (E := E) (K := K) (a := a) w2 (by omega) r27 l104 l105
  refine ⟨_, _, fun E K => by rw [st, s1, s2], ⟨fun i hi => ?_, fun i hi => ?_⟩, by rw [up_ne (by decide), up_eq, si_len]; exact l104, by rw [up_eq, si_len]; exact l105, by rw [up_ne (by decide), up_ne (by decide)]; exact b27, fun hsf => ?_⟩
  · rw [up_nm hi (by decide), up_nm hi (by decide)]
    rcases c2 with ⟨-, -, -, e⟩ | ⟨x, y, -, -, -, e⟩
    · rw [e, up_nm hi (by decide)]
    · rw [e, up_nm hi (by decide), up_nm hi (by decide)]
  · rw [up_nm hi (by decide), up_nm hi (by decide)]
  · rcases c2 with ⟨f, e1, e2, e⟩ | ⟨x, y, f, f2, f3, e⟩
    · have sk := pl_sf_ok hsf (by omega)
      refine ⟨by rw [up_ne (by decide), up_ne (by decide), e, up_eq], by rw [up_ne (by decide), up_eq, b22], ?_, by rw [up_ne (by decide), up_eq, b22, e1], by rw [up_eq, b22, e2]⟩
      rw [up_eq, if_pos (by rw [b27]; exact hsf), b23, e1, e2]
      have := pl_cb_or m (by omega) (pl_fa X n (p + 1)).toNat (by omega) (pl_fa X n (p + 2)).toNat (by omega)
      rw [show (((pl_fa X n (p + 1)).toNat : Nat) : Int) = pl_fa X n (p + 1) by omega, show (((pl_fa X n (p + 2)).toNat : Nat) : Int) = pl_fa X n (p + 2) by omega] at this
      exact this
    · omega
end MSL
