/-! the model: places at rest -/
theorem pl_ls_rng {Wk : Nat → Int} {t w1 w2 p e : Int} (hW : ∀ p, 0 ≤ Wk p ∧ Wk p ≤ 10) (ht : 0 ≤ t ∧ t ≤ 10) : 0 ≤ pl_ls Wk t w1 w2 p e ∧ pl_ls Wk t w1 w2 p e ≤ 15 := by
  have := hW p.toNat
  unfold pl_ls
  split <;> split <;> omega
section MRT
variable {C : Nat → am_C} {S : Nat → Int} {V : Nat → List Int} {nb ns : Nat} {L : pl_L}
theorem m_wf_rng (pv : PVal nb (V 97) (V 98) (V 99) (V 100)) (hx : ∀ x ∈ L.1, x < nb) (w : Int) (p : Nat) : 0 ≤ m_wf V L.1 w p ∧ m_wf V L.1 w p ≤ 10 := pl_wk_rng pv hx p w.toNat
theorem m_wf_sc {V' : Nat → List Int} (c : Sc V V') (B : List Nat) : m_wf V' B = m_wf V B := by
  funext w p
  unfold m_wf
  rw [c.at (i := 97) (by decide) (by decide), c.at (i := 98) (by decide) (by decide), c.at (i := 99) (by decide) (by decide), c.at (i := 100) (by decide) (by decide)]
theorem X10_isRest_w {one ot t u p e : Int} (mp : MP S V nb ns) (ly : Ly (V 102) 0 L) (wf : WfL nb ns (V 101) L) (h1 : 0 ≤ one ∧ one < ns) (h2 : 0 ≤ ot ∧ ot < ns) (ht : 0 ≤ t ∧ t ≤ 10) (hu : 0 ≤ u ∧ u ≤ 10) (hp : 0 ≤ p ∧ p + gi (V 101) one ≤ 6) (he : 0 ≤ e ∧ e + gi (V 101) ot ≤ 6) : ∃ V', Sc V V' ∧ ∀ E K, Wp E 172 0 [some (am_r (some 96)), some (am_i one), some (am_i ot), some (am_i t), some (am_i u), some (am_i p), some (am_i e), none, none] [] (mk C S V) K = K (some (am_i (pl_b (pl_ir (pl_ls (m_wf V L.1 (gi (V 101) one)) t (gi (V 101) one) (gi (V 101) ot)) (pl_ls (m_wf V L.1 (gi (V 101) ot)) u (gi (V 101) ot) (gi (V 101) one)) (7 - gi (V 101) one).toNat (7 - gi (V 101) ot).toNat p e = true)))) (mk C S V') := by
  obtain ⟨s0, s1, hnb, hns, l97, l98, l99, l100, l101, l102, l107, pv, wv⟩ := id mp
  have z1 := wv one.toNat (by omega)
  have z2 := wv ot.toNat (by omega)
  have g1 : gi (V 101) one = (V 101).getD one.toNat 0 := rfl
  have g2 : gi (V 101) ot = (V 101).getD ot.toNat 0 := rfl
  obtain ⟨w1, hw1⟩ : ∃ w1, w1 = gi (V 101) one := ⟨_, rfl⟩
  obtain ⟨w2, hw2⟩ : ∃ w2, w2 = gi (V 101) ot := ⟨_, rfl⟩
  rw [← hw1, ← hw2]
  rw [← hw1] at g1 hp
  rw [← hw2] at g2 he
  obtain ⟨f1, hf1⟩ : ∃ f1, f1 = pl_ls (m_wf V L.1 w1) t w1 w2 := ⟨_, rfl⟩
  obtain ⟨f2, hf2⟩ : ∃ f2, f2 = pl_ls (m_wf V L.1 w2) u w2 w1 := ⟨_, rfl⟩
  have r1 : ∀ a b, 0 ≤ f1 a b ∧ f1 a b ≤ 15 := fun a b => by rw [hf1]; exact pl_ls_rng (m_wf_rng pv wf.1 w1) ht
  have r2 : ∀ a b, 0 ≤ f2 a b ∧ f2 a b ≤ 15 := fun a b => by rw [hf2]; exact pl_ls_rng (m_wf_rng pv wf.1 w2) hu
  rw [← hf1, ← hf2]
  have lose1 : ∀ (V1 : Nat → List Int), Sc V V1 → ∀ k, 0 ≤ k → k + w1 ≤ 6 → ∃ V2, Sc V V2 ∧ ∀ E K, Wp E 171 0 [some (am_r (some 96)), some (am_i one), some (am_i k), some (am_i t), some (am_i ot), some (am_i e), none] [] (mk C S V1) K = K (some (am_i (f1 k e))) (mk C S V2) := by
    intro V1 c1 k k0 k1
    have k101 : V1 101 = V 101 := c1.at (by decide) (by decide)
    obtain ⟨V2, c2, w⟩ := X10_loses_w (C := C) (s := one) (p := k) (t := t) (o := ot) (e := e) (c1.mp mp) (c1.ly ly) (by rw [k101]; exact wf) h1 h2 (by rw [k101, ← hw1]; omega) (by omega) ht
    rw [k101, ← hw1, ← hw2, m_wf_sc c1, ← hf1] at w
    exact ⟨V2, c1.trans c2, w⟩
  have lose2 : ∀ (V1 : Nat → List Int), Sc V V1 → ∀ k, 0 ≤ k → k + w2 ≤ 6 → ∃ V2, Sc V V2 ∧ ∀ E K, Wp E 171 0 [some (am_r (some 96)), some (am_i ot), some (am_i k), some (am_i u), some (am_i one), some (am_i p), none] [] (mk C S V1) K = K (some (am_i (f2 k p))) (mk C S V2) := by
    intro V1 c1 k k0 k1
    have k101 : V1 101 = V 101 := c1.at (by decide) (by decide)
    obtain ⟨V2, c2, w⟩ := X10_loses_w (C := C) (s := ot) (p := k) (t := u) (o := one) (e := p) (c1.mp mp) (c1.ly ly) (by rw [k101]; exact wf) h2 h1 (by rw [k101, ← hw2]; omega) (by omega) hu
    rw [k101, ← hw2, ← hw1, m_wf_sc c1, ← hf2] at w
    exact ⟨V2, c1.trans c2, w⟩
  obtain ⟨⟨ra, V1⟩, ⟨e1, c1⟩, wa⟩ := am_loopz (X := List (List Int) × (Option am_V → am_H → Prop)) (α := Int × (Nat → List Int)) (W := fun y i a => Wp y.1 172 6 [some (am_r (some 96)), some (am_i one), some (am_i ot), some (am_i t), some (am_i u), some (am_i p), some (am_i e), some (am_i a.1), some (am_i i)] [] (mk C S a.2) y.2) (I := fun i a => a.1 = pl_b ((List.range i.toNat).all (fun k => decide (f1 p e ≤ f1 (k : Int) e)) = true) ∧ Sc V a.2) (lo := 0) (N := 7 - w1) (by
    rintro i ⟨ra, V1⟩ i0 i1 ⟨e1, c1⟩
    dsimp only at e1 c1
    obtain ⟨n, rfl⟩ : ∃ n : Nat, i = (n : Int) := ⟨i.toNat, by omega⟩
    rw [Int.toNat_natCast] at e1
    have k101 : V1 101 = V 101 := c1.at (by decide) (by decide)
    have hl : (V1 101).length = 3 := by rw [k101]; exact l101
    have hg : gi (V1 101) one = w1 := by rw [k101, hw1]
    obtain ⟨V2, c2, wb⟩ := lose1 V1 c1 (n : Int) (by omega) (by omega)
    obtain ⟨V3, c3, wc⟩ := lose1 V2 c2 p (by omega) (by omega)
    have b1 := r1 (n : Int) e
    have b2 := r1 p e
    have es : ((n : Int) + 1).toNat = n + 1 := by omega
    by_cases q : (List.range n).all (fun k => decide (f1 p e ≤ f1 (k : Int) e)) = true
    · rw [pl_b, if_pos q] at e1
      by_cases q2 : f1 (n : Int) e < f1 p e
      · refine ⟨(0, V3), ⟨?_, c3⟩, fun y => ?_⟩
        · dsimp only
          rw [es, pl_all_snoc, q, Bool.true_and, pl_b, if_neg (by simpa using q2)]
        · dsimp only
          rw [e172_6]
          simp (disch := first | omega | (simp (disch := omega) only [up_eq, up_ne, si_len, List.length_set]; omega)) only [↓e172_8, ↓e172_10, ↓e172_11, ↓e172_14, ↓e172_15, ↓e172_16, ↓e172_17, ↓e172_20, ↓e172_22, ↓e172_25, ↓e172_26, ↓e172_27, ↓e172_29, ↓e172_30, ↓e172_31, ↓e172_33, ↓e172_36, ↓e172_37, ↓e172_38, ↓e172_40, ↓e172_41, ↓e172_42, ↓e172_44, ↓e172_47, ↓e172_50, ↓e172_51, ↓e172_54, ↓e172_55, ↓e172_57, ↓e172_60, ↓am_ilp, ↓am_iln, ↓am_iep, ↓am_ien, ↓am_zlp, ↓am_zln, ↓am_zep, ↓am_zen, ↓am_zgp, ↓am_zgn, ↓am_zhp, ↓am_zhn, ↓am_b01, true_or, true_and, and_true, or_true, if_true, if_false, ↓am_bdl_z, ↓am_bdl_s, ↓am_bsl_z, ↓am_bsl_s, ↓am_k1_i, ↓am_k1_r, ↓am_k1_e, ↓am_k1_n, ↓am_bd_s, am_k1_t, eq_self, am_nl_i, am_nl_r, am_nl_e, am_nl_n, Option.toList_some, Option.toList_none, Option.map_some, Option.map_none, List.cons_append, List.nil_append, List.length_cons, List.length_nil, List.set_cons_zero, List.set_cons_succ, List.getElem?_cons_zero, List.getElem?_cons_succ, am_bd_s, ↓am_tls, ↓am_tln, ↓mk_oc, ↓ma_r, ↓ma_w, ↓mz_r, ↓mz_w, ↓mr0, ↓mr1, ↓mr2, ↓mr3, ↓mr4, ↓mr5, ↓mr6, ↓mr7, ↓mr8, ↓mr9, ↓mr10, ↓mr11, ↓mr12, ↓mr13, ↓mr14, ↓mr15, ↓mr16, ↓mr17, ↓mr18, ↓mr19, ↓mr20, ↓mr21, ↓mr22, ↓mr23, ↓mr24, ↓mr25, ↓mr26, ↓mr27, ↓mw0, ↓mw1, ↓mw11, ↓mw12, ↓mw13, ↓mw15, ↓mw16, ↓mw17, ↓mw19, ↓mw20, ↓mw22, ↓mw25, up_eq, up_ne, up_up, si_len, ↓wb, ↓wc]
      · refine ⟨(1, V3), ⟨?_, c3⟩, fun y => ?_⟩
        · dsimp only
          rw [es, pl_all_snoc, q, Bool.true_and, pl_b, if_pos (by simpa using q2)]
        · dsimp only
          rw [e172_6]
          simp (disch := first | omega | (simp (disch := omega) only [up_eq, up_ne, si_len, List.length_set]; omega)) only [↓e172_8, ↓e172_10, ↓e172_11, ↓e172_14, ↓e172_15, ↓e172_16, ↓e172_17, ↓e172_20, ↓e172_22, ↓e172_25, ↓e172_26, ↓e172_27, ↓e172_29, ↓e172_30, ↓e172_31, ↓e172_33, ↓e172_36, ↓e172_37, ↓e172_38, ↓e172_40, ↓e172_41, ↓e172_42, ↓e172_44, ↓e172_47, ↓e172_50, ↓e172_51, ↓e172_54, ↓e172_55, ↓e172_57, ↓e172_60, ↓am_ilp, ↓am_iln, ↓am_iep, ↓am_ien, ↓am_zlp, ↓am_zln, ↓am_zep, ↓am_zen, ↓am_zgp, ↓am_zgn, ↓am_zhp, ↓am_zhn, ↓am_b01, true_or, true_and, and_true, or_true, if_true, if_false, ↓am_bdl_z, ↓am_bdl_s, ↓am_bsl_z, ↓am_bsl_s, ↓am_k1_i, ↓am_k1_r, ↓am_k1_e, ↓am_k1_n, ↓am_bd_s, am_k1_t, eq_self, am_nl_i, am_nl_r, am_nl_e, am_nl_n, Option.toList_some, Option.toList_none, Option.map_some, Option.map_none, List.cons_append, List.nil_append, List.length_cons, List.length_nil, List.set_cons_zero, List.set_cons_succ, List.getElem?_cons_zero, List.getElem?_cons_succ, am_bd_s, ↓am_tls, ↓am_tln, ↓mk_oc, ↓ma_r, ↓ma_w, ↓mz_r, ↓mz_w, ↓mr0, ↓mr1, ↓mr2, ↓mr3, ↓mr4, ↓mr5, ↓mr6, ↓mr7, ↓mr8, ↓mr9, ↓mr10, ↓mr11, ↓mr12, ↓mr13, ↓mr14, ↓mr15, ↓mr16, ↓mr17, ↓mr18, ↓mr19, ↓mr20, ↓mr21, ↓mr22, ↓mr23, ↓mr24, ↓mr25, ↓mr26, ↓mr27, ↓mw0, ↓mw1, ↓mw11, ↓mw12, ↓mw13, ↓mw15, ↓mw16, ↓mw17, ↓mw19, ↓mw20, ↓mw22, ↓mw25, up_eq, up_ne, up_up, si_len, ↓wb, ↓wc]
    · rw [pl_b, if_neg q] at e1
      refine ⟨(0, V1), ⟨?_, c1⟩, fun y => ?_⟩
      · dsimp only
        rw [es, pl_all_snoc, pl_b, if_neg (by rw [Bool.and_eq_true]; exact fun z => q z.1)]
      · dsimp only
        rw [e172_6]
        simp (disch := first | omega | (simp (disch := omega) only [up_eq, up_ne, si_len, List.length_set]; omega)) only [↓e172_8, ↓e172_10, ↓e172_11, ↓e172_14, ↓e172_15, ↓e172_16, ↓e172_17, ↓e172_20, ↓e172_22, ↓e172_25, ↓e172_26, ↓e172_27, ↓e172_29, ↓e172_30, ↓e172_31, ↓e172_33, ↓e172_36, ↓e172_37, ↓e172_38, ↓e172_40, ↓e172_41, ↓e172_42, ↓e172_44, ↓e172_47, ↓e172_50, ↓e172_51, ↓e172_54, ↓e172_55, ↓e172_57, ↓e172_60, ↓am_ilp, ↓am_iln, ↓am_iep, ↓am_ien, ↓am_zlp, ↓am_zln, ↓am_zep, ↓am_zen, ↓am_zgp, ↓am_zgn, ↓am_zhp, ↓am_zhn, ↓am_b01, true_or, true_and, and_true, or_true, if_true, if_false, ↓am_bdl_z, ↓am_bdl_s, ↓am_bsl_z, ↓am_bsl_s, ↓am_k1_i, ↓am_k1_r, ↓am_k1_e, ↓am_k1_n, ↓am_bd_s, am_k1_t, eq_self, am_nl_i, am_nl_r, am_nl_e, am_nl_n, Option.toList_some, Option.toList_none, Option.map_some, Option.map_none, List.cons_append, List.nil_append, List.length_cons, List.length_nil, List.set_cons_zero, List.set_cons_succ, List.getElem?_cons_zero, List.getElem?_cons_succ, am_bd_s, ↓am_tls, ↓am_tln, ↓mk_oc, ↓ma_r, ↓ma_w, ↓mz_r, ↓mz_w, ↓mr0, ↓mr1, ↓mr2, ↓mr3, ↓mr4, ↓mr5, ↓mr6, ↓mr7, ↓mr8, ↓mr9, ↓mr10, ↓mr11, ↓mr12, ↓mr13, ↓mr14, ↓mr15, ↓mr16, ↓mr17, ↓mr18, ↓mr19, ↓mr20, ↓mr21, ↓mr22, ↓mr23, ↓mr24, ↓mr25, ↓mr26, ↓mr27, ↓mw0, ↓mw1, ↓mw11, ↓mw12, ↓mw13, ↓mw15, ↓mw16, ↓mw17, ↓mw19, ↓mw20, ↓mw22, ↓mw25, up_eq, up_ne, up_up, si_len]) (7 - w1).toNat 0 (1, V) (by omega) (by omega) ⟨by rw [pl_b, if_pos (by rfl)], Sc.rf l107⟩
  dsimp only at e1 c1 wa
  obtain ⟨A, hA⟩ : ∃ A, A = (List.range (7 - w1).toNat).all (fun k => decide (f1 p e ≤ f1 (k : Int) e)) := ⟨_, rfl⟩
  rw [← hA] at e1
  obtain ⟨⟨rb, V2⟩, ⟨e2, c2⟩, wb⟩ := am_loopz (X := List (List Int) × (Option am_V → am_H → Prop)) (α := Int × (Nat → List Int)) (W := fun y i a => Wp y.1 172 66 [some (am_r (some 96)), some (am_i one), some (am_i ot), some (am_i t), some (am_i u), some (am_i p), some (am_i e), some (am_i a.1), some (am_i i)] [] (mk C S a.2) y.2) (I := fun i a => a.1 = pl_b ((A && (List.range i.toNat).all (fun k => decide (f2 e p ≤ f2 (k : Int) p))) = true) ∧ Sc V a.2) (lo := 0) (N := 7 - w2) (by
    rintro i ⟨ra, V1⟩ i0 i1 ⟨e1, c1⟩
    dsimp only at e1 c1
    obtain ⟨n, rfl⟩ : ∃ n : Nat, i = (n : Int) := ⟨i.toNat, by omega⟩
    rw [Int.toNat_natCast] at e1
    have k101 : V1 101 = V 101 := c1.at (by decide) (by decide)
    have hl : (V1 101).length = 3 := by rw [k101]; exact l101
    have hg : gi (V1 101) ot = w2 := by rw [k101, hw2]
    obtain ⟨V2, c2, wb⟩ := lose2 V1 c1 (n : Int) (by omega) (by omega)
    obtain ⟨V3, c3, wc⟩ := lose2 V2 c2 e (by omega) (by omega)
    have b1 := r2 (n : Int) p
    have b2 := r2 e p
    have es : ((n : Int) + 1).toNat = n + 1 := by omega
    by_cases q : (A && (List.range n).all (fun k => decide (f2 e p ≤ f2 (k : Int) p))) = true
    · rw [pl_b, if_pos q] at e1
      by_cases q2 : f2 (n : Int) p < f2 e p
      · refine ⟨(0, V3), ⟨?_, c3⟩, fun y => ?_⟩
        · dsimp only
          rw [es, pl_all_snoc, ← Bool.and_assoc, q, Bool.true_and, pl_b, if_neg (by simpa using q2)]
        · dsimp only
          rw [e172_66]
          simp (disch := first | omega | (simp (disch := omega) only [up_eq, up_ne, si_len, List.length_set]; omega)) only [↓e172_68, ↓e172_70, ↓e172_71, ↓e172_74, ↓e172_75, ↓e172_76, ↓e172_77, ↓e172_80, ↓e172_82, ↓e172_85, ↓e172_86, ↓e172_87, ↓e172_89, ↓e172_91, ↓e172_92, ↓e172_94, ↓e172_97, ↓e172_98, ↓e172_99, ↓e172_101, ↓e172_103, ↓e172_104, ↓e172_106, ↓e172_109, ↓e172_112, ↓e172_113, ↓e172_116, ↓e172_117, ↓e172_119, ↓e172_122, ↓am_ilp, ↓am_iln, ↓am_iep, ↓am_ien, ↓am_zlp, ↓am_zln, ↓am_zep, ↓am_zen, ↓am_zgp, ↓am_zgn, ↓am_zhp, ↓am_zhn, ↓am_b01, true_or, true_and, and_true, or_true, if_true, if_false, ↓am_bdl_z, ↓am_bdl_s, ↓am_bsl_z, ↓am_bsl_s, ↓am_k1_i, ↓am_k1_r, ↓am_k1_e, ↓am_k1_n, ↓am_bd_s, am_k1_t, eq_self, am_nl_i, am_nl_r, am_nl_e, am_nl_n, Option.toList_some, Option.toList_none, Option.map_some, Option.map_none, List.cons_append, List.nil_append, List.length_cons, List.length_nil, List.set_cons_zero, List.set_cons_succ, List.getElem?_cons_zero, List.getElem?_cons_succ, am_bd_s, ↓am_tls, ↓am_tln, ↓mk_oc, ↓ma_r, ↓ma_w, ↓mz_r, ↓mz_w, ↓mr0, ↓mr1, ↓mr2, ↓mr3, ↓mr4, ↓mr5, ↓mr6, ↓mr7, ↓mr8, ↓mr9, ↓mr10, ↓mr11, ↓mr12, ↓mr13, ↓mr14, ↓mr15, ↓mr16, ↓mr17, ↓mr18, ↓mr19, ↓mr20, ↓mr21, ↓mr22, ↓mr23, ↓mr24, ↓mr25, ↓mr26, ↓mr27, ↓mw0, ↓mw1, ↓mw11, ↓mw12, ↓mw13, ↓mw15, ↓mw16, ↓mw17, ↓mw19, ↓mw20, ↓mw22, ↓mw25, up_eq, up_ne, up_up, si_len, ↓wb, ↓wc]
      · refine ⟨(1, V3), ⟨?_, c3⟩, fun y => ?_⟩
        · dsimp only
          rw [es, pl_all_snoc, ← Bool.and_assoc, q, Bool.true_and, pl_b, if_pos (by simpa using q2)]
        · dsimp only
          rw [e172_66]
          simp (disch := first | omega | (simp (disch := omega) only [up_eq, up_ne, si_len, List.length_set]; omega)) only [↓e172_68, ↓e172_70, ↓e172_71, ↓e172_74, ↓e172_75, ↓e172_76, ↓e172_77, ↓e172_80, ↓e172_82, ↓e172_85, ↓e172_86, ↓e172_87, ↓e172_89, ↓e172_91, ↓e172_92, ↓e172_94, ↓e172_97, ↓e172_98, ↓e172_99, ↓e172_101, ↓e172_103, ↓e172_104, ↓e172_106, ↓e172_109, ↓e172_112, ↓e172_113, ↓e172_116, ↓e172_117, ↓e172_119, ↓e172_122, ↓am_ilp, ↓am_iln, ↓am_iep, ↓am_ien, ↓am_zlp, ↓am_zln, ↓am_zep, ↓am_zen, ↓am_zgp, ↓am_zgn, ↓am_zhp, ↓am_zhn, ↓am_b01, true_or, true_and, and_true, or_true, if_true, if_false, ↓am_bdl_z, ↓am_bdl_s, ↓am_bsl_z, ↓am_bsl_s, ↓am_k1_i, ↓am_k1_r, ↓am_k1_e, ↓am_k1_n, ↓am_bd_s, am_k1_t, eq_self, am_nl_i, am_nl_r, am_nl_e, am_nl_n, Option.toList_some, Option.toList_none, Option.map_some, Option.map_none, List.cons_append, List.nil_append, List.length_cons, List.length_nil, List.set_cons_zero, List.set_cons_succ, List.getElem?_cons_zero, List.getElem?_cons_succ, am_bd_s, ↓am_tls, ↓am_tln, ↓mk_oc, ↓ma_r, ↓ma_w, ↓mz_r, ↓mz_w, ↓mr0, ↓mr1, ↓mr2, ↓mr3, ↓mr4, ↓mr5, ↓mr6, ↓mr7, ↓mr8, ↓mr9, ↓mr10, ↓mr11, ↓mr12, ↓mr13, ↓mr14, ↓mr15, ↓mr16, ↓mr17, ↓mr18, ↓mr19, ↓mr20, ↓mr21, ↓mr22, ↓mr23, ↓mr24, ↓mr25, ↓mr26, ↓mr27, ↓mw0, ↓mw1, ↓mw11, ↓mw12, ↓mw13, ↓mw15, ↓mw16, ↓mw17, ↓mw19, ↓mw20, ↓mw22, ↓mw25, up_eq, up_ne, up_up, si_len, ↓wb, ↓wc]
    · rw [pl_b, if_neg q] at e1
      refine ⟨(0, V1), ⟨?_, c1⟩, fun y => ?_⟩
      · dsimp only
        rw [es, pl_all_snoc, ← Bool.and_assoc, pl_b, if_neg (by rw [Bool.and_eq_true]; exact fun z => q z.1)]
      · dsimp only
        rw [e172_66]
        simp (disch := first | omega | (simp (disch := omega) only [up_eq, up_ne, si_len, List.length_set]; omega)) only [↓e172_68, ↓e172_70, ↓e172_71, ↓e172_74, ↓e172_75, ↓e172_76, ↓e172_77, ↓e172_80, ↓e172_82, ↓e172_85, ↓e172_86, ↓e172_87, ↓e172_89, ↓e172_91, ↓e172_92, ↓e172_94, ↓e172_97, ↓e172_98, ↓e172_99, ↓e172_101, ↓e172_103, ↓e172_104, ↓e172_106, ↓e172_109, ↓e172_112, ↓e172_113, ↓e172_116, ↓e172_117, ↓e172_119, ↓e172_122, ↓am_ilp, ↓am_iln, ↓am_iep, ↓am_ien, ↓am_zlp, ↓am_zln, ↓am_zep, ↓am_zen, ↓am_zgp, ↓am_zgn, ↓am_zhp, ↓am_zhn, ↓am_b01, true_or, true_and, and_true, or_true, if_true, if_false, ↓am_bdl_z, ↓am_bdl_s, ↓am_bsl_z, ↓am_bsl_s, ↓am_k1_i, ↓am_k1_r, ↓am_k1_e, ↓am_k1_n, ↓am_bd_s, am_k1_t, eq_self, am_nl_i, am_nl_r, am_nl_e, am_nl_n, Option.toList_some, Option.toList_none, Option.map_some, Option.map_none, List.cons_append, List.nil_append, List.length_cons, List.length_nil, List.set_cons_zero, List.set_cons_succ, List.getElem?_cons_zero, List.getElem?_cons_succ, am_bd_s, ↓am_tls, ↓am_tln, ↓mk_oc, ↓ma_r, ↓ma_w, ↓mz_r, ↓mz_w, ↓mr0, ↓mr1, ↓mr2, ↓mr3, ↓mr4, ↓mr5, ↓mr6, ↓mr7, ↓mr8, ↓mr9, ↓mr10, ↓mr11, ↓mr12, ↓mr13, ↓mr14, ↓mr15, ↓mr16, ↓mr17, ↓mr18, ↓mr19, ↓mr20, ↓mr21, ↓mr22, ↓mr23, ↓mr24, ↓mr25, ↓mr26, ↓mr27, ↓mw0, ↓mw1, ↓mw11, ↓mw12, ↓mw13, ↓mw15, ↓mw16, ↓mw17, ↓mw19, ↓mw20, ↓mw22, ↓mw25, up_eq, up_ne, up_up, si_len]) (7 - w2).toNat 0 (ra, V1) (by omega) (by omega) ⟨by rw [e1]; congr 1; simp, c1⟩
  dsimp only at e2 c2 wb
  refine ⟨V2, c2, fun E K => ?_⟩
  have wa2 := wa (E, K)
  have wb2 := wb (E, K)
  dsimp only at wa2 wb2
  have b01 : rb = 0 ∨ rb = 1 := by rw [e2]; exact pl_b01 _
  have hg1 : gi (V1 101) one = w1 := by rw [c1.at (i := 101) (by decide) (by decide), hw1]
  have hg2 : gi (V2 101) ot = w2 := by rw [c2.at (i := 101) (by decide) (by decide), hw2]
  have hl1 : (V1 101).length = 3 := by rw [c1.at (i := 101) (by decide) (by decide)]; exact l101
  have hl2 : (V2 101).length = 3 := by rw [c2.at (i := 101) (by decide) (by decide)]; exact l101
  have er : pl_b (pl_ir f1 f2 (7 - w1).toNat (7 - w2).toNat p e = true) = rb := by rw [e2, hA]; rfl
  rw [er]
  simp (disch := first | omega | (simp (disch := omega) only [up_eq, up_ne, si_len, List.length_set]; omega)) only [↓e172_0, ↓e172_1, ↓e172_3, ↓e172_4, ↓am_ilp, ↓am_iln, ↓am_iep, ↓am_ien, ↓am_zlp, ↓am_zln, ↓am_zep, ↓am_zen, ↓am_zgp, ↓am_zgn, ↓am_zhp, ↓am_zhn, ↓am_b01, true_or, true_and, and_true, or_true, if_true, if_false, ↓am_bdl_z, ↓am_bdl_s, ↓am_bsl_z, ↓am_bsl_s, ↓am_k1_i, ↓am_k1_r, ↓am_k1_e, ↓am_k1_n, ↓am_bd_s, am_k1_t, eq_self, am_nl_i, am_nl_r, am_nl_e, am_nl_n, Option.toList_some, Option.toList_none, Option.map_some, Option.map_none, List.cons_append, List.nil_append, List.length_cons, List.length_nil, List.set_cons_zero, List.set_cons_succ, List.getElem?_cons_zero, List.getElem?_cons_succ, am_bd_s]
  refine Eq.trans wa2 ?_
  rw [e172_6]
  simp (disch := first | omega | (simp (disch := omega) only [up_eq, up_ne, si_len, List.length_set]; omega)) only [↓e172_8, ↓e172_10, ↓e172_11, ↓e172_14, ↓e172_15, ↓e172_16, ↓e172_17, ↓e172_63, ↓e172_64, ↓am_ilp, ↓am_iln, ↓am_iep, ↓am_ien, ↓am_zlp, ↓am_zln, ↓am_zep, ↓am_zen, ↓am_zgp, ↓am_zgn, ↓am_zhp, ↓am_zhn, ↓am_b01, true_or, true_and, and_true, or_true, if_true, if_false, ↓am_bdl_z, ↓am_bdl_s, ↓am_bsl_z, ↓am_bsl_s, ↓am_k1_i, ↓am_k1_r, ↓am_k1_e, ↓am_k1_n, ↓am_bd_s, am_k1_t, eq_self, am_nl_i, am_nl_r, am_nl_e, am_nl_n, Option.toList_some, Option.toList_none, Option.map_some, Option.map_none, List.cons_append, List.nil_append, List.length_cons, List.length_nil, List.set_cons_zero, List.set_cons_succ, List.getElem?_cons_zero, List.getElem?_cons_succ, am_bd_s, ↓am_tls, ↓am_tln, ↓mk_oc, ↓ma_r, ↓ma_w, ↓mz_r, ↓mz_w, ↓mr0, ↓mr1, ↓mr2, ↓mr3, ↓mr4, ↓mr5, ↓mr6, ↓mr7, ↓mr8, ↓mr9, ↓mr10, ↓mr11, ↓mr12, ↓mr13, ↓mr14, ↓mr15, ↓mr16, ↓mr17, ↓mr18, ↓mr19, ↓mr20, ↓mr21, ↓mr22, ↓mr23, ↓mr24, ↓mr25, ↓mr26, ↓mr27, ↓mw0, ↓mw1, ↓mw11, ↓mw12, ↓mw13, ↓mw15, ↓mw16, ↓mw17, ↓mw19, ↓mw20, ↓mw22, ↓mw25, up_eq, up_ne, up_up, si_len]
  refine Eq.trans wb2 ?_
  rw [e172_66]
  simp (disch := first | omega | (simp (disch := omega) only [up_eq, up_ne, si_len, List.length_set]; omega)) only [↓e172_68, ↓e172_70, ↓e172_71, ↓e172_74, ↓e172_75, ↓e172_76, ↓e172_77, ↓e172_125, ↓e172_127, ↓am_ilp, ↓am_iln, ↓am_iep, ↓am_ien, ↓am_zlp, ↓am_zln, ↓am_zep, ↓am_zen, ↓am_zgp, ↓am_zgn, ↓am_zhp, ↓am_zhn, ↓am_b01, true_or, true_and, and_true, or_true, if_true, if_false, ↓am_bdl_z, ↓am_bdl_s, ↓am_bsl_z, ↓am_bsl_s, ↓am_k1_i, ↓am_k1_r, ↓am_k1_e, ↓am_k1_n, ↓am_bd_s, am_k1_t, eq_self, am_nl_i, am_nl_r, am_nl_e, am_nl_n, Option.toList_some, Option.toList_none, Option.map_some, Option.map_none, List.cons_append, List.nil_append, List.length_cons, List.length_nil, List.set_cons_zero, List.set_cons_succ, List.getElem?_cons_zero, List.getElem?_cons_succ, am_bd_s, ↓am_tls, ↓am_tln, ↓mk_oc, ↓ma_r, ↓ma_w, ↓mz_r, ↓mz_w, ↓mr0, ↓mr1, ↓mr2, ↓mr3, ↓mr4, ↓mr5, ↓mr6, ↓mr7, ↓mr8, ↓mr9, ↓mr10, ↓mr11, ↓mr12, ↓mr13, ↓mr14, ↓mr15, ↓mr16, ↓mr17, ↓mr18, ↓mr19, ↓mr20, ↓mr21, ↓mr22, ↓mr23, ↓mr24, ↓mr25, ↓mr26, ↓mr27, ↓mw0, ↓mw1, ↓mw11, ↓mw12, ↓mw13, ↓mw15, ↓mw16, ↓mw17, ↓mw19, ↓mw20, ↓mw22, ↓mw25, up_eq, up_ne, up_up, si_len]
theorem X10_rests_no {one ot t u x : Int} (mp : MP S V nb ns) (ho : am_w one = one) (hot : am_w ot = ot) (h : ¬ ((0 ≤ one ∧ one < ns) ∧ (0 ≤ ot ∧ ot < ns))) (E : List (List Int)) (K : Option am_V → am_H → Prop) : Wp E 173 0 [some (am_r (some 96)), some (am_i one), some (am_i ot), some (am_i t), some (am_i u), some (am_i x), none, none, none, none] [] (mk C S V) K = K (some (am_i (-1))) (mk C S V) := by
  by_cases q1 : 0 ≤ am_w one ∧ am_w one < (ns : Int)
  · have q2 : ¬ (0 ≤ am_w ot ∧ am_w ot < (ns : Int)) := by rw [hot]; rw [ho] at q1; exact fun z => h ⟨q1, z⟩
    simp (disch := first | omega | (simp (disch := omega) only [up_eq, up_ne, si_len, List.length_set]; omega)) only [↓e173_0, ↓e173_1, ↓e173_2, ↓e173_5, ↓e173_8, ↓e173_9, ↓e173_10, ↓e173_13, ↓e173_16, ↓e173_17, ↓am_ilp, ↓am_iln, ↓am_iep, ↓am_ien, ↓am_zlp, ↓am_zln, ↓am_zep, ↓am_zen, ↓am_zgp, ↓am_zgn, ↓am_zhp, ↓am_zhn, ↓am_b01, true_or, true_and, and_true, or_true, if_true, if_false, ↓am_bdl_z, ↓am_bdl_s, ↓am_bsl_z, ↓am_bsl_s, ↓am_k1_i, ↓am_k1_r, ↓am_k1_e, ↓am_k1_n, ↓am_bd_s, am_k1_t, eq_self, am_nl_i, am_nl_r, am_nl_e, am_nl_n, Option.toList_some, Option.toList_none, Option.map_some, Option.map_none, List.cons_append, List.nil_append, List.length_cons, List.length_nil, List.set_cons_zero, List.set_cons_succ, List.getElem?_cons_zero, List.getElem?_cons_succ, am_bd_s, ↓am_tls, ↓am_tln, ↓mk_oc, ↓ma_r, ↓ma_w, ↓mz_r, ↓mz_w, ↓mr0, ↓mr1, ↓mr2, ↓mr3, ↓mr4, ↓mr5, ↓mr6, ↓mr7, ↓mr8, ↓mr9, ↓mr10, ↓mr11, ↓mr12, ↓mr13, ↓mr14, ↓mr15, ↓mr16, ↓mr17, ↓mr18, ↓mr19, ↓mr20, ↓mr21, ↓mr22, ↓mr23, ↓mr24, ↓mr25, ↓mr26, ↓mr27, ↓mw0, ↓mw1, ↓mw11, ↓mw12, ↓mw13, ↓mw15, ↓mw16, ↓mw17, ↓mw19, ↓mw20, ↓mw22, ↓mw25, up_eq, up_ne, up_up, si_len, ↓X10_isSleeper_w mp, ↓am_ifb, ↓if_pos q1, ↓if_neg q2]
  · simp (disch := first | omega | (simp (disch := omega) only [up_eq, up_ne, si_len, List.length_set]; omega)) only [↓e173_0, ↓e173_1, ↓e173_2, ↓e173_5, ↓e173_8, ↓e173_9, ↓e173_10, ↓e173_13, ↓e173_16, ↓e173_17, ↓am_ilp, ↓am_iln, ↓am_iep, ↓am_ien, ↓am_zlp, ↓am_zln, ↓am_zep, ↓am_zen, ↓am_zgp, ↓am_zgn, ↓am_zhp, ↓am_zhn, ↓am_b01, true_or, true_and, and_true, or_true, if_true, if_false, ↓am_bdl_z, ↓am_bdl_s, ↓am_bsl_z, ↓am_bsl_s, ↓am_k1_i, ↓am_k1_r, ↓am_k1_e, ↓am_k1_n, ↓am_bd_s, am_k1_t, eq_self, am_nl_i, am_nl_r, am_nl_e, am_nl_n, Option.toList_some, Option.toList_none, Option.map_some, Option.map_none, List.cons_append, List.nil_append, List.length_cons, List.length_nil, List.set_cons_zero, List.set_cons_succ, List.getElem?_cons_zero, List.getElem?_cons_succ, am_bd_s, ↓am_tls, ↓am_tln, ↓mk_oc, ↓ma_r, ↓ma_w, ↓mz_r, ↓mz_w, ↓mr0, ↓mr1, ↓mr2, ↓mr3, ↓mr4, ↓mr5, ↓mr6, ↓mr7, ↓mr8, ↓mr9, ↓mr10, ↓mr11, ↓mr12, ↓mr13, ↓mr14, ↓mr15, ↓mr16, ↓mr17, ↓mr18, ↓mr19, ↓mr20, ↓mr21, ↓mr22, ↓mr23, ↓mr24, ↓mr25, ↓mr26, ↓mr27, ↓mw0, ↓mw1, ↓mw11, ↓mw12, ↓mw13, ↓mw15, ↓mw16, ↓mw17, ↓mw19, ↓mw20, ↓mw22, ↓mw25, up_eq, up_ne, up_up, si_len, ↓X10_isSleeper_w mp, ↓am_ifb, ↓if_neg q1]
theorem X10_rests_out {one ot t u x : Int} (mp : MP S V nb ns) (ho : am_w one = one) (hot : am_w ot = ot) (ht : am_w t = t) (hu : am_w u = u) (hx : am_w x = x) (h1 : 0 ≤ one ∧ one < ns) (h2 : 0 ≤ ot ∧ ot < ns) (h : ¬ (one ≠ ot ∧ (0 ≤ t ∧ t ≤ 10) ∧ (0 ≤ u ∧ u ≤ 10) ∧ (0 ≤ x ∧ x ≤ 1))) (E : List (List Int)) (K : Option am_V → am_H → Prop) : Wp E 173 0 [some (am_r (some 96)), some (am_i one), some (am_i ot), some (am_i t), some (am_i u), some (am_i x), none, none, none, none] [] (mk C S V) K = K (some (am_i (-2))) (mk C S V) := by
  have q1 : 0 ≤ am_w one ∧ am_w one < (ns : Int) := by rw [ho]; exact h1
  have q2 : 0 ≤ am_w ot ∧ am_w ot < (ns : Int) := by rw [hot]; exact h2
  have r := am_w_rng x
  have hns := mp.2.2.2.1
  by_cases q3 : one = ot
  · simp (disch := first | omega | (simp (disch := omega) only [up_eq, up_ne, si_len, List.length_set]; omega)) only [↓e173_0, ↓e173_1, ↓e173_2, ↓e173_5, ↓e173_8, ↓e173_9, ↓e173_10, ↓e173_13, ↓e173_16, ↓e173_17, ↓e173_18, ↓e173_19, ↓e173_20, ↓e173_23, ↓e173_24, ↓e173_27, ↓e173_30, ↓e173_32, ↓e173_35, ↓e173_38, ↓e173_40, ↓e173_41, ↓e173_42, ↓e173_43, ↓e173_46, ↓e173_49, ↓e173_51, ↓am_ilp, ↓am_iln, ↓am_iep, ↓am_ien, ↓am_zlp, ↓am_zln, ↓am_zep, ↓am_zen, ↓am_zgp, ↓am_zgn, ↓am_zhp, ↓am_zhn, ↓am_b01, true_or, true_and, and_true, or_true, if_true, if_false, ↓am_bdl_z, ↓am_bdl_s, ↓am_bsl_z, ↓am_bsl_s, ↓am_k1_i, ↓am_k1_r, ↓am_k1_e, ↓am_k1_n, ↓am_bd_s, am_k1_t, eq_self, am_nl_i, am_nl_r, am_nl_e, am_nl_n, Option.toList_some, Option.toList_none, Option.map_some, Option.map_none, List.cons_append, List.nil_append, List.length_cons, List.length_nil, List.set_cons_zero, List.set_cons_succ, List.getElem?_cons_zero, List.getElem?_cons_succ, am_bd_s, ↓am_tls, ↓am_tln, ↓mk_oc, ↓ma_r, ↓ma_w, ↓mz_r, ↓mz_w, ↓mr0, ↓mr1, ↓mr2, ↓mr3, ↓mr4, ↓mr5, ↓mr6, ↓mr7, ↓mr8, ↓mr9, ↓mr10, ↓mr11, ↓mr12, ↓mr13, ↓mr14, ↓mr15, ↓mr16, ↓mr17, ↓mr18, ↓mr19, ↓mr20, ↓mr21, ↓mr22, ↓mr23, ↓mr24, ↓mr25, ↓mr26, ↓mr27, ↓mw0, ↓mw1, ↓mw11, ↓mw12, ↓mw13, ↓mw15, ↓mw16, ↓mw17, ↓mw19, ↓mw20, ↓mw22, ↓mw25, up_eq, up_ne, up_up, si_len, ↓X10_isSleeper_w mp, ↓am_ifb, ↓if_pos q1, ↓if_pos q2]
  · by_cases q4 : 0 ≤ t ∧ t ≤ 10
    · by_cases q5 : 0 ≤ u ∧ u ≤ 10
      · have q6 : ¬ (0 ≤ am_w x ∧ am_w x ≤ 1) := by rw [hx]; exact fun z => h ⟨q3, q4, q5, z⟩
        simp (disch := first | omega | (simp (disch := omega) only [up_eq, up_ne, si_len, List.length_set]; omega)) only [↓e173_0, ↓e173_1, ↓e173_2, ↓e173_5, ↓e173_8, ↓e173_9, ↓e173_10, ↓e173_13, ↓e173_16, ↓e173_17, ↓e173_18, ↓e173_19, ↓e173_20, ↓e173_23, ↓e173_24, ↓e173_27, ↓e173_30, ↓e173_32, ↓e173_35, ↓e173_38, ↓e173_40, ↓e173_41, ↓e173_42, ↓e173_43, ↓e173_46, ↓e173_49, ↓e173_51, ↓am_ilp, ↓am_iln, ↓am_iep, ↓am_ien, ↓am_zlp, ↓am_zln, ↓am_zep, ↓am_zen, ↓am_zgp, ↓am_zgn, ↓am_zhp, ↓am_zhn, ↓am_b01, true_or, true_and, and_true, or_true, if_true, if_false, ↓am_bdl_z, ↓am_bdl_s, ↓am_bsl_z, ↓am_bsl_s, ↓am_k1_i, ↓am_k1_r, ↓am_k1_e, ↓am_k1_n, ↓am_bd_s, am_k1_t, eq_self, am_nl_i, am_nl_r, am_nl_e, am_nl_n, Option.toList_some, Option.toList_none, Option.map_some, Option.map_none, List.cons_append, List.nil_append, List.length_cons, List.length_nil, List.set_cons_zero, List.set_cons_succ, List.getElem?_cons_zero, List.getElem?_cons_succ, am_bd_s, ↓am_tls, ↓am_tln, ↓mk_oc, ↓ma_r, ↓ma_w, ↓mz_r, ↓mz_w, ↓mr0, ↓mr1, ↓mr2, ↓mr3, ↓mr4, ↓mr5, ↓mr6, ↓mr7, ↓mr8, ↓mr9, ↓mr10, ↓mr11, ↓mr12, ↓mr13, ↓mr14, ↓mr15, ↓mr16, ↓mr17, ↓mr18, ↓mr19, ↓mr20, ↓mr21, ↓mr22, ↓mr23, ↓mr24, ↓mr25, ↓mr26, ↓mr27, ↓mw0, ↓mw1, ↓mw11, ↓mw12, ↓mw13, ↓mw15, ↓mw16, ↓mw17, ↓mw19, ↓mw20, ↓mw22, ↓mw25, up_eq, up_ne, up_up, si_len, ↓X10_isSleeper_w mp, ↓X10_isTime_w ht, ↓X10_isTime_w hu, ↓X10_in_w, ↓am_ifb, ↓if_pos q1, ↓if_pos q2, ↓if_pos q4, ↓if_pos q5, ↓if_neg q6]
      · simp (disch := first | omega | (simp (disch := omega) only [up_eq, up_ne, si_len, List.length_set]; omega)) only [↓e173_0, ↓e173_1, ↓e173_2, ↓e173_5, ↓e173_8, ↓e173_9, ↓e173_10, ↓e173_13, ↓e173_16, ↓e173_17, ↓e173_18, ↓e173_19, ↓e173_20, ↓e173_23, ↓e173_24, ↓e173_27, ↓e173_30, ↓e173_32, ↓e173_35, ↓e173_38, ↓e173_40, ↓e173_41, ↓e173_42, ↓e173_43, ↓e173_46, ↓e173_49, ↓e173_51, ↓am_ilp, ↓am_iln, ↓am_iep, ↓am_ien, ↓am_zlp, ↓am_zln, ↓am_zep, ↓am_zen, ↓am_zgp, ↓am_zgn, ↓am_zhp, ↓am_zhn, ↓am_b01, true_or, true_and, and_true, or_true, if_true, if_false, ↓am_bdl_z, ↓am_bdl_s, ↓am_bsl_z, ↓am_bsl_s, ↓am_k1_i, ↓am_k1_r, ↓am_k1_e, ↓am_k1_n, ↓am_bd_s, am_k1_t, eq_self, am_nl_i, am_nl_r, am_nl_e, am_nl_n, Option.toList_some, Option.toList_none, Option.map_some, Option.map_none, List.cons_append, List.nil_append, List.length_cons, List.length_nil, List.set_cons_zero, List.set_cons_succ, List.getElem?_cons_zero, List.getElem?_cons_succ, am_bd_s, ↓am_tls, ↓am_tln, ↓mk_oc, ↓ma_r, ↓ma_w, ↓mz_r, ↓mz_w, ↓mr0, ↓mr1, ↓mr2, ↓mr3, ↓mr4, ↓mr5, ↓mr6, ↓mr7, ↓mr8, ↓mr9, ↓mr10, ↓mr11, ↓mr12, ↓mr13, ↓mr14, ↓mr15, ↓mr16, ↓mr17, ↓mr18, ↓mr19, ↓mr20, ↓mr21, ↓mr22, ↓mr23, ↓mr24, ↓mr25, ↓mr26, ↓mr27, ↓mw0, ↓mw1, ↓mw11, ↓mw12, ↓mw13, ↓mw15, ↓mw16, ↓mw17, ↓mw19, ↓mw20, ↓mw22, ↓mw25, up_eq, up_ne, up_up, si_len, ↓X10_isSleeper_w mp, ↓X10_isTime_w ht, ↓X10_isTime_w hu, ↓am_ifb, ↓if_pos q1, ↓if_pos q2, ↓if_pos q4, ↓if_neg q5]
    · simp (disch := first | omega | (simp (disch := omega) only [up_eq, up_ne, si_len, List.length_set]; omega)) only [↓e173_0, ↓e173_1, ↓e173_2, ↓e173_5, ↓e173_8, ↓e173_9, ↓e173_10, ↓e173_13, ↓e173_16, ↓e173_17, ↓e173_18, ↓e173_19, ↓e173_20, ↓e173_23, ↓e173_24, ↓e173_27, ↓e173_30, ↓e173_32, ↓e173_35, ↓e173_38, ↓e173_40, ↓e173_41, ↓e173_42, ↓e173_43, ↓e173_46, ↓e173_49, ↓e173_51, ↓am_ilp, ↓am_iln, ↓am_iep, ↓am_ien, ↓am_zlp, ↓am_zln, ↓am_zep, ↓am_zen, ↓am_zgp, ↓am_zgn, ↓am_zhp, ↓am_zhn, ↓am_b01, true_or, true_and, and_true, or_true, if_true, if_false, ↓am_bdl_z, ↓am_bdl_s, ↓am_bsl_z, ↓am_bsl_s, ↓am_k1_i, ↓am_k1_r, ↓am_k1_e, ↓am_k1_n, ↓am_bd_s, am_k1_t, eq_self, am_nl_i, am_nl_r, am_nl_e, am_nl_n, Option.toList_some, Option.toList_none, Option.map_some, Option.map_none, List.cons_append, List.nil_append, List.length_cons, List.length_nil, List.set_cons_zero, List.set_cons_succ, List.getElem?_cons_zero, List.getElem?_cons_succ, am_bd_s, ↓am_tls, ↓am_tln, ↓mk_oc, ↓ma_r, ↓ma_w, ↓mz_r, ↓mz_w, ↓mr0, ↓mr1, ↓mr2, ↓mr3, ↓mr4, ↓mr5, ↓mr6, ↓mr7, ↓mr8, ↓mr9, ↓mr10, ↓mr11, ↓mr12, ↓mr13, ↓mr14, ↓mr15, ↓mr16, ↓mr17, ↓mr18, ↓mr19, ↓mr20, ↓mr21, ↓mr22, ↓mr23, ↓mr24, ↓mr25, ↓mr26, ↓mr27, ↓mw0, ↓mw1, ↓mw11, ↓mw12, ↓mw13, ↓mw15, ↓mw16, ↓mw17, ↓mw19, ↓mw20, ↓mw22, ↓mw25, up_eq, up_ne, up_up, si_len, ↓X10_isSleeper_w mp, ↓X10_isTime_w ht, ↓am_ifb, ↓if_pos q1, ↓if_pos q2, ↓if_neg q4]
theorem X10_rests_w {one ot t u x : Int} (mp : MP S V nb ns) (ly : Ly (V 102) 0 L) (wf : WfL nb ns (V 101) L) (ho : am_w one = one) (hot : am_w ot = ot) (ht' : am_w t = t) (hu' : am_w u = u) (hx : am_w x = x) (h1 : 0 ≤ one ∧ one < ns) (h2 : 0 ≤ ot ∧ ot < ns) (hne : one ≠ ot) (ht : 0 ≤ t ∧ t ≤ 10) (hu : 0 ≤ u ∧ u ≤ 10) (hx1 : 0 ≤ x ∧ x ≤ 1) : ∃ V', Sc V V' ∧ ∀ E K, Wp E 173 0 [some (am_r (some 96)), some (am_i one), some (am_i ot), some (am_i t), some (am_i u), some (am_i x), none, none, none, none] [] (mk C S V) K = K (some (am_i (if x = 0 then ((List.range (7 - gi (V 101) one).toNat).foldl (pl_rs (pl_ir (pl_ls (m_wf V L.1 (gi (V 101) one)) t (gi (V 101) one) (gi (V 101) ot)) (pl_ls (m_wf V L.1 (gi (V 101) ot)) u (gi (V 101) ot) (gi (V 101) one)) (7 - gi (V 101) one).toNat (7 - gi (V 101) ot).toNat) (7 - gi (V 101) ot).toNat) (0, -9)).1 else ((List.range (7 - gi (V 101) one).toNat).foldl (pl_rs (pl_ir (pl_ls (m_wf V L.1 (gi (V 101) one)) t (gi (V 101) one) (gi (V 101) ot)) (pl_ls (m_wf V L.1 (gi (V 101) ot)) u (gi (V 101) ot) (gi (V 101) one)) (7 - gi (V 101) one).toNat (7 - gi (V 101) ot).toNat) (7 - gi (V 101) ot).toNat) (0, -9)).2))) (mk C S V') := by
  obtain ⟨s0, s1, hnb, hns, l97, l98, l99, l100, l101, l102, l107, pv, wv⟩ := id mp
  have q1 : 0 ≤ am_w one ∧ am_w one < (ns : Int) := by rw [ho]; exact h1
  have q2 : 0 ≤ am_w ot ∧ am_w ot < (ns : Int) := by rw [hot]; exact h2
  have r := am_w_rng x
  have q6 : 0 ≤ am_w x ∧ am_w x ≤ 1 := by rw [hx]; exact hx1
  have z1 := wv one.toNat (by omega)
  have z2 := wv ot.toNat (by omega)
  have g1 : gi (V 101) one = (V 101).getD one.toNat 0 := rfl
  have g2 : gi (V 101) ot = (V 101).getD ot.toNat 0 := rfl
  obtain ⟨w1, hw1⟩ : ∃ w1, w1 = gi (V 101) one := ⟨_, rfl⟩
  obtain ⟨w2, hw2⟩ : ∃ w2, w2 = gi (V 101) ot := ⟨_, rfl⟩
  rw [← hw1, ← hw2]
  rw [← hw1] at g1
  rw [← hw2] at g2
  obtain ⟨ir, hir⟩ : ∃ ir, ir = pl_ir (pl_ls (m_wf V L.1 w1) t w1 w2) (pl_ls (m_wf V L.1 w2) u w2 w1) (7 - w1).toNat (7 - w2).toNat := ⟨_, rfl⟩
  rw [← hir]
  have isr : ∀ (V1 : Nat → List Int), Sc V V1 → ∀ p e, 0 ≤ p → p + w1 ≤ 6 → 0 ≤ e → e + w2 ≤ 6 → ∃ V2, Sc V V2 ∧ ∀ E K, Wp E 172 0 [some (am_r (some 96)), some (am_i one), some (am_i ot), some (am_i t), some (am_i u), some (am_i p), some (am_i e), none, none] [] (mk C S V1) K = K (some (am_i (pl_b (ir p e = true)))) (mk C S V2) := by
    intro V1 c1 p e p0 p1 e0 e1
    have k101 : V1 101 = V 101 := c1.at (by decide) (by decide)
    obtain ⟨V2, c2, w⟩ := X10_isRest_w (C := C) (p := p) (e := e) (c1.mp mp) (c1.ly ly) (by rw [k101]; exact wf) h1 h2 ht hu (by rw [k101, ← hw1]; omega) (by rw [k101, ← hw2]; omega)
    rw [k101, ← hw1, ← hw2, m_wf_sc c1, ← hir] at w
    exact ⟨V2, c1.trans c2, w⟩
  have inner : ∀ (n : Nat), (n : Int) + w1 ≤ 6 → ∀ (V1 : Nat → List Int) (a : Int × Int) (x9 : Option am_V), Sc V V1 → 0 ≤ a.1 ∧ a.1 ≤ 7 * (n : Int) → ∃ V2 x9', Sc V V2 ∧ (0 ≤ (pl_rs ir (7 - w2).toNat a n).1 ∧ (pl_rs ir (7 - w2).toNat a n).1 ≤ 7 * (n : Int) + 7) ∧ ∀ E K, Wp E 173 76 [some (am_r (some 96)), some (am_i one), some (am_i ot), some (am_i t), some (am_i u), some (am_i x), some (am_i a.1), some (am_i a.2), some (am_i (n : Int)), x9] [] (mk C S V1) K = Wp E 173 62 [some (am_r (some 96)), some (am_i one), some (am_i ot), some (am_i t), some (am_i u), some (am_i x), some (am_i (pl_rs ir (7 - w2).toNat a n).1), some (am_i (pl_rs ir (7 - w2).toNat a n).2), some (am_i ((n : Int) + 1)), x9'] [] (mk C S V2) K := by
    intro n hn V1 a x9 c1 ha
    obtain ⟨⟨b, V2⟩, ⟨e1, e2, c2⟩, wl⟩ := am_loopz (X := List (List Int) × (Option am_V → am_H → Prop)) (α := (Int × Int) × (Nat → List Int)) (W := fun y i b => Wp y.1 173 79 [some (am_r (some 96)), some (am_i one), some (am_i ot), some (am_i t), some (am_i u), some (am_i x), some (am_i b.1.1), some (am_i b.1.2), some (am_i (n : Int)), some (am_i i)] [] (mk C S b.2) y.2) (I := fun i b => b.1 = (List.range i.toNat).foldl (pl_rs1 ir n) a ∧ (0 ≤ b.1.1 ∧ b.1.1 ≤ 7 * (n : Int) + i) ∧ Sc V b.2) (lo := 0) (N := 7 - w2) (by
      rintro i ⟨⟨b1, b2⟩, V2⟩ i0 i1 ⟨e1, e2, c2⟩
      dsimp only at e1 e2 c2
      obtain ⟨m, rfl⟩ : ∃ m : Nat, i = (m : Int) := ⟨i.toNat, by omega⟩
      rw [Int.toNat_natCast] at e1
      have k101 : V2 101 = V 101 := c2.at (by decide) (by decide)
      have hl : (V2 101).length = 3 := by rw [k101]; exact l101
      have hg : gi (V2 101) ot = w2 := by rw [k101, hw2]
      obtain ⟨V3, c3, wc⟩ := isr V2 c2 (n : Int) (m : Int) (by omega) (by omega) (by omega) (by omega)
      have ef : (List.range ((m : Int) + 1).toNat).foldl (pl_rs1 ir n) a = pl_rs1 ir n (b1, b2) m := by rw [show ((m : Int) + 1).toNat = m + 1 by omega, List.range_succ, List.foldl_append, ← e1]; rfl
      by_cases q : ir (n : Int) (m : Int) = true
      · by_cases q0 : b1 = 0
        · refine ⟨((b1 + 1, 10 * (n : Int) + (m : Int)), V3), ⟨?_, by dsimp only; omega, c3⟩, fun y => ?_⟩
          · dsimp only
            rw [ef, pl_rs1, if_pos q, if_pos q0]
          · dsimp only
            rw [e173_79]
            simp (disch := first | omega | (simp (disch := omega) only [up_eq, up_ne, si_len, List.length_set]; omega)) only [↓e173_81, ↓e173_83, ↓e173_84, ↓e173_87, ↓e173_88, ↓e173_89, ↓e173_90, ↓e173_93, ↓e173_94, ↓e173_95, ↓e173_96, ↓e173_97, ↓e173_99, ↓e173_101, ↓e173_103, ↓e173_106, ↓e173_109, ↓e173_111, ↓e173_114, ↓e173_116, ↓e173_118, ↓e173_119, ↓e173_121, ↓e173_122, ↓e173_125, ↓e173_127, ↓e173_129, ↓e173_132, ↓e173_135, ↓am_ilp, ↓am_iln, ↓am_iep, ↓am_ien, ↓am_zlp, ↓am_zln, ↓am_zep, ↓am_zen, ↓am_zgp, ↓am_zgn, ↓am_zhp, ↓am_zhn, ↓am_b01, true_or, true_and, and_true, or_true, if_true, if_false, ↓am_bdl_z, ↓am_bdl_s, ↓am_bsl_z, ↓am_bsl_s, ↓am_k1_i, ↓am_k1_r, ↓am_k1_e, ↓am_k1_n, ↓am_bd_s, am_k1_t, eq_self, am_nl_i, am_nl_r, am_nl_e, am_nl_n, Option.toList_some, Option.toList_none, Option.map_some, Option.map_none, List.cons_append, List.nil_append, List.length_cons, List.length_nil, List.set_cons_zero, List.set_cons_succ, List.getElem?_cons_zero, List.getElem?_cons_succ, am_bd_s, ↓am_tls, ↓am_tln, ↓mk_oc, ↓ma_r, ↓ma_w, ↓mz_r, ↓mz_w, ↓mr0, ↓mr1, ↓mr2, ↓mr3, ↓mr4, ↓mr5, ↓mr6, ↓mr7, ↓mr8, ↓mr9, ↓mr10, ↓mr11, ↓mr12, ↓mr13, ↓mr14, ↓mr15, ↓mr16, ↓mr17, ↓mr18, ↓mr19, ↓mr20, ↓mr21, ↓mr22, ↓mr23, ↓mr24, ↓mr25, ↓mr26, ↓mr27, ↓mw0, ↓mw1, ↓mw11, ↓mw12, ↓mw13, ↓mw15, ↓mw16, ↓mw17, ↓mw19, ↓mw20, ↓mw22, ↓mw25, up_eq, up_ne, up_up, si_len, ↓wc, ↓am_ifb, ↓if_pos q]
        · refine ⟨((b1 + 1, b2), V3), ⟨?_, by dsimp only; omega, c3⟩, fun y => ?_⟩
          · dsimp only
            rw [ef, pl_rs1, if_pos q, if_neg q0]
          · dsimp only
            rw [e173_79]
            simp (disch := first | omega | (simp (disch := omega) only [up_eq, up_ne, si_len, List.length_set]; omega)) only [↓e173_81, ↓e173_83, ↓e173_84, ↓e173_87, ↓e173_88, ↓e173_89, ↓e173_90, ↓e173_93, ↓e173_94, ↓e173_95, ↓e173_96, ↓e173_97, ↓e173_99, ↓e173_101, ↓e173_103, ↓e173_106, ↓e173_109, ↓e173_111, ↓e173_114, ↓e173_116, ↓e173_118, ↓e173_119, ↓e173_121, ↓e173_122, ↓e173_125, ↓e173_127, ↓e173_129, ↓e173_132, ↓e173_135, ↓am_ilp, ↓am_iln, ↓am_iep, ↓am_ien, ↓am_zlp, ↓am_zln, ↓am_zep, ↓am_zen, ↓am_zgp, ↓am_zgn, ↓am_zhp, ↓am_zhn, ↓am_b01, true_or, true_and, and_true, or_true, if_true, if_false, ↓am_bdl_z, ↓am_bdl_s, ↓am_bsl_z, ↓am_bsl_s, ↓am_k1_i, ↓am_k1_r, ↓am_k1_e, ↓am_k1_n, ↓am_bd_s, am_k1_t, eq_self, am_nl_i, am_nl_r, am_nl_e, am_nl_n, Option.toList_some, Option.toList_none, Option.map_some, Option.map_none, List.cons_append, List.nil_append, List.length_cons, List.length_nil, List.set_cons_zero, List.set_cons_succ, List.getElem?_cons_zero, List.getElem?_cons_succ, am_bd_s, ↓am_tls, ↓am_tln, ↓mk_oc, ↓ma_r, ↓ma_w, ↓mz_r, ↓mz_w, ↓mr0, ↓mr1, ↓mr2, ↓mr3, ↓mr4, ↓mr5, ↓mr6, ↓mr7, ↓mr8, ↓mr9, ↓mr10, ↓mr11, ↓mr12, ↓mr13, ↓mr14, ↓mr15, ↓mr16, ↓mr17, ↓mr18, ↓mr19, ↓mr20, ↓mr21, ↓mr22, ↓mr23, ↓mr24, ↓mr25, ↓mr26, ↓mr27, ↓mw0, ↓mw1, ↓mw11, ↓mw12, ↓mw13, ↓mw15, ↓mw16, ↓mw17, ↓mw19, ↓mw20, ↓mw22, ↓mw25, up_eq, up_ne, up_up, si_len, ↓wc, ↓am_ifb, ↓if_pos q]
      · refine ⟨((b1, b2), V3), ⟨?_, by dsimp only; omega, c3⟩, fun y => ?_⟩
        · dsimp only
          rw [ef, pl_rs1, if_neg q]
        · dsimp only
          rw [e173_79]
          simp (disch := first | omega | (simp (disch := omega) only [up_eq, up_ne, si_len, List.length_set]; omega)) only [↓e173_81, ↓e173_83, ↓e173_84, ↓e173_87, ↓e173_88, ↓e173_89, ↓e173_90, ↓e173_93, ↓e173_94, ↓e173_95, ↓e173_96, ↓e173_97, ↓e173_99, ↓e173_101, ↓e173_103, ↓e173_106, ↓e173_109, ↓e173_111, ↓e173_114, ↓e173_116, ↓e173_118, ↓e173_119, ↓e173_121, ↓e173_122, ↓e173_125, ↓e173_127, ↓e173_129, ↓e173_132, ↓e173_135, ↓am_ilp, ↓am_iln, ↓am_iep, ↓am_ien, ↓am_zlp, ↓am_zln, ↓am_zep, ↓am_zen, ↓am_zgp, ↓am_zgn, ↓am_zhp, ↓am_zhn, ↓am_b01, true_or, true_and, and_true, or_true, if_true, if_false, ↓am_bdl_z, ↓am_bdl_s, ↓am_bsl_z, ↓am_bsl_s, ↓am_k1_i, ↓am_k1_r, ↓am_k1_e, ↓am_k1_n, ↓am_bd_s, am_k1_t, eq_self, am_nl_i, am_nl_r, am_nl_e, am_nl_n, Option.toList_some, Option.toList_none, Option.map_some, Option.map_none, List.cons_append, List.nil_append, List.length_cons, List.length_nil, List.set_cons_zero, List.set_cons_succ, List.getElem?_cons_zero, List.getElem?_cons_succ, am_bd_s, ↓am_tls, ↓am_tln, ↓mk_oc, ↓ma_r, ↓ma_w, ↓mz_r, ↓mz_w, ↓mr0, ↓mr1, ↓mr2, ↓mr3, ↓mr4, ↓mr5, ↓mr6, ↓mr7, ↓mr8, ↓mr9, ↓mr10, ↓mr11, ↓mr12, ↓mr13, ↓mr14, ↓mr15, ↓mr16, ↓mr17, ↓mr18, ↓mr19, ↓mr20, ↓mr21, ↓mr22, ↓mr23, ↓mr24, ↓mr25, ↓mr26, ↓mr27, ↓mw0, ↓mw1, ↓mw11, ↓mw12, ↓mw13, ↓mw15, ↓mw16, ↓mw17, ↓mw19, ↓mw20, ↓mw22, ↓mw25, up_eq, up_ne, up_up, si_len, ↓wc, ↓am_ifb, ↓if_neg q]) (7 - w2).toNat 0 (a, V1) (by omega) (by omega) ⟨rfl, by dsimp only; omega, c1⟩
    dsimp only at e1 e2 c2 wl
    have eb : b = pl_rs ir (7 - w2).toNat a n := e1
    have k101 : V2 101 = V 101 := c2.at (by decide) (by decide)
    have hl : (V2 101).length = 3 := by rw [k101]; exact l101
    have hg : gi (V2 101) ot = w2 := by rw [k101, hw2]
    refine ⟨V2, some (am_i (7 - w2)), c2, by rw [← eb]; omega, fun E K => ?_⟩
    have wl2 := wl (E, K)
    dsimp only at wl2
    rw [← eb]
    simp (disch := first | omega | (simp (disch := omega) only [up_eq, up_ne, si_len, List.length_set]; omega)) only [↓e173_76, ↓e173_77, ↓am_ilp, ↓am_iln, ↓am_iep, ↓am_ien, ↓am_zlp, ↓am_zln, ↓am_zep, ↓am_zen, ↓am_zgp, ↓am_zgn, ↓am_zhp, ↓am_zhn, ↓am_b01, true_or, true_and, and_true, or_true, if_true, if_false, ↓am_bdl_z, ↓am_bdl_s, ↓am_bsl_z, ↓am_bsl_s, ↓am_k1_i, ↓am_k1_r, ↓am_k1_e, ↓am_k1_n, ↓am_bd_s, am_k1_t, eq_self, am_nl_i, am_nl_r, am_nl_e, am_nl_n, Option.toList_some, Option.toList_none, Option.map_some, Option.map_none, List.cons_append, List.nil_append, List.length_cons, List.length_nil, List.set_cons_zero, List.set_cons_succ, List.getElem?_cons_zero, List.getElem?_cons_succ, am_bd_s]
    refine Eq.trans wl2 ?_
    rw [e173_79]
    simp (disch := first | omega | (simp (disch := omega) only [up_eq, up_ne, si_len, List.length_set]; omega)) only [↓e173_81, ↓e173_83, ↓e173_84, ↓e173_87, ↓e173_88, ↓e173_89, ↓e173_90, ↓e173_138, ↓e173_141, ↓am_ilp, ↓am_iln, ↓am_iep, ↓am_ien, ↓am_zlp, ↓am_zln, ↓am_zep, ↓am_zen, ↓am_zgp, ↓am_zgn, ↓am_zhp, ↓am_zhn, ↓am_b01, true_or, true_and, and_true, or_true, if_true, if_false, ↓am_bdl_z, ↓am_bdl_s, ↓am_bsl_z, ↓am_bsl_s, ↓am_k1_i, ↓am_k1_r, ↓am_k1_e, ↓am_k1_n, ↓am_bd_s, am_k1_t, eq_self, am_nl_i, am_nl_r, am_nl_e, am_nl_n, Option.toList_some, Option.toList_none, Option.map_some, Option.map_none, List.cons_append, List.nil_append, List.length_cons, List.length_nil, List.set_cons_zero, List.set_cons_succ, List.getElem?_cons_zero, List.getElem?_cons_succ, am_bd_s, ↓am_tls, ↓am_tln, ↓mk_oc, ↓ma_r, ↓ma_w, ↓mz_r, ↓mz_w, ↓mr0, ↓mr1, ↓mr2, ↓mr3, ↓mr4, ↓mr5, ↓mr6, ↓mr7, ↓mr8, ↓mr9, ↓mr10, ↓mr11, ↓mr12, ↓mr13, ↓mr14, ↓mr15, ↓mr16, ↓mr17, ↓mr18, ↓mr19, ↓mr20, ↓mr21, ↓mr22, ↓mr23, ↓mr24, ↓mr25, ↓mr26, ↓mr27, ↓mw0, ↓mw1, ↓mw11, ↓mw12, ↓mw13, ↓mw15, ↓mw16, ↓mw17, ↓mw19, ↓mw20, ↓mw22, ↓mw25, up_eq, up_ne, up_up, si_len]
  obtain ⟨⟨b, x9, V2⟩, ⟨e1, e2, c2⟩, wl⟩ := am_loopz (X := List (List Int) × (Option am_V → am_H → Prop)) (α := (Int × Int) × Option am_V × (Nat → List Int)) (W := fun y i b => Wp y.1 173 62 [some (am_r (some 96)), some (am_i one), some (am_i ot), some (am_i t), some (am_i u), some (am_i x), some (am_i b.1.1), some (am_i b.1.2), some (am_i i), b.2.1] [] (mk C S b.2.2) y.2) (I := fun i b => b.1 = (List.range i.toNat).foldl (pl_rs ir (7 - w2).toNat) (0, -9) ∧ (0 ≤ b.1.1 ∧ b.1.1 ≤ 7 * i) ∧ Sc V b.2.2) (lo := 0) (N := 7 - w1) (by
    rintro i ⟨a, x9, V1⟩ i0 i1 ⟨e1, e2, c1⟩
    dsimp only at e1 e2 c1
    obtain ⟨n, rfl⟩ : ∃ n : Nat, i = (n : Int) := ⟨i.toNat, by omega⟩
    rw [Int.toNat_natCast] at e1
    have k101 : V1 101 = V 101 := c1.at (by decide) (by decide)
    have hl : (V1 101).length = 3 := by rw [k101]; exact l101
    have hg : gi (V1 101) one = w1 := by rw [k101, hw1]
    obtain ⟨V2, x9', c2, hb, wi⟩ := inner n (by omega) V1 a x9 c1 e2
    refine ⟨(pl_rs ir (7 - w2).toNat a n, x9', V2), ⟨?_, by dsimp only; omega, c2⟩, fun y => ?_⟩
    · dsimp only
      rw [show ((n : Int) + 1).toNat = n + 1 by omega, List.range_succ, List.foldl_append, ← e1]
      rfl
    · dsimp only
      rw [← wi y.1 y.2, e173_62]
      simp (disch := first | omega | (simp (disch := omega) only [up_eq, up_ne, si_len, List.length_set]; omega)) only [↓e173_64, ↓e173_66, ↓e173_67, ↓e173_70, ↓e173_71, ↓e173_72, ↓e173_73, ↓am_ilp, ↓am_iln, ↓am_iep, ↓am_ien, ↓am_zlp, ↓am_zln, ↓am_zep, ↓am_zen, ↓am_zgp, ↓am_zgn, ↓am_zhp, ↓am_zhn, ↓am_b01, true_or, true_and, and_true, or_true, if_true, if_false, ↓am_bdl_z, ↓am_bdl_s, ↓am_bsl_z, ↓am_bsl_s, ↓am_k1_i, ↓am_k1_r, ↓am_k1_e, ↓am_k1_n, ↓am_bd_s, am_k1_t, eq_self, am_nl_i, am_nl_r, am_nl_e, am_nl_n, Option.toList_some, Option.toList_none, Option.map_some, Option.map_none, List.cons_append, List.nil_append, List.length_cons, List.length_nil, List.set_cons_zero, List.set_cons_succ, List.getElem?_cons_zero, List.getElem?_cons_succ, am_bd_s, ↓am_tls, ↓am_tln, ↓mk_oc, ↓ma_r, ↓ma_w, ↓mz_r, ↓mz_w, ↓mr0, ↓mr1, ↓mr2, ↓mr3, ↓mr4, ↓mr5, ↓mr6, ↓mr7, ↓mr8, ↓mr9, ↓mr10, ↓mr11, ↓mr12, ↓mr13, ↓mr14, ↓mr15, ↓mr16, ↓mr17, ↓mr18, ↓mr19, ↓mr20, ↓mr21, ↓mr22, ↓mr23, ↓mr24, ↓mr25, ↓mr26, ↓mr27, ↓mw0, ↓mw1, ↓mw11, ↓mw12, ↓mw13, ↓mw15, ↓mw16, ↓mw17, ↓mw19, ↓mw20, ↓mw22, ↓mw25, up_eq, up_ne, up_up, si_len]) (7 - w1).toNat 0 ((0, -9), none, V) (by omega) (by omega) ⟨rfl, by dsimp only; omega, Sc.rf l107⟩
  dsimp only at e1 e2 c2 wl
  have k101 : V2 101 = V 101 := c2.at (by decide) (by decide)
  have hl : (V2 101).length = 3 := by rw [k101]; exact l101
  have hg : gi (V2 101) one = w1 := by rw [k101, hw1]
  rw [← e1]
  refine ⟨V2, c2, fun E K => ?_⟩
  have wl2 := wl (E, K)
  dsimp only at wl2
  simp (disch := first | omega | (simp (disch := omega) only [up_eq, up_ne, si_len, List.length_set]; omega)) only [↓e173_0, ↓e173_1, ↓e173_2, ↓e173_5, ↓e173_8, ↓e173_9, ↓e173_10, ↓e173_13, ↓e173_16, ↓e173_17, ↓e173_18, ↓e173_19, ↓e173_20, ↓e173_23, ↓e173_24, ↓e173_27, ↓e173_30, ↓e173_32, ↓e173_35, ↓e173_38, ↓e173_40, ↓e173_41, ↓e173_42, ↓e173_43, ↓e173_46, ↓e173_49, ↓e173_51, ↓e173_52, ↓e173_53, ↓e173_55, ↓e173_57, ↓e173_59, ↓e173_60, ↓am_ilp, ↓am_iln, ↓am_iep, ↓am_ien, ↓am_zlp, ↓am_zln, ↓am_zep, ↓am_zen, ↓am_zgp, ↓am_zgn, ↓am_zhp, ↓am_zhn, ↓am_b01, true_or, true_and, and_true, or_true, if_true, if_false, ↓am_bdl_z, ↓am_bdl_s, ↓am_bsl_z, ↓am_bsl_s, ↓am_k1_i, ↓am_k1_r, ↓am_k1_e, ↓am_k1_n, ↓am_bd_s, am_k1_t, eq_self, am_nl_i, am_nl_r, am_nl_e, am_nl_n, Option.toList_some, Option.toList_none, Option.map_some, Option.map_none, List.cons_append, List.nil_append, List.length_cons, List.length_nil, List.set_cons_zero, List.set_cons_succ, List.getElem?_cons_zero, List.getElem?_cons_succ, am_bd_s, ↓am_tls, ↓am_tln, ↓mk_oc, ↓ma_r, ↓ma_w, ↓mz_r, ↓mz_w, ↓mr0, ↓mr1, ↓mr2, ↓mr3, ↓mr4, ↓mr5, ↓mr6, ↓mr7, ↓mr8, ↓mr9, ↓mr10, ↓mr11, ↓mr12, ↓mr13, ↓mr14, ↓mr15, ↓mr16, ↓mr17, ↓mr18, ↓mr19, ↓mr20, ↓mr21, ↓mr22, ↓mr23, ↓mr24, ↓mr25, ↓mr26, ↓mr27, ↓mw0, ↓mw1, ↓mw11, ↓mw12, ↓mw13, ↓mw15, ↓mw16, ↓mw17, ↓mw19, ↓mw20, ↓mw22, ↓mw25, up_eq, up_ne, up_up, si_len, ↓X10_isSleeper_w mp, ↓X10_isTime_w ht', ↓X10_isTime_w hu', ↓X10_in_w, ↓am_ifb, ↓if_pos q1, ↓if_pos q2, ↓if_pos ht, ↓if_pos hu, ↓if_pos q6]
  refine Eq.trans wl2 ?_
  rw [e173_62]
  by_cases q7 : x = 0
  · rw [if_pos q7]
    simp (disch := first | omega | (simp (disch := omega) only [up_eq, up_ne, si_len, List.length_set]; omega)) only [↓e173_64, ↓e173_66, ↓e173_67, ↓e173_70, ↓e173_71, ↓e173_72, ↓e173_73, ↓e173_144, ↓e173_146, ↓e173_149, ↓e173_151, ↓e173_154, ↓e173_156, ↓am_ilp, ↓am_iln, ↓am_iep, ↓am_ien, ↓am_zlp, ↓am_zln, ↓am_zep, ↓am_zen, ↓am_zgp, ↓am_zgn, ↓am_zhp, ↓am_zhn, ↓am_b01, true_or, true_and, and_true, or_true, if_true, if_false, ↓am_bdl_z, ↓am_bdl_s, ↓am_bsl_z, ↓am_bsl_s, ↓am_k1_i, ↓am_k1_r, ↓am_k1_e, ↓am_k1_n, ↓am_bd_s, am_k1_t, eq_self, am_nl_i, am_nl_r, am_nl_e, am_nl_n, Option.toList_some, Option.toList_none, Option.map_some, Option.map_none, List.cons_append, List.nil_append, List.length_cons, List.length_nil, List.set_cons_zero, List.set_cons_succ, List.getElem?_cons_zero, List.getElem?_cons_succ, am_bd_s, ↓am_tls, ↓am_tln, ↓mk_oc, ↓ma_r, ↓ma_w, ↓mz_r, ↓mz_w, ↓mr0, ↓mr1, ↓mr2, ↓mr3, ↓mr4, ↓mr5, ↓mr6, ↓mr7, ↓mr8, ↓mr9, ↓mr10, ↓mr11, ↓mr12, ↓mr13, ↓mr14, ↓mr15, ↓mr16, ↓mr17, ↓mr18, ↓mr19, ↓mr20, ↓mr21, ↓mr22, ↓mr23, ↓mr24, ↓mr25, ↓mr26, ↓mr27, ↓mw0, ↓mw1, ↓mw11, ↓mw12, ↓mw13, ↓mw15, ↓mw16, ↓mw17, ↓mw19, ↓mw20, ↓mw22, ↓mw25, up_eq, up_ne, up_up, si_len]
  · rw [if_neg q7]
    simp (disch := first | omega | (simp (disch := omega) only [up_eq, up_ne, si_len, List.length_set]; omega)) only [↓e173_64, ↓e173_66, ↓e173_67, ↓e173_70, ↓e173_71, ↓e173_72, ↓e173_73, ↓e173_144, ↓e173_146, ↓e173_149, ↓e173_151, ↓e173_154, ↓e173_156, ↓am_ilp, ↓am_iln, ↓am_iep, ↓am_ien, ↓am_zlp, ↓am_zln, ↓am_zep, ↓am_zen, ↓am_zgp, ↓am_zgn, ↓am_zhp, ↓am_zhn, ↓am_b01, true_or, true_and, and_true, or_true, if_true, if_false, ↓am_bdl_z, ↓am_bdl_s, ↓am_bsl_z, ↓am_bsl_s, ↓am_k1_i, ↓am_k1_r, ↓am_k1_e, ↓am_k1_n, ↓am_bd_s, am_k1_t, eq_self, am_nl_i, am_nl_r, am_nl_e, am_nl_n, Option.toList_some, Option.toList_none, Option.map_some, Option.map_none, List.cons_append, List.nil_append, List.length_cons, List.length_nil, List.set_cons_zero, List.set_cons_succ, List.getElem?_cons_zero, List.getElem?_cons_succ, am_bd_s, ↓am_tls, ↓am_tln, ↓mk_oc, ↓ma_r, ↓ma_w, ↓mz_r, ↓mz_w, ↓mr0, ↓mr1, ↓mr2, ↓mr3, ↓mr4, ↓mr5, ↓mr6, ↓mr7, ↓mr8, ↓mr9, ↓mr10, ↓mr11, ↓mr12, ↓mr13, ↓mr14, ↓mr15, ↓mr16, ↓mr17, ↓mr18, ↓mr19, ↓mr20, ↓mr21, ↓mr22, ↓mr23, ↓mr24, ↓mr25, ↓mr26, ↓mr27, ↓mw0, ↓mw1, ↓mw11, ↓mw12, ↓mw13, ↓mw15, ↓mw16, ↓mw17, ↓mw19, ↓mw20, ↓mw22, ↓mw25, up_eq, up_ne, up_up, si_len]
end MRT
