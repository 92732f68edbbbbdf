/-- one more order is looked at: how many, the first -/
def pl_orS (wk : List Nat → Int) (un : Nat → List Nat) (t : Int) (a : Int × Int) (i : Nat) : Int × Int := if wk (un i) = t then (a.1 + 1, if a.1 = 0 then pl_figs (un i) else a.2) else a
section MOS
variable {C : Nat → am_C} {S : Nat → Int} {V : Nat → List Int} {nb ns : Nat} {L : pl_L}
theorem X10_orders_no {s t u : Int} (mp : MP S V nb ns) (hs : am_w s = s) (h : ¬ (0 ≤ s ∧ s < ns)) (E : List (List Int)) (K : Option am_V → am_H → Prop) : Wp E 158 0 [some (am_r (some 96)), some (am_i s), some (am_i t), some (am_i u), none, none, none] [] (mk C S V) K = K (some (am_i (-1))) (mk C S V) := by
  have q1 : ¬ (0 ≤ am_w s ∧ am_w s < (ns : Int)) := by rw [hs]; exact h
  simp (disch := first | omega | (simp (disch := omega) only [up_eq, up_ne, si_len, List.length_set]; omega)) only [↓e158_0, ↓e158_1, ↓e158_2, ↓e158_5, ↓e158_8, ↓e158_9, ↓am_ilp, ↓am_iln, ↓am_iep, ↓am_ien, ↓am_zlp, ↓am_zln, ↓am_zep, ↓am_zen, ↓am_zgp, ↓am_zgn, ↓am_zhp, ↓am_zhn, ↓am_b01, true_or, true_and, and_true, or_true, if_true, if_false, ↓am_bdl_z, ↓am_bdl_s, ↓am_bsl_z, ↓am_bsl_s, ↓am_k1_i, ↓am_k1_r, ↓am_k1_e, ↓am_k1_n, ↓am_bd_s, am_k1_t, eq_self, am_nl_i, am_nl_r, am_nl_e, am_nl_n, Option.toList_some, Option.toList_none, Option.map_some, Option.map_none, List.cons_append, List.nil_append, List.length_cons, List.length_nil, List.set_cons_zero, List.set_cons_succ, List.getElem?_cons_zero, List.getElem?_cons_succ, am_bd_s, ↓am_tls, ↓am_tln, ↓mk_oc, ↓ma_r, ↓ma_w, ↓mz_r, ↓mz_w, ↓mr0, ↓mr1, ↓mr2, ↓mr3, ↓mr4, ↓mr5, ↓mr6, ↓mr7, ↓mr8, ↓mr9, ↓mr10, ↓mr11, ↓mr12, ↓mr13, ↓mr14, ↓mr15, ↓mr16, ↓mr17, ↓mr18, ↓mr19, ↓mr20, ↓mr21, ↓mr22, ↓mr23, ↓mr24, ↓mr25, ↓mr26, ↓mr27, ↓mw0, ↓mw1, ↓mw11, ↓mw12, ↓mw13, ↓mw15, ↓mw16, ↓mw17, ↓mw19, ↓mw20, ↓mw22, ↓mw25, up_eq, up_ne, up_up, si_len, ↓X10_isSleeper_w mp, ↓am_ifb, ↓if_neg q1]
theorem X10_orders_out {s t u : Int} (mp : MP S V nb ns) (hs : am_w s = s) (h : 0 ≤ s ∧ s < ns) (ht : am_w t = t) (h2 : ¬ (0 ≤ t ∧ t ≤ 10)) (E : List (List Int)) (K : Option am_V → am_H → Prop) : Wp E 158 0 [some (am_r (some 96)), some (am_i s), some (am_i t), some (am_i u), none, none, none] [] (mk C S V) K = K (some (am_i (-2))) (mk C S V) := by
  have q1 : 0 ≤ am_w s ∧ am_w s < (ns : Int) := by rw [hs]; exact h
  simp (disch := first | omega | (simp (disch := omega) only [up_eq, up_ne, si_len, List.length_set]; omega)) only [↓e158_0, ↓e158_1, ↓e158_2, ↓e158_5, ↓e158_8, ↓e158_9, ↓e158_10, ↓e158_11, ↓e158_14, ↓e158_17, ↓e158_19, ↓am_ilp, ↓am_iln, ↓am_iep, ↓am_ien, ↓am_zlp, ↓am_zln, ↓am_zep, ↓am_zen, ↓am_zgp, ↓am_zgn, ↓am_zhp, ↓am_zhn, ↓am_b01, true_or, true_and, and_true, or_true, if_true, if_false, ↓am_bdl_z, ↓am_bdl_s, ↓am_bsl_z, ↓am_bsl_s, ↓am_k1_i, ↓am_k1_r, ↓am_k1_e, ↓am_k1_n, ↓am_bd_s, am_k1_t, eq_self, am_nl_i, am_nl_r, am_nl_e, am_nl_n, Option.toList_some, Option.toList_none, Option.map_some, Option.map_none, List.cons_append, List.nil_append, List.length_cons, List.length_nil, List.set_cons_zero, List.set_cons_succ, List.getElem?_cons_zero, List.getElem?_cons_succ, am_bd_s, ↓am_tls, ↓am_tln, ↓mk_oc, ↓ma_r, ↓ma_w, ↓mz_r, ↓mz_w, ↓mr0, ↓mr1, ↓mr2, ↓mr3, ↓mr4, ↓mr5, ↓mr6, ↓mr7, ↓mr8, ↓mr9, ↓mr10, ↓mr11, ↓mr12, ↓mr13, ↓mr14, ↓mr15, ↓mr16, ↓mr17, ↓mr18, ↓mr19, ↓mr20, ↓mr21, ↓mr22, ↓mr23, ↓mr24, ↓mr25, ↓mr26, ↓mr27, ↓mw0, ↓mw1, ↓mw11, ↓mw12, ↓mw13, ↓mw15, ↓mw16, ↓mw17, ↓mw19, ↓mw20, ↓mw22, ↓mw25, up_eq, up_ne, up_up, si_len, ↓X10_isSleeper_w mp, ↓X10_isTime_w ht, ↓am_ifb, ↓if_pos q1, ↓if_neg h2]
theorem X10_orders_w {s t : Int} {u : Bool} (mp : MP S V nb ns) (ly : Ly (V 102) 0 L) (wf : WfL nb ns (V 101) L) (hs : am_w s = s) (h : 0 ≤ s ∧ s < ns) (ht : am_w t = t) (h2 : 0 ≤ t ∧ t ≤ 10) : ∃ V', Sc V V' ∧ ∀ E K, Wp E 158 0 [some (am_r (some 96)), some (am_i s), some (am_i t), some (am_i (if u = true then 1 else 0)), none, none, none] [] (mk C S V) K = K (some (am_i (if u = true then ((List.range (pl_fct L.1.length)).foldl (pl_orS (fun B => pl_wk (V 97) (V 98) (V 99) (V 100) B (L.2.1.getD s.toNat 0).toNat ((V 101).getD s.toNat 0).toNat) (m_un L.1.length (pl_mask L.1)) t) (0, -9)).2 else ((List.range (pl_fct L.1.length)).foldl (pl_orS (fun B => pl_wk (V 97) (V 98) (V 99) (V 100) B (L.2.1.getD s.toNat 0).toNat ((V 101).getD s.toNat 0).toNat) (m_un L.1.length (pl_mask L.1)) t) (0, -9)).1))) (mk C S V') := by
  obtain ⟨s0, s1, hnb, hns, l97, l98, l99, l100, l101, l102, l107, pv, wv⟩ := id mp
  have q1 : 0 ≤ am_w s ∧ am_w s < (ns : Int) := by rw [hs]; exact h
  have B6 : ∀ x ∈ L.1, x < 6 := fun x hx => by have := wf.1 x hx; omega
  have hm := pl_mask_64 B6
  have hl6 := ly.1
  have hpl := pl_pop_len B6 wf.2.1
  have hf := pl_fct_rng L.1.length
  obtain ⟨ui, hui⟩ : ∃ ui : Int, ui = if u = true then 1 else 0 := ⟨_, rfl⟩
  rw [← hui]
  have u01 : (u = true ∧ ui = 1) ∨ (u = false ∧ ui = 0) := by cases u <;> simp [hui]
  obtain ⟨F, hF⟩ : ∃ F, F = pl_orS (fun B => pl_wk (V 97) (V 98) (V 99) (V 100) B (L.2.1.getD s.toNat 0).toNat ((V 101).getD s.toNat 0).toNat) (m_un L.1.length (pl_mask L.1)) t := ⟨_, rfl⟩
  rw [← hF]
  obtain ⟨V0, c0, l0, w0⟩ := X10_layTrial_w (C := C) mp ly
  obtain ⟨⟨b, V1⟩, ⟨e1, e2, c1, -⟩, wl⟩ := am_loopz (X := List (List Int) × (Option am_V → am_H → Prop)) (α := (Int × Int) × (Nat → List Int)) (W := fun y i b => Wp y.1 158 34 [some (am_r (some 96)), some (am_i s), some (am_i t), some (am_i ui), some (am_i b.1.1), some (am_i b.1.2), some (am_i i)] [] (mk C S b.2) y.2) (I := fun i b => b.1 = (List.range i.toNat).foldl F (0, -9) ∧ (0 ≤ b.1.1 ∧ b.1.1 ≤ i) ∧ Sc V b.2 ∧ ∃ B, B.length = L.1.length ∧ Ly (b.2 102) 14 (B, L.2)) (lo := 0) (N := (pl_fct L.1.length : Int)) (by
    rintro i ⟨⟨b1, b2⟩, V1⟩ i0 i1 ⟨e1, e2, c1, B, hB, l1⟩
    dsimp only at e1 e2 c1 l1
    obtain ⟨n, rfl⟩ : ∃ n : Nat, i = (n : Int) := ⟨i.toNat, by omega⟩
    rw [Int.toNat_natCast] at e1
    have m1 := c1.mp mp
    have y1 := c1.ly ly
    have k101 : V1 101 = V 101 := c1.at (by decide) (by decide)
    have g6 : gi (V1 102) 6 = (L.1.length : Int) := y1.2.1
    have k102 := m1.2.2.2.2.2.2.2.2.2.1
    obtain ⟨V2, c2, l2, w2⟩ := X10_layOrder_w (C := C) (n := n) m1 y1 (by rw [k101]; exact wf) l1 hB (by omega)
    have m2 := c2.mp m1
    have j101 : V2 101 = V 101 := (c2.at (by decide) (by decide)).trans k101
    have mo := m_un_ok (pl_mask L.1) hm n (by rw [hpl]; omega)
    rw [hpl] at mo
    have hmu : ∀ x ∈ m_un L.1.length (pl_mask L.1) n, x < nb := by
      intro x hx
      obtain ⟨a1, a2⟩ := mo.2 x hx
      rw [pl_mask_bit B6 a1] at a2
      exact wf.1 x (of_decide_eq_true a2)
    have wf2 : WfL nb ns (V2 101) (m_un L.1.length (pl_mask L.1) n, L.2) := by rw [j101]; exact ⟨hmu, mo.1, wf.2.2⟩
    obtain ⟨V3, c3, y3, w3⟩ := X10_wakes_s (C := C) (lv := 1) (s := s) m2 l2 (by omega) wf2 h
    rw [c2.at (i := 97) (by decide) (by decide), c2.at (i := 98) (by decide) (by decide), c2.at (i := 99) (by decide) (by decide), c2.at (i := 100) (by decide) (by decide), c1.at (i := 97) (by decide) (by decide), c1.at (i := 98) (by decide) (by decide), c1.at (i := 99) (by decide) (by decide), c1.at (i := 100) (by decide) (by decide), j101] at w3
    have l3 : Ly (V3 102) (14 * 1) (m_un L.1.length (pl_mask L.1) n, L.2) := by rw [y3]; exact l2
    have fw := fun E K => X10_figuresOf_w (E := E) (K := K) (C := C) (lv := 1) (c3.mp m2) l3 (by omega)
    have hr := pl_wk_rng (V := V) pv hmu (L.2.1.getD s.toNat 0).toNat ((V 101).getD s.toNat 0).toNat
    have fac : ∀ E K h, Wp E 155 0 [some (am_i (gi (V1 102) 6)), none, none] [] h K = K (some (am_i (pl_fct L.1.length : Int))) h := by
      intro E K h
      rw [g6, X10_factorial_w (by omega), Int.toNat_natCast]
    have ef : (List.range ((n : Int) + 1).toNat).foldl F (0, -9) = F (b1, b2) n := by rw [show ((n : Int) + 1).toNat = n + 1 by omega, List.range_succ, List.foldl_append, ← e1]; rfl
    have c4 := (c1.trans c2).trans c3
    have hB3 := m_un_len L.1.length (pl_mask L.1) n
    by_cases q : pl_wk (V 97) (V 98) (V 99) (V 100) (m_un L.1.length (pl_mask L.1) n) (L.2.1.getD s.toNat 0).toNat ((V 101).getD s.toNat 0).toNat = t
    · by_cases q0 : b1 = 0
      · refine ⟨((b1 + 1, pl_figs (m_un L.1.length (pl_mask L.1) n)), V3), ⟨?_, by dsimp only; omega, c4, _, hB3, l3⟩, fun y => ?_⟩
        · dsimp only
          rw [ef, hF, pl_orS, if_pos q, if_pos q0]
        · dsimp only
          rw [e158_34]
          simp (disch := first | omega | (simp (disch := omega) only [up_eq, up_ne, si_len, List.length_set]; omega)) only [↓e158_36, ↓e158_37, ↓e158_40, ↓e158_42, ↓e158_43, ↓e158_46, ↓e158_49, ↓e158_50, ↓e158_52, ↓e158_55, ↓e158_56, ↓e158_57, ↓e158_58, ↓e158_61, ↓e158_62, ↓e158_65, ↓e158_67, ↓e158_70, ↓e158_71, ↓e158_72, ↓e158_75, ↓e158_78, ↓e158_80, ↓e158_82, ↓e158_85, ↓e158_88, ↓am_ilp, ↓am_iln, ↓am_iep, ↓am_ien, ↓am_zlp, ↓am_zln, ↓am_zep, ↓am_zen, ↓am_zgp, ↓am_zgn, ↓am_zhp, ↓am_zhn, ↓am_b01, true_or, true_and, and_true, or_true, if_true, if_false, ↓am_bdl_z, ↓am_bdl_s, ↓am_bsl_z, ↓am_bsl_s, ↓am_k1_i, ↓am_k1_r, ↓am_k1_e, ↓am_k1_n, ↓am_bd_s, am_k1_t, eq_self, am_nl_i, am_nl_r, am_nl_e, am_nl_n, Option.toList_some, Option.toList_none, Option.map_some, Option.map_none, List.cons_append, List.nil_append, List.length_cons, List.length_nil, List.set_cons_zero, List.set_cons_succ, List.getElem?_cons_zero, List.getElem?_cons_succ, am_bd_s, ↓am_tls, ↓am_tln, ↓mk_oc, ↓ma_r, ↓ma_w, ↓mz_r, ↓mz_w, ↓mr0, ↓mr1, ↓mr2, ↓mr3, ↓mr4, ↓mr5, ↓mr6, ↓mr7, ↓mr8, ↓mr9, ↓mr10, ↓mr11, ↓mr12, ↓mr13, ↓mr14, ↓mr15, ↓mr16, ↓mr17, ↓mr18, ↓mr19, ↓mr20, ↓mr21, ↓mr22, ↓mr23, ↓mr24, ↓mr25, ↓mr26, ↓mr27, ↓mw0, ↓mw1, ↓mw11, ↓mw12, ↓mw13, ↓mw15, ↓mw16, ↓mw17, ↓mw19, ↓mw20, ↓mw22, ↓mw25, up_eq, up_ne, up_up, si_len, ↓fac, ↓w2, ↓w3, ↓fw]
      · refine ⟨((b1 + 1, b2), V3), ⟨?_, by dsimp only; omega, c4, _, hB3, l3⟩, fun y => ?_⟩
        · dsimp only
          rw [ef, hF, pl_orS, if_pos q, if_neg q0]
        · dsimp only
          rw [e158_34]
          simp (disch := first | omega | (simp (disch := omega) only [up_eq, up_ne, si_len, List.length_set]; omega)) only [↓e158_36, ↓e158_37, ↓e158_40, ↓e158_42, ↓e158_43, ↓e158_46, ↓e158_49, ↓e158_50, ↓e158_52, ↓e158_55, ↓e158_56, ↓e158_57, ↓e158_58, ↓e158_61, ↓e158_62, ↓e158_65, ↓e158_67, ↓e158_70, ↓e158_71, ↓e158_72, ↓e158_75, ↓e158_78, ↓e158_80, ↓e158_82, ↓e158_85, ↓e158_88, ↓am_ilp, ↓am_iln, ↓am_iep, ↓am_ien, ↓am_zlp, ↓am_zln, ↓am_zep, ↓am_zen, ↓am_zgp, ↓am_zgn, ↓am_zhp, ↓am_zhn, ↓am_b01, true_or, true_and, and_true, or_true, if_true, if_false, ↓am_bdl_z, ↓am_bdl_s, ↓am_bsl_z, ↓am_bsl_s, ↓am_k1_i, ↓am_k1_r, ↓am_k1_e, ↓am_k1_n, ↓am_bd_s, am_k1_t, eq_self, am_nl_i, am_nl_r, am_nl_e, am_nl_n, Option.toList_some, Option.toList_none, Option.map_some, Option.map_none, List.cons_append, List.nil_append, List.length_cons, List.length_nil, List.set_cons_zero, List.set_cons_succ, List.getElem?_cons_zero, List.getElem?_cons_succ, am_bd_s, ↓am_tls, ↓am_tln, ↓mk_oc, ↓ma_r, ↓ma_w, ↓mz_r, ↓mz_w, ↓mr0, ↓mr1, ↓mr2, ↓mr3, ↓mr4, ↓mr5, ↓mr6, ↓mr7, ↓mr8, ↓mr9, ↓mr10, ↓mr11, ↓mr12, ↓mr13, ↓mr14, ↓mr15, ↓mr16, ↓mr17, ↓mr18, ↓mr19, ↓mr20, ↓mr21, ↓mr22, ↓mr23, ↓mr24, ↓mr25, ↓mr26, ↓mr27, ↓mw0, ↓mw1, ↓mw11, ↓mw12, ↓mw13, ↓mw15, ↓mw16, ↓mw17, ↓mw19, ↓mw20, ↓mw22, ↓mw25, up_eq, up_ne, up_up, si_len, ↓fac, ↓w2, ↓w3]
    · refine ⟨((b1, b2), V3), ⟨?_, by dsimp only; omega, c4, _, hB3, l3⟩, fun y => ?_⟩
      · dsimp only
        rw [ef, hF, pl_orS, if_neg q]
      · dsimp only
        rw [e158_34]
        simp (disch := first | omega | (simp (disch := omega) only [up_eq, up_ne, si_len, List.length_set]; omega)) only [↓e158_36, ↓e158_37, ↓e158_40, ↓e158_42, ↓e158_43, ↓e158_46, ↓e158_49, ↓e158_50, ↓e158_52, ↓e158_55, ↓e158_56, ↓e158_57, ↓e158_58, ↓e158_61, ↓e158_62, ↓e158_65, ↓e158_67, ↓e158_70, ↓e158_71, ↓e158_72, ↓e158_75, ↓e158_78, ↓e158_80, ↓e158_82, ↓e158_85, ↓e158_88, ↓am_ilp, ↓am_iln, ↓am_iep, ↓am_ien, ↓am_zlp, ↓am_zln, ↓am_zep, ↓am_zen, ↓am_zgp, ↓am_zgn, ↓am_zhp, ↓am_zhn, ↓am_b01, true_or, true_and, and_true, or_true, if_true, if_false, ↓am_bdl_z, ↓am_bdl_s, ↓am_bsl_z, ↓am_bsl_s, ↓am_k1_i, ↓am_k1_r, ↓am_k1_e, ↓am_k1_n, ↓am_bd_s, am_k1_t, eq_self, am_nl_i, am_nl_r, am_nl_e, am_nl_n, Option.toList_some, Option.toList_none, Option.map_some, Option.map_none, List.cons_append, List.nil_append, List.length_cons, List.length_nil, List.set_cons_zero, List.set_cons_succ, List.getElem?_cons_zero, List.getElem?_cons_succ, am_bd_s, ↓am_tls, ↓am_tln, ↓mk_oc, ↓ma_r, ↓ma_w, ↓mz_r, ↓mz_w, ↓mr0, ↓mr1, ↓mr2, ↓mr3, ↓mr4, ↓mr5, ↓mr6, ↓mr7, ↓mr8, ↓mr9, ↓mr10, ↓mr11, ↓mr12, ↓mr13, ↓mr14, ↓mr15, ↓mr16, ↓mr17, ↓mr18, ↓mr19, ↓mr20, ↓mr21, ↓mr22, ↓mr23, ↓mr24, ↓mr25, ↓mr26, ↓mr27, ↓mw0, ↓mw1, ↓mw11, ↓mw12, ↓mw13, ↓mw15, ↓mw16, ↓mw17, ↓mw19, ↓mw20, ↓mw22, ↓mw25, up_eq, up_ne, up_up, si_len, ↓fac, ↓w2, ↓w3]) (pl_fct L.1.length) 0 ((0, -9), V0) (by omega) (by omega) ⟨rfl, by dsimp only; omega, c0, L.1, rfl, l0⟩
  dsimp only at e1 e2 c1 wl
  rw [Int.toNat_natCast] at e1
  have m1 := c1.mp mp
  have y1 := c1.ly ly
  have g6 : gi (V1 102) 6 = (L.1.length : Int) := y1.2.1
  have k102 := m1.2.2.2.2.2.2.2.2.2.1
  have fac : ∀ E K h, Wp E 155 0 [some (am_i (gi (V1 102) 6)), none, none] [] h K = K (some (am_i (pl_fct L.1.length : Int))) h := by
    intro E K h
    rw [g6, X10_factorial_w (by omega), Int.toNat_natCast]
  rw [← e1]
  refine ⟨V1, c1, fun E K => ?_⟩
  have wl2 := wl (E, K)
  dsimp only at wl2
  simp (disch := first | omega | (simp (disch := omega) only [up_eq, up_ne, si_len, List.length_set]; omega)) only [↓e158_0, ↓e158_1, ↓e158_2, ↓e158_5, ↓e158_8, ↓e158_9, ↓e158_10, ↓e158_11, ↓e158_14, ↓e158_17, ↓e158_19, ↓e158_20, ↓e158_21, ↓e158_24, ↓e158_25, ↓e158_27, ↓e158_29, ↓e158_31, ↓e158_32, ↓am_ilp, ↓am_iln, ↓am_iep, ↓am_ien, ↓am_zlp, ↓am_zln, ↓am_zep, ↓am_zen, ↓am_zgp, ↓am_zgn, ↓am_zhp, ↓am_zhn, ↓am_b01, true_or, true_and, and_true, or_true, if_true, if_false, ↓am_bdl_z, ↓am_bdl_s, ↓am_bsl_z, ↓am_bsl_s, ↓am_k1_i, ↓am_k1_r, ↓am_k1_e, ↓am_k1_n, ↓am_bd_s, am_k1_t, eq_self, am_nl_i, am_nl_r, am_nl_e, am_nl_n, Option.toList_some, Option.toList_none, Option.map_some, Option.map_none, List.cons_append, List.nil_append, List.length_cons, List.length_nil, List.set_cons_zero, List.set_cons_succ, List.getElem?_cons_zero, List.getElem?_cons_succ, am_bd_s, ↓am_tls, ↓am_tln, ↓mk_oc, ↓ma_r, ↓ma_w, ↓mz_r, ↓mz_w, ↓mr0, ↓mr1, ↓mr2, ↓mr3, ↓mr4, ↓mr5, ↓mr6, ↓mr7, ↓mr8, ↓mr9, ↓mr10, ↓mr11, ↓mr12, ↓mr13, ↓mr14, ↓mr15, ↓mr16, ↓mr17, ↓mr18, ↓mr19, ↓mr20, ↓mr21, ↓mr22, ↓mr23, ↓mr24, ↓mr25, ↓mr26, ↓mr27, ↓mw0, ↓mw1, ↓mw11, ↓mw12, ↓mw13, ↓mw15, ↓mw16, ↓mw17, ↓mw19, ↓mw20, ↓mw22, ↓mw25, up_eq, up_ne, up_up, si_len, ↓X10_isSleeper_w mp, ↓X10_isTime_w ht, ↓am_ifb, ↓if_pos q1, ↓if_pos h2, ↓w0]
  refine Eq.trans wl2 ?_
  rw [e158_34]
  rcases u01 with ⟨uu, ui1⟩ | ⟨uu, ui1⟩
  · rw [if_pos uu]
    simp (disch := first | omega | (simp (disch := omega) only [up_eq, up_ne, si_len, List.length_set]; omega)) only [↓e158_36, ↓e158_37, ↓e158_40, ↓e158_42, ↓e158_43, ↓e158_46, ↓e158_91, ↓e158_92, ↓e158_95, ↓e158_97, ↓e158_100, ↓e158_102, ↓am_ilp, ↓am_iln, ↓am_iep, ↓am_ien, ↓am_zlp, ↓am_zln, ↓am_zep, ↓am_zen, ↓am_zgp, ↓am_zgn, ↓am_zhp, ↓am_zhn, ↓am_b01, true_or, true_and, and_true, or_true, if_true, if_false, ↓am_bdl_z, ↓am_bdl_s, ↓am_bsl_z, ↓am_bsl_s, ↓am_k1_i, ↓am_k1_r, ↓am_k1_e, ↓am_k1_n, ↓am_bd_s, am_k1_t, eq_self, am_nl_i, am_nl_r, am_nl_e, am_nl_n, Option.toList_some, Option.toList_none, Option.map_some, Option.map_none, List.cons_append, List.nil_append, List.length_cons, List.length_nil, List.set_cons_zero, List.set_cons_succ, List.getElem?_cons_zero, List.getElem?_cons_succ, am_bd_s, ↓am_tls, ↓am_tln, ↓mk_oc, ↓ma_r, ↓ma_w, ↓mz_r, ↓mz_w, ↓mr0, ↓mr1, ↓mr2, ↓mr3, ↓mr4, ↓mr5, ↓mr6, ↓mr7, ↓mr8, ↓mr9, ↓mr10, ↓mr11, ↓mr12, ↓mr13, ↓mr14, ↓mr15, ↓mr16, ↓mr17, ↓mr18, ↓mr19, ↓mr20, ↓mr21, ↓mr22, ↓mr23, ↓mr24, ↓mr25, ↓mr26, ↓mr27, ↓mw0, ↓mw1, ↓mw11, ↓mw12, ↓mw13, ↓mw15, ↓mw16, ↓mw17, ↓mw19, ↓mw20, ↓mw22, ↓mw25, up_eq, up_ne, up_up, si_len, ↓fac]
  · rw [if_neg (by rw [uu]; decide)]
    simp (disch := first | omega | (simp (disch := omega) only [up_eq, up_ne, si_len, List.length_set]; omega)) only [↓e158_36, ↓e158_37, ↓e158_40, ↓e158_42, ↓e158_43, ↓e158_46, ↓e158_91, ↓e158_92, ↓e158_95, ↓e158_97, ↓e158_100, ↓e158_102, ↓am_ilp, ↓am_iln, ↓am_iep, ↓am_ien, ↓am_zlp, ↓am_zln, ↓am_zep, ↓am_zen, ↓am_zgp, ↓am_zgn, ↓am_zhp, ↓am_zhn, ↓am_b01, true_or, true_and, and_true, or_true, if_true, if_false, ↓am_bdl_z, ↓am_bdl_s, ↓am_bsl_z, ↓am_bsl_s, ↓am_k1_i, ↓am_k1_r, ↓am_k1_e, ↓am_k1_n, ↓am_bd_s, am_k1_t, eq_self, am_nl_i, am_nl_r, am_nl_e, am_nl_n, Option.toList_some, Option.toList_none, Option.map_some, Option.map_none, List.cons_append, List.nil_append, List.length_cons, List.length_nil, List.set_cons_zero, List.set_cons_succ, List.getElem?_cons_zero, List.getElem?_cons_succ, am_bd_s, ↓am_tls, ↓am_tln, ↓mk_oc, ↓ma_r, ↓ma_w, ↓mz_r, ↓mz_w, ↓mr0, ↓mr1, ↓mr2, ↓mr3, ↓mr4, ↓mr5, ↓mr6, ↓mr7, ↓mr8, ↓mr9, ↓mr10, ↓mr11, ↓mr12, ↓mr13, ↓mr14, ↓mr15, ↓mr16, ↓mr17, ↓mr18, ↓mr19, ↓mr20, ↓mr21, ↓mr22, ↓mr23, ↓mr24, ↓mr25, ↓mr26, ↓mr27, ↓mw0, ↓mw1, ↓mw11, ↓mw12, ↓mw13, ↓mw15, ↓mw16, ↓mw17, ↓mw19, ↓mw20, ↓mw22, ↓mw25, up_eq, up_ne, up_up, si_len, ↓fac]
end MOS
