/-! the class: places at rest -/
def pl_ab (x : Int) : Int := if 0 ≤ x then x else 0 - x
def pl_los (T : List Int) (w t : Int) : List Int := (List.range 6).map fun f => pl_ab (pl_cm ((T.drop f).take w.toNat) - t)
theorem pl_los_len {T : List Int} {w t : Int} : (pl_los T w t).length = 6 := by simp [pl_los]
theorem pl_los_at {T : List Int} {w t : Int} {i : Int} (h : 0 ≤ i ∧ i < 6) : gi (pl_los T w t) i = pl_ab (pl_cm ((T.drop i.toNat).take w.toNat) - t) := by
  unfold gi pl_los
  rw [List.getD_eq_getElem?_getD, List.getElem?_map, List.getElem?_range (by omega)]
  rfl
theorem pl_ab_rng {x : Int} (h : -10 ≤ x ∧ x ≤ 10) : 0 ≤ pl_ab x ∧ pl_ab x ≤ 10 := by unfold pl_ab; split <;> omega
section RST
variable {h : am_H} {r nb ns : Nat} {B : List Nat} {A Wo tm fr la ce ki wi o1 o2 : List Int} {ni w1 w2 : Int}
theorem X2_weighPlaces_f {one ot : Nat} {t u : Int} (lf : Fix h nb ns fr la ce ki wi tm) (lc : ChanC h o1 o2 w1 w2) (h1 : one < ns) (h2 : ot < ns) (ht : 0 ≤ t ∧ t ≤ 10) (hu : 0 ≤ u ∧ u ≤ 10) : ∃ h', (∀ E K, Wp E 22 0 [some (am_r (some 14)), some (am_i (one : Int)), some (am_i t), some (am_i (ot : Int)), some (am_i u), none] [] h K = K none h') ∧ ChanC h' (pl_los tm (wi.getD one 0) t) (pl_los tm (wi.getD ot 0) u) (wi.getD one 0) (wi.getD ot 0) ∧ Fr h h' 14 3 := by
  have h3 : ns ≤ 3 := lf.1.2.2.2.2.2.2.2.2.2.2.2.2
  have lw : wi.length = 3 := lf.1.2.2.2.2.2.2.2.2.2.2.1
  have y1 := lf.2.2.2.2.2.2 one h1
  have y2 := lf.2.2.2.2.2.2 ot h2
  obtain ⟨c0, c1, c2, c3, c4⟩ := lc
  have lt14 := am_lt c0
  have lt15 := am_lt c1
  have lt16 := am_lt c2
  obtain ⟨v1, hv1⟩ : ∃ v1, v1 = wi.getD one 0 := ⟨_, rfl⟩
  obtain ⟨v2, hv2⟩ : ∃ v2, v2 = wi.getD ot 0 := ⟨_, rfl⟩
  rw [← hv1] at y1 ⊢
  rw [← hv2] at y2 ⊢
  obtain ⟨g, hg⟩ : ∃ g, g = h.set 14 (am_o 2 [am_r (some 3), am_r (some 9), am_r (some 15), am_r (some 16), am_i v1, am_i v2]) := ⟨_, rfl⟩
  have fg : Fr h g 14 1 := by rw [hg]; exact Fr.rf.set (by omega) (by omega)
  have lg := lf.fr fg (by omega)
  have g0 : g[14]? = some (am_o 2 [am_r (some 3), am_r (some 9), am_r (some 15), am_r (some 16), am_i v1, am_i v2]) := by rw [hg]; exact am_set_at c0
  have g1 : g[15]? = some (am_a 0 o1) := by rw [hg, am_set_ne (by omega)]; exact c1
  have g2 : g[16]? = some (am_a 0 o2) := by rw [hg, am_set_ne (by omega)]; exact c2
  have gl : g.length = h.length := fg.1
  have lo := fun (E : List (List Int)) (K : Option am_V → am_H → Prop) => am_foldz (W := fun i (a : List Int × List Int) => Wp E 22 29 [some (am_r (some 14)), some (am_i (one : Int)), some (am_i t), some (am_i (ot : Int)), some (am_i u), some (am_i i)] [] ((g.set 16 (am_a 0 a.2)).set 15 (am_a 0 a.1)) K) (f := fun a i => (si a.1 i (pl_ab (pl_cm ((tm.drop i.toNat).take v1.toNat) - t)), si a.2 i (pl_ab (pl_cm ((tm.drop i.toNat).take v2.toNat) - u)))) (I := fun _ a => a.1.length = 6 ∧ a.2.length = 6) (lo := 0) (N := 6) (by
    rintro i ⟨a1, a2⟩ i0 i1 ⟨z1, z2⟩
    dsimp only at z1 z2 ⊢
    refine ⟨⟨by rw [si_len]; exact z1, by rw [si_len]; exact z2⟩, ?_⟩
    obtain ⟨g3, hg3⟩ : ∃ g3, g3 = (g.set 16 (am_a 0 a2)).set 15 (am_a 0 a1) := ⟨_, rfl⟩
    have f3 : Fr g g3 15 2 := by rw [hg3]; exact (Fr.rf.set (by omega) (by omega)).set (by omega) (by omega)
    have lg3 := lg.fr f3 (by omega)
    have k0 : g3[14]? = some (am_o 2 [am_r (some 3), am_r (some 9), am_r (some 15), am_r (some 16), am_i v1, am_i v2]) := by rw [f3.2 _ (by omega)]; exact g0
    have k1 : g3[15]? = some (am_a 0 a1) := by rw [hg3]; exact am_set_at (y := am_a 0 o1) (by rw [am_set_ne (by omega)]; exact g1)
    have hr1 := pl_win_rng lf.2.2.2.2.1 i.toNat v1.toNat
    have hr2 := pl_win_rng lf.2.2.2.2.1 i.toNat v2.toNat
    obtain ⟨b1, hb1⟩ : ∃ b1, b1 = si a1 i (pl_ab (pl_cm ((tm.drop i.toNat).take v1.toNat) - t)) := ⟨_, rfl⟩
    obtain ⟨g4, hg4⟩ : ∃ g4, g4 = g3.set 15 (am_a 0 b1) := ⟨_, rfl⟩
    have f4 : Fr g3 g4 15 1 := by rw [hg4]; exact Fr.rf.set (by omega) (by omega)
    have lg4 := lg3.fr f4 (by omega)
    have m0 : g4[14]? = some (am_o 2 [am_r (some 3), am_r (some 9), am_r (some 15), am_r (some 16), am_i v1, am_i v2]) := by rw [f4.2 _ (by omega)]; exact k0
    have m2 : g4[16]? = some (am_a 0 a2) := by rw [f4.2 _ (by omega), hg3, am_set_ne (by omega)]; exact am_set_at g2
    have cw1 := fun E K => X1_commonest_n (E := E) (K := K) (f := i) (w := v1) lg3.2.1.2.1 lg3.2.1.2.2 lg3.2.2.2.2.1 (by omega) (by omega)
    have cw2 := fun E K => X1_commonest_n (E := E) (K := K) (f := i) (w := v2) lg4.2.1.2.1 lg4.2.1.2.2 lg4.2.2.2.2.1 (by omega) (by omega)
    have ea1 : (if 0 ≤ am_w (pl_cm ((tm.drop i.toNat).take v1.toNat) - t) then pl_cm ((tm.drop i.toNat).take v1.toNat) - t else 0 - (pl_cm ((tm.drop i.toNat).take v1.toNat) - t)) = pl_ab (pl_cm ((tm.drop i.toNat).take v1.toNat) - t) := by rw [am_w_id (by omega) (by omega)]; rfl
    have ea2 : (if 0 ≤ am_w (pl_cm ((tm.drop i.toNat).take v2.toNat) - u) then pl_cm ((tm.drop i.toNat).take v2.toNat) - u else 0 - (pl_cm ((tm.drop i.toNat).take v2.toNat) - u)) = pl_ab (pl_cm ((tm.drop i.toNat).take v2.toNat) - u) := by rw [am_w_id (by omega) (by omega)]; rfl
    have s1 : Wp E 22 29 [some (am_r (some 14)), some (am_i (one : Int)), some (am_i t), some (am_i (ot : Int)), some (am_i u), some (am_i i)] [] g3 K = Wp E 22 63 [some (am_r (some 14)), some (am_i (one : Int)), some (am_i t), some (am_i (ot : Int)), some (am_i u), some (am_i i)] [am_i (pl_ab (pl_cm ((tm.drop i.toNat).take v1.toNat) - t)), am_i i, am_r (some 15)] g3 K := by
      rw [e22_29, ← ea1]
      simp (disch := first | omega | (simp only [List.length_set]; omega) | rfl) only [↓e22_31, ↓e22_33, ↓e22_36, ↓e22_37, ↓e22_40, ↓e22_42, ↓e22_43, ↓e22_46, ↓e22_49, ↓e22_51, ↓e22_52, ↓e22_55, ↓e22_58, ↓e22_59, ↓e22_60, ↓am_ilp, ↓am_iln, ↓am_iep, ↓am_ien, ↓am_zlp, ↓am_zln, ↓am_zep, ↓am_zen, ↓am_zgp, ↓am_zgn, ↓am_zhp, ↓am_zhn, ↓am_b01, true_or, true_and, and_true, or_true, if_true, if_false, ↓am_bdl_z, ↓am_bdl_s, ↓am_bsl_z, ↓am_bsl_s, ↓am_k1_i, ↓am_k1_r, ↓am_k1_e, ↓am_k1_n, ↓am_bd_s, am_k1_t, eq_self, am_nl_i, am_nl_r, am_nl_e, am_nl_n, Option.toList_some, Option.toList_none, Option.map_some, Option.map_none, List.cons_append, List.nil_append, List.length_cons, List.length_nil, List.set_cons_zero, List.set_cons_succ, List.getElem?_cons_zero, List.getElem?_cons_succ, am_bd_s, ↓am_tls, ↓am_bdf k0, am_bdf k0, ↓am_bfu k0, am_bfu k0, ↓am_oc_of k0, am_oc_of k0, ↓am_bdf lg3.2.1.1, am_bdf lg3.2.1.1, ↓am_bfu lg3.2.1.1, am_bfu lg3.2.1.1, ↓am_oc_of lg3.2.1.1, am_oc_of lg3.2.1.1, ↓cw1]
    have s2 : Wp E 22 63 [some (am_r (some 14)), some (am_i (one : Int)), some (am_i t), some (am_i (ot : Int)), some (am_i u), some (am_i i)] [am_i (pl_ab (pl_cm ((tm.drop i.toNat).take v1.toNat) - t)), am_i i, am_r (some 15)] g3 K = Wp E 22 64 [some (am_r (some 14)), some (am_i (one : Int)), some (am_i t), some (am_i (ot : Int)), some (am_i u), some (am_i i)] [] g4 K := by
      rw [e22_63, am_bwa k1 (by omega) (by omega) (by omega), hg4, hb1]
      rfl
    have s3 : Wp E 22 64 [some (am_r (some 14)), some (am_i (one : Int)), some (am_i t), some (am_i (ot : Int)), some (am_i u), some (am_i i)] [] g4 K = Wp E 22 92 [some (am_r (some 14)), some (am_i (one : Int)), some (am_i t), some (am_i (ot : Int)), some (am_i u), some (am_i i)] [am_i (pl_ab (pl_cm ((tm.drop i.toNat).take v2.toNat) - u)), am_i i, am_r (some 16)] g4 K := by
      rw [← ea2]
      simp (disch := first | omega | (simp only [List.length_set]; omega) | rfl) only [↓e22_64, ↓e22_65, ↓e22_68, ↓e22_70, ↓e22_71, ↓e22_74, ↓e22_77, ↓e22_79, ↓e22_80, ↓e22_83, ↓e22_86, ↓e22_88, ↓e22_89, ↓am_ilp, ↓am_iln, ↓am_iep, ↓am_ien, ↓am_zlp, ↓am_zln, ↓am_zep, ↓am_zen, ↓am_zgp, ↓am_zgn, ↓am_zhp, ↓am_zhn, ↓am_b01, true_or, true_and, and_true, or_true, if_true, if_false, ↓am_bdl_z, ↓am_bdl_s, ↓am_bsl_z, ↓am_bsl_s, ↓am_k1_i, ↓am_k1_r, ↓am_k1_e, ↓am_k1_n, ↓am_bd_s, am_k1_t, eq_self, am_nl_i, am_nl_r, am_nl_e, am_nl_n, Option.toList_some, Option.toList_none, Option.map_some, Option.map_none, List.cons_append, List.nil_append, List.length_cons, List.length_nil, List.set_cons_zero, List.set_cons_succ, List.getElem?_cons_zero, List.getElem?_cons_succ, am_bd_s, ↓am_tls, ↓am_bdf m0, am_bdf m0, ↓am_bfu m0, am_bfu m0, ↓am_oc_of m0, am_oc_of m0, ↓am_bdf lg4.2.1.1, am_bdf lg4.2.1.1, ↓am_bfu lg4.2.1.1, am_bfu lg4.2.1.1, ↓am_oc_of lg4.2.1.1, am_oc_of lg4.2.1.1, ↓cw2]
    have hfin : g4.set 16 (am_a 0 (a2.set i.toNat (pl_ab (pl_cm ((tm.drop i.toNat).take v2.toNat) - u)))) = (g.set 16 (am_a 0 (si a2 i (pl_ab (pl_cm ((tm.drop i.toNat).take v2.toNat) - u))))).set 15 (am_a 0 b1) := by
      rw [hg4, hg3, List.set_set, am_set_sw (show (16 : Nat) ≠ 15 by decide)]
      rfl
    rw [← hg3, s1, s2, s3, e22_92, am_bwa m2 (by omega) (by omega) (by omega), hfin, hb1]
    simp (disch := first | omega | (simp only [List.length_set]; omega) | rfl) only [↓e22_93, ↓e22_96, ↓am_ilp, ↓am_iln, ↓am_iep, ↓am_ien, ↓am_zlp, ↓am_zln, ↓am_zep, ↓am_zen, ↓am_zgp, ↓am_zgn, ↓am_zhp, ↓am_zhn, ↓am_b01, true_or, true_and, and_true, or_true, if_true, if_false, ↓am_bdl_z, ↓am_bdl_s, ↓am_bsl_z, ↓am_bsl_s, ↓am_k1_i, ↓am_k1_r, ↓am_k1_e, ↓am_k1_n, ↓am_bd_s, am_k1_t, eq_self, am_nl_i, am_nl_r, am_nl_e, am_nl_n, Option.toList_some, Option.toList_none, Option.map_some, Option.map_none, List.cons_append, List.nil_append, List.length_cons, List.length_nil, List.set_cons_zero, List.set_cons_succ, List.getElem?_cons_zero, List.getElem?_cons_succ, am_bd_s]) 6 0 (o1, o2) (by omega) (by omega) ⟨c3, c4⟩
  have ei : (g.set 16 (am_a 0 o2)).set 15 (am_a 0 o1) = g := by
    rw [am_set_same g2, am_set_same g1]
  rw [ei] at lo
  have ev : ∀ (x1 x2 : List Int), x1.length = 6 → x2.length = 6 → pl_fz (fun (a : List Int × List Int) i => (si a.1 i (pl_ab (pl_cm ((tm.drop i.toNat).take v1.toNat) - t)), si a.2 i (pl_ab (pl_cm ((tm.drop i.toNat).take v2.toNat) - u)))) 0 6 (x1, x2) = (pl_los tm v1 t, pl_los tm v2 u) := by
    intro x1 x2 e1 e2
    match x1, x2, e1, e2 with
    | [a0, a1, a2, a3, a4, a5], [b0, b1, b2, b3, b4, b5], _, _ => rfl
  rw [ev o1 o2 c3 c4] at lo
  dsimp only at lo
  refine ⟨(g.set 16 (am_a 0 (pl_los tm v2 u))).set 15 (am_a 0 (pl_los tm v1 t)), fun E K => ?_, ⟨by rw [am_set_ne (by omega), am_set_ne (by omega)]; exact g0, am_set_at (y := am_a 0 o1) (by rw [am_set_ne (by omega)]; exact g1), by rw [am_set_ne (by omega)]; exact am_set_at g2, pl_los_len, pl_los_len⟩, ?_⟩
  · have st : Wp E 22 0 [some (am_r (some 14)), some (am_i (one : Int)), some (am_i t), some (am_i (ot : Int)), some (am_i u), none] [] h K = Wp E 22 29 [some (am_r (some 14)), some (am_i (one : Int)), some (am_i t), some (am_i (ot : Int)), some (am_i u), some (am_i 0)] [] g K := by
      rw [hg, hv1, hv2]
      simp (disch := first | omega | (simp only [List.length_set]; omega) | rfl) only [↓e22_0, ↓e22_1, ↓e22_2, ↓e22_5, ↓e22_8, ↓e22_9, ↓e22_10, ↓e22_13, ↓e22_14, ↓e22_15, ↓e22_18, ↓e22_21, ↓e22_22, ↓e22_23, ↓e22_26, ↓e22_27, ↓am_ilp, ↓am_iln, ↓am_iep, ↓am_ien, ↓am_zlp, ↓am_zln, ↓am_zep, ↓am_zen, ↓am_zgp, ↓am_zgn, ↓am_zhp, ↓am_zhn, ↓am_b01, true_or, true_and, and_true, or_true, if_true, if_false, ↓am_bdl_z, ↓am_bdl_s, ↓am_bsl_z, ↓am_bsl_s, ↓am_k1_i, ↓am_k1_r, ↓am_k1_e, ↓am_k1_n, ↓am_bd_s, am_k1_t, eq_self, am_nl_i, am_nl_r, am_nl_e, am_nl_n, Option.toList_some, Option.toList_none, Option.map_some, Option.map_none, List.cons_append, List.nil_append, List.length_cons, List.length_nil, List.set_cons_zero, List.set_cons_succ, List.getElem?_cons_zero, List.getElem?_cons_succ, am_bd_s, ↓am_sra_ne, am_sra_ne, ↓am_sra_eq, am_sra_eq, ↓am_sfd_ne, am_sfd_ne, ↓am_sfd_eq, am_sfd_eq, ↓am_soc_ne, am_soc_ne, ↓am_soc_eq, am_soc_eq, ↓am_swa_ne, am_swa_ne, ↓am_swa_eq, am_swa_eq, ↓am_sfu_ne, am_sfu_ne, ↓am_sfu_eq, am_sfu_eq, List.length_set, ↓am_bdf c0, am_bdf c0, ↓am_bfu c0, am_bfu c0, ↓am_oc_of c0, am_oc_of c0, ↓am_bdf lf.1.1, am_bdf lf.1.1, ↓am_bfu lf.1.1, am_bfu lf.1.1, ↓am_oc_of lf.1.1, am_oc_of lf.1.1, ↓am_brn lf.1.2.2.2.2.2.1, am_brn lf.1.2.2.2.2.2.1, ↓am_bwn lf.1.2.2.2.2.2.1, am_bwn lf.1.2.2.2.2.2.1]
    rw [st]
    refine Eq.trans (lo E K).1 ?_
    rw [e22_29]
    simp (disch := first | omega | (simp only [List.length_set]; omega) | rfl) only [↓e22_31, ↓e22_33, ↓e22_99, ↓am_ilp, ↓am_iln, ↓am_iep, ↓am_ien, ↓am_zlp, ↓am_zln, ↓am_zep, ↓am_zen, ↓am_zgp, ↓am_zgn, ↓am_zhp, ↓am_zhn, ↓am_b01, true_or, true_and, and_true, or_true, if_true, if_false, ↓am_bdl_z, ↓am_bdl_s, ↓am_bsl_z, ↓am_bsl_s, ↓am_k1_i, ↓am_k1_r, ↓am_k1_e, ↓am_k1_n, ↓am_bd_s, am_k1_t, eq_self, am_nl_i, am_nl_r, am_nl_e, am_nl_n, Option.toList_some, Option.toList_none, Option.map_some, Option.map_none, List.cons_append, List.nil_append, List.length_cons, List.length_nil, List.set_cons_zero, List.set_cons_succ, List.getElem?_cons_zero, List.getElem?_cons_succ, am_bd_s]
  · exact ((fg.wide (by omega) (by omega)).set (by omega) (by omega)).set (by omega) (by omega)
theorem X2_lostBySharing_w {E : List (List Int)} {K : Option am_V → am_H → Prop} {p q : Int} (lc : ChanC h o1 o2 w1 w2) (hp : 0 ≤ p ∧ p ≤ 6) (hq : 0 ≤ q ∧ q ≤ 6) (h1 : 1 ≤ w1 ∧ w1 ≤ 3) (h2 : 1 ≤ w2 ∧ w2 ≤ 3) : Wp E 26 0 [some (am_r (some 14)), some (am_i p), some (am_i q)] [] h K = K (some (am_i (if p < q + w2 ∧ q < p + w1 then 5 else 0))) h := by
  by_cases q1 : p < q + w2
  · by_cases q2 : q < p + w1
    · rw [if_pos ⟨q1, q2⟩]
      simp (disch := first | omega | (simp only [List.length_set]; omega) | rfl) only [↓e26_0, ↓e26_1, ↓e26_2, ↓e26_3, ↓e26_6, ↓e26_7, ↓e26_10, ↓e26_11, ↓e26_12, ↓e26_13, ↓e26_16, ↓e26_17, ↓e26_20, ↓e26_21, ↓e26_24, ↓e26_25, ↓am_ilp, ↓am_iln, ↓am_iep, ↓am_ien, ↓am_zlp, ↓am_zln, ↓am_zep, ↓am_zen, ↓am_zgp, ↓am_zgn, ↓am_zhp, ↓am_zhn, ↓am_b01, true_or, true_and, and_true, or_true, if_true, if_false, ↓am_bdl_z, ↓am_bdl_s, ↓am_bsl_z, ↓am_bsl_s, ↓am_k1_i, ↓am_k1_r, ↓am_k1_e, ↓am_k1_n, ↓am_bd_s, am_k1_t, eq_self, am_nl_i, am_nl_r, am_nl_e, am_nl_n, Option.toList_some, Option.toList_none, Option.map_some, Option.map_none, List.cons_append, List.nil_append, List.length_cons, List.length_nil, List.set_cons_zero, List.set_cons_succ, List.getElem?_cons_zero, List.getElem?_cons_succ, am_bd_s, ↓am_bdf lc.1, am_bdf lc.1, ↓am_bfu lc.1, am_bfu lc.1, ↓am_oc_of lc.1, am_oc_of lc.1]
    · rw [if_neg (fun z => q2 z.2)]
      simp (disch := first | omega | (simp only [List.length_set]; omega) | rfl) only [↓e26_0, ↓e26_1, ↓e26_2, ↓e26_3, ↓e26_6, ↓e26_7, ↓e26_10, ↓e26_11, ↓e26_12, ↓e26_13, ↓e26_16, ↓e26_17, ↓e26_20, ↓e26_21, ↓e26_24, ↓e26_25, ↓am_ilp, ↓am_iln, ↓am_iep, ↓am_ien, ↓am_zlp, ↓am_zln, ↓am_zep, ↓am_zen, ↓am_zgp, ↓am_zgn, ↓am_zhp, ↓am_zhn, ↓am_b01, true_or, true_and, and_true, or_true, if_true, if_false, ↓am_bdl_z, ↓am_bdl_s, ↓am_bsl_z, ↓am_bsl_s, ↓am_k1_i, ↓am_k1_r, ↓am_k1_e, ↓am_k1_n, ↓am_bd_s, am_k1_t, eq_self, am_nl_i, am_nl_r, am_nl_e, am_nl_n, Option.toList_some, Option.toList_none, Option.map_some, Option.map_none, List.cons_append, List.nil_append, List.length_cons, List.length_nil, List.set_cons_zero, List.set_cons_succ, List.getElem?_cons_zero, List.getElem?_cons_succ, am_bd_s, ↓am_bdf lc.1, am_bdf lc.1, ↓am_bfu lc.1, am_bfu lc.1, ↓am_oc_of lc.1, am_oc_of lc.1]
  · rw [if_neg (fun z => q1 z.1)]
    simp (disch := first | omega | (simp only [List.length_set]; omega) | rfl) only [↓e26_0, ↓e26_1, ↓e26_2, ↓e26_3, ↓e26_6, ↓e26_7, ↓e26_10, ↓e26_11, ↓e26_12, ↓e26_13, ↓e26_16, ↓e26_17, ↓e26_20, ↓e26_21, ↓e26_24, ↓e26_25, ↓am_ilp, ↓am_iln, ↓am_iep, ↓am_ien, ↓am_zlp, ↓am_zln, ↓am_zep, ↓am_zen, ↓am_zgp, ↓am_zgn, ↓am_zhp, ↓am_zhn, ↓am_b01, true_or, true_and, and_true, or_true, if_true, if_false, ↓am_bdl_z, ↓am_bdl_s, ↓am_bsl_z, ↓am_bsl_s, ↓am_k1_i, ↓am_k1_r, ↓am_k1_e, ↓am_k1_n, ↓am_bd_s, am_k1_t, eq_self, am_nl_i, am_nl_r, am_nl_e, am_nl_n, Option.toList_some, Option.toList_none, Option.map_some, Option.map_none, List.cons_append, List.nil_append, List.length_cons, List.length_nil, List.set_cons_zero, List.set_cons_succ, List.getElem?_cons_zero, List.getElem?_cons_succ, am_bd_s, ↓am_bdf lc.1, am_bdf lc.1, ↓am_bfu lc.1, am_bfu lc.1, ↓am_oc_of lc.1, am_oc_of lc.1]
theorem pl_all' {p : Nat → Bool} {i n : Nat} : (List.range' i (n + 1)).all p = (p i && (List.range' (i + 1) n).all p) := by
  rw [List.range'_succ, List.all_cons]
theorem X2_isRest_w {E : List (List Int)} {K : Option am_V → am_H → Prop} {p q : Nat} {f1 f2 : Int → Int → Int} (lc : ChanC h o1 o2 w1 w2) (h1 : 1 ≤ w1 ∧ w1 ≤ 3) (h2 : 1 ≤ w2 ∧ w2 ≤ 3) (hp : (p : Int) + w1 ≤ 6) (hq : (q : Int) + w2 ≤ 6) (r1 : ∀ i : Int, 0 ≤ i → i < 6 → 0 ≤ gi o1 i ∧ gi o1 i ≤ 10) (r2 : ∀ i : Int, 0 ≤ i → i < 6 → 0 ≤ gi o2 i ∧ gi o2 i ≤ 10) (e1 : ∀ k e : Int, 0 ≤ k → k + w1 ≤ 6 → gi o1 k + (if k < e + w2 ∧ e < k + w1 then 5 else 0) = f1 k e) (e2 : ∀ k e : Int, 0 ≤ k → k + w2 ≤ 6 → gi o2 k + (if e < k + w2 ∧ k < e + w1 then 5 else 0) = f2 k e) : Wp E 25 0 [some (am_r (some 14)), some (am_i (p : Int)), some (am_i (q : Int)), none, none] [] h K = K (some (am_i (pl_b (pl_ir f1 f2 (7 - w1).toNat (7 - w2).toNat (p : Int) (q : Int) = true)))) h := by
  obtain ⟨c0, c1, c2, c3, c4⟩ := id lc
  obtain ⟨sh, hsh⟩ : ∃ sh : Int, sh = if (p : Int) < (q : Int) + w2 ∧ (q : Int) < (p : Int) + w1 then 5 else 0 := ⟨_, rfl⟩
  have hs5 : 0 ≤ sh ∧ sh ≤ 5 := by rw [hsh]; split <;> omega
  have ep1 := e1 (p : Int) (q : Int) (by omega) hp
  have ep2 := e2 (q : Int) (p : Int) (by omega) hq
  rw [← hsh] at ep1 ep2
  have rp := r1 (p : Int) (by omega) (by omega)
  have rq := r2 (q : Int) (by omega) (by omega)
  have lw0 := fun E K => X2_lostBySharing_w (E := E) (K := K) (p := (p : Int)) (q := (q : Int)) lc (by omega) (by omega) h1 h2
  rw [← hsh] at lw0
  have second : ∀ (n i : Nat), (i : Int) + n = 7 - w2 → Wp E 25 59 [some (am_r (some 14)), some (am_i (p : Int)), some (am_i (q : Int)), some (am_i sh), some (am_i (i : Int))] [] h K = K (some (am_i (pl_b ((List.range' i n).all (fun k => decide (f2 (q : Int) (p : Int) ≤ f2 (k : Int) (p : Int))) = true)))) h := by
    intro n
    induction n with
    | zero =>
      intro i hi
      rw [e25_59, List.range'_zero, List.all_nil, pl_b, if_pos rfl]
      simp (disch := first | omega | (simp only [List.length_set]; omega) | rfl) only [↓e25_61, ↓e25_62, ↓e25_65, ↓e25_66, ↓e25_68, ↓e25_105, ↓e25_106, ↓am_ilp, ↓am_iln, ↓am_iep, ↓am_ien, ↓am_zlp, ↓am_zln, ↓am_zep, ↓am_zen, ↓am_zgp, ↓am_zgn, ↓am_zhp, ↓am_zhn, ↓am_b01, true_or, true_and, and_true, or_true, if_true, if_false, ↓am_bdl_z, ↓am_bdl_s, ↓am_bsl_z, ↓am_bsl_s, ↓am_k1_i, ↓am_k1_r, ↓am_k1_e, ↓am_k1_n, ↓am_bd_s, am_k1_t, eq_self, am_nl_i, am_nl_r, am_nl_e, am_nl_n, Option.toList_some, Option.toList_none, Option.map_some, Option.map_none, List.cons_append, List.nil_append, List.length_cons, List.length_nil, List.set_cons_zero, List.set_cons_succ, List.getElem?_cons_zero, List.getElem?_cons_succ, am_bd_s, ↓am_bdf c0, am_bdf c0, ↓am_bfu c0, am_bfu c0, ↓am_oc_of c0, am_oc_of c0]
    | succ n ih =>
      intro i hi
      have ih2 := ih (i + 1) (by omega)
      have ek := e2 (i : Int) (p : Int) (by omega) (by omega)
      have rk := r2 (i : Int) (by omega) (by omega)
      have lw := fun E K => X2_lostBySharing_w (E := E) (K := K) (p := (p : Int)) (q := (i : Int)) lc (by omega) (by omega) h1 h2
      obtain ⟨sk, hsk⟩ : ∃ sk : Int, sk = if (p : Int) < (i : Int) + w2 ∧ (i : Int) < (p : Int) + w1 then 5 else 0 := ⟨_, rfl⟩
      have hk5 : 0 ≤ sk ∧ sk ≤ 5 := by rw [hsk]; split <;> omega
      rw [← hsk] at ek lw
      have gq : gi o2 (q : Int) = o2.getD q 0 := rfl
      have gk : gi o2 (i : Int) = o2.getD i 0 := rfl
      rw [pl_all', e25_59]
      by_cases qq : f2 (i : Int) (p : Int) < f2 (q : Int) (p : Int)
      · rw [pl_b, if_neg (by rw [Bool.and_eq_true]; intro z; have := of_decide_eq_true z.1; omega)]
        simp (disch := first | omega | (simp only [List.length_set]; omega) | rfl) only [↓e25_61, ↓e25_62, ↓e25_65, ↓e25_66, ↓e25_68, ↓e25_71, ↓e25_72, ↓e25_75, ↓e25_77, ↓e25_78, ↓e25_79, ↓e25_80, ↓e25_82, ↓e25_85, ↓e25_86, ↓e25_87, ↓e25_90, ↓e25_91, ↓e25_92, ↓e25_93, ↓e25_94, ↓e25_97, ↓e25_98, ↓e25_99, ↓e25_102, ↓am_ilp, ↓am_iln, ↓am_iep, ↓am_ien, ↓am_zlp, ↓am_zln, ↓am_zep, ↓am_zen, ↓am_zgp, ↓am_zgn, ↓am_zhp, ↓am_zhn, ↓am_b01, true_or, true_and, and_true, or_true, if_true, if_false, ↓am_bdl_z, ↓am_bdl_s, ↓am_bsl_z, ↓am_bsl_s, ↓am_k1_i, ↓am_k1_r, ↓am_k1_e, ↓am_k1_n, ↓am_bd_s, am_k1_t, eq_self, am_nl_i, am_nl_r, am_nl_e, am_nl_n, Option.toList_some, Option.toList_none, Option.map_some, Option.map_none, List.cons_append, List.nil_append, List.length_cons, List.length_nil, List.set_cons_zero, List.set_cons_succ, List.getElem?_cons_zero, List.getElem?_cons_succ, am_bd_s, ↓am_tls, ↓am_bdf c0, am_bdf c0, ↓am_bfu c0, am_bfu c0, ↓am_oc_of c0, am_oc_of c0, ↓am_brn c2, am_brn c2, ↓am_bwn c2, am_bwn c2, ↓lw]
      · rw [pl_ba (show ((decide (f2 (q : Int) (p : Int) ≤ f2 (i : Int) (p : Int)) && (List.range' (i + 1) n).all (fun k => decide (f2 (q : Int) (p : Int) ≤ f2 (k : Int) (p : Int)))) = true) ↔ ((List.range' (i + 1) n).all (fun k => decide (f2 (q : Int) (p : Int) ≤ f2 (k : Int) (p : Int))) = true) by rw [decide_eq_true (by omega), Bool.true_and]), ← ih2]
        simp (disch := first | omega | (simp only [List.length_set]; omega) | rfl) only [↓e25_61, ↓e25_62, ↓e25_65, ↓e25_66, ↓e25_68, ↓e25_71, ↓e25_72, ↓e25_75, ↓e25_77, ↓e25_78, ↓e25_79, ↓e25_80, ↓e25_82, ↓e25_85, ↓e25_86, ↓e25_87, ↓e25_90, ↓e25_91, ↓e25_92, ↓e25_93, ↓e25_94, ↓e25_97, ↓e25_98, ↓e25_99, ↓e25_102, ↓am_ilp, ↓am_iln, ↓am_iep, ↓am_ien, ↓am_zlp, ↓am_zln, ↓am_zep, ↓am_zen, ↓am_zgp, ↓am_zgn, ↓am_zhp, ↓am_zhn, ↓am_b01, true_or, true_and, and_true, or_true, if_true, if_false, ↓am_bdl_z, ↓am_bdl_s, ↓am_bsl_z, ↓am_bsl_s, ↓am_k1_i, ↓am_k1_r, ↓am_k1_e, ↓am_k1_n, ↓am_bd_s, am_k1_t, eq_self, am_nl_i, am_nl_r, am_nl_e, am_nl_n, Option.toList_some, Option.toList_none, Option.map_some, Option.map_none, List.cons_append, List.nil_append, List.length_cons, List.length_nil, List.set_cons_zero, List.set_cons_succ, List.getElem?_cons_zero, List.getElem?_cons_succ, am_bd_s, ↓am_tls, ↓am_bdf c0, am_bdf c0, ↓am_bfu c0, am_bfu c0, ↓am_oc_of c0, am_oc_of c0, ↓am_brn c2, am_brn c2, ↓am_bwn c2, am_bwn c2, ↓lw, Int.natCast_add, Int.natCast_one]
  have first : ∀ (n i : Nat), (i : Int) + n = 7 - w1 → Wp E 25 10 [some (am_r (some 14)), some (am_i (p : Int)), some (am_i (q : Int)), some (am_i sh), some (am_i (i : Int))] [] h K = K (some (am_i (pl_b (((List.range' i n).all (fun k => decide (f1 (p : Int) (q : Int) ≤ f1 (k : Int) (q : Int))) && (List.range' 0 (7 - w2).toNat).all (fun k => decide (f2 (q : Int) (p : Int) ≤ f2 (k : Int) (p : Int)))) = true)))) h := by
    intro n
    induction n with
    | zero =>
      intro i hi
      have sc := second (7 - w2).toNat 0 (by omega)
      rw [List.range'_zero, List.all_nil, Bool.true_and, ← sc, e25_10]
      simp (disch := first | omega | (simp only [List.length_set]; omega) | rfl) only [↓e25_12, ↓e25_13, ↓e25_16, ↓e25_17, ↓e25_19, ↓e25_56, ↓e25_57, ↓am_ilp, ↓am_iln, ↓am_iep, ↓am_ien, ↓am_zlp, ↓am_zln, ↓am_zep, ↓am_zen, ↓am_zgp, ↓am_zgn, ↓am_zhp, ↓am_zhn, ↓am_b01, true_or, true_and, and_true, or_true, if_true, if_false, ↓am_bdl_z, ↓am_bdl_s, ↓am_bsl_z, ↓am_bsl_s, ↓am_k1_i, ↓am_k1_r, ↓am_k1_e, ↓am_k1_n, ↓am_bd_s, am_k1_t, eq_self, am_nl_i, am_nl_r, am_nl_e, am_nl_n, Option.toList_some, Option.toList_none, Option.map_some, Option.map_none, List.cons_append, List.nil_append, List.length_cons, List.length_nil, List.set_cons_zero, List.set_cons_succ, List.getElem?_cons_zero, List.getElem?_cons_succ, am_bd_s, ↓am_bdf c0, am_bdf c0, ↓am_bfu c0, am_bfu c0, ↓am_oc_of c0, am_oc_of c0]
      rfl
    | succ n ih =>
      intro i hi
      have ih2 := ih (i + 1) (by omega)
      have ek := e1 (i : Int) (q : Int) (by omega) (by omega)
      have rk := r1 (i : Int) (by omega) (by omega)
      have lw := fun E K => X2_lostBySharing_w (E := E) (K := K) (p := (i : Int)) (q := (q : Int)) lc (by omega) (by omega) h1 h2
      obtain ⟨sk, hsk⟩ : ∃ sk : Int, sk = if (i : Int) < (q : Int) + w2 ∧ (q : Int) < (i : Int) + w1 then 5 else 0 := ⟨_, rfl⟩
      have hk5 : 0 ≤ sk ∧ sk ≤ 5 := by rw [hsk]; split <;> omega
      rw [← hsk] at ek lw
      have gq : gi o1 (p : Int) = o1.getD p 0 := rfl
      have gk : gi o1 (i : Int) = o1.getD i 0 := rfl
      rw [pl_all', e25_10]
      by_cases qq : f1 (i : Int) (q : Int) < f1 (p : Int) (q : Int)
      · rw [pl_b, if_neg (by rw [Bool.and_eq_true, Bool.and_eq_true]; intro z; have := of_decide_eq_true z.1.1; omega)]
        simp (disch := first | omega | (simp only [List.length_set]; omega) | rfl) only [↓e25_12, ↓e25_13, ↓e25_16, ↓e25_17, ↓e25_19, ↓e25_22, ↓e25_23, ↓e25_26, ↓e25_28, ↓e25_29, ↓e25_30, ↓e25_32, ↓e25_33, ↓e25_36, ↓e25_37, ↓e25_38, ↓e25_41, ↓e25_42, ↓e25_43, ↓e25_44, ↓e25_45, ↓e25_48, ↓e25_49, ↓e25_50, ↓e25_53, ↓am_ilp, ↓am_iln, ↓am_iep, ↓am_ien, ↓am_zlp, ↓am_zln, ↓am_zep, ↓am_zen, ↓am_zgp, ↓am_zgn, ↓am_zhp, ↓am_zhn, ↓am_b01, true_or, true_and, and_true, or_true, if_true, if_false, ↓am_bdl_z, ↓am_bdl_s, ↓am_bsl_z, ↓am_bsl_s, ↓am_k1_i, ↓am_k1_r, ↓am_k1_e, ↓am_k1_n, ↓am_bd_s, am_k1_t, eq_self, am_nl_i, am_nl_r, am_nl_e, am_nl_n, Option.toList_some, Option.toList_none, Option.map_some, Option.map_none, List.cons_append, List.nil_append, List.length_cons, List.length_nil, List.set_cons_zero, List.set_cons_succ, List.getElem?_cons_zero, List.getElem?_cons_succ, am_bd_s, ↓am_tls, ↓am_bdf c0, am_bdf c0, ↓am_bfu c0, am_bfu c0, ↓am_oc_of c0, am_oc_of c0, ↓am_brn c1, am_brn c1, ↓am_bwn c1, am_bwn c1, ↓lw]
      · rw [decide_eq_true (show f1 (p : Int) (q : Int) ≤ f1 (i : Int) (q : Int) by omega), Bool.true_and, ← ih2]
        simp (disch := first | omega | (simp only [List.length_set]; omega) | rfl) only [↓e25_12, ↓e25_13, ↓e25_16, ↓e25_17, ↓e25_19, ↓e25_22, ↓e25_23, ↓e25_26, ↓e25_28, ↓e25_29, ↓e25_30, ↓e25_32, ↓e25_33, ↓e25_36, ↓e25_37, ↓e25_38, ↓e25_41, ↓e25_42, ↓e25_43, ↓e25_44, ↓e25_45, ↓e25_48, ↓e25_49, ↓e25_50, ↓e25_53, ↓am_ilp, ↓am_iln, ↓am_iep, ↓am_ien, ↓am_zlp, ↓am_zln, ↓am_zep, ↓am_zen, ↓am_zgp, ↓am_zgn, ↓am_zhp, ↓am_zhn, ↓am_b01, true_or, true_and, and_true, or_true, if_true, if_false, ↓am_bdl_z, ↓am_bdl_s, ↓am_bsl_z, ↓am_bsl_s, ↓am_k1_i, ↓am_k1_r, ↓am_k1_e, ↓am_k1_n, ↓am_bd_s, am_k1_t, eq_self, am_nl_i, am_nl_r, am_nl_e, am_nl_n, Option.toList_some, Option.toList_none, Option.map_some, Option.map_none, List.cons_append, List.nil_append, List.length_cons, List.length_nil, List.set_cons_zero, List.set_cons_succ, List.getElem?_cons_zero, List.getElem?_cons_succ, am_bd_s, ↓am_tls, ↓am_bdf c0, am_bdf c0, ↓am_bfu c0, am_bfu c0, ↓am_oc_of c0, am_oc_of c0, ↓am_brn c1, am_brn c1, ↓am_bwn c1, am_bwn c1, ↓lw, Int.natCast_add, Int.natCast_one]
  have fi := first (7 - w1).toNat 0 (by omega)
  rw [← List.range_eq_range', ← List.range_eq_range'] at fi
  unfold pl_ir
  rw [← fi]
  simp (disch := first | omega | (simp only [List.length_set]; omega) | rfl) only [↓e25_0, ↓e25_1, ↓e25_2, ↓e25_3, ↓e25_6, ↓e25_7, ↓e25_8, ↓am_ilp, ↓am_iln, ↓am_iep, ↓am_ien, ↓am_zlp, ↓am_zln, ↓am_zep, ↓am_zen, ↓am_zgp, ↓am_zgn, ↓am_zhp, ↓am_zhn, ↓am_b01, true_or, true_and, and_true, or_true, if_true, if_false, ↓am_bdl_z, ↓am_bdl_s, ↓am_bsl_z, ↓am_bsl_s, ↓am_k1_i, ↓am_k1_r, ↓am_k1_e, ↓am_k1_n, ↓am_bd_s, am_k1_t, eq_self, am_nl_i, am_nl_r, am_nl_e, am_nl_n, Option.toList_some, Option.toList_none, Option.map_some, Option.map_none, List.cons_append, List.nil_append, List.length_cons, List.length_nil, List.set_cons_zero, List.set_cons_succ, List.getElem?_cons_zero, List.getElem?_cons_succ, am_bd_s, ↓am_tls, ↓am_bdf c0, am_bdf c0, ↓am_bfu c0, am_bfu c0, ↓am_oc_of c0, am_oc_of c0, ↓lw0]
  rfl
end RST
