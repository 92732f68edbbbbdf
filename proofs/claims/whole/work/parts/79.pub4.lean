theorem pl_tog_add {fr la ce ki A wi : List Int} {B : List Nat} : ∀ (l : List Nat) (y : Int), pl_tog fr la ce ki B A wi l y = y + pl_tog fr la ce ki B A wi l 0
  | [], y => by unfold pl_tog; simp
  | s :: l, y => by
    have h1 := pl_tog_add (fr := fr) (la := la) (ce := ce) (ki := ki) (A := A) (wi := wi) (B := B) l (y + pl_wk fr la ce ki B (A.getD s 0).toNat (wi.getD s 0).toNat)
    have h2 := pl_tog_add (fr := fr) (la := la) (ce := ce) (ki := ki) (A := A) (wi := wi) (B := B) l (0 + pl_wk fr la ce ki B (A.getD s 0).toNat (wi.getD s 0).toNat)
    unfold pl_tog at h1 h2 ⊢
    rw [List.foldl_cons, List.foldl_cons, h1, h2]
    omega
section PB4
variable {h : am_H} {X : List Int} {n nb ns : Nat} {fr la ce ki wi : List Int} {L : pl_L} {nx len : Nat} {Ls : List pl_L} {Q : List (Nat × Nat)} {kf : List Int} {Ks : List pl_L} {sd : Int}
/-- the class's object, with this seed -/
def ObC (h : am_H) (sd : Int) : Prop := h[0]? = some (am_o 9 [am_r (some 1), am_r (some 3), am_r (some 9), am_r (some 11), am_r (some 12), am_r (some 14), am_r (some 17), am_r (some 20), am_r (some 78), am_r (some 82), am_r (some 86), am_r (some 87), am_l sd])
theorem X9_weeks_l {m : Int} (hm : m ≤ 30) :
    ∀ (k : Nat) (i : Int) (h : am_H) (M : pl_L) (tm : List Int) (sd a : Int) (x4 : Option am_V), 0 ≤ i → i + k = m → ObC h sd → Fix h nb ns fr la ce ki wi tm → LayL h 82 M → WfL nb ns wi M → ∃ h' tm' M', (∀ E K, Wp E 106 29 [some (am_r (some 0)), some (am_i m), some (am_i a), some (am_i i), x4] [] h K = K (some (am_i (pl_wks (pl_do nb ns fr la ce ki wi) (fun L a => pl_tog fr la ce ki L.1 L.2.1 wi (List.range' 0 ns) a) k M sd a).1)) h') ∧ ObC h' (pl_wks (pl_do nb ns fr la ce ki wi) (fun L a => pl_tog fr la ce ki L.1 L.2.1 wi (List.range' 0 ns) a) k M sd a).2 ∧ Fix h' nb ns fr la ce ki wi tm' ∧ LayL h' 82 M' ∧ h'.length = h.length ∧ ∀ j : Nat, j ≠ 0 → j ≠ 10 → j < 82 ∨ 86 ≤ j → h'[j]? = h[j]?
  | 0, i, h, M, tm, sd, a, x4, h0, e, c0, lf, lm, wf => by
    refine ⟨h, tm, M, fun E K => ?_, c0, lf, lm, rfl, fun _ _ _ _ => rfl⟩
    rw [e106_29, pl_wks]
    simp (disch := first | omega | (simp only [List.length_set]; omega) | rfl) only [↓e106_30, ↓e106_31, ↓e106_108, ↓e106_109, ↓am_ilp, ↓am_iln, ↓am_iep, ↓am_ien, ↓am_zlp, ↓am_zln, ↓am_zep, ↓am_zen, ↓am_zgp, ↓am_zgn, ↓am_zhp, ↓am_zhn, ↓am_b01, true_or, true_and, and_true, or_true, if_true, if_false, ↓am_bdl_z, ↓am_bdl_s, ↓am_bsl_z, ↓am_bsl_s, ↓am_k1_i, ↓am_k1_r, ↓am_k1_e, ↓am_k1_n, ↓am_bd_s, am_k1_t, eq_self, am_nl_i, am_nl_r, am_nl_e, am_nl_n, Option.toList_some, Option.toList_none, Option.map_some, Option.map_none, List.cons_append, List.nil_append, List.length_cons, List.length_nil, List.set_cons_zero, List.set_cons_succ, List.getElem?_cons_zero, List.getElem?_cons_succ, am_bd_s]
  | k + 1, i, h, M, tm, sd, a, x4, h0, e, c0, lf, lm, wf => by
    have dr := pl_dr_rng (pl_sd sd)
    obtain ⟨d, hd⟩ : ∃ d : Nat, pl_dr (pl_sd sd) = (d : Int) := ⟨(pl_dr (pl_sd sd)).toNat, by omega⟩
    have e1 : 1 + am_div (pl_dr (pl_sd sd)) 6 = ((1 + d / 6 : Nat) : Int) := by
      rw [hd, am_div_n (by omega) (by omega) (by omega) (by omega)]
      omega
    have e2 : am_rem (pl_dr (pl_sd sd)) 6 = ((d % 6 : Nat) : Int) := by
      rw [hd, am_rem_n (by omega) (by omega) (by omega) (by omega)]
      rfl
    have c0' := c0
    unfold ObC at c0'
    obtain ⟨g1, hg1⟩ : ∃ g1, g1 = h.set 0 (am_o 9 [am_r (some 1), am_r (some 3), am_r (some 9), am_r (some 11), am_r (some 12), am_r (some 14), am_r (some 17), am_r (some 20), am_r (some 78), am_r (some 82), am_r (some 86), am_r (some 87), am_l (pl_sd sd)]) := ⟨_, rfl⟩
    have f1 : Fr h g1 0 1 := by rw [hg1]; exact Fr.rf.set (by omega) (by omega)
    have c1 : g1[0]? = some (am_o 9 [am_r (some 1), am_r (some 3), am_r (some 9), am_r (some 11), am_r (some 12), am_r (some 14), am_r (some 17), am_r (some 20), am_r (some 78), am_r (some 82), am_r (some 86), am_r (some 87), am_l (pl_sd sd)]) := by rw [hg1]; exact am_set_at c0'
    have lf1 := lf.ag (fun j j0 j1 => f1.2 j (by omega))
    have lm1 : LayL g1 82 M := lm.ag (fun j j0 j1 => f1.2 j (by omega))
    obtain ⟨g2, tm2, w2, lm2, lf2, f2⟩ := X0_perform_f (k := 1 + d / 6) (b := d % 6) lm1 lf1 wf (by omega) (by omega) (by omega)
    have c2 := (f2.2 0 (by omega) (by omega)).trans c1
    obtain ⟨M1, hM1⟩ : ∃ M1, M1 = (pl_do nb ns fr la ce ki wi M (1 + d / 6) (d % 6)).getD M := ⟨_, rfl⟩
    rw [← hM1] at lm2
    have wf1 : WfL nb ns wi M1 := by
      rw [hM1]
      cases q : pl_do nb ns fr la ce ki wi M (1 + d / 6) (d % 6) with
      | none => exact wf
      | some L1 => exact pl_do_wf (LayC.lens lm).1 lf.1.2.2.2.2.2.2.2.2.2.2.2.2 wf q
    obtain ⟨g3, w3, lf3, f3⟩ := X1_wakingsTogether_f lm2 lf2 wf1.1 wf1.2.2 (by omega)
    have c3 := (f3.2 0 (by omega)).trans c2
    have lm3 : LayL g3 82 M1 := lm2.ag (fun j j0 j1 => f3.2 j (by omega))
    obtain ⟨h4, tm4, M4, w4, c4, lf4, lm4, l4, f4⟩ := X9_weeks_l hm k (i + 1) g3 M1 _ (pl_sd sd) (a + pl_tog fr la ce ki M1.1 M1.2.1 wi (List.range' 0 ns) 0) (some (am_i (pl_dr (pl_sd sd)))) (by omega) (by omega) c3 lf3 lm3 wf1
    have esd : sd * 6364136223846793005 + 1442695040888963407 = pl_sd sd := rfl
    have edr : am_l2i (am_lrem (am_lush (pl_sd sd) 33) 18) = pl_dr (pl_sd sd) := rfl
    have v18 : ¬ am_v 18 = 0 := by decide
    rw [pl_wks, hd, Int.toNat_natCast, ← hM1, pl_tog_add]
    refine ⟨h4, tm4, M4, fun E K => ?_, c4, lf4, lm4, by rw [l4, f3.1, f2.1, f1.1], fun j j0 j1 j2 => by rw [f4 j j0 j1 j2, f3.2 j (by omega), f2.2 j j1 (by omega), f1.2 j (by omega)]⟩
    have w5 := w4 E K
    have st : Wp E 106 29 [some (am_r (some 0)), some (am_i m), some (am_i a), some (am_i i), x4] [] h K = Wp E 106 84 [some (am_r (some 0)), some (am_i m), some (am_i a), some (am_i i), some (am_i (pl_dr (pl_sd sd)))] [am_i ((d % 6 : Nat) : Int), am_i ((1 + d / 6 : Nat) : Int), am_r (some 82), am_r (some 11)] g1 K := by
      have s1 : Wp E 106 29 [some (am_r (some 0)), some (am_i m), some (am_i a), some (am_i i), x4] [] h K = Wp E 106 50 [some (am_r (some 0)), some (am_i m), some (am_i a), some (am_i i), x4] [] g1 K := by
        rw [e106_29, hg1, ← esd]
        simp (disch := first | omega | (simp only [List.length_set]; omega) | rfl) only [↓e106_30, ↓e106_31, ↓e106_34, ↓e106_35, ↓e106_36, ↓e106_39, ↓e106_42, ↓e106_43, ↓e106_46, ↓e106_47, ↓am_ilp, ↓am_iln, ↓am_iep, ↓am_ien, ↓am_zlp, ↓am_zln, ↓am_zep, ↓am_zen, ↓am_zgp, ↓am_zgn, ↓am_zhp, ↓am_zhn, ↓am_b01, true_or, true_and, and_true, or_true, if_true, if_false, ↓am_bdl_z, ↓am_bdl_s, ↓am_bsl_z, ↓am_bsl_s, ↓am_k1_i, ↓am_k1_r, ↓am_k1_e, ↓am_k1_n, ↓am_bd_s, am_k1_t, eq_self, am_nl_i, am_nl_r, am_nl_e, am_nl_n, Option.toList_some, Option.toList_none, Option.map_some, Option.map_none, List.cons_append, List.nil_append, List.length_cons, List.length_nil, List.set_cons_zero, List.set_cons_succ, List.getElem?_cons_zero, List.getElem?_cons_succ, am_bd_s, ↓am_bdf c0', am_bdf c0', ↓am_bfu c0', am_bfu c0', ↓am_oc_of c0', am_oc_of c0']
      rw [s1, ← e1, ← e2, ← edr]
      simp (disch := first | omega | (simp only [List.length_set]; omega) | rfl) only [↓e106_50, ↓e106_51, ↓e106_54, ↓e106_56, ↓e106_57, ↓e106_60, ↓e106_61, ↓e106_62, ↓e106_64, ↓e106_65, ↓e106_68, ↓e106_69, ↓e106_72, ↓e106_73, ↓e106_75, ↓e106_77, ↓e106_78, ↓e106_79, ↓e106_81, ↓e106_83, ↓am_ilp, ↓am_iln, ↓am_iep, ↓am_ien, ↓am_zlp, ↓am_zln, ↓am_zep, ↓am_zen, ↓am_zgp, ↓am_zgn, ↓am_zhp, ↓am_zhn, ↓am_b01, true_or, true_and, and_true, or_true, if_true, if_false, ↓am_bdl_z, ↓am_bdl_s, ↓am_bsl_z, ↓am_bsl_s, ↓am_k1_i, ↓am_k1_r, ↓am_k1_e, ↓am_k1_n, ↓am_bd_s, am_k1_t, eq_self, am_nl_i, am_nl_r, am_nl_e, am_nl_n, Option.toList_some, Option.toList_none, Option.map_some, Option.map_none, List.cons_append, List.nil_append, List.length_cons, List.length_nil, List.set_cons_zero, List.set_cons_succ, List.getElem?_cons_zero, List.getElem?_cons_succ, am_bd_s, ↓am_bdf c1, am_bdf c1, ↓am_bfu c1, am_bfu c1, ↓am_oc_of c1, am_oc_of c1, ↓if_neg v18]
    rw [st]
    simp (disch := first | omega | (simp only [List.length_set]; omega) | rfl) only [↓e106_84, ↓e106_87, ↓e106_88, ↓e106_89, ↓e106_90, ↓e106_93, ↓e106_94, ↓e106_97, ↓e106_100, ↓e106_101, ↓e106_102, ↓e106_105, ↓am_ilp, ↓am_iln, ↓am_iep, ↓am_ien, ↓am_zlp, ↓am_zln, ↓am_zep, ↓am_zen, ↓am_zgp, ↓am_zgn, ↓am_zhp, ↓am_zhn, ↓am_b01, true_or, true_and, and_true, or_true, if_true, if_false, ↓am_bdl_z, ↓am_bdl_s, ↓am_bsl_z, ↓am_bsl_s, ↓am_k1_i, ↓am_k1_r, ↓am_k1_e, ↓am_k1_n, ↓am_bd_s, am_k1_t, eq_self, am_nl_i, am_nl_r, am_nl_e, am_nl_n, Option.toList_some, Option.toList_none, Option.map_some, Option.map_none, List.cons_append, List.nil_append, List.length_cons, List.length_nil, List.set_cons_zero, List.set_cons_succ, List.getElem?_cons_zero, List.getElem?_cons_succ, am_bd_s, ↓am_tls, ↓am_bdf lf1.2.2.1, am_bdf lf1.2.2.1, ↓am_bfu lf1.2.2.1, am_bfu lf1.2.2.1, ↓am_oc_of lf1.2.2.1, am_oc_of lf1.2.2.1, ↓am_bdf c2, am_bdf c2, ↓am_bfu c2, am_bfu c2, ↓am_oc_of c2, am_oc_of c2, ↓am_bdf lf2.2.1.1, am_bdf lf2.2.1.1, ↓am_bfu lf2.2.1.1, am_bfu lf2.2.1.1, ↓am_oc_of lf2.2.1.1, am_oc_of lf2.2.1.1, ↓w2, ↓w3]
    exact w5
theorem X9_weeks_out {m : Int} (hm : am_w m = m) (hh : ¬ (1 ≤ m ∧ m ≤ 30)) (E : List (List Int)) (K : Option am_V → am_H → Prop) : Wp E 106 0 [some (am_r (some 0)), some (am_i m), none, none, none] [] h K = K (some (am_i (-2))) h := by
  have r := am_w_rng m
  by_cases q : m < 1
  · simp (disch := first | omega | (simp only [List.length_set]; omega) | rfl) only [↓e106_0, ↓e106_1, ↓e106_2, ↓e106_5, ↓e106_6, ↓e106_8, ↓e106_11, ↓e106_13, ↓am_ilp, ↓am_iln, ↓am_iep, ↓am_ien, ↓am_zlp, ↓am_zln, ↓am_zep, ↓am_zen, ↓am_zgp, ↓am_zgn, ↓am_zhp, ↓am_zhn, ↓am_b01, true_or, true_and, and_true, or_true, if_true, if_false, ↓am_bdl_z, ↓am_bdl_s, ↓am_bsl_z, ↓am_bsl_s, ↓am_k1_i, ↓am_k1_r, ↓am_k1_e, ↓am_k1_n, ↓am_bd_s, am_k1_t, eq_self, am_nl_i, am_nl_r, am_nl_e, am_nl_n, Option.toList_some, Option.toList_none, Option.map_some, Option.map_none, List.cons_append, List.nil_append, List.length_cons, List.length_nil, List.set_cons_zero, List.set_cons_succ, List.getElem?_cons_zero, List.getElem?_cons_succ, am_bd_s]
  · simp (disch := first | omega | (simp only [List.length_set]; omega) | rfl) only [↓e106_0, ↓e106_1, ↓e106_2, ↓e106_5, ↓e106_6, ↓e106_8, ↓e106_11, ↓e106_13, ↓am_ilp, ↓am_iln, ↓am_iep, ↓am_ien, ↓am_zlp, ↓am_zln, ↓am_zep, ↓am_zen, ↓am_zgp, ↓am_zgn, ↓am_zhp, ↓am_zhn, ↓am_b01, true_or, true_and, and_true, or_true, if_true, if_false, ↓am_bdl_z, ↓am_bdl_s, ↓am_bsl_z, ↓am_bsl_s, ↓am_k1_i, ↓am_k1_r, ↓am_k1_e, ↓am_k1_n, ↓am_bd_s, am_k1_t, eq_self, am_nl_i, am_nl_r, am_nl_e, am_nl_n, Option.toList_some, Option.toList_none, Option.map_some, Option.map_none, List.cons_append, List.nil_append, List.length_cons, List.length_nil, List.set_cons_zero, List.set_cons_succ, List.getElem?_cons_zero, List.getElem?_cons_succ, am_bd_s]
theorem X9_weeks_w {m : Int} (ci : CI h X n nb ns fr la ce ki wi L nx len Ls Q kf Ks sd) (wf : WfL nb ns wi L) (hm : 1 ≤ m ∧ m ≤ 30) : ∃ h', (∀ E K, Wp E 106 0 [some (am_r (some 0)), some (am_i m), none, none, none] [] h K = K (some (am_i (pl_wks (pl_do nb ns fr la ce ki wi) (fun L a => pl_tog fr la ce ki L.1 L.2.1 wi (List.range' 0 ns) a) m.toNat L sd 0).1)) h') ∧ CI h' X n nb ns fr la ce ki wi L nx len Ls Q kf Ks (pl_wks (pl_do nb ns fr la ce ki wi) (fun L a => pl_tog fr la ce ki L.1 L.2.1 wi (List.range' 0 ns) a) m.toNat L sd 0).2 ∧ Up h h' := by
  obtain ⟨c0, ct, ⟨tm, lf⟩, ⟨tk, lp⟩, ⟨o1, o2, w1, w2, lc⟩, cs, cr, cl, ⟨M, lm⟩, c86, c87, k1, k2, k3⟩ := ci
  obtain ⟨h1, w1', l1, f1⟩ := X3_copyFrom_w (r := 82) (q := 78) lm cl (by omega)
  have lf1 := lf.fr f1 (by omega)
  have c01 := (f1.2 0 (by omega)).trans c0
  have lm0 := LayC.obj lm
  obtain ⟨h2, tm2, M2, w2', c2, lf2, lm2, l2, f2⟩ := X9_weeks_l (m := m) hm.2 m.toNat 0 h1 L tm sd 0 none (by omega) (by omega) c01 lf1 l1 wf
  have ft : ∀ j : Nat, j ≠ 0 → j ≠ 10 → j < 82 ∨ 86 ≤ j → h2[j]? = h[j]? := fun j j0 j1 j2 => (f2 j j0 j1 j2).trans (f1.2 j (by omega))
  refine ⟨h2, fun E K => ?_, ⟨c2, ct.ag (fun i i0 i1 => ft i (by omega) (by omega) (by omega)), ⟨tm2, lf2⟩, ⟨tk, lp.ag (fun i i0 i1 => ft i (by omega) (by omega) (by omega))⟩, ⟨o1, o2, w1, w2, lc.ag (fun i i0 i1 => ft i (by omega) (by omega) (by omega))⟩, cs.ag (fun i i0 i1 => ft i (by omega) (by omega) (by omega)), cr.ag (fun i i0 i1 => ft i (by omega) (by omega) (by omega)), cl.ag (fun i i0 i1 => ft i (by omega) (by omega) (by omega)), ⟨M2, lm2⟩, (ft _ (by omega) (by omega) (by omega)).trans c86, (ft _ (by omega) (by omega) (by omega)).trans c87, k1, k2, fun i M' e => (k3 i M' e).ag (fun j j0 j1 => ft j (by omega) (by omega) (by omega))⟩, ⟨l2.trans f1.1, fun i hi => ft i (by omega) (by omega) (by omega)⟩⟩
  have w3 := w2' E K
  simp (disch := first | omega | (simp only [List.length_set]; omega) | rfl) only [↓e106_0, ↓e106_1, ↓e106_2, ↓e106_5, ↓e106_6, ↓e106_8, ↓e106_11, ↓e106_13, ↓e106_14, ↓e106_15, ↓e106_18, ↓e106_19, ↓e106_22, ↓e106_25, ↓e106_26, ↓e106_27, ↓e106_28, ↓am_ilp, ↓am_iln, ↓am_iep, ↓am_ien, ↓am_zlp, ↓am_zln, ↓am_zep, ↓am_zen, ↓am_zgp, ↓am_zgn, ↓am_zhp, ↓am_zhn, ↓am_b01, true_or, true_and, and_true, or_true, if_true, if_false, ↓am_bdl_z, ↓am_bdl_s, ↓am_bsl_z, ↓am_bsl_s, ↓am_k1_i, ↓am_k1_r, ↓am_k1_e, ↓am_k1_n, ↓am_bd_s, am_k1_t, eq_self, am_nl_i, am_nl_r, am_nl_e, am_nl_n, Option.toList_some, Option.toList_none, Option.map_some, Option.map_none, List.cons_append, List.nil_append, List.length_cons, List.length_nil, List.set_cons_zero, List.set_cons_succ, List.getElem?_cons_zero, List.getElem?_cons_succ, am_bd_s, ↓am_tln, ↓am_bdf c0, am_bdf c0, ↓am_bfu c0, am_bfu c0, ↓am_oc_of c0, am_oc_of c0, ↓am_bdf lm0.1, am_bdf lm0.1, ↓am_bfu lm0.1, am_bfu lm0.1, ↓am_oc_of lm0.1, am_oc_of lm0.1, ↓w1']
  exact w3
theorem X9_write_out {x : Int} (hx : am_w x = x) (hh : ¬ (0 ≤ x ∧ x ≤ 255)) (E : List (List Int)) (K : Option am_V → am_H → Prop) : Wp E 77 0 [some (am_r (some 0)), some (am_i x)] [] h K = K (some (am_i (-2))) h := by
  have r := am_w_rng x
  by_cases q : x < 0
  · simp (disch := first | omega | (simp only [List.length_set]; omega) | rfl) only [↓e77_0, ↓e77_1, ↓e77_4, ↓e77_5, ↓e77_8, ↓e77_11, ↓e77_13, ↓am_ilp, ↓am_iln, ↓am_iep, ↓am_ien, ↓am_zlp, ↓am_zln, ↓am_zep, ↓am_zen, ↓am_zgp, ↓am_zgn, ↓am_zhp, ↓am_zhn, ↓am_b01, true_or, true_and, and_true, or_true, if_true, if_false, ↓am_bdl_z, ↓am_bdl_s, ↓am_bsl_z, ↓am_bsl_s, ↓am_k1_i, ↓am_k1_r, ↓am_k1_e, ↓am_k1_n, ↓am_bd_s, am_k1_t, eq_self, am_nl_i, am_nl_r, am_nl_e, am_nl_n, Option.toList_some, Option.toList_none, Option.map_some, Option.map_none, List.cons_append, List.nil_append, List.length_cons, List.length_nil, List.set_cons_zero, List.set_cons_succ, List.getElem?_cons_zero, List.getElem?_cons_succ, am_bd_s]
  · simp (disch := first | omega | (simp only [List.length_set]; omega) | rfl) only [↓e77_0, ↓e77_1, ↓e77_4, ↓e77_5, ↓e77_8, ↓e77_11, ↓e77_13, ↓am_ilp, ↓am_iln, ↓am_iep, ↓am_ien, ↓am_zlp, ↓am_zln, ↓am_zep, ↓am_zen, ↓am_zgp, ↓am_zgn, ↓am_zhp, ↓am_zhn, ↓am_b01, true_or, true_and, and_true, or_true, if_true, if_false, ↓am_bdl_z, ↓am_bdl_s, ↓am_bsl_z, ↓am_bsl_s, ↓am_k1_i, ↓am_k1_r, ↓am_k1_e, ↓am_k1_n, ↓am_bd_s, am_k1_t, eq_self, am_nl_i, am_nl_r, am_nl_e, am_nl_n, Option.toList_some, Option.toList_none, Option.map_some, Option.map_none, List.cons_append, List.nil_append, List.length_cons, List.length_nil, List.set_cons_zero, List.set_cons_succ, List.getElem?_cons_zero, List.getElem?_cons_succ, am_bd_s]
theorem X9_write_full {x : Int} (ci : CI h X 44 nb ns fr la ce ki wi L nx len Ls Q kf Ks sd) (hh : 0 ≤ x ∧ x ≤ 255) (E : List (List Int)) (K : Option am_V → am_H → Prop) : Wp E 77 0 [some (am_r (some 0)), some (am_i x)] [] h K = K (some (am_i (-4))) h := by
  have c0 := ci.1
  have ct := ci.2.1
  have w := fun E K => X8_append_no (E := E) (K := K) (x := x) ct
  simp (disch := first | omega | (simp only [List.length_set]; omega) | rfl) only [↓e77_0, ↓e77_1, ↓e77_4, ↓e77_5, ↓e77_8, ↓e77_11, ↓e77_13, ↓e77_14, ↓e77_15, ↓e77_18, ↓e77_19, ↓e77_22, ↓e77_25, ↓e77_26, ↓e77_29, ↓e77_32, ↓e77_35, ↓e77_37, ↓am_ilp, ↓am_iln, ↓am_iep, ↓am_ien, ↓am_zlp, ↓am_zln, ↓am_zep, ↓am_zen, ↓am_zgp, ↓am_zgn, ↓am_zhp, ↓am_zhn, ↓am_b01, true_or, true_and, and_true, or_true, if_true, if_false, ↓am_bdl_z, ↓am_bdl_s, ↓am_bsl_z, ↓am_bsl_s, ↓am_k1_i, ↓am_k1_r, ↓am_k1_e, ↓am_k1_n, ↓am_bd_s, am_k1_t, eq_self, am_nl_i, am_nl_r, am_nl_e, am_nl_n, Option.toList_some, Option.toList_none, Option.map_some, Option.map_none, List.cons_append, List.nil_append, List.length_cons, List.length_nil, List.set_cons_zero, List.set_cons_succ, List.getElem?_cons_zero, List.getElem?_cons_succ, am_bd_s, ↓am_tls, ↓am_bdf c0, am_bdf c0, ↓am_bfu c0, am_bfu c0, ↓am_oc_of c0, am_oc_of c0, ↓am_bdf ct.1, am_bdf ct.1, ↓am_bfu ct.1, am_bfu ct.1, ↓am_oc_of ct.1, am_oc_of ct.1, ↓w]
theorem X9_write_w {x : Int} (ci : CI h X n nb ns fr la ce ki wi L nx len Ls Q kf Ks sd) (hn : n < 44) (hh : 0 ≤ x ∧ x ≤ 255) : ∃ h', (∀ E K, Wp E 77 0 [some (am_r (some 0)), some (am_i x)] [] h K = K (some (am_i ((n : Int) + 1))) h') ∧ CI h' (X.set n x) (n + 1) nb ns fr la ce ki wi L nx len Ls Q kf Ks sd ∧ Up h h' := by
  obtain ⟨c0, ct, ⟨tm, lf⟩, ⟨tk, lp⟩, ⟨o1, o2, w1, w2, lc⟩, cs, cr, cl, ⟨M, lm⟩, c86, c87, k1, k2, k3⟩ := ci
  obtain ⟨h1, w, ct1, f⟩ := X8_append_w (x := x) ct hn hh
  have ag : ∀ a b : Nat, 3 ≤ a → Ag h h1 a b := fun a b hab i i0 i1 => f.2 i (by omega)
  have c01 := (f.2 0 (by omega)).trans c0
  refine ⟨h1, fun E K => ?_, ⟨c01, ct1, ⟨tm, lf.ag (ag _ _ (by omega))⟩, ⟨tk, lp.ag (ag _ _ (by omega))⟩, ⟨o1, o2, w1, w2, lc.ag (ag _ _ (by omega))⟩, cs.ag (ag _ _ (by omega)), cr.ag (ag _ _ (by omega)), cl.ag (ag _ _ (by omega)), ⟨M, lm.ag (ag _ _ (by omega))⟩, (f.2 _ (by omega)).trans c86, (f.2 _ (by omega)).trans c87, k1, k2, fun i M' e => (k3 i M' e).ag (ag _ _ (by omega))⟩, f.up (by omega)⟩
  simp (disch := first | omega | (simp only [List.length_set]; omega) | rfl) only [↓e77_0, ↓e77_1, ↓e77_4, ↓e77_5, ↓e77_8, ↓e77_11, ↓e77_13, ↓e77_14, ↓e77_15, ↓e77_18, ↓e77_19, ↓e77_22, ↓e77_25, ↓e77_26, ↓e77_29, ↓e77_32, ↓e77_35, ↓e77_37, ↓am_ilp, ↓am_iln, ↓am_iep, ↓am_ien, ↓am_zlp, ↓am_zln, ↓am_zep, ↓am_zen, ↓am_zgp, ↓am_zgn, ↓am_zhp, ↓am_zhn, ↓am_b01, true_or, true_and, and_true, or_true, if_true, if_false, ↓am_bdl_z, ↓am_bdl_s, ↓am_bsl_z, ↓am_bsl_s, ↓am_k1_i, ↓am_k1_r, ↓am_k1_e, ↓am_k1_n, ↓am_bd_s, am_k1_t, eq_self, am_nl_i, am_nl_r, am_nl_e, am_nl_n, Option.toList_some, Option.toList_none, Option.map_some, Option.map_none, List.cons_append, List.nil_append, List.length_cons, List.length_nil, List.set_cons_zero, List.set_cons_succ, List.getElem?_cons_zero, List.getElem?_cons_succ, am_bd_s, ↓am_tls, ↓am_bdf c0, am_bdf c0, ↓am_bfu c0, am_bfu c0, ↓am_oc_of c0, am_oc_of c0, ↓am_bdf c01, am_bdf c01, ↓am_bfu c01, am_bfu c01, ↓am_oc_of c01, am_oc_of c01, ↓am_bdf ct.1, am_bdf ct.1, ↓am_bfu ct.1, am_bfu ct.1, ↓am_oc_of ct.1, am_oc_of ct.1, ↓am_bdf ct1.1, am_bdf ct1.1, ↓am_bfu ct1.1, am_bfu ct1.1, ↓am_oc_of ct1.1, am_oc_of ct1.1, ↓w, Int.natCast_add, Int.natCast_one]
theorem X9_wipe_w (ci : CI h X n nb ns fr la ce ki wi L nx len Ls Q kf Ks sd) : ∃ h', (∀ E K, Wp E 78 0 [some (am_r (some 0)), none] [] h K = K (some (am_i (n : Int))) h') ∧ CI h' X 0 nb ns fr la ce ki wi L nx len Ls Q kf Ks sd ∧ Up h h' := by
  obtain ⟨c0, ct, ⟨tm, lf⟩, ⟨tk, lp⟩, ⟨o1, o2, w1, w2, lc⟩, cs, cr, cl, ⟨M, lm⟩, c86, c87, k1, k2, k3⟩ := ci
  obtain ⟨h1, hh1⟩ : ∃ h1, h1 = h.set 1 (am_o 8 [am_r (some 2), am_i 0]) := ⟨_, rfl⟩
  have f : Fr h h1 1 1 := by rw [hh1]; exact Fr.rf.set (by omega) (by omega)
  have ag : ∀ a b : Nat, 2 ≤ a → Ag h h1 a b := fun a b hab i i0 i1 => f.2 i (by omega)
  have ct1 : TextC h1 X 0 := ⟨by rw [hh1]; exact am_set_at ct.1, by rw [f.2 _ (by omega)]; exact ct.2.1, ct.2.2.1, by omega, ct.2.2.2.2⟩
  refine ⟨h1, fun E K => ?_, ⟨(f.2 0 (by omega)).trans c0, ct1, ⟨tm, lf.ag (ag _ _ (by omega))⟩, ⟨tk, lp.ag (ag _ _ (by omega))⟩, ⟨o1, o2, w1, w2, lc.ag (ag _ _ (by omega))⟩, cs.ag (ag _ _ (by omega)), cr.ag (ag _ _ (by omega)), cl.ag (ag _ _ (by omega)), ⟨M, lm.ag (ag _ _ (by omega))⟩, (f.2 _ (by omega)).trans c86, (f.2 _ (by omega)).trans c87, k1, k2, fun i M' e => (k3 i M' e).ag (ag _ _ (by omega))⟩, f.up (by omega)⟩
  rw [hh1]
  simp (disch := first | omega | (simp only [List.length_set]; omega) | rfl) only [↓e78_0, ↓e78_1, ↓e78_4, ↓e78_7, ↓e78_8, ↓e78_9, ↓e78_12, ↓e78_13, ↓e78_16, ↓e78_17, ↓am_ilp, ↓am_iln, ↓am_iep, ↓am_ien, ↓am_zlp, ↓am_zln, ↓am_zep, ↓am_zen, ↓am_zgp, ↓am_zgn, ↓am_zhp, ↓am_zhn, ↓am_b01, true_or, true_and, and_true, or_true, if_true, if_false, ↓am_bdl_z, ↓am_bdl_s, ↓am_bsl_z, ↓am_bsl_s, ↓am_k1_i, ↓am_k1_r, ↓am_k1_e, ↓am_k1_n, ↓am_bd_s, am_k1_t, eq_self, am_nl_i, am_nl_r, am_nl_e, am_nl_n, Option.toList_some, Option.toList_none, Option.map_some, Option.map_none, List.cons_append, List.nil_append, List.length_cons, List.length_nil, List.set_cons_zero, List.set_cons_succ, List.getElem?_cons_zero, List.getElem?_cons_succ, am_bd_s, ↓am_bdf c0, am_bdf c0, ↓am_bfu c0, am_bfu c0, ↓am_oc_of c0, am_oc_of c0, ↓am_bdf ct.1, am_bdf ct.1, ↓am_bfu ct.1, am_bfu ct.1, ↓am_oc_of ct.1, am_oc_of ct.1]
/-- an act upon the bed -/
theorem X9_act_no {k b : Nat} (ci : CI h X n nb ns fr la ce ki wi L nx len Ls Q kf Ks sd) (wf : WfL nb ns wi L) (hk : k ≤ 9) (hb : b ≤ 9) (hd : pl_do nb ns fr la ce ki wi L k b = none) : ∃ h', (∀ E K, Wp E 91 0 [some (am_r (some 0)), some (am_i (k : Int)), some (am_i (b : Int))] [] h K = K (some (am_i 0)) h') ∧ CI h' X n nb ns fr la ce ki wi L nx len Ls Q kf Ks sd ∧ Up h h' := by
  have c0 := ci.1
  obtain ⟨tm, lf⟩ := ci.2.2.1
  obtain ⟨M, lm⟩ := ci.2.2.2.2.2.2.2.2.1
  have cl := ci.2.2.2.2.2.2.2.1
  obtain ⟨tk, lp⟩ := ci.2.2.2.1
  obtain ⟨o1, o2, w1', w2', lc⟩ := ci.2.2.2.2.1
  obtain ⟨h1, w1, l1, f1⟩ := X3_copyFrom_w (r := 82) (q := 78) lm cl (by omega)
  have lf1 := lf.fr f1 (by omega)
  have c01 := (f1.2 0 (by omega)).trans c0
  have lm0 := LayC.obj lm
  have cl1 : LayL h1 78 L := cl.ag (fun i i0 i1 => f1.2 i (by omega))
  obtain ⟨h2, tm2, w2, l2, lf2, f2⟩ := X0_perform_f (k := k) (b := b) cl1 lf1 wf hk hb (by omega)
  rw [hd] at w2 l2
  have q2 : ¬ (none : Option pl_L).isSome = true := by simp
  have ft : ∀ j : Nat, j ≠ 10 → j < 78 ∨ 86 ≤ j → h2[j]? = h[j]? := fun j j0 j1 => (f2.2 j j0 (by omega)).trans (f1.2 j (by omega))
  obtain ⟨c0, ct, -, -, -, cs, cr, -, -, c86, c87, k1, k2, k3⟩ := ci
  have l82 : LayL h2 82 L := LayL.ag (L := L) l1 (fun i i0 i1 => f2.2 i (by omega) (by omega))
  refine ⟨h2, fun E K => ?_, ⟨(ft 0 (by omega) (by omega)).trans c0, ct.ag (fun i i0 i1 => ft i (by omega) (by omega)), ⟨tm2, lf2⟩, ⟨tk, lp.ag (fun i i0 i1 => ft i (by omega) (by omega))⟩, ⟨o1, o2, w1', w2', lc.ag (fun i i0 i1 => ft i (by omega) (by omega))⟩, cs.ag (fun i i0 i1 => ft i (by omega) (by omega)), cr.ag (fun i i0 i1 => ft i (by omega) (by omega)), l2, ⟨L, l82⟩, (ft _ (by omega) (by omega)).trans c86, (ft _ (by omega) (by omega)).trans c87, k1, k2, fun i M' e => (k3 i M' e).ag (fun j j0 j1 => ft j (by omega) (by omega))⟩, ⟨f2.1.trans f1.1, fun i hi => ft i (by omega) (by omega)⟩⟩
  simp (disch := first | omega | (simp only [List.length_set]; omega) | rfl) only [↓e91_0, ↓e91_1, ↓e91_4, ↓e91_5, ↓e91_8, ↓e91_11, ↓e91_12, ↓e91_15, ↓e91_16, ↓e91_19, ↓e91_20, ↓e91_21, ↓e91_24, ↓e91_27, ↓e91_28, ↓am_ilp, ↓am_iln, ↓am_iep, ↓am_ien, ↓am_zlp, ↓am_zln, ↓am_zep, ↓am_zen, ↓am_zgp, ↓am_zgn, ↓am_zhp, ↓am_zhn, ↓am_b01, true_or, true_and, and_true, or_true, if_true, if_false, ↓am_bdl_z, ↓am_bdl_s, ↓am_bsl_z, ↓am_bsl_s, ↓am_k1_i, ↓am_k1_r, ↓am_k1_e, ↓am_k1_n, ↓am_bd_s, am_k1_t, eq_self, am_nl_i, am_nl_r, am_nl_e, am_nl_n, Option.toList_some, Option.toList_none, Option.map_some, Option.map_none, List.cons_append, List.nil_append, List.length_cons, List.length_nil, List.set_cons_zero, List.set_cons_succ, List.getElem?_cons_zero, List.getElem?_cons_succ, am_bd_s, ↓am_tls, ↓am_tln, ↓am_bdf c0, am_bdf c0, ↓am_bfu c0, am_bfu c0, ↓am_oc_of c0, am_oc_of c0, ↓am_bdf c01, am_bdf c01, ↓am_bfu c01, am_bfu c01, ↓am_oc_of c01, am_oc_of c01, ↓am_bdf lm0.1, am_bdf lm0.1, ↓am_bfu lm0.1, am_bfu lm0.1, ↓am_oc_of lm0.1, am_oc_of lm0.1, ↓am_bdf lf1.2.2.1, am_bdf lf1.2.2.1, ↓am_bfu lf1.2.2.1, am_bfu lf1.2.2.1, ↓am_oc_of lf1.2.2.1, am_oc_of lf1.2.2.1, ↓w1, ↓w2, ↓am_ifb, ↓if_neg q2]
theorem X9_act_w {k b : Nat} {L' : pl_L} (ci : CI h X n nb ns fr la ce ki wi L nx len Ls Q kf Ks sd) (wf : WfL nb ns wi L) (hk : k ≤ 9) (hb : b ≤ 9) (hd : pl_do nb ns fr la ce ki wi L k b = some L') : ∃ h', (∀ E K, Wp E 91 0 [some (am_r (some 0)), some (am_i (k : Int)), some (am_i (b : Int))] [] h K = K (some (am_i 1)) h') ∧ CI h' X n nb ns fr la ce ki wi L' ((nx + 1) % 14) (min (len + 1) 14) (Ls.set nx L) Q kf Ks sd ∧ Up h h' := by
  obtain ⟨c0, ct, ⟨tm, lf⟩, ⟨tk, lp⟩, ⟨o1, o2, w1', w2', lc⟩, cs, cr, cl, ⟨M, lm⟩, c86, c87, k1, k2, k3⟩ := ci
  obtain ⟨h1, w1, l1, f1⟩ := X3_copyFrom_w (r := 82) (q := 78) lm cl (by omega)
  have lf1 := lf.fr f1 (by omega)
  have c01 := (f1.2 0 (by omega)).trans c0
  have lm0 := LayC.obj lm
  have cl1 : LayL h1 78 L := cl.ag (fun i i0 i1 => f1.2 i (by omega))
  obtain ⟨h2, tm2, w2, l2, lf2, f2⟩ := X0_perform_f (k := k) (b := b) cl1 lf1 wf hk hb (by omega)
  rw [hd] at w2 l2
  have q2 : (some L' : Option pl_L).isSome = true := rfl
  have ft : ∀ j : Nat, j ≠ 10 → j < 78 ∨ 86 ≤ j → h2[j]? = h[j]? := fun j j0 j1 => (f2.2 j j0 (by omega)).trans (f1.2 j (by omega))
  have l82 : LayL h2 82 L := LayL.ag (L := L) l1 (fun i i0 i1 => f2.2 i (by omega) (by omega))
  have cr2 : RowC h2 nx len Ls := cr.ag (fun i i0 i1 => ft i (by omega) (by omega))
  obtain ⟨h3, w3, cr3, f3⟩ := X6_remember_w cr2 l82 (by omega)
  have c02 := (ft 0 (by omega) (by omega)).trans c0
  have fu : ∀ j : Nat, j ≠ 10 → j < 20 ∨ 86 ≤ j → h3[j]? = h[j]? := fun j j0 j1 => (f3.2 j (by omega)).trans (ft j j0 (by omega))
  refine ⟨h3, fun E K => ?_, ⟨(fu 0 (by omega) (by omega)).trans c0, ct.ag (fun i i0 i1 => fu i (by omega) (by omega)), ⟨tm2, lf2.ag (fun i i0 i1 => f3.2 i (by omega))⟩, ⟨tk, lp.ag (fun i i0 i1 => fu i (by omega) (by omega))⟩, ⟨o1, o2, w1', w2', lc.ag (fun i i0 i1 => fu i (by omega) (by omega))⟩, cs.ag (fun i i0 i1 => fu i (by omega) (by omega)), cr3, LayL.ag (L := L') l2 (fun i i0 i1 => f3.2 i (by omega)), ⟨L, l82.ag (fun i i0 i1 => f3.2 i (by omega))⟩, (fu _ (by omega) (by omega)).trans c86, (fu _ (by omega) (by omega)).trans c87, k1, k2, fun i M' e => (k3 i M' e).ag (fun j j0 j1 => fu j (by omega) (by omega))⟩, ⟨f3.1.trans (f2.1.trans f1.1), fun i hi => fu i (by omega) (by omega)⟩⟩
  simp (disch := first | omega | (simp only [List.length_set]; omega) | rfl) only [↓e91_0, ↓e91_1, ↓e91_4, ↓e91_5, ↓e91_8, ↓e91_11, ↓e91_12, ↓e91_15, ↓e91_16, ↓e91_19, ↓e91_20, ↓e91_21, ↓e91_24, ↓e91_27, ↓e91_28, ↓e91_29, ↓e91_30, ↓e91_33, ↓e91_34, ↓e91_37, ↓e91_40, ↓e91_41, ↓am_ilp, ↓am_iln, ↓am_iep, ↓am_ien, ↓am_zlp, ↓am_zln, ↓am_zep, ↓am_zen, ↓am_zgp, ↓am_zgn, ↓am_zhp, ↓am_zhn, ↓am_b01, true_or, true_and, and_true, or_true, if_true, if_false, ↓am_bdl_z, ↓am_bdl_s, ↓am_bsl_z, ↓am_bsl_s, ↓am_k1_i, ↓am_k1_r, ↓am_k1_e, ↓am_k1_n, ↓am_bd_s, am_k1_t, eq_self, am_nl_i, am_nl_r, am_nl_e, am_nl_n, Option.toList_some, Option.toList_none, Option.map_some, Option.map_none, List.cons_append, List.nil_append, List.length_cons, List.length_nil, List.set_cons_zero, List.set_cons_succ, List.getElem?_cons_zero, List.getElem?_cons_succ, am_bd_s, ↓am_tls, ↓am_tln, ↓am_bdf c0, am_bdf c0, ↓am_bfu c0, am_bfu c0, ↓am_oc_of c0, am_oc_of c0, ↓am_bdf c01, am_bdf c01, ↓am_bfu c01, am_bfu c01, ↓am_oc_of c01, am_oc_of c01, ↓am_bdf c02, am_bdf c02, ↓am_bfu c02, am_bfu c02, ↓am_oc_of c02, am_oc_of c02, ↓am_bdf lm0.1, am_bdf lm0.1, ↓am_bfu lm0.1, am_bfu lm0.1, ↓am_oc_of lm0.1, am_oc_of lm0.1, ↓am_bdf lf1.2.2.1, am_bdf lf1.2.2.1, ↓am_bfu lf1.2.2.1, am_bfu lf1.2.2.1, ↓am_oc_of lf1.2.2.1, am_oc_of lf1.2.2.1, ↓am_bdf cr2.1, am_bdf cr2.1, ↓am_bfu cr2.1, am_bfu cr2.1, ↓am_oc_of cr2.1, am_oc_of cr2.1, ↓w1, ↓w2, ↓am_ifb, ↓if_pos q2, ↓w3]
end PB4
