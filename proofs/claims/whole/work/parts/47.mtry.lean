/-! the model: what is tried on the second level -/
/-- only the second level and how often have changed -/
def Sc (V V' : Nat → List Int) : Prop := ∃ N o, V' = up (up V 102 N) 107 o ∧ Af (V 102) N 14 ∧ o.length = 11
theorem Sc.rf {V : Nat → List Int} (h : (V 107).length = 11) : Sc V V := ⟨V 102, V 107, up_v2.symm, Af.rf, h⟩
theorem Sc.trans {V V1 V2 : Nat → List Int} (f : Sc V V1) (g : Sc V1 V2) : Sc V V2 := by
  obtain ⟨N, o, rfl, h1, h2⟩ := f
  obtain ⟨N', o', rfl, h3, h4⟩ := g
  exact ⟨N', o', by rw [up_c7, up_up, up_up], h1.trans h3, h4⟩
theorem Sc.n {V : Nat → List Int} {N : List Int} (h : (V 107).length = 11) (f : Af (V 102) N 14) : Sc V (up V 102 N) := ⟨N, V 107, by rw [← up_com (by decide), up_same], f, h⟩
theorem Sc.o {V : Nat → List Int} {o : List Int} (h : o.length = 11) : Sc V (up V 107 o) := ⟨V 102, o, by rw [up_same], Af.rf, h⟩
theorem Sc.no {V : Nat → List Int} {N o : List Int} (h : o.length = 11) (f : Af (V 102) N 14) : Sc V (up (up V 102 N) 107 o) := ⟨N, o, rfl, f, h⟩
theorem Sc.mp {S : Nat → Int} {V V' : Nat → List Int} {nb ns : Nat} (f : Sc V V') (mp : MP S V nb ns) : MP S V' nb ns := by
  obtain ⟨N, o, rfl, h1, h2⟩ := f
  exact (mp.n (by rw [h1.1]; exact mp.2.2.2.2.2.2.2.2.2.1)).o h2
theorem Sc.ly {V V' : Nat → List Int} {L : pl_L} (f : Sc V V') (l : Ly (V 102) 0 L) : Ly (V' 102) 0 L := by
  obtain ⟨N, o, rfl, h1, h2⟩ := f
  exact h1.ly l (by omega) (by omega)
theorem Sc.at {V V' : Nat → List Int} {i : Nat} (f : Sc V V') (h : i ≠ 102) (h2 : i ≠ 107) : V' i = V i := by
  obtain ⟨N, o, rfl, -, -⟩ := f
  rw [up_ne h2, up_ne h]
theorem pl_erf {B : List Nat} (hn : B.Nodup) (g : Nat → Bool) (i : Nat) : (if g i = true then (B.filter fun b => !(g b && decide (b < i))).erase i else B.filter fun b => !(g b && decide (b < i))) = B.filter fun b => !(g b && decide (b < i + 1)) := by
  by_cases q : g i = true
  · rw [if_pos q, List.Nodup.erase_eq_filter (hn.filter _), List.filter_filter]
    apply List.filter_congr
    intro x _
    by_cases c : x = i
    · subst c
      simp [q]
    · have e : decide (x < i + 1) = decide (x < i) := by
        apply decide_eq_decide.mpr
        omega
      rw [e]
      simp [c]
  · rw [if_neg q]
    apply List.filter_congr
    intro x _
    by_cases c : x = i
    · subst c
      simp [q]
    · have e : decide (x < i + 1) = decide (x < i) := by
        apply decide_eq_decide.mpr
        omega
      rw [e]
section MTR
variable {C : Nat → am_C} {S : Nat → Int} {V : Nat → List Int} {nb ns : Nat} {L : pl_L}
theorem X10_wakes_s {lv s : Int} (mp : MP S V nb ns) (ly : Ly (V 102) (14 * lv) L) (hlv : 0 ≤ lv ∧ lv ≤ 1) (wf : WfL nb ns (V 101) L) (hs : 0 ≤ s ∧ s < ns) : ∃ V', Sc V V' ∧ V' 102 = V 102 ∧ ∀ E K, Wp E 129 0 [some (am_r (some 96)), some (am_i lv), some (am_i s)] [] (mk C S V) K = K (some (am_i (pl_wk (V 97) (V 98) (V 99) (V 100) L.1 (L.2.1.getD s.toNat 0).toNat ((V 101).getD s.toNat 0).toNat))) (mk C S V') := by
  obtain ⟨o, ho, w⟩ := X10_wakes_w (C := C) mp ly hlv wf hs
  exact ⟨_, Sc.o ho, rfl, w⟩
theorem X10_layTrial_w (mp : MP S V nb ns) (ly : Ly (V 102) 0 L) : ∃ V', Sc V V' ∧ Ly (V' 102) 14 L ∧ ∀ E K, Wp E 147 0 [some (am_r (some 96)), none] [] (mk C S V) K = K none (mk C S V') := by
  obtain ⟨s0, s1, hnb, hns, l97, l98, l99, l100, l101, l102, l107, pv, wv⟩ := id mp
  have lo := fun (E : List (List Int)) (K : Option am_V → am_H → Prop) => am_foldz (W := fun k N => Wp E 147 2 [some (am_r (some 96)), some (am_i k)] [] (mk C S (up V 102 N)) K) (f := fun N k => si N (14 + k) (gi N k)) (I := fun k N => N.length = 28 ∧ ∀ i : Int, 0 ≤ i → gi N i = if 14 ≤ i ∧ i < 14 + k then gi (V 102) (i - 14) else gi (V 102) i) (lo := 0) (N := 14) (by
    intro k N k0 k1 hI
    obtain ⟨i1, i2⟩ := hI
    refine ⟨⟨by rw [si_len]; exact i1, fun i hi => ?_⟩, ?_⟩
    · by_cases c1 : i = 14 + k
      · subst c1
        rw [gi_eq (by omega), i2 _ (by omega), if_neg (by omega), if_pos (by omega)]
        congr 1
        omega
      · rw [gi_ne (by omega), i2 i hi]
        by_cases c3 : 14 ≤ i ∧ i < 14 + k
        · rw [if_pos c3, if_pos (by omega)]
        · rw [if_neg c3, if_neg (by omega)]
    · rw [e147_2]
      simp (disch := first | omega | (simp (disch := omega) only [up_eq, up_ne, si_len, List.length_set]; omega)) only [↓e147_3, ↓e147_5, ↓e147_8, ↓e147_9, ↓e147_12, ↓e147_14, ↓e147_15, ↓e147_16, ↓e147_17, ↓e147_20, ↓e147_21, ↓e147_22, ↓e147_23, ↓e147_26, ↓am_ilp, ↓am_iln, ↓am_iep, ↓am_ien, ↓am_zlp, ↓am_zln, ↓am_zep, ↓am_zen, ↓am_zgp, ↓am_zgn, ↓am_zhp, ↓am_zhn, ↓am_b01, true_or, true_and, and_true, or_true, if_true, if_false, ↓am_bdl_z, ↓am_bdl_s, ↓am_bsl_z, ↓am_bsl_s, ↓am_k1_i, ↓am_k1_r, ↓am_k1_e, ↓am_k1_n, ↓am_bd_s, am_k1_t, eq_self, am_nl_i, am_nl_r, am_nl_e, am_nl_n, Option.toList_some, Option.toList_none, Option.map_some, Option.map_none, List.cons_append, List.nil_append, List.length_cons, List.length_nil, List.set_cons_zero, List.set_cons_succ, List.getElem?_cons_zero, List.getElem?_cons_succ, am_bd_s, ↓am_tls, ↓am_tln, ↓mk_oc, ↓ma_r, ↓ma_w, ↓mz_r, ↓mz_w, ↓mr0, ↓mr1, ↓mr2, ↓mr3, ↓mr4, ↓mr5, ↓mr6, ↓mr7, ↓mr8, ↓mr9, ↓mr10, ↓mr11, ↓mr12, ↓mr13, ↓mr14, ↓mr15, ↓mr16, ↓mr17, ↓mr18, ↓mr19, ↓mr20, ↓mr21, ↓mr22, ↓mr23, ↓mr24, ↓mr25, ↓mr26, ↓mr27, ↓mw0, ↓mw1, ↓mw11, ↓mw12, ↓mw13, ↓mw15, ↓mw16, ↓mw17, ↓mw19, ↓mw20, ↓mw22, ↓mw25, up_eq, up_ne, up_up, si_len]) 14 0 (V 102) (by omega) (by omega) ⟨l102, fun i hi => by rw [if_neg (by omega)]⟩
  obtain ⟨N, hN⟩ : ∃ N, N = pl_fz (fun N k => si N (14 + k) (gi N k)) 0 14 (V 102) := ⟨_, rfl⟩
  rw [← hN, up_same] at lo
  obtain ⟨i1, i2⟩ := (lo [] (fun _ _ => True)).2
  have sh : ∀ i : Int, 0 ≤ i → i < 14 → gi N (14 + i) = gi (V 102) (0 + i) := by
    intro i h0 h1
    rw [i2 _ (by omega), if_pos (by omega)]
    congr 1
    omega
  refine ⟨_, Sc.n (N := N) l107 ⟨by omega, fun i h0 h1 => by rw [i2 i h0, if_neg (by omega)]⟩, ?_, fun E K => ?_⟩
  · obtain ⟨h0, h1, h2, h3, h4, h5, h6, h7⟩ := ly
    rw [up_eq]
    refine ⟨h0, by rw [sh 6 (by omega) (by omega)]; exact h1, fun i hi => by rw [sh _ (by omega) (by omega)]; exact h2 i hi, h3, h4, fun s hs => ?_, fun s hs => ?_, by rw [sh 13 (by omega) (by omega)]; exact h7⟩
    · rw [show (14 : Int) + 7 + (s : Int) = 14 + (7 + s) by omega, sh _ (by omega) (by omega), show (0 : Int) + (7 + (s : Int)) = 0 + 7 + s by omega]; exact h5 s hs
    · rw [show (14 : Int) + 10 + (s : Int) = 14 + (10 + s) by omega, sh _ (by omega) (by omega), show (0 : Int) + (10 + (s : Int)) = 0 + 10 + s by omega]; exact h6 s hs
  · simp (disch := first | omega | (simp (disch := omega) only [up_eq, up_ne, si_len, List.length_set]; omega)) only [↓e147_0, ↓e147_1, ↓am_ilp, ↓am_iln, ↓am_iep, ↓am_ien, ↓am_zlp, ↓am_zln, ↓am_zep, ↓am_zen, ↓am_zgp, ↓am_zgn, ↓am_zhp, ↓am_zhn, ↓am_b01, true_or, true_and, and_true, or_true, if_true, if_false, ↓am_bdl_z, ↓am_bdl_s, ↓am_bsl_z, ↓am_bsl_s, ↓am_k1_i, ↓am_k1_r, ↓am_k1_e, ↓am_k1_n, ↓am_bd_s, am_k1_t, eq_self, am_nl_i, am_nl_r, am_nl_e, am_nl_n, Option.toList_some, Option.toList_none, Option.map_some, Option.map_none, List.cons_append, List.nil_append, List.length_cons, List.length_nil, List.set_cons_zero, List.set_cons_succ, List.getElem?_cons_zero, List.getElem?_cons_succ, am_bd_s]
    refine Eq.trans (lo E K).1 ?_
    rw [e147_2]
    simp (disch := first | omega | (simp (disch := omega) only [up_eq, up_ne, si_len, List.length_set]; omega)) only [↓e147_3, ↓e147_5, ↓e147_8, ↓e147_9, ↓e147_12, ↓e147_14, ↓e147_15, ↓e147_16, ↓e147_17, ↓e147_20, ↓e147_21, ↓e147_22, ↓e147_23, ↓e147_26, ↓e147_29, ↓am_ilp, ↓am_iln, ↓am_iep, ↓am_ien, ↓am_zlp, ↓am_zln, ↓am_zep, ↓am_zen, ↓am_zgp, ↓am_zgn, ↓am_zhp, ↓am_zhn, ↓am_b01, true_or, true_and, and_true, or_true, if_true, if_false, ↓am_bdl_z, ↓am_bdl_s, ↓am_bsl_z, ↓am_bsl_s, ↓am_k1_i, ↓am_k1_r, ↓am_k1_e, ↓am_k1_n, ↓am_bd_s, am_k1_t, eq_self, am_nl_i, am_nl_r, am_nl_e, am_nl_n, Option.toList_some, Option.toList_none, Option.map_some, Option.map_none, List.cons_append, List.nil_append, List.length_cons, List.length_nil, List.set_cons_zero, List.set_cons_succ, List.getElem?_cons_zero, List.getElem?_cons_succ, am_bd_s]
theorem X10_layWithout_w {g : Int} (mp : MP S V nb ns) (ly : Ly (V 102) 0 L) (wf : WfL nb ns (V 101) L) (hg : 0 ≤ g ∧ g < 64) : ∃ V', Sc V V' ∧ Ly (V' 102) 14 (L.1.filter (fun b => !g.toNat.testBit b), L.2) ∧ ∀ E K, Wp E 148 0 [some (am_r (some 96)), some (am_i g), none] [] (mk C S V) K = K none (mk C S V') := by
  obtain ⟨V1, c1, l1, w1⟩ := X10_layTrial_w (C := C) mp ly
  obtain ⟨s0, s1, hnb, hns, l97, l98, l99, l100, l101, l102, l107, pv, wv⟩ := id mp
  obtain ⟨V2, ⟨c2, l2⟩, w2⟩ := am_loopz (X := List (List Int) × (Option am_V → am_H → Prop)) (α := Nat → List Int) (W := fun x i V' => Wp x.1 148 6 [some (am_r (some 96)), some (am_i g), some (am_i i)] [] (mk C S V') x.2) (I := fun i V' => Sc V V' ∧ Ly (V' 102) 14 (L.1.filter (fun b => !(g.toNat.testBit b && decide (b < i.toNat))), L.2)) (lo := 0) (N := (nb : Int)) (by
    rintro i V2 h0 h1 ⟨c2, l2⟩
    have m2 := c2.mp mp
    obtain ⟨N, a3, l3, w3⟩ := X10_takeOn_w (C := C) (lv := 1) (q := i) m2 l2 (by omega) (fun x hx => wf.1 x (List.mem_filter.mp hx).1) (wf.2.1.filter _) (by omega)
    have hp := pl_erf wf.2.1 g.toNat.testBit i.toNat
    have e1 : (i + 1).toNat = i.toNat + 1 := by omega
    by_cases q : g.toNat.testBit i.toNat = true
    · rw [if_pos q] at hp
      rw [hp, ← e1] at l3
      refine ⟨up V2 102 N, ⟨c2.trans (Sc.n m2.2.2.2.2.2.2.2.2.2.2.1 a3), l3⟩, fun x => ?_⟩
      rw [e148_6]
      simp (disch := first | omega | (simp (disch := omega) only [up_eq, up_ne, si_len, List.length_set]; omega)) only [↓e148_7, ↓e148_8, ↓e148_11, ↓e148_14, ↓e148_15, ↓e148_16, ↓e148_19, ↓e148_22, ↓e148_23, ↓e148_24, ↓e148_25, ↓e148_28, ↓e148_29, ↓e148_32, ↓am_ilp, ↓am_iln, ↓am_iep, ↓am_ien, ↓am_zlp, ↓am_zln, ↓am_zep, ↓am_zen, ↓am_zgp, ↓am_zgn, ↓am_zhp, ↓am_zhn, ↓am_b01, true_or, true_and, and_true, or_true, if_true, if_false, ↓am_bdl_z, ↓am_bdl_s, ↓am_bsl_z, ↓am_bsl_s, ↓am_k1_i, ↓am_k1_r, ↓am_k1_e, ↓am_k1_n, ↓am_bd_s, am_k1_t, eq_self, am_nl_i, am_nl_r, am_nl_e, am_nl_n, Option.toList_some, Option.toList_none, Option.map_some, Option.map_none, List.cons_append, List.nil_append, List.length_cons, List.length_nil, List.set_cons_zero, List.set_cons_succ, List.getElem?_cons_zero, List.getElem?_cons_succ, am_bd_s, ↓am_tls, ↓am_tln, ↓mk_oc, ↓ma_r, ↓ma_w, ↓mz_r, ↓mz_w, ↓mr0, ↓mr1, ↓mr2, ↓mr3, ↓mr4, ↓mr5, ↓mr6, ↓mr7, ↓mr8, ↓mr9, ↓mr10, ↓mr11, ↓mr12, ↓mr13, ↓mr14, ↓mr15, ↓mr16, ↓mr17, ↓mr18, ↓mr19, ↓mr20, ↓mr21, ↓mr22, ↓mr23, ↓mr24, ↓mr25, ↓mr26, ↓mr27, ↓mw0, ↓mw1, ↓mw11, ↓mw12, ↓mw13, ↓mw15, ↓mw16, ↓mw17, ↓mw19, ↓mw20, ↓mw22, ↓mw25, up_eq, up_ne, up_up, si_len, ↓X10_has_w, ↓am_ifb, ↓if_pos q, ↓w3]
    · rw [if_neg q] at hp
      rw [hp, ← e1] at l2
      refine ⟨V2, ⟨c2, l2⟩, fun x => ?_⟩
      rw [e148_6]
      simp (disch := first | omega | (simp (disch := omega) only [up_eq, up_ne, si_len, List.length_set]; omega)) only [↓e148_7, ↓e148_8, ↓e148_11, ↓e148_14, ↓e148_15, ↓e148_16, ↓e148_19, ↓e148_22, ↓e148_23, ↓e148_24, ↓e148_25, ↓e148_28, ↓e148_29, ↓e148_32, ↓am_ilp, ↓am_iln, ↓am_iep, ↓am_ien, ↓am_zlp, ↓am_zln, ↓am_zep, ↓am_zen, ↓am_zgp, ↓am_zgn, ↓am_zhp, ↓am_zhn, ↓am_b01, true_or, true_and, and_true, or_true, if_true, if_false, ↓am_bdl_z, ↓am_bdl_s, ↓am_bsl_z, ↓am_bsl_s, ↓am_k1_i, ↓am_k1_r, ↓am_k1_e, ↓am_k1_n, ↓am_bd_s, am_k1_t, eq_self, am_nl_i, am_nl_r, am_nl_e, am_nl_n, Option.toList_some, Option.toList_none, Option.map_some, Option.map_none, List.cons_append, List.nil_append, List.length_cons, List.length_nil, List.set_cons_zero, List.set_cons_succ, List.getElem?_cons_zero, List.getElem?_cons_succ, am_bd_s, ↓am_tls, ↓am_tln, ↓mk_oc, ↓ma_r, ↓ma_w, ↓mz_r, ↓mz_w, ↓mr0, ↓mr1, ↓mr2, ↓mr3, ↓mr4, ↓mr5, ↓mr6, ↓mr7, ↓mr8, ↓mr9, ↓mr10, ↓mr11, ↓mr12, ↓mr13, ↓mr14, ↓mr15, ↓mr16, ↓mr17, ↓mr18, ↓mr19, ↓mr20, ↓mr21, ↓mr22, ↓mr23, ↓mr24, ↓mr25, ↓mr26, ↓mr27, ↓mw0, ↓mw1, ↓mw11, ↓mw12, ↓mw13, ↓mw15, ↓mw16, ↓mw17, ↓mw19, ↓mw20, ↓mw22, ↓mw25, up_eq, up_ne, up_up, si_len, ↓X10_has_w, ↓am_ifb, ↓if_neg q]) nb 0 V1 (by omega) (by omega) ⟨c1, by
      have e : (L.1.filter fun b => !(g.toNat.testBit b && decide (b < (0 : Int).toNat))) = L.1 := by
        apply List.filter_eq_self.mpr
        intro x _
        simp
      rw [e]
      exact l1⟩
  refine ⟨V2, c2, ?_, fun E K => ?_⟩
  · have e : (L.1.filter fun b => !(g.toNat.testBit b && decide (b < (nb : Int).toNat))) = L.1.filter fun b => !g.toNat.testBit b := by
      apply List.filter_congr
      intro x hx
      have := wf.1 x hx
      simp [this]
    rw [← e]
    exact l2
  · simp (disch := first | omega | (simp (disch := omega) only [up_eq, up_ne, si_len, List.length_set]; omega)) only [↓e148_0, ↓e148_1, ↓e148_4, ↓e148_5, ↓am_ilp, ↓am_iln, ↓am_iep, ↓am_ien, ↓am_zlp, ↓am_zln, ↓am_zep, ↓am_zen, ↓am_zgp, ↓am_zgn, ↓am_zhp, ↓am_zhn, ↓am_b01, true_or, true_and, and_true, or_true, if_true, if_false, ↓am_bdl_z, ↓am_bdl_s, ↓am_bsl_z, ↓am_bsl_s, ↓am_k1_i, ↓am_k1_r, ↓am_k1_e, ↓am_k1_n, ↓am_bd_s, am_k1_t, eq_self, am_nl_i, am_nl_r, am_nl_e, am_nl_n, Option.toList_some, Option.toList_none, Option.map_some, Option.map_none, List.cons_append, List.nil_append, List.length_cons, List.length_nil, List.set_cons_zero, List.set_cons_succ, List.getElem?_cons_zero, List.getElem?_cons_succ, am_bd_s, ↓am_tls, ↓am_tln, ↓mk_oc, ↓ma_r, ↓ma_w, ↓mz_r, ↓mz_w, ↓mr0, ↓mr1, ↓mr2, ↓mr3, ↓mr4, ↓mr5, ↓mr6, ↓mr7, ↓mr8, ↓mr9, ↓mr10, ↓mr11, ↓mr12, ↓mr13, ↓mr14, ↓mr15, ↓mr16, ↓mr17, ↓mr18, ↓mr19, ↓mr20, ↓mr21, ↓mr22, ↓mr23, ↓mr24, ↓mr25, ↓mr26, ↓mr27, ↓mw0, ↓mw1, ↓mw11, ↓mw12, ↓mw13, ↓mw15, ↓mw16, ↓mw17, ↓mw19, ↓mw20, ↓mw22, ↓mw25, up_eq, up_ne, up_up, si_len, ↓w1]
    refine Eq.trans (w2 (E, K)) ?_
    rw [e148_6]
    simp (disch := first | omega | (simp (disch := omega) only [up_eq, up_ne, si_len, List.length_set]; omega)) only [↓e148_7, ↓e148_8, ↓e148_11, ↓e148_14, ↓e148_15, ↓e148_16, ↓e148_19, ↓e148_22, ↓e148_23, ↓e148_24, ↓e148_25, ↓e148_28, ↓e148_29, ↓e148_32, ↓e148_35, ↓am_ilp, ↓am_iln, ↓am_iep, ↓am_ien, ↓am_zlp, ↓am_zln, ↓am_zep, ↓am_zen, ↓am_zgp, ↓am_zgn, ↓am_zhp, ↓am_zhn, ↓am_b01, true_or, true_and, and_true, or_true, if_true, if_false, ↓am_bdl_z, ↓am_bdl_s, ↓am_bsl_z, ↓am_bsl_s, ↓am_k1_i, ↓am_k1_r, ↓am_k1_e, ↓am_k1_n, ↓am_bd_s, am_k1_t, eq_self, am_nl_i, am_nl_r, am_nl_e, am_nl_n, Option.toList_some, Option.toList_none, Option.map_some, Option.map_none, List.cons_append, List.nil_append, List.length_cons, List.length_nil, List.set_cons_zero, List.set_cons_succ, List.getElem?_cons_zero, List.getElem?_cons_succ, am_bd_s, ↓am_tls, ↓am_tln, ↓mk_oc, ↓ma_r, ↓ma_w, ↓mz_r, ↓mz_w, ↓mr0, ↓mr1, ↓mr2, ↓mr3, ↓mr4, ↓mr5, ↓mr6, ↓mr7, ↓mr8, ↓mr9, ↓mr10, ↓mr11, ↓mr12, ↓mr13, ↓mr14, ↓mr15, ↓mr16, ↓mr17, ↓mr18, ↓mr19, ↓mr20, ↓mr21, ↓mr22, ↓mr23, ↓mr24, ↓mr25, ↓mr26, ↓mr27, ↓mw0, ↓mw1, ↓mw11, ↓mw12, ↓mw13, ↓mw15, ↓mw16, ↓mw17, ↓mw19, ↓mw20, ↓mw22, ↓mw25, up_eq, up_ne, up_up, si_len]
theorem X10_tryThing_w {hw k : Nat} (mp : MP S V nb ns) (ly : Ly (V 102) 14 L) (wf : WfL nb ns (V 101) L) (dj : Dj ns (V 101) L.2.1) (hh : hw ≤ 9) (hk : k ≤ 9) : ∃ V', Sc V V' ∧ Ly (V' 102) 14 ((pl_do nb ns (V 97) (V 98) (V 99) (V 100) (V 101) L hw k).getD L) ∧ ∀ E K, Wp E 160 0 [some (am_r (some 96)), some (am_i (hw : Int)), some (am_i (k : Int))] [] (mk C S V) K = K (some (am_i (pl_b ((pl_do nb ns (V 97) (V 98) (V 99) (V 100) (V 101) L hw k).isSome = true)))) (mk C S V') := by
  obtain ⟨s0, s1, hnb, hns, l97, l98, l99, l100, l101, l102, l107, pv, wv⟩ := id mp
  have ew : am_w (k : Int) = (k : Int) := am_w_nat (by omega)
  match hw, hh with
  | 0, _ =>
    by_cases q : k = 0
    · subst q
      obtain ⟨N, o, a, ho, l, w⟩ := X10_passOn_w (C := C) (lv := 1) mp ly (by omega) wf
      refine ⟨_, Sc.no ho a, ?_, fun E K => ?_⟩
      · rw [pl_do, if_pos rfl]
        exact l
      · rw [pl_do, if_pos rfl, pl_b, if_pos (by rfl)]
        simp (disch := first | omega | (simp (disch := omega) only [up_eq, up_ne, si_len, List.length_set]; omega)) only [↓e160_0, ↓e160_1, ↓e160_40, ↓e160_41, ↓e160_44, ↓e160_45, ↓e160_46, ↓e160_49, ↓e160_50, ↓e160_53, ↓e160_54, ↓e160_57, ↓e160_58, ↓am_ilp, ↓am_iln, ↓am_iep, ↓am_ien, ↓am_zlp, ↓am_zln, ↓am_zep, ↓am_zen, ↓am_zgp, ↓am_zgn, ↓am_zhp, ↓am_zhn, ↓am_b01, true_or, true_and, and_true, or_true, if_true, if_false, ↓am_bdl_z, ↓am_bdl_s, ↓am_bsl_z, ↓am_bsl_s, ↓am_k1_i, ↓am_k1_r, ↓am_k1_e, ↓am_k1_n, ↓am_bd_s, am_k1_t, eq_self, am_nl_i, am_nl_r, am_nl_e, am_nl_n, Option.toList_some, Option.toList_none, Option.map_some, Option.map_none, List.cons_append, List.nil_append, List.length_cons, List.length_nil, List.set_cons_zero, List.set_cons_succ, List.getElem?_cons_zero, List.getElem?_cons_succ, am_bd_s, ↓am_tls, ↓am_tln, ↓mk_oc, ↓ma_r, ↓ma_w, ↓mz_r, ↓mz_w, ↓mr0, ↓mr1, ↓mr2, ↓mr3, ↓mr4, ↓mr5, ↓mr6, ↓mr7, ↓mr8, ↓mr9, ↓mr10, ↓mr11, ↓mr12, ↓mr13, ↓mr14, ↓mr15, ↓mr16, ↓mr17, ↓mr18, ↓mr19, ↓mr20, ↓mr21, ↓mr22, ↓mr23, ↓mr24, ↓mr25, ↓mr26, ↓mr27, ↓mw0, ↓mw1, ↓mw11, ↓mw12, ↓mw13, ↓mw15, ↓mw16, ↓mw17, ↓mw19, ↓mw20, ↓mw22, ↓mw25, up_eq, up_ne, up_up, si_len, ↓w]
    · refine ⟨V, Sc.rf l107, ?_, fun E K => ?_⟩
      · rw [pl_do, if_neg q]
        exact ly
      · rw [pl_do, if_neg q, pl_b, if_neg (by simp)]
        simp (disch := first | omega | (simp (disch := omega) only [up_eq, up_ne, si_len, List.length_set]; omega)) only [↓e160_0, ↓e160_1, ↓e160_40, ↓e160_41, ↓e160_44, ↓e160_45, ↓e160_46, ↓e160_49, ↓e160_50, ↓e160_53, ↓e160_54, ↓e160_57, ↓e160_58, ↓am_ilp, ↓am_iln, ↓am_iep, ↓am_ien, ↓am_zlp, ↓am_zln, ↓am_zep, ↓am_zen, ↓am_zgp, ↓am_zgn, ↓am_zhp, ↓am_zhn, ↓am_b01, true_or, true_and, and_true, or_true, if_true, if_false, ↓am_bdl_z, ↓am_bdl_s, ↓am_bsl_z, ↓am_bsl_s, ↓am_k1_i, ↓am_k1_r, ↓am_k1_e, ↓am_k1_n, ↓am_bd_s, am_k1_t, eq_self, am_nl_i, am_nl_r, am_nl_e, am_nl_n, Option.toList_some, Option.toList_none, Option.map_some, Option.map_none, List.cons_append, List.nil_append, List.length_cons, List.length_nil, List.set_cons_zero, List.set_cons_succ, List.getElem?_cons_zero, List.getElem?_cons_succ, am_bd_s, ↓am_tls, ↓am_tln, ↓mk_oc, ↓ma_r, ↓ma_w, ↓mz_r, ↓mz_w, ↓mr0, ↓mr1, ↓mr2, ↓mr3, ↓mr4, ↓mr5, ↓mr6, ↓mr7, ↓mr8, ↓mr9, ↓mr10, ↓mr11, ↓mr12, ↓mr13, ↓mr14, ↓mr15, ↓mr16, ↓mr17, ↓mr18, ↓mr19, ↓mr20, ↓mr21, ↓mr22, ↓mr23, ↓mr24, ↓mr25, ↓mr26, ↓mr27, ↓mw0, ↓mw1, ↓mw11, ↓mw12, ↓mw13, ↓mw15, ↓mw16, ↓mw17, ↓mw19, ↓mw20, ↓mw22, ↓mw25, up_eq, up_ne, up_up, si_len]
  | 1, _ =>
    by_cases q : k < nb
    · have q1 : 0 ≤ am_w (k : Int) ∧ am_w (k : Int) < (nb : Int) := by omega
      obtain ⟨N, a, l, w⟩ := X10_takeOn_w (C := C) (lv := 1) (q := (k : Int)) mp ly (by omega) wf.1 wf.2.1 (by omega)
      rw [Int.toNat_natCast] at l w
      refine ⟨_, Sc.n l107 a, ?_, fun E K => ?_⟩
      · rw [pl_do]
        by_cases q2 : k ∈ L.1
        · rw [if_pos ⟨q, q2⟩]; exact l
        · rw [if_neg (fun z => q2 z.2)]
          rw [List.erase_of_not_mem q2] at l
          exact l
      · rw [pl_do]
        by_cases q2 : k ∈ L.1
        · rw [if_pos ⟨q, q2⟩, pl_b, if_pos (by rfl)]
          simp (disch := first | omega | (simp (disch := omega) only [up_eq, up_ne, si_len, List.length_set]; omega)) only [↓e160_0, ↓e160_1, ↓e160_59, ↓e160_60, ↓e160_61, ↓e160_64, ↓e160_67, ↓e160_68, ↓e160_69, ↓e160_70, ↓e160_73, ↓e160_76, ↓e160_77, ↓e160_80, ↓e160_81, ↓am_ilp, ↓am_iln, ↓am_iep, ↓am_ien, ↓am_zlp, ↓am_zln, ↓am_zep, ↓am_zen, ↓am_zgp, ↓am_zgn, ↓am_zhp, ↓am_zhn, ↓am_b01, true_or, true_and, and_true, or_true, if_true, if_false, ↓am_bdl_z, ↓am_bdl_s, ↓am_bsl_z, ↓am_bsl_s, ↓am_k1_i, ↓am_k1_r, ↓am_k1_e, ↓am_k1_n, ↓am_bd_s, am_k1_t, eq_self, am_nl_i, am_nl_r, am_nl_e, am_nl_n, Option.toList_some, Option.toList_none, Option.map_some, Option.map_none, List.cons_append, List.nil_append, List.length_cons, List.length_nil, List.set_cons_zero, List.set_cons_succ, List.getElem?_cons_zero, List.getElem?_cons_succ, am_bd_s, ↓am_tls, ↓am_tln, ↓mk_oc, ↓ma_r, ↓ma_w, ↓mz_r, ↓mz_w, ↓mr0, ↓mr1, ↓mr2, ↓mr3, ↓mr4, ↓mr5, ↓mr6, ↓mr7, ↓mr8, ↓mr9, ↓mr10, ↓mr11, ↓mr12, ↓mr13, ↓mr14, ↓mr15, ↓mr16, ↓mr17, ↓mr18, ↓mr19, ↓mr20, ↓mr21, ↓mr22, ↓mr23, ↓mr24, ↓mr25, ↓mr26, ↓mr27, ↓mw0, ↓mw1, ↓mw11, ↓mw12, ↓mw13, ↓mw15, ↓mw16, ↓mw17, ↓mw19, ↓mw20, ↓mw22, ↓mw25, up_eq, up_ne, up_up, si_len, ↓X10_isBlanket_w mp, ↓am_ifb, ↓if_pos q1, ↓w, ↓if_pos q2]
        · rw [if_neg (fun z => q2 z.2), pl_b, if_neg (by simp)]
          simp (disch := first | omega | (simp (disch := omega) only [up_eq, up_ne, si_len, List.length_set]; omega)) only [↓e160_0, ↓e160_1, ↓e160_59, ↓e160_60, ↓e160_61, ↓e160_64, ↓e160_67, ↓e160_68, ↓e160_69, ↓e160_70, ↓e160_73, ↓e160_76, ↓e160_77, ↓e160_80, ↓e160_81, ↓am_ilp, ↓am_iln, ↓am_iep, ↓am_ien, ↓am_zlp, ↓am_zln, ↓am_zep, ↓am_zen, ↓am_zgp, ↓am_zgn, ↓am_zhp, ↓am_zhn, ↓am_b01, true_or, true_and, and_true, or_true, if_true, if_false, ↓am_bdl_z, ↓am_bdl_s, ↓am_bsl_z, ↓am_bsl_s, ↓am_k1_i, ↓am_k1_r, ↓am_k1_e, ↓am_k1_n, ↓am_bd_s, am_k1_t, eq_self, am_nl_i, am_nl_r, am_nl_e, am_nl_n, Option.toList_some, Option.toList_none, Option.map_some, Option.map_none, List.cons_append, List.nil_append, List.length_cons, List.length_nil, List.set_cons_zero, List.set_cons_succ, List.getElem?_cons_zero, List.getElem?_cons_succ, am_bd_s, ↓am_tls, ↓am_tln, ↓mk_oc, ↓ma_r, ↓ma_w, ↓mz_r, ↓mz_w, ↓mr0, ↓mr1, ↓mr2, ↓mr3, ↓mr4, ↓mr5, ↓mr6, ↓mr7, ↓mr8, ↓mr9, ↓mr10, ↓mr11, ↓mr12, ↓mr13, ↓mr14, ↓mr15, ↓mr16, ↓mr17, ↓mr18, ↓mr19, ↓mr20, ↓mr21, ↓mr22, ↓mr23, ↓mr24, ↓mr25, ↓mr26, ↓mr27, ↓mw0, ↓mw1, ↓mw11, ↓mw12, ↓mw13, ↓mw15, ↓mw16, ↓mw17, ↓mw19, ↓mw20, ↓mw22, ↓mw25, up_eq, up_ne, up_up, si_len, ↓X10_isBlanket_w mp, ↓am_ifb, ↓if_pos q1, ↓w, ↓if_neg q2]
    · have q1 : ¬ (0 ≤ am_w (k : Int) ∧ am_w (k : Int) < (nb : Int)) := by omega
      refine ⟨V, Sc.rf l107, ?_, fun E K => ?_⟩
      · rw [pl_do, if_neg (fun z => q z.1)]; exact ly
      · rw [pl_do, if_neg (fun z => q z.1), pl_b, if_neg (by simp)]
        simp (disch := first | omega | (simp (disch := omega) only [up_eq, up_ne, si_len, List.length_set]; omega)) only [↓e160_0, ↓e160_1, ↓e160_59, ↓e160_60, ↓e160_61, ↓e160_64, ↓e160_67, ↓e160_68, ↓e160_69, ↓e160_70, ↓e160_73, ↓e160_76, ↓e160_77, ↓e160_80, ↓e160_81, ↓am_ilp, ↓am_iln, ↓am_iep, ↓am_ien, ↓am_zlp, ↓am_zln, ↓am_zep, ↓am_zen, ↓am_zgp, ↓am_zgn, ↓am_zhp, ↓am_zhn, ↓am_b01, true_or, true_and, and_true, or_true, if_true, if_false, ↓am_bdl_z, ↓am_bdl_s, ↓am_bsl_z, ↓am_bsl_s, ↓am_k1_i, ↓am_k1_r, ↓am_k1_e, ↓am_k1_n, ↓am_bd_s, am_k1_t, eq_self, am_nl_i, am_nl_r, am_nl_e, am_nl_n, Option.toList_some, Option.toList_none, Option.map_some, Option.map_none, List.cons_append, List.nil_append, List.length_cons, List.length_nil, List.set_cons_zero, List.set_cons_succ, List.getElem?_cons_zero, List.getElem?_cons_succ, am_bd_s, ↓am_tls, ↓am_tln, ↓mk_oc, ↓ma_r, ↓ma_w, ↓mz_r, ↓mz_w, ↓mr0, ↓mr1, ↓mr2, ↓mr3, ↓mr4, ↓mr5, ↓mr6, ↓mr7, ↓mr8, ↓mr9, ↓mr10, ↓mr11, ↓mr12, ↓mr13, ↓mr14, ↓mr15, ↓mr16, ↓mr17, ↓mr18, ↓mr19, ↓mr20, ↓mr21, ↓mr22, ↓mr23, ↓mr24, ↓mr25, ↓mr26, ↓mr27, ↓mw0, ↓mw1, ↓mw11, ↓mw12, ↓mw13, ↓mw15, ↓mw16, ↓mw17, ↓mw19, ↓mw20, ↓mw22, ↓mw25, up_eq, up_ne, up_up, si_len, ↓X10_isBlanket_w mp, ↓am_ifb, ↓if_neg q1]
  | 2, _ =>
    by_cases q : k < nb
    · have q1 : 0 ≤ am_w (k : Int) ∧ am_w (k : Int) < (nb : Int) := by omega
      by_cases q2 : k ∈ L.1
      · have w := fun E K => X10_putOn_no (C := C) (lv := 1) (q := (k : Int)) (bl := 0) mp ly (by omega) wf.1 wf.2.1 (by omega) q2 E K
        refine ⟨V, Sc.rf l107, ?_, fun E K => ?_⟩
        · rw [pl_do, if_neg (fun z => z.2 q2)]; exact ly
        · rw [pl_do, if_neg (fun z => z.2 q2), pl_b, if_neg (by simp)]
          simp (disch := first | omega | (simp (disch := omega) only [up_eq, up_ne, si_len, List.length_set]; omega)) only [↓e160_0, ↓e160_1, ↓e160_82, ↓e160_83, ↓e160_84, ↓e160_87, ↓e160_90, ↓e160_91, ↓e160_92, ↓e160_93, ↓e160_94, ↓e160_95, ↓e160_98, ↓e160_99, ↓e160_102, ↓e160_103, ↓e160_106, ↓e160_109, ↓e160_110, ↓e160_113, ↓e160_114, ↓am_ilp, ↓am_iln, ↓am_iep, ↓am_ien, ↓am_zlp, ↓am_zln, ↓am_zep, ↓am_zen, ↓am_zgp, ↓am_zgn, ↓am_zhp, ↓am_zhn, ↓am_b01, true_or, true_and, and_true, or_true, if_true, if_false, ↓am_bdl_z, ↓am_bdl_s, ↓am_bsl_z, ↓am_bsl_s, ↓am_k1_i, ↓am_k1_r, ↓am_k1_e, ↓am_k1_n, ↓am_bd_s, am_k1_t, eq_self, am_nl_i, am_nl_r, am_nl_e, am_nl_n, Option.toList_some, Option.toList_none, Option.map_some, Option.map_none, List.cons_append, List.nil_append, List.length_cons, List.length_nil, List.set_cons_zero, List.set_cons_succ, List.getElem?_cons_zero, List.getElem?_cons_succ, am_bd_s, ↓am_tls, ↓am_tln, ↓mk_oc, ↓ma_r, ↓ma_w, ↓mz_r, ↓mz_w, ↓mr0, ↓mr1, ↓mr2, ↓mr3, ↓mr4, ↓mr5, ↓mr6, ↓mr7, ↓mr8, ↓mr9, ↓mr10, ↓mr11, ↓mr12, ↓mr13, ↓mr14, ↓mr15, ↓mr16, ↓mr17, ↓mr18, ↓mr19, ↓mr20, ↓mr21, ↓mr22, ↓mr23, ↓mr24, ↓mr25, ↓mr26, ↓mr27, ↓mw0, ↓mw1, ↓mw11, ↓mw12, ↓mw13, ↓mw15, ↓mw16, ↓mw17, ↓mw19, ↓mw20, ↓mw22, ↓mw25, up_eq, up_ne, up_up, si_len, ↓X10_isBlanket_w mp, ↓am_ifb, ↓if_pos q1, ↓w]
      · obtain ⟨N, a, l, w⟩ := X10_putOn_0 (C := C) (lv := 1) (q := (k : Int)) mp ly (by omega) wf.1 wf.2.1 (by omega) q2
        refine ⟨_, Sc.n l107 a, ?_, fun E K => ?_⟩
        · rw [pl_do, if_pos ⟨q, q2⟩]; exact l
        · rw [pl_do, if_pos ⟨q, q2⟩, pl_b, if_pos (by rfl)]
          simp (disch := first | omega | (simp (disch := omega) only [up_eq, up_ne, si_len, List.length_set]; omega)) only [↓e160_0, ↓e160_1, ↓e160_82, ↓e160_83, ↓e160_84, ↓e160_87, ↓e160_90, ↓e160_91, ↓e160_92, ↓e160_93, ↓e160_94, ↓e160_95, ↓e160_98, ↓e160_99, ↓e160_102, ↓e160_103, ↓e160_106, ↓e160_109, ↓e160_110, ↓e160_113, ↓e160_114, ↓am_ilp, ↓am_iln, ↓am_iep, ↓am_ien, ↓am_zlp, ↓am_zln, ↓am_zep, ↓am_zen, ↓am_zgp, ↓am_zgn, ↓am_zhp, ↓am_zhn, ↓am_b01, true_or, true_and, and_true, or_true, if_true, if_false, ↓am_bdl_z, ↓am_bdl_s, ↓am_bsl_z, ↓am_bsl_s, ↓am_k1_i, ↓am_k1_r, ↓am_k1_e, ↓am_k1_n, ↓am_bd_s, am_k1_t, eq_self, am_nl_i, am_nl_r, am_nl_e, am_nl_n, Option.toList_some, Option.toList_none, Option.map_some, Option.map_none, List.cons_append, List.nil_append, List.length_cons, List.length_nil, List.set_cons_zero, List.set_cons_succ, List.getElem?_cons_zero, List.getElem?_cons_succ, am_bd_s, ↓am_tls, ↓am_tln, ↓mk_oc, ↓ma_r, ↓ma_w, ↓mz_r, ↓mz_w, ↓mr0, ↓mr1, ↓mr2, ↓mr3, ↓mr4, ↓mr5, ↓mr6, ↓mr7, ↓mr8, ↓mr9, ↓mr10, ↓mr11, ↓mr12, ↓mr13, ↓mr14, ↓mr15, ↓mr16, ↓mr17, ↓mr18, ↓mr19, ↓mr20, ↓mr21, ↓mr22, ↓mr23, ↓mr24, ↓mr25, ↓mr26, ↓mr27, ↓mw0, ↓mw1, ↓mw11, ↓mw12, ↓mw13, ↓mw15, ↓mw16, ↓mw17, ↓mw19, ↓mw20, ↓mw22, ↓mw25, up_eq, up_ne, up_up, si_len, ↓X10_isBlanket_w mp, ↓am_ifb, ↓if_pos q1, ↓w]
    · have q1 : ¬ (0 ≤ am_w (k : Int) ∧ am_w (k : Int) < (nb : Int)) := by omega
      refine ⟨V, Sc.rf l107, ?_, fun E K => ?_⟩
      · rw [pl_do, if_neg (fun z => q z.1)]; exact ly
      · rw [pl_do, if_neg (fun z => q z.1), pl_b, if_neg (by simp)]
        simp (disch := first | omega | (simp (disch := omega) only [up_eq, up_ne, si_len, List.length_set]; omega)) only [↓e160_0, ↓e160_1, ↓e160_82, ↓e160_83, ↓e160_84, ↓e160_87, ↓e160_90, ↓e160_91, ↓e160_92, ↓e160_93, ↓e160_94, ↓e160_95, ↓e160_98, ↓e160_99, ↓e160_102, ↓e160_103, ↓e160_106, ↓e160_109, ↓e160_110, ↓e160_113, ↓e160_114, ↓am_ilp, ↓am_iln, ↓am_iep, ↓am_ien, ↓am_zlp, ↓am_zln, ↓am_zep, ↓am_zen, ↓am_zgp, ↓am_zgn, ↓am_zhp, ↓am_zhn, ↓am_b01, true_or, true_and, and_true, or_true, if_true, if_false, ↓am_bdl_z, ↓am_bdl_s, ↓am_bsl_z, ↓am_bsl_s, ↓am_k1_i, ↓am_k1_r, ↓am_k1_e, ↓am_k1_n, ↓am_bd_s, am_k1_t, eq_self, am_nl_i, am_nl_r, am_nl_e, am_nl_n, Option.toList_some, Option.toList_none, Option.map_some, Option.map_none, List.cons_append, List.nil_append, List.length_cons, List.length_nil, List.set_cons_zero, List.set_cons_succ, List.getElem?_cons_zero, List.getElem?_cons_succ, am_bd_s, ↓am_tls, ↓am_tln, ↓mk_oc, ↓ma_r, ↓ma_w, ↓mz_r, ↓mz_w, ↓mr0, ↓mr1, ↓mr2, ↓mr3, ↓mr4, ↓mr5, ↓mr6, ↓mr7, ↓mr8, ↓mr9, ↓mr10, ↓mr11, ↓mr12, ↓mr13, ↓mr14, ↓mr15, ↓mr16, ↓mr17, ↓mr18, ↓mr19, ↓mr20, ↓mr21, ↓mr22, ↓mr23, ↓mr24, ↓mr25, ↓mr26, ↓mr27, ↓mw0, ↓mw1, ↓mw11, ↓mw12, ↓mw13, ↓mw15, ↓mw16, ↓mw17, ↓mw19, ↓mw20, ↓mw22, ↓mw25, up_eq, up_ne, up_up, si_len, ↓X10_isBlanket_w mp, ↓am_ifb, ↓if_neg q1]
  | 3, _ =>
    by_cases q : k < nb
    · have q1 : 0 ≤ am_w (k : Int) ∧ am_w (k : Int) < (nb : Int) := by omega
      by_cases q2 : k ∈ L.1
      · have w := fun E K => X10_putOn_no (C := C) (lv := 1) (q := (k : Int)) (bl := 1) mp ly (by omega) wf.1 wf.2.1 (by omega) q2 E K
        refine ⟨V, Sc.rf l107, ?_, fun E K => ?_⟩
        · rw [pl_do, if_neg (fun z => z.2 q2)]; exact ly
        · rw [pl_do, if_neg (fun z => z.2 q2), pl_b, if_neg (by simp)]
          simp (disch := first | omega | (simp (disch := omega) only [up_eq, up_ne, si_len, List.length_set]; omega)) only [↓e160_0, ↓e160_1, ↓e160_82, ↓e160_83, ↓e160_84, ↓e160_87, ↓e160_90, ↓e160_91, ↓e160_92, ↓e160_93, ↓e160_94, ↓e160_95, ↓e160_98, ↓e160_99, ↓e160_102, ↓e160_103, ↓e160_106, ↓e160_109, ↓e160_110, ↓e160_113, ↓e160_114, ↓am_ilp, ↓am_iln, ↓am_iep, ↓am_ien, ↓am_zlp, ↓am_zln, ↓am_zep, ↓am_zen, ↓am_zgp, ↓am_zgn, ↓am_zhp, ↓am_zhn, ↓am_b01, true_or, true_and, and_true, or_true, if_true, if_false, ↓am_bdl_z, ↓am_bdl_s, ↓am_bsl_z, ↓am_bsl_s, ↓am_k1_i, ↓am_k1_r, ↓am_k1_e, ↓am_k1_n, ↓am_bd_s, am_k1_t, eq_self, am_nl_i, am_nl_r, am_nl_e, am_nl_n, Option.toList_some, Option.toList_none, Option.map_some, Option.map_none, List.cons_append, List.nil_append, List.length_cons, List.length_nil, List.set_cons_zero, List.set_cons_succ, List.getElem?_cons_zero, List.getElem?_cons_succ, am_bd_s, ↓am_tls, ↓am_tln, ↓mk_oc, ↓ma_r, ↓ma_w, ↓mz_r, ↓mz_w, ↓mr0, ↓mr1, ↓mr2, ↓mr3, ↓mr4, ↓mr5, ↓mr6, ↓mr7, ↓mr8, ↓mr9, ↓mr10, ↓mr11, ↓mr12, ↓mr13, ↓mr14, ↓mr15, ↓mr16, ↓mr17, ↓mr18, ↓mr19, ↓mr20, ↓mr21, ↓mr22, ↓mr23, ↓mr24, ↓mr25, ↓mr26, ↓mr27, ↓mw0, ↓mw1, ↓mw11, ↓mw12, ↓mw13, ↓mw15, ↓mw16, ↓mw17, ↓mw19, ↓mw20, ↓mw22, ↓mw25, up_eq, up_ne, up_up, si_len, ↓X10_isBlanket_w mp, ↓am_ifb, ↓if_pos q1, ↓w]
      · obtain ⟨N, a, l, w⟩ := X10_putOn_1 (C := C) (lv := 1) (q := (k : Int)) mp ly (by omega) wf.1 wf.2.1 (by omega) q2
        refine ⟨_, Sc.n l107 a, ?_, fun E K => ?_⟩
        · rw [pl_do, if_pos ⟨q, q2⟩]; exact l
        · rw [pl_do, if_pos ⟨q, q2⟩, pl_b, if_pos (by rfl)]
          simp (disch := first | omega | (simp (disch := omega) only [up_eq, up_ne, si_len, List.length_set]; omega)) only [↓e160_0, ↓e160_1, ↓e160_82, ↓e160_83, ↓e160_84, ↓e160_87, ↓e160_90, ↓e160_91, ↓e160_92, ↓e160_93, ↓e160_94, ↓e160_95, ↓e160_98, ↓e160_99, ↓e160_102, ↓e160_103, ↓e160_106, ↓e160_109, ↓e160_110, ↓e160_113, ↓e160_114, ↓am_ilp, ↓am_iln, ↓am_iep, ↓am_ien, ↓am_zlp, ↓am_zln, ↓am_zep, ↓am_zen, ↓am_zgp, ↓am_zgn, ↓am_zhp, ↓am_zhn, ↓am_b01, true_or, true_and, and_true, or_true, if_true, if_false, ↓am_bdl_z, ↓am_bdl_s, ↓am_bsl_z, ↓am_bsl_s, ↓am_k1_i, ↓am_k1_r, ↓am_k1_e, ↓am_k1_n, ↓am_bd_s, am_k1_t, eq_self, am_nl_i, am_nl_r, am_nl_e, am_nl_n, Option.toList_some, Option.toList_none, Option.map_some, Option.map_none, List.cons_append, List.nil_append, List.length_cons, List.length_nil, List.set_cons_zero, List.set_cons_succ, List.getElem?_cons_zero, List.getElem?_cons_succ, am_bd_s, ↓am_tls, ↓am_tln, ↓mk_oc, ↓ma_r, ↓ma_w, ↓mz_r, ↓mz_w, ↓mr0, ↓mr1, ↓mr2, ↓mr3, ↓mr4, ↓mr5, ↓mr6, ↓mr7, ↓mr8, ↓mr9, ↓mr10, ↓mr11, ↓mr12, ↓mr13, ↓mr14, ↓mr15, ↓mr16, ↓mr17, ↓mr18, ↓mr19, ↓mr20, ↓mr21, ↓mr22, ↓mr23, ↓mr24, ↓mr25, ↓mr26, ↓mr27, ↓mw0, ↓mw1, ↓mw11, ↓mw12, ↓mw13, ↓mw15, ↓mw16, ↓mw17, ↓mw19, ↓mw20, ↓mw22, ↓mw25, up_eq, up_ne, up_up, si_len, ↓X10_isBlanket_w mp, ↓am_ifb, ↓if_pos q1, ↓w]
    · have q1 : ¬ (0 ≤ am_w (k : Int) ∧ am_w (k : Int) < (nb : Int)) := by omega
      refine ⟨V, Sc.rf l107, ?_, fun E K => ?_⟩
      · rw [pl_do, if_neg (fun z => q z.1)]; exact ly
      · rw [pl_do, if_neg (fun z => q z.1), pl_b, if_neg (by simp)]
        simp (disch := first | omega | (simp (disch := omega) only [up_eq, up_ne, si_len, List.length_set]; omega)) only [↓e160_0, ↓e160_1, ↓e160_82, ↓e160_83, ↓e160_84, ↓e160_87, ↓e160_90, ↓e160_91, ↓e160_92, ↓e160_93, ↓e160_94, ↓e160_95, ↓e160_98, ↓e160_99, ↓e160_102, ↓e160_103, ↓e160_106, ↓e160_109, ↓e160_110, ↓e160_113, ↓e160_114, ↓am_ilp, ↓am_iln, ↓am_iep, ↓am_ien, ↓am_zlp, ↓am_zln, ↓am_zep, ↓am_zen, ↓am_zgp, ↓am_zgn, ↓am_zhp, ↓am_zhn, ↓am_b01, true_or, true_and, and_true, or_true, if_true, if_false, ↓am_bdl_z, ↓am_bdl_s, ↓am_bsl_z, ↓am_bsl_s, ↓am_k1_i, ↓am_k1_r, ↓am_k1_e, ↓am_k1_n, ↓am_bd_s, am_k1_t, eq_self, am_nl_i, am_nl_r, am_nl_e, am_nl_n, Option.toList_some, Option.toList_none, Option.map_some, Option.map_none, List.cons_append, List.nil_append, List.length_cons, List.length_nil, List.set_cons_zero, List.set_cons_succ, List.getElem?_cons_zero, List.getElem?_cons_succ, am_bd_s, ↓am_tls, ↓am_tln, ↓mk_oc, ↓ma_r, ↓ma_w, ↓mz_r, ↓mz_w, ↓mr0, ↓mr1, ↓mr2, ↓mr3, ↓mr4, ↓mr5, ↓mr6, ↓mr7, ↓mr8, ↓mr9, ↓mr10, ↓mr11, ↓mr12, ↓mr13, ↓mr14, ↓mr15, ↓mr16, ↓mr17, ↓mr18, ↓mr19, ↓mr20, ↓mr21, ↓mr22, ↓mr23, ↓mr24, ↓mr25, ↓mr26, ↓mr27, ↓mw0, ↓mw1, ↓mw11, ↓mw12, ↓mw13, ↓mw15, ↓mw16, ↓mw17, ↓mw19, ↓mw20, ↓mw22, ↓mw25, up_eq, up_ne, up_up, si_len, ↓X10_isBlanket_w mp, ↓am_ifb, ↓if_neg q1]
  | 4, _ =>
    by_cases q : k < ns
    · have q1 : 0 ≤ am_w (k : Int) ∧ am_w (k : Int) < (ns : Int) := by omega
      have e3 : ((4 : Nat) : Int) - 3 = 1 := by omega
      have w0 : ∀ E K, Wp E 136 0 [some (am_r (some 96)), some (am_i 1), some (am_i (k : Int)), some (am_i (((4 : Nat) : Int) - 3)), none, none] [] (mk C S V) K = K (some (am_i (pl_b (pl_may ns (V 101) L.2.1 k (L.2.1.getD k 0 + 1) = true)))) (mk C S V) := fun E K => X10_canTurn_1 (E := E) (K := K) (C := C) (lv := 1) (s := (k : Int)) mp ly (by omega) wf dj (by omega)
      obtain ⟨N, a, l, w1⟩ := X10_turnOn_1 (C := C) (lv := 1) (s := (k : Int)) mp ly (by omega) (by omega)
      have w : ∀ E K, Wp E 137 0 [some (am_r (some 96)), some (am_i 1), some (am_i (k : Int)), some (am_i (((4 : Nat) : Int) - 3))] [] (mk C S V) K = K none (mk C S (up V 102 N)) := w1
      rw [Int.toNat_natCast] at l
      by_cases q2 : pl_may ns (V 101) L.2.1 k (L.2.1.getD k 0 + 1) = true
      · refine ⟨_, Sc.n l107 a, ?_, fun E K => ?_⟩
        · rw [pl_do, if_pos ⟨q, q2⟩]; exact l
        · rw [pl_do, if_pos ⟨q, q2⟩, pl_b, if_pos (by rfl)]
          simp (disch := first | omega | (simp (disch := omega) only [up_eq, up_ne, si_len, List.length_set]; omega)) only [↓e160_0, ↓e160_1, ↓e160_115, ↓e160_116, ↓e160_117, ↓e160_120, ↓e160_123, ↓e160_124, ↓e160_125, ↓e160_126, ↓e160_127, ↓e160_128, ↓e160_129, ↓e160_132, ↓e160_135, ↓e160_136, ↓e160_137, ↓e160_138, ↓e160_139, ↓e160_140, ↓e160_141, ↓e160_144, ↓e160_145, ↓e160_146, ↓e160_147, ↓am_ilp, ↓am_iln, ↓am_iep, ↓am_ien, ↓am_zlp, ↓am_zln, ↓am_zep, ↓am_zen, ↓am_zgp, ↓am_zgn, ↓am_zhp, ↓am_zhn, ↓am_b01, true_or, true_and, and_true, or_true, if_true, if_false, ↓am_bdl_z, ↓am_bdl_s, ↓am_bsl_z, ↓am_bsl_s, ↓am_k1_i, ↓am_k1_r, ↓am_k1_e, ↓am_k1_n, ↓am_bd_s, am_k1_t, eq_self, am_nl_i, am_nl_r, am_nl_e, am_nl_n, Option.toList_some, Option.toList_none, Option.map_some, Option.map_none, List.cons_append, List.nil_append, List.length_cons, List.length_nil, List.set_cons_zero, List.set_cons_succ, List.getElem?_cons_zero, List.getElem?_cons_succ, am_bd_s, ↓am_tls, ↓am_tln, ↓mk_oc, ↓ma_r, ↓ma_w, ↓mz_r, ↓mz_w, ↓mr0, ↓mr1, ↓mr2, ↓mr3, ↓mr4, ↓mr5, ↓mr6, ↓mr7, ↓mr8, ↓mr9, ↓mr10, ↓mr11, ↓mr12, ↓mr13, ↓mr14, ↓mr15, ↓mr16, ↓mr17, ↓mr18, ↓mr19, ↓mr20, ↓mr21, ↓mr22, ↓mr23, ↓mr24, ↓mr25, ↓mr26, ↓mr27, ↓mw0, ↓mw1, ↓mw11, ↓mw12, ↓mw13, ↓mw15, ↓mw16, ↓mw17, ↓mw19, ↓mw20, ↓mw22, ↓mw25, up_eq, up_ne, up_up, si_len, ↓X10_isSleeper_w mp, ↓am_ifb, ↓if_pos q1, ↓w0, ↓if_pos q2, ↓w]
      · refine ⟨V, Sc.rf l107, ?_, fun E K => ?_⟩
        · rw [pl_do, if_neg (fun z => q2 z.2)]; exact ly
        · rw [pl_do, if_neg (fun z => q2 z.2), pl_b, if_neg (by simp)]
          simp (disch := first | omega | (simp (disch := omega) only [up_eq, up_ne, si_len, List.length_set]; omega)) only [↓e160_0, ↓e160_1, ↓e160_115, ↓e160_116, ↓e160_117, ↓e160_120, ↓e160_123, ↓e160_124, ↓e160_125, ↓e160_126, ↓e160_127, ↓e160_128, ↓e160_129, ↓e160_132, ↓e160_135, ↓e160_136, ↓e160_137, ↓e160_138, ↓e160_139, ↓e160_140, ↓e160_141, ↓e160_144, ↓e160_145, ↓e160_146, ↓e160_147, ↓am_ilp, ↓am_iln, ↓am_iep, ↓am_ien, ↓am_zlp, ↓am_zln, ↓am_zep, ↓am_zen, ↓am_zgp, ↓am_zgn, ↓am_zhp, ↓am_zhn, ↓am_b01, true_or, true_and, and_true, or_true, if_true, if_false, ↓am_bdl_z, ↓am_bdl_s, ↓am_bsl_z, ↓am_bsl_s, ↓am_k1_i, ↓am_k1_r, ↓am_k1_e, ↓am_k1_n, ↓am_bd_s, am_k1_t, eq_self, am_nl_i, am_nl_r, am_nl_e, am_nl_n, Option.toList_some, Option.toList_none, Option.map_some, Option.map_none, List.cons_append, List.nil_append, List.length_cons, List.length_nil, List.set_cons_zero, List.set_cons_succ, List.getElem?_cons_zero, List.getElem?_cons_succ, am_bd_s, ↓am_tls, ↓am_tln, ↓mk_oc, ↓ma_r, ↓ma_w, ↓mz_r, ↓mz_w, ↓mr0, ↓mr1, ↓mr2, ↓mr3, ↓mr4, ↓mr5, ↓mr6, ↓mr7, ↓mr8, ↓mr9, ↓mr10, ↓mr11, ↓mr12, ↓mr13, ↓mr14, ↓mr15, ↓mr16, ↓mr17, ↓mr18, ↓mr19, ↓mr20, ↓mr21, ↓mr22, ↓mr23, ↓mr24, ↓mr25, ↓mr26, ↓mr27, ↓mw0, ↓mw1, ↓mw11, ↓mw12, ↓mw13, ↓mw15, ↓mw16, ↓mw17, ↓mw19, ↓mw20, ↓mw22, ↓mw25, up_eq, up_ne, up_up, si_len, ↓X10_isSleeper_w mp, ↓am_ifb, ↓if_pos q1, ↓w0, ↓if_neg q2]
    · have q1 : ¬ (0 ≤ am_w (k : Int) ∧ am_w (k : Int) < (ns : Int)) := by omega
      refine ⟨V, Sc.rf l107, ?_, fun E K => ?_⟩
      · rw [pl_do, if_neg (fun z => q z.1)]; exact ly
      · rw [pl_do, if_neg (fun z => q z.1), pl_b, if_neg (by simp)]
        simp (disch := first | omega | (simp (disch := omega) only [up_eq, up_ne, si_len, List.length_set]; omega)) only [↓e160_0, ↓e160_1, ↓e160_115, ↓e160_116, ↓e160_117, ↓e160_120, ↓e160_123, ↓e160_124, ↓e160_125, ↓e160_126, ↓e160_127, ↓e160_128, ↓e160_129, ↓e160_132, ↓e160_135, ↓e160_136, ↓e160_137, ↓e160_138, ↓e160_139, ↓e160_140, ↓e160_141, ↓e160_144, ↓e160_145, ↓e160_146, ↓e160_147, ↓am_ilp, ↓am_iln, ↓am_iep, ↓am_ien, ↓am_zlp, ↓am_zln, ↓am_zep, ↓am_zen, ↓am_zgp, ↓am_zgn, ↓am_zhp, ↓am_zhn, ↓am_b01, true_or, true_and, and_true, or_true, if_true, if_false, ↓am_bdl_z, ↓am_bdl_s, ↓am_bsl_z, ↓am_bsl_s, ↓am_k1_i, ↓am_k1_r, ↓am_k1_e, ↓am_k1_n, ↓am_bd_s, am_k1_t, eq_self, am_nl_i, am_nl_r, am_nl_e, am_nl_n, Option.toList_some, Option.toList_none, Option.map_some, Option.map_none, List.cons_append, List.nil_append, List.length_cons, List.length_nil, List.set_cons_zero, List.set_cons_succ, List.getElem?_cons_zero, List.getElem?_cons_succ, am_bd_s, ↓am_tls, ↓am_tln, ↓mk_oc, ↓ma_r, ↓ma_w, ↓mz_r, ↓mz_w, ↓mr0, ↓mr1, ↓mr2, ↓mr3, ↓mr4, ↓mr5, ↓mr6, ↓mr7, ↓mr8, ↓mr9, ↓mr10, ↓mr11, ↓mr12, ↓mr13, ↓mr14, ↓mr15, ↓mr16, ↓mr17, ↓mr18, ↓mr19, ↓mr20, ↓mr21, ↓mr22, ↓mr23, ↓mr24, ↓mr25, ↓mr26, ↓mr27, ↓mw0, ↓mw1, ↓mw11, ↓mw12, ↓mw13, ↓mw15, ↓mw16, ↓mw17, ↓mw19, ↓mw20, ↓mw22, ↓mw25, up_eq, up_ne, up_up, si_len, ↓X10_isSleeper_w mp, ↓am_ifb, ↓if_neg q1]
  | 5, _ =>
    by_cases q : k < ns
    · have q1 : 0 ≤ am_w (k : Int) ∧ am_w (k : Int) < (ns : Int) := by omega
      have e3 : ((5 : Nat) : Int) - 3 = 2 := by omega
      have w0 := fun E K => X10_canTurn_2 (E := E) (K := K) (C := C) (lv := 1) (s := (k : Int)) mp ly (by omega) wf dj (by omega)
      obtain ⟨N, a, l, w⟩ := X10_turnOn_2 (C := C) (lv := 1) (s := (k : Int)) mp ly (by omega) (by omega)
      rw [Int.toNat_natCast] at l w0
      rw [← e3] at w0 w
      by_cases q2 : pl_may ns (V 101) L.2.1 k (L.2.1.getD k 0 - 1) = true
      · refine ⟨_, Sc.n l107 a, ?_, fun E K => ?_⟩
        · rw [pl_do, if_pos ⟨q, q2⟩]; exact l
        · rw [pl_do, if_pos ⟨q, q2⟩, pl_b, if_pos (by rfl)]
          simp (disch := first | omega | (simp (disch := omega) only [up_eq, up_ne, si_len, List.length_set]; omega)) only [↓e160_0, ↓e160_1, ↓e160_115, ↓e160_116, ↓e160_117, ↓e160_120, ↓e160_123, ↓e160_124, ↓e160_125, ↓e160_126, ↓e160_127, ↓e160_128, ↓e160_129, ↓e160_132, ↓e160_135, ↓e160_136, ↓e160_137, ↓e160_138, ↓e160_139, ↓e160_140, ↓e160_141, ↓e160_144, ↓e160_145, ↓e160_146, ↓e160_147, ↓am_ilp, ↓am_iln, ↓am_iep, ↓am_ien, ↓am_zlp, ↓am_zln, ↓am_zep, ↓am_zen, ↓am_zgp, ↓am_zgn, ↓am_zhp, ↓am_zhn, ↓am_b01, true_or, true_and, and_true, or_true, if_true, if_false, ↓am_bdl_z, ↓am_bdl_s, ↓am_bsl_z, ↓am_bsl_s, ↓am_k1_i, ↓am_k1_r, ↓am_k1_e, ↓am_k1_n, ↓am_bd_s, am_k1_t, eq_self, am_nl_i, am_nl_r, am_nl_e, am_nl_n, Option.toList_some, Option.toList_none, Option.map_some, Option.map_none, List.cons_append, List.nil_append, List.length_cons, List.length_nil, List.set_cons_zero, List.set_cons_succ, List.getElem?_cons_zero, List.getElem?_cons_succ, am_bd_s, ↓am_tls, ↓am_tln, ↓mk_oc, ↓ma_r, ↓ma_w, ↓mz_r, ↓mz_w, ↓mr0, ↓mr1, ↓mr2, ↓mr3, ↓mr4, ↓mr5, ↓mr6, ↓mr7, ↓mr8, ↓mr9, ↓mr10, ↓mr11, ↓mr12, ↓mr13, ↓mr14, ↓mr15, ↓mr16, ↓mr17, ↓mr18, ↓mr19, ↓mr20, ↓mr21, ↓mr22, ↓mr23, ↓mr24, ↓mr25, ↓mr26, ↓mr27, ↓mw0, ↓mw1, ↓mw11, ↓mw12, ↓mw13, ↓mw15, ↓mw16, ↓mw17, ↓mw19, ↓mw20, ↓mw22, ↓mw25, up_eq, up_ne, up_up, si_len, ↓X10_isSleeper_w mp, ↓am_ifb, ↓if_pos q1, ↓w0, ↓if_pos q2, ↓w]
      · refine ⟨V, Sc.rf l107, ?_, fun E K => ?_⟩
        · rw [pl_do, if_neg (fun z => q2 z.2)]; exact ly
        · rw [pl_do, if_neg (fun z => q2 z.2), pl_b, if_neg (by simp)]
          simp (disch := first | omega | (simp (disch := omega) only [up_eq, up_ne, si_len, List.length_set]; omega)) only [↓e160_0, ↓e160_1, ↓e160_115, ↓e160_116, ↓e160_117, ↓e160_120, ↓e160_123, ↓e160_124, ↓e160_125, ↓e160_126, ↓e160_127, ↓e160_128, ↓e160_129, ↓e160_132, ↓e160_135, ↓e160_136, ↓e160_137, ↓e160_138, ↓e160_139, ↓e160_140, ↓e160_141, ↓e160_144, ↓e160_145, ↓e160_146, ↓e160_147, ↓am_ilp, ↓am_iln, ↓am_iep, ↓am_ien, ↓am_zlp, ↓am_zln, ↓am_zep, ↓am_zen, ↓am_zgp, ↓am_zgn, ↓am_zhp, ↓am_zhn, ↓am_b01, true_or, true_and, and_true, or_true, if_true, if_false, ↓am_bdl_z, ↓am_bdl_s, ↓am_bsl_z, ↓am_bsl_s, ↓am_k1_i, ↓am_k1_r, ↓am_k1_e, ↓am_k1_n, ↓am_bd_s, am_k1_t, eq_self, am_nl_i, am_nl_r, am_nl_e, am_nl_n, Option.toList_some, Option.toList_none, Option.map_some, Option.map_none, List.cons_append, List.nil_append, List.length_cons, List.length_nil, List.set_cons_zero, List.set_cons_succ, List.getElem?_cons_zero, List.getElem?_cons_succ, am_bd_s, ↓am_tls, ↓am_tln, ↓mk_oc, ↓ma_r, ↓ma_w, ↓mz_r, ↓mz_w, ↓mr0, ↓mr1, ↓mr2, ↓mr3, ↓mr4, ↓mr5, ↓mr6, ↓mr7, ↓mr8, ↓mr9, ↓mr10, ↓mr11, ↓mr12, ↓mr13, ↓mr14, ↓mr15, ↓mr16, ↓mr17, ↓mr18, ↓mr19, ↓mr20, ↓mr21, ↓mr22, ↓mr23, ↓mr24, ↓mr25, ↓mr26, ↓mr27, ↓mw0, ↓mw1, ↓mw11, ↓mw12, ↓mw13, ↓mw15, ↓mw16, ↓mw17, ↓mw19, ↓mw20, ↓mw22, ↓mw25, up_eq, up_ne, up_up, si_len, ↓X10_isSleeper_w mp, ↓am_ifb, ↓if_pos q1, ↓w0, ↓if_neg q2]
    · have q1 : ¬ (0 ≤ am_w (k : Int) ∧ am_w (k : Int) < (ns : Int)) := by omega
      refine ⟨V, Sc.rf l107, ?_, fun E K => ?_⟩
      · rw [pl_do, if_neg (fun z => q z.1)]; exact ly
      · rw [pl_do, if_neg (fun z => q z.1), pl_b, if_neg (by simp)]
        simp (disch := first | omega | (simp (disch := omega) only [up_eq, up_ne, si_len, List.length_set]; omega)) only [↓e160_0, ↓e160_1, ↓e160_115, ↓e160_116, ↓e160_117, ↓e160_120, ↓e160_123, ↓e160_124, ↓e160_125, ↓e160_126, ↓e160_127, ↓e160_128, ↓e160_129, ↓e160_132, ↓e160_135, ↓e160_136, ↓e160_137, ↓e160_138, ↓e160_139, ↓e160_140, ↓e160_141, ↓e160_144, ↓e160_145, ↓e160_146, ↓e160_147, ↓am_ilp, ↓am_iln, ↓am_iep, ↓am_ien, ↓am_zlp, ↓am_zln, ↓am_zep, ↓am_zen, ↓am_zgp, ↓am_zgn, ↓am_zhp, ↓am_zhn, ↓am_b01, true_or, true_and, and_true, or_true, if_true, if_false, ↓am_bdl_z, ↓am_bdl_s, ↓am_bsl_z, ↓am_bsl_s, ↓am_k1_i, ↓am_k1_r, ↓am_k1_e, ↓am_k1_n, ↓am_bd_s, am_k1_t, eq_self, am_nl_i, am_nl_r, am_nl_e, am_nl_n, Option.toList_some, Option.toList_none, Option.map_some, Option.map_none, List.cons_append, List.nil_append, List.length_cons, List.length_nil, List.set_cons_zero, List.set_cons_succ, List.getElem?_cons_zero, List.getElem?_cons_succ, am_bd_s, ↓am_tls, ↓am_tln, ↓mk_oc, ↓ma_r, ↓ma_w, ↓mz_r, ↓mz_w, ↓mr0, ↓mr1, ↓mr2, ↓mr3, ↓mr4, ↓mr5, ↓mr6, ↓mr7, ↓mr8, ↓mr9, ↓mr10, ↓mr11, ↓mr12, ↓mr13, ↓mr14, ↓mr15, ↓mr16, ↓mr17, ↓mr18, ↓mr19, ↓mr20, ↓mr21, ↓mr22, ↓mr23, ↓mr24, ↓mr25, ↓mr26, ↓mr27, ↓mw0, ↓mw1, ↓mw11, ↓mw12, ↓mw13, ↓mw15, ↓mw16, ↓mw17, ↓mw19, ↓mw20, ↓mw22, ↓mw25, up_eq, up_ne, up_up, si_len, ↓X10_isSleeper_w mp, ↓am_ifb, ↓if_neg q1]
  | hw + 6, hh =>
    have ed : pl_do nb ns (V 97) (V 98) (V 99) (V 100) (V 101) L (hw + 6) k = none := by rw [pl_do] <;> omega
    refine ⟨V, Sc.rf l107, ?_, fun E K => ?_⟩
    · rw [ed]; exact ly
    · rw [ed, pl_b, if_neg (by simp)]
      simp (disch := first | omega | (simp (disch := omega) only [up_eq, up_ne, si_len, List.length_set]; omega)) only [↓e160_0, ↓e160_1, ↓e160_148, ↓e160_149, ↓am_ilp, ↓am_iln, ↓am_iep, ↓am_ien, ↓am_zlp, ↓am_zln, ↓am_zep, ↓am_zen, ↓am_zgp, ↓am_zgn, ↓am_zhp, ↓am_zhn, ↓am_b01, true_or, true_and, and_true, or_true, if_true, if_false, ↓am_bdl_z, ↓am_bdl_s, ↓am_bsl_z, ↓am_bsl_s, ↓am_k1_i, ↓am_k1_r, ↓am_k1_e, ↓am_k1_n, ↓am_bd_s, am_k1_t, eq_self, am_nl_i, am_nl_r, am_nl_e, am_nl_n, Option.toList_some, Option.toList_none, Option.map_some, Option.map_none, List.cons_append, List.nil_append, List.length_cons, List.length_nil, List.set_cons_zero, List.set_cons_succ, List.getElem?_cons_zero, List.getElem?_cons_succ, am_bd_s, ↓am_tls, ↓am_tln, ↓mk_oc, ↓ma_r, ↓ma_w, ↓mz_r, ↓mz_w, ↓mr0, ↓mr1, ↓mr2, ↓mr3, ↓mr4, ↓mr5, ↓mr6, ↓mr7, ↓mr8, ↓mr9, ↓mr10, ↓mr11, ↓mr12, ↓mr13, ↓mr14, ↓mr15, ↓mr16, ↓mr17, ↓mr18, ↓mr19, ↓mr20, ↓mr21, ↓mr22, ↓mr23, ↓mr24, ↓mr25, ↓mr26, ↓mr27, ↓mw0, ↓mw1, ↓mw11, ↓mw12, ↓mw13, ↓mw15, ↓mw16, ↓mw17, ↓mw19, ↓mw20, ↓mw22, ↓mw25, up_eq, up_ne, up_up, si_len]
end MTR
