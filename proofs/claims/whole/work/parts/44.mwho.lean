/-- no two sleepers lie on one cell -/
def Dj (ns : Nat) (wi A : List Int) : Prop := ∀ s < ns, ∀ t < s, A.getD t 0 + wi.getD t 0 ≤ A.getD s 0 ∨ A.getD s 0 + wi.getD s 0 ≤ A.getD t 0
/-- the model's way: the last one -/
def m_who (A wi : List Int) (c : Int) (ns : Nat) : Int := pl_fz (fun a s => if gi A s ≤ c ∧ c ≤ gi A s + gi wi s - 1 then s else a) 0 ns (-9)
theorem m_who_eq {A wi : List Int} {c : Int} {ns : Nat} (h3 : ns ≤ 3) (dj : Dj ns wi A) : m_who A wi c ns = pl_who A wi c (List.range' 0 ns) := by
  have e : ∀ n : Nat, (gi A (n : Int) ≤ c ∧ c ≤ gi A (n : Int) + gi wi (n : Int) - 1) ↔ (A.getD n 0 ≤ c ∧ c < A.getD n 0 + wi.getD n 0) := by
    intro n
    rw [gi_n, gi_n]
    omega
  have e0 := e 0
  have e1 := e 1
  have e2 := e 2
  rw [Int.natCast_zero] at e0
  rw [Int.natCast_one] at e1
  rw [show ((2 : Nat) : Int) = 2 from rfl] at e2
  have z1 : (0 : Int) + 1 = 1 := rfl
  have z2 : (1 : Int) + 1 = 2 := rfl
  match ns, h3, dj with
  | 0, _, _ => rfl
  | 1, _, _ =>
    simp only [m_who, pl_fz, e0, List.range'_succ, List.range'_zero, pl_who]
    rfl
  | 2, _, dj =>
    have d := dj 1 (by omega) 0 (by omega)
    simp only [m_who, pl_fz, z1, e0, e1, List.range'_succ, List.range'_zero, pl_who]
    split
    · rw [if_neg (by omega)]; rfl
    · rfl
  | 3, _, dj =>
    have d := dj 1 (by omega) 0 (by omega)
    have d2 := dj 2 (by omega) 0 (by omega)
    have d3 := dj 2 (by omega) 1 (by omega)
    simp only [m_who, pl_fz, z1, z2, e0, e1, e2, List.range'_succ, List.range'_zero, pl_who]
    by_cases c0 : A.getD 0 0 ≤ c ∧ c < A.getD 0 0 + wi.getD 0 0
    · rw [if_neg (show ¬ (A.getD 2 0 ≤ c ∧ c < A.getD 2 0 + wi.getD 2 0) by omega), if_neg (show ¬ (A.getD 1 0 ≤ c ∧ c < A.getD 1 0 + wi.getD 1 0) by omega), if_pos c0, if_pos c0]
      rfl
    · rw [if_neg c0, if_neg c0]
      by_cases c1 : A.getD (0 + 1) 0 ≤ c ∧ c < A.getD (0 + 1) 0 + wi.getD (0 + 1) 0
      · have c1' : A.getD 1 0 ≤ c ∧ c < A.getD 1 0 + wi.getD 1 0 := c1
        rw [if_neg (show ¬ (A.getD 2 0 ≤ c ∧ c < A.getD 2 0 + wi.getD 2 0) by omega), if_pos c1', if_pos c1]
        rfl
      · have c1' : ¬ (A.getD 1 0 ≤ c ∧ c < A.getD 1 0 + wi.getD 1 0) := c1
        rw [if_neg c1, if_neg c1']
        rfl
section MWH
variable {E : List (List Int)} {K : Option am_V → am_H → Prop} {C : Nat → am_C} {S : Nat → Int} {V : Nat → List Int} {nb ns : Nat} {L : pl_L}
theorem X10_whoIsOn_w {lv c : Int} (mp : MP S V nb ns) (ly : Ly (V 102) (14 * lv) L) (hlv : 0 ≤ lv ∧ lv ≤ 1) (wf : WfL nb ns (V 101) L) (dj : Dj ns (V 101) L.2.1) (hc : -1 ≤ c ∧ c < 100) : Wp E 132 0 [some (am_r (some 96)), some (am_i lv), some (am_i c), none, none, none] [] (mk C S V) K = K (some (am_i (pl_who L.2.1 (V 101) c (List.range' 0 ns)))) (mk C S V) := by
  obtain ⟨s0, s1, hnb, hns, l97, l98, l99, l100, l101, l102, l107, pv, wv⟩ := id mp
  have lo := am_foldz (W := fun i (a : Int × Option am_V) => Wp E 132 6 [some (am_r (some 96)), some (am_i lv), some (am_i c), some (am_i a.1), some (am_i i), a.2] [] (mk C S V) K) (f := fun a i => (if gi L.2.1 i ≤ c ∧ c ≤ gi L.2.1 i + gi (V 101) i - 1 then i else a.1, some (am_i (gi L.2.1 i)))) (I := fun _ _ => True) (lo := 0) (N := (ns : Int)) (by
    intro i a h0 h1 _
    refine ⟨trivial, ?_⟩
    have h1 := wv i.toNat (by omega)
    have h2 := wf.2.2 i.toNat (by omega)
    have h3 := ly.2.2.2.2.2.1 i.toNat (by omega)
    rw [show ((i.toNat : Nat) : Int) = i by omega] at h3
    have g1 : gi (V 101) i = (V 101).getD i.toNat 0 := rfl
    have g2 : gi L.2.1 i = L.2.1.getD i.toNat 0 := rfl
    have w1 : am_w c = c := am_w_id (by omega) (by omega)
    have w2 : am_w (gi (V 102) (14 * lv + 7 + i)) = gi L.2.1 i := by rw [h3, g2]; exact am_w_id (by omega) (by omega)
    have w3 : am_w (gi (V 102) (14 * lv + 7 + i) + gi (V 101) i - 1) = gi L.2.1 i + gi (V 101) i - 1 := by rw [h3, g2]; exact am_w_id (by omega) (by omega)
    have r1 := am_w_rng c
    have r2 := am_w_rng (gi (V 102) (14 * lv + 7 + i))
    have r3 := am_w_rng (gi (V 102) (14 * lv + 7 + i) + gi (V 101) i - 1)
    try dsimp only
    rw [e132_6]
    by_cases q : gi L.2.1 i ≤ c ∧ c ≤ gi L.2.1 i + gi (V 101) i - 1
    · rw [if_pos q]
      have q2 : am_w (gi (V 102) (14 * lv + 7 + i)) ≤ am_w c ∧ am_w c ≤ am_w (gi (V 102) (14 * lv + 7 + i) + gi (V 101) i - 1) := by rw [w1, w2, w3]; exact q
      simp (disch := first | omega | (simp (disch := omega) only [up_eq, up_ne, si_len, List.length_set]; omega)) only [↓e132_8, ↓e132_9, ↓e132_12, ↓e132_15, ↓e132_16, ↓e132_19, ↓e132_21, ↓e132_22, ↓e132_23, ↓e132_25, ↓e132_26, ↓e132_28, ↓e132_29, ↓e132_30, ↓e132_32, ↓e132_33, ↓e132_34, ↓e132_36, ↓e132_37, ↓e132_39, ↓e132_40, ↓e132_43, ↓e132_45, ↓e132_46, ↓e132_47, ↓e132_48, ↓e132_49, ↓e132_50, ↓e132_53, ↓e132_56, ↓e132_58, ↓e132_61, ↓e132_62, ↓e132_63, ↓e132_66, ↓am_ilp, ↓am_iln, ↓am_iep, ↓am_ien, ↓am_zlp, ↓am_zln, ↓am_zep, ↓am_zen, ↓am_zgp, ↓am_zgn, ↓am_zhp, ↓am_zhn, ↓am_b01, true_or, true_and, and_true, or_true, if_true, if_false, ↓am_bdl_z, ↓am_bdl_s, ↓am_bsl_z, ↓am_bsl_s, ↓am_k1_i, ↓am_k1_r, ↓am_k1_e, ↓am_k1_n, ↓am_bd_s, am_k1_t, eq_self, am_nl_i, am_nl_r, am_nl_e, am_nl_n, Option.toList_some, Option.toList_none, Option.map_some, Option.map_none, List.cons_append, List.nil_append, List.length_cons, List.length_nil, List.set_cons_zero, List.set_cons_succ, List.getElem?_cons_zero, List.getElem?_cons_succ, am_bd_s, ↓am_tls, ↓am_tln, ↓mk_oc, ↓ma_r, ↓ma_w, ↓mz_r, ↓mz_w, ↓mr0, ↓mr1, ↓mr2, ↓mr3, ↓mr4, ↓mr5, ↓mr6, ↓mr7, ↓mr8, ↓mr9, ↓mr10, ↓mr11, ↓mr12, ↓mr13, ↓mr14, ↓mr15, ↓mr16, ↓mr17, ↓mr18, ↓mr19, ↓mr20, ↓mr21, ↓mr22, ↓mr23, ↓mr24, ↓mr25, ↓mr26, ↓mr27, ↓mw0, ↓mw1, ↓mw11, ↓mw12, ↓mw13, ↓mw15, ↓mw16, ↓mw17, ↓mw19, ↓mw20, ↓mw22, ↓mw25, up_eq, up_ne, up_up, si_len, ↓X10_in_w, ↓am_ifb, ↓if_pos q2, h3, g2]
    · rw [if_neg q]
      have q2 : ¬ (am_w (gi (V 102) (14 * lv + 7 + i)) ≤ am_w c ∧ am_w c ≤ am_w (gi (V 102) (14 * lv + 7 + i) + gi (V 101) i - 1)) := by rw [w1, w2, w3]; exact q
      simp (disch := first | omega | (simp (disch := omega) only [up_eq, up_ne, si_len, List.length_set]; omega)) only [↓e132_8, ↓e132_9, ↓e132_12, ↓e132_15, ↓e132_16, ↓e132_19, ↓e132_21, ↓e132_22, ↓e132_23, ↓e132_25, ↓e132_26, ↓e132_28, ↓e132_29, ↓e132_30, ↓e132_32, ↓e132_33, ↓e132_34, ↓e132_36, ↓e132_37, ↓e132_39, ↓e132_40, ↓e132_43, ↓e132_45, ↓e132_46, ↓e132_47, ↓e132_48, ↓e132_49, ↓e132_50, ↓e132_53, ↓e132_56, ↓e132_58, ↓e132_61, ↓e132_62, ↓e132_63, ↓e132_66, ↓am_ilp, ↓am_iln, ↓am_iep, ↓am_ien, ↓am_zlp, ↓am_zln, ↓am_zep, ↓am_zen, ↓am_zgp, ↓am_zgn, ↓am_zhp, ↓am_zhn, ↓am_b01, true_or, true_and, and_true, or_true, if_true, if_false, ↓am_bdl_z, ↓am_bdl_s, ↓am_bsl_z, ↓am_bsl_s, ↓am_k1_i, ↓am_k1_r, ↓am_k1_e, ↓am_k1_n, ↓am_bd_s, am_k1_t, eq_self, am_nl_i, am_nl_r, am_nl_e, am_nl_n, Option.toList_some, Option.toList_none, Option.map_some, Option.map_none, List.cons_append, List.nil_append, List.length_cons, List.length_nil, List.set_cons_zero, List.set_cons_succ, List.getElem?_cons_zero, List.getElem?_cons_succ, am_bd_s, ↓am_tls, ↓am_tln, ↓mk_oc, ↓ma_r, ↓ma_w, ↓mz_r, ↓mz_w, ↓mr0, ↓mr1, ↓mr2, ↓mr3, ↓mr4, ↓mr5, ↓mr6, ↓mr7, ↓mr8, ↓mr9, ↓mr10, ↓mr11, ↓mr12, ↓mr13, ↓mr14, ↓mr15, ↓mr16, ↓mr17, ↓mr18, ↓mr19, ↓mr20, ↓mr21, ↓mr22, ↓mr23, ↓mr24, ↓mr25, ↓mr26, ↓mr27, ↓mw0, ↓mw1, ↓mw11, ↓mw12, ↓mw13, ↓mw15, ↓mw16, ↓mw17, ↓mw19, ↓mw20, ↓mw22, ↓mw25, up_eq, up_ne, up_up, si_len, ↓X10_in_w, ↓am_ifb, ↓if_neg q2, h3, g2]) ns 0 (-9, none) (by omega) (by omega) trivial
  have key : ∀ (n : Nat) (i : Int) (a : Int × Option am_V), (pl_fz (fun (a : Int × Option am_V) i => ((if gi L.2.1 i ≤ c ∧ c ≤ gi L.2.1 i + gi (V 101) i - 1 then i else a.1), some (am_i (gi L.2.1 i)))) i n a).1 = pl_fz (fun a i => if gi L.2.1 i ≤ c ∧ c ≤ gi L.2.1 i + gi (V 101) i - 1 then i else a) i n a.1 := by
    intro n
    induction n with
    | zero => intro i a; rfl
    | succ n ih => intro i a; rw [pl_fz, pl_fz, ih]
  have e1 := key ns 0 (-9, none)
  have e2 := m_who_eq (A := L.2.1) (wi := V 101) (c := c) hns dj
  unfold m_who at e2
  rw [← e2, ← e1]
  simp (disch := first | omega | (simp (disch := omega) only [up_eq, up_ne, si_len, List.length_set]; omega)) only [↓e132_0, ↓e132_2, ↓e132_3, ↓e132_4, ↓am_ilp, ↓am_iln, ↓am_iep, ↓am_ien, ↓am_zlp, ↓am_zln, ↓am_zep, ↓am_zen, ↓am_zgp, ↓am_zgn, ↓am_zhp, ↓am_zhn, ↓am_b01, true_or, true_and, and_true, or_true, if_true, if_false, ↓am_bdl_z, ↓am_bdl_s, ↓am_bsl_z, ↓am_bsl_s, ↓am_k1_i, ↓am_k1_r, ↓am_k1_e, ↓am_k1_n, ↓am_bd_s, am_k1_t, eq_self, am_nl_i, am_nl_r, am_nl_e, am_nl_n, Option.toList_some, Option.toList_none, Option.map_some, Option.map_none, List.cons_append, List.nil_append, List.length_cons, List.length_nil, List.set_cons_zero, List.set_cons_succ, List.getElem?_cons_zero, List.getElem?_cons_succ, am_bd_s]
  refine Eq.trans lo.1 ?_
  try dsimp only
  rw [e132_6]
  simp (disch := first | omega | (simp (disch := omega) only [up_eq, up_ne, si_len, List.length_set]; omega)) only [↓e132_8, ↓e132_9, ↓e132_12, ↓e132_69, ↓e132_70, ↓am_ilp, ↓am_iln, ↓am_iep, ↓am_ien, ↓am_zlp, ↓am_zln, ↓am_zep, ↓am_zen, ↓am_zgp, ↓am_zgn, ↓am_zhp, ↓am_zhn, ↓am_b01, true_or, true_and, and_true, or_true, if_true, if_false, ↓am_bdl_z, ↓am_bdl_s, ↓am_bsl_z, ↓am_bsl_s, ↓am_k1_i, ↓am_k1_r, ↓am_k1_e, ↓am_k1_n, ↓am_bd_s, am_k1_t, eq_self, am_nl_i, am_nl_r, am_nl_e, am_nl_n, Option.toList_some, Option.toList_none, Option.map_some, Option.map_none, List.cons_append, List.nil_append, List.length_cons, List.length_nil, List.set_cons_zero, List.set_cons_succ, List.getElem?_cons_zero, List.getElem?_cons_succ, am_bd_s, ↓am_tls, ↓am_tln, ↓mk_oc, ↓ma_r, ↓ma_w, ↓mz_r, ↓mz_w, ↓mr0, ↓mr1, ↓mr2, ↓mr3, ↓mr4, ↓mr5, ↓mr6, ↓mr7, ↓mr8, ↓mr9, ↓mr10, ↓mr11, ↓mr12, ↓mr13, ↓mr14, ↓mr15, ↓mr16, ↓mr17, ↓mr18, ↓mr19, ↓mr20, ↓mr21, ↓mr22, ↓mr23, ↓mr24, ↓mr25, ↓mr26, ↓mr27, ↓mw0, ↓mw1, ↓mw11, ↓mw12, ↓mw13, ↓mw15, ↓mw16, ↓mw17, ↓mw19, ↓mw20, ↓mw22, ↓mw25, up_eq, up_ne, up_up, si_len, s1]
theorem X10_lying_w (mp : MP S V nb ns) (ly : Ly (V 102) 0 L) (hx : ∀ x ∈ L.1, x < nb) : Wp E 149 0 [some (am_r (some 96)), none, none] [] (mk C S V) K = K (some (am_i (pl_mask L.1 : Int))) (mk C S V) := by
  obtain ⟨s0, s1, hnb, hns, l97, l98, l99, l100, l101, l102, l107, pv, wv⟩ := id mp
  have h6 := ly.1
  have hh := ly.2.1
  rw [Int.zero_add] at hh
  have lo := am_foldz (W := fun i a => Wp E 149 4 [some (am_r (some 96)), some (am_i a), some (am_i i)] [] (mk C S V) K) (f := fun a i => am_or a (am_shl 1 (gi (V 102) i))) (I := fun _ _ => True) (lo := 0) (N := (L.1.length : Int)) (by
    intro i a h0 h1 _
    refine ⟨trivial, ?_⟩
    try dsimp only
    rw [e149_4]
    simp (disch := first | omega | (simp (disch := omega) only [up_eq, up_ne, si_len, List.length_set]; omega)) only [↓e149_5, ↓e149_6, ↓e149_9, ↓e149_11, ↓e149_12, ↓e149_15, ↓e149_16, ↓e149_17, ↓e149_18, ↓e149_21, ↓e149_22, ↓e149_23, ↓e149_24, ↓e149_25, ↓e149_26, ↓e149_29, ↓am_ilp, ↓am_iln, ↓am_iep, ↓am_ien, ↓am_zlp, ↓am_zln, ↓am_zep, ↓am_zen, ↓am_zgp, ↓am_zgn, ↓am_zhp, ↓am_zhn, ↓am_b01, true_or, true_and, and_true, or_true, if_true, if_false, ↓am_bdl_z, ↓am_bdl_s, ↓am_bsl_z, ↓am_bsl_s, ↓am_k1_i, ↓am_k1_r, ↓am_k1_e, ↓am_k1_n, ↓am_bd_s, am_k1_t, eq_self, am_nl_i, am_nl_r, am_nl_e, am_nl_n, Option.toList_some, Option.toList_none, Option.map_some, Option.map_none, List.cons_append, List.nil_append, List.length_cons, List.length_nil, List.set_cons_zero, List.set_cons_succ, List.getElem?_cons_zero, List.getElem?_cons_succ, am_bd_s, ↓am_tls, ↓am_tln, ↓mk_oc, ↓ma_r, ↓ma_w, ↓mz_r, ↓mz_w, ↓mr0, ↓mr1, ↓mr2, ↓mr3, ↓mr4, ↓mr5, ↓mr6, ↓mr7, ↓mr8, ↓mr9, ↓mr10, ↓mr11, ↓mr12, ↓mr13, ↓mr14, ↓mr15, ↓mr16, ↓mr17, ↓mr18, ↓mr19, ↓mr20, ↓mr21, ↓mr22, ↓mr23, ↓mr24, ↓mr25, ↓mr26, ↓mr27, ↓mw0, ↓mw1, ↓mw11, ↓mw12, ↓mw13, ↓mw15, ↓mw16, ↓mw17, ↓mw19, ↓mw20, ↓mw22, ↓mw25, up_eq, up_ne, up_up, si_len]) L.1.length 0 0 (by omega) (by omega) trivial
  have e1 : pl_fz (fun a i => am_or a (am_shl 1 (gi (V 102) i))) 0 L.1.length 0 = pl_bits L.1 := by
    unfold pl_bits
    apply pl_fz_list
    intro k hk a
    rw [ly.2.2.1 k hk]
    rfl
  rw [← pl_bits_n (fun x hx2 => by have := hx x hx2; omega), ← e1]
  simp (disch := first | omega | (simp (disch := omega) only [up_eq, up_ne, si_len, List.length_set]; omega)) only [↓e149_0, ↓e149_1, ↓e149_2, ↓e149_3, ↓am_ilp, ↓am_iln, ↓am_iep, ↓am_ien, ↓am_zlp, ↓am_zln, ↓am_zep, ↓am_zen, ↓am_zgp, ↓am_zgn, ↓am_zhp, ↓am_zhn, ↓am_b01, true_or, true_and, and_true, or_true, if_true, if_false, ↓am_bdl_z, ↓am_bdl_s, ↓am_bsl_z, ↓am_bsl_s, ↓am_k1_i, ↓am_k1_r, ↓am_k1_e, ↓am_k1_n, ↓am_bd_s, am_k1_t, eq_self, am_nl_i, am_nl_r, am_nl_e, am_nl_n, Option.toList_some, Option.toList_none, Option.map_some, Option.map_none, List.cons_append, List.nil_append, List.length_cons, List.length_nil, List.set_cons_zero, List.set_cons_succ, List.getElem?_cons_zero, List.getElem?_cons_succ, am_bd_s]
  refine Eq.trans lo.1 ?_
  try dsimp only
  rw [e149_4]
  simp (disch := first | omega | (simp (disch := omega) only [up_eq, up_ne, si_len, List.length_set]; omega)) only [↓e149_5, ↓e149_6, ↓e149_9, ↓e149_11, ↓e149_12, ↓e149_32, ↓e149_33, ↓am_ilp, ↓am_iln, ↓am_iep, ↓am_ien, ↓am_zlp, ↓am_zln, ↓am_zep, ↓am_zen, ↓am_zgp, ↓am_zgn, ↓am_zhp, ↓am_zhn, ↓am_b01, true_or, true_and, and_true, or_true, if_true, if_false, ↓am_bdl_z, ↓am_bdl_s, ↓am_bsl_z, ↓am_bsl_s, ↓am_k1_i, ↓am_k1_r, ↓am_k1_e, ↓am_k1_n, ↓am_bd_s, am_k1_t, eq_self, am_nl_i, am_nl_r, am_nl_e, am_nl_n, Option.toList_some, Option.toList_none, Option.map_some, Option.map_none, List.cons_append, List.nil_append, List.length_cons, List.length_nil, List.set_cons_zero, List.set_cons_succ, List.getElem?_cons_zero, List.getElem?_cons_succ, am_bd_s, ↓am_tls, ↓am_tln, ↓mk_oc, ↓ma_r, ↓ma_w, ↓mz_r, ↓mz_w, ↓mr0, ↓mr1, ↓mr2, ↓mr3, ↓mr4, ↓mr5, ↓mr6, ↓mr7, ↓mr8, ↓mr9, ↓mr10, ↓mr11, ↓mr12, ↓mr13, ↓mr14, ↓mr15, ↓mr16, ↓mr17, ↓mr18, ↓mr19, ↓mr20, ↓mr21, ↓mr22, ↓mr23, ↓mr24, ↓mr25, ↓mr26, ↓mr27, ↓mw0, ↓mw1, ↓mw11, ↓mw12, ↓mw13, ↓mw15, ↓mw16, ↓mw17, ↓mw19, ↓mw20, ↓mw22, ↓mw25, up_eq, up_ne, up_up, si_len]
theorem X10_figuresOf_w {lv : Int} (mp : MP S V nb ns) (ly : Ly (V 102) (14 * lv) L) (hlv : 0 ≤ lv ∧ lv ≤ 1) : Wp E 157 0 [some (am_r (some 96)), some (am_i lv), none, none] [] (mk C S V) K = K (some (am_i (pl_figs L.1))) (mk C S V) := by
  obtain ⟨s0, s1, hnb, hns, l97, l98, l99, l100, l101, l102, l107, pv, wv⟩ := id mp
  have h6 := ly.1
  have hh := ly.2.1
  have lo := am_foldz (W := fun i a => Wp E 157 4 [some (am_r (some 96)), some (am_i lv), some (am_i a), some (am_i i)] [] (mk C S V) K) (f := fun a i => 10 * a + gi (V 102) (14 * lv + i) + 1) (I := fun _ _ => True) (lo := 0) (N := (L.1.length : Int)) (by
    intro i a h0 h1 _
    refine ⟨trivial, ?_⟩
    try dsimp only
    rw [e157_4]
    simp (disch := first | omega | (simp (disch := omega) only [up_eq, up_ne, si_len, List.length_set]; omega)) only [↓e157_5, ↓e157_6, ↓e157_9, ↓e157_11, ↓e157_12, ↓e157_13, ↓e157_15, ↓e157_16, ↓e157_17, ↓e157_20, ↓e157_22, ↓e157_23, ↓e157_24, ↓e157_25, ↓e157_28, ↓e157_30, ↓e157_31, ↓e157_32, ↓e157_33, ↓e157_34, ↓e157_35, ↓e157_36, ↓e157_37, ↓e157_38, ↓e157_39, ↓e157_42, ↓am_ilp, ↓am_iln, ↓am_iep, ↓am_ien, ↓am_zlp, ↓am_zln, ↓am_zep, ↓am_zen, ↓am_zgp, ↓am_zgn, ↓am_zhp, ↓am_zhn, ↓am_b01, true_or, true_and, and_true, or_true, if_true, if_false, ↓am_bdl_z, ↓am_bdl_s, ↓am_bsl_z, ↓am_bsl_s, ↓am_k1_i, ↓am_k1_r, ↓am_k1_e, ↓am_k1_n, ↓am_bd_s, am_k1_t, eq_self, am_nl_i, am_nl_r, am_nl_e, am_nl_n, Option.toList_some, Option.toList_none, Option.map_some, Option.map_none, List.cons_append, List.nil_append, List.length_cons, List.length_nil, List.set_cons_zero, List.set_cons_succ, List.getElem?_cons_zero, List.getElem?_cons_succ, am_bd_s, ↓am_tls, ↓am_tln, ↓mk_oc, ↓ma_r, ↓ma_w, ↓mz_r, ↓mz_w, ↓mr0, ↓mr1, ↓mr2, ↓mr3, ↓mr4, ↓mr5, ↓mr6, ↓mr7, ↓mr8, ↓mr9, ↓mr10, ↓mr11, ↓mr12, ↓mr13, ↓mr14, ↓mr15, ↓mr16, ↓mr17, ↓mr18, ↓mr19, ↓mr20, ↓mr21, ↓mr22, ↓mr23, ↓mr24, ↓mr25, ↓mr26, ↓mr27, ↓mw0, ↓mw1, ↓mw11, ↓mw12, ↓mw13, ↓mw15, ↓mw16, ↓mw17, ↓mw19, ↓mw20, ↓mw22, ↓mw25, up_eq, up_ne, up_up, si_len]) L.1.length 0 0 (by omega) (by omega) trivial
  have e1 : pl_fz (fun a i => 10 * a + gi (V 102) (14 * lv + i) + 1) 0 L.1.length 0 = pl_figs L.1 := by
    unfold pl_figs
    apply pl_fz_list
    intro k hk a
    rw [Int.zero_add, ly.2.2.1 k hk]
    rfl
  rw [← e1]
  simp (disch := first | omega | (simp (disch := omega) only [up_eq, up_ne, si_len, List.length_set]; omega)) only [↓e157_0, ↓e157_1, ↓e157_2, ↓e157_3, ↓am_ilp, ↓am_iln, ↓am_iep, ↓am_ien, ↓am_zlp, ↓am_zln, ↓am_zep, ↓am_zen, ↓am_zgp, ↓am_zgn, ↓am_zhp, ↓am_zhn, ↓am_b01, true_or, true_and, and_true, or_true, if_true, if_false, ↓am_bdl_z, ↓am_bdl_s, ↓am_bsl_z, ↓am_bsl_s, ↓am_k1_i, ↓am_k1_r, ↓am_k1_e, ↓am_k1_n, ↓am_bd_s, am_k1_t, eq_self, am_nl_i, am_nl_r, am_nl_e, am_nl_n, Option.toList_some, Option.toList_none, Option.map_some, Option.map_none, List.cons_append, List.nil_append, List.length_cons, List.length_nil, List.set_cons_zero, List.set_cons_succ, List.getElem?_cons_zero, List.getElem?_cons_succ, am_bd_s]
  refine Eq.trans lo.1 ?_
  try dsimp only
  rw [e157_4]
  simp (disch := first | omega | (simp (disch := omega) only [up_eq, up_ne, si_len, List.length_set]; omega)) only [↓e157_5, ↓e157_6, ↓e157_9, ↓e157_11, ↓e157_12, ↓e157_13, ↓e157_15, ↓e157_16, ↓e157_17, ↓e157_45, ↓e157_46, ↓am_ilp, ↓am_iln, ↓am_iep, ↓am_ien, ↓am_zlp, ↓am_zln, ↓am_zep, ↓am_zen, ↓am_zgp, ↓am_zgn, ↓am_zhp, ↓am_zhn, ↓am_b01, true_or, true_and, and_true, or_true, if_true, if_false, ↓am_bdl_z, ↓am_bdl_s, ↓am_bsl_z, ↓am_bsl_s, ↓am_k1_i, ↓am_k1_r, ↓am_k1_e, ↓am_k1_n, ↓am_bd_s, am_k1_t, eq_self, am_nl_i, am_nl_r, am_nl_e, am_nl_n, Option.toList_some, Option.toList_none, Option.map_some, Option.map_none, List.cons_append, List.nil_append, List.length_cons, List.length_nil, List.set_cons_zero, List.set_cons_succ, List.getElem?_cons_zero, List.getElem?_cons_succ, am_bd_s, ↓am_tls, ↓am_tln, ↓mk_oc, ↓ma_r, ↓ma_w, ↓mz_r, ↓mz_w, ↓mr0, ↓mr1, ↓mr2, ↓mr3, ↓mr4, ↓mr5, ↓mr6, ↓mr7, ↓mr8, ↓mr9, ↓mr10, ↓mr11, ↓mr12, ↓mr13, ↓mr14, ↓mr15, ↓mr16, ↓mr17, ↓mr18, ↓mr19, ↓mr20, ↓mr21, ↓mr22, ↓mr23, ↓mr24, ↓mr25, ↓mr26, ↓mr27, ↓mw0, ↓mw1, ↓mw11, ↓mw12, ↓mw13, ↓mw15, ↓mw16, ↓mw17, ↓mw19, ↓mw20, ↓mw22, ↓mw25, up_eq, up_ne, up_up, si_len]
end MWH
