/-! the class: orders, and rows of things -/
theorem pl_orS_keep {wk : List Nat → Int} {un : Nat → List Nat} {t : Int} : ∀ (l : List Nat) (a : Int × Int), 1 ≤ a.1 → (l.foldl (pl_orS wk un t) a).2 = a.2
  | [], _, _ => rfl
  | x :: l, a, h => by
    rw [List.foldl_cons]
    by_cases q : wk (un x) = t
    · have e : pl_orS wk un t a x = (a.1 + 1, a.2) := by rw [pl_orS, if_pos q, if_neg (by omega)]
      rw [e, pl_orS_keep l _ (by dsimp only; omega)]
    · have e : pl_orS wk un t a x = a := by rw [pl_orS, if_neg q]
      rw [e, pl_orS_keep l a h]
theorem pl_range_split {n i : Nat} (h : i ≤ n) : List.range n = List.range i ++ List.range' i (n - i) := by
  have e := List.range'_append_1 (s := 0) (m := i) (n := n - i)
  rw [Nat.zero_add, show i + (n - i) = n by omega] at e
  rw [List.range_eq_range', List.range_eq_range', e]
section PL2
variable {h : am_H} {r nb ns : Nat} {B : List Nat} {A Wo tm fr la ce ki wi tk : List Int} {ni : Int}
/-- the orders of those that lie: what they share -/
theorem m_un_lie {B : List Nat} (hB : ∀ x ∈ B, x < nb) (h6 : nb ≤ 6) (hn : B.Nodup) {i : Nat} (hi : i < pl_fct B.length) : (∀ x ∈ m_un B.length (pl_mask B) i, x < nb) ∧ (m_un B.length (pl_mask B) i).length = B.length ∧ pl_nx (m_un B.length (pl_mask B) i) = if i + 1 < pl_fct B.length then some (m_un B.length (pl_mask B) (i + 1)) else none := by
  have B6 : ∀ x ∈ B, x < 6 := fun x hx => by have := hB x hx; omega
  have hm := pl_mask_64 B6
  have hpl := pl_pop_len B6 hn
  have mo := m_un_ok (pl_mask B) hm i (by rw [hpl]; exact hi)
  have nx := pl_nx_un (pl_mask B) hm i (by rw [hpl]; exact hi)
  rw [hpl] at mo nx
  refine ⟨fun x hx => ?_, m_un_len _ _ _, nx⟩
  obtain ⟨a1, a2⟩ := mo.2 x hx
  rw [pl_mask_bit B6 a1] at a2
  exact hB x (of_decide_eq_true a2)
theorem X5_howManyOrders_f {s : Nat} {t : Int} (l : LayC h r B A Wo ni) (lf : Fix h nb ns fr la ce ki wi tm) (lp : PlanC h tk) (hB : ∀ x ∈ B, x < nb) (hn : B.Nodup) (ha : AtOk ns wi A) (hs : s < ns) (ht : 0 ≤ t ∧ t ≤ 10) (hr : 14 ≤ r) : ∃ h' tm' B', (∀ E K, Wp E 56 0 [some (am_r (some 12)), some (am_r (some r)), some (am_i (s : Int)), some (am_i t), none, none, none] [] h K = K (some (am_i ((List.range (pl_fct B.length)).foldl (pl_orS (fun B' => pl_wk fr la ce ki B' (A.getD s 0).toNat (wi.getD s 0).toNat) (m_un B.length (pl_mask B)) t) (0, -9)).1)) h') ∧ Fix h' nb ns fr la ce ki wi tm' ∧ LayC h' r B' A Wo ni ∧ FrT h h' r 4 := by
  have h6 : nb ≤ 6 := lf.1.2.2.2.2.2.2.2.2.2.2.2.1
  have B6 : ∀ x ∈ B, x < 6 := fun x hx => by have := hB x hx; omega
  have hm := pl_mask_64 B6
  have hpl := pl_pop_len B6 hn
  have hf := pl_fct_rng B.length
  obtain ⟨h1, w1, l1, f1⟩ := X3_toFirstOrder_w l B6
  have u0 := m_un_0 (pl_mask B) hm
  rw [hpl] at u0
  rw [← u0] at l1
  have lf1 := lf.fr f1 (by omega)
  obtain ⟨F, hF⟩ : ∃ F, F = pl_orS (fun B' => pl_wk fr la ce ki B' (A.getD s 0).toNat (wi.getD s 0).toNat) (m_un B.length (pl_mask B)) t := ⟨_, rfl⟩
  rw [← hF]
  obtain ⟨⟨ma, mo, h2⟩, ⟨e1, e2, e3, tm2, lf2, l2, f2⟩, w2⟩ := am_loop (X := List (List Int) × (Option am_V → am_H → Prop)) (α := Int × Int × am_H) (W := fun x i a => Wp x.1 56 13 [some (am_r (some 12)), some (am_r (some r)), some (am_i (s : Int)), some (am_i t), some (am_i a.1), some (am_i a.2.1), some (am_i (i : Int))] [] a.2.2 x.2) (I := fun i a => a.1 = ((List.range i).foldl F (0, -9)).1 ∧ a.2.1 = pl_b (i < pl_fct B.length) ∧ (0 ≤ a.1 ∧ a.1 ≤ i) ∧ ∃ tm', Fix a.2.2 nb ns fr la ce ki wi tm' ∧ LayC a.2.2 r (m_un B.length (pl_mask B) (min i (pl_fct B.length - 1))) A Wo ni ∧ FrT h a.2.2 r 4) (N := pl_fct B.length) (by
    rintro i ⟨ma, mo, g⟩ hi ⟨e1, e2, e3, tm2, lf2, l2, f2⟩
    dsimp only at e1 e2 e3 lf2 l2 f2
    rw [Nat.min_eq_left (by omega)] at l2
    rw [pl_b, if_pos hi] at e2
    obtain ⟨u1, u2, u3⟩ := m_un_lie hB h6 hn hi
    have lpg : PlanC g tk := lp.frT f2 (by omega)
    obtain ⟨g2, tm3, w2, lf3, r2⟩ := X1_wakes_f (m := 0) (s := s) l2 lf2 u1 (by omega) (by omega) ha hs
    rw [pl_f0] at w2
    have e0 : ((0 : Nat) : Int) = 0 := rfl
    rw [e0] at w2
    have l3 := l2.fr r2 (by omega)
    obtain ⟨g3, w3, l4, r3⟩ := X3_toNextOrder_w l3 (fun x hx => by have := u1 x hx; omega)
    have hrg := pl_win_rng (pl_tms_v lf.2.2.2.1 u1) (A.getD s 0).toNat (wi.getD s 0).toNat
    have hrg2 : 0 ≤ pl_wk fr la ce ki (m_un B.length (pl_mask B) i) (A.getD s 0).toNat (wi.getD s 0).toNat ∧ pl_wk fr la ce ki (m_un B.length (pl_mask B) i) (A.getD s 0).toNat (wi.getD s 0).toNat ≤ 10 := hrg
    have es : (pl_nx (m_un B.length (pl_mask B) i)).isSome = true ↔ i + 1 < pl_fct B.length := by
      rw [u3]
      by_cases q : i + 1 < pl_fct B.length
      · rw [if_pos q]; simp [q]
      · rw [if_neg q]; simp [q]
    rw [pl_ba es] at w3
    have el : (pl_nx (m_un B.length (pl_mask B) i)).getD (m_un B.length (pl_mask B) i) = m_un B.length (pl_mask B) (min (i + 1) (pl_fct B.length - 1)) := by
      rw [u3]
      by_cases q : i + 1 < pl_fct B.length
      · rw [if_pos q, Nat.min_eq_left (by omega)]; rfl
      · rw [if_neg q, Nat.min_eq_right (by omega), show pl_fct B.length - 1 = i by omega]; rfl
    rw [el] at l4
    have lf4 := lf3.fr r3 (by omega)
    have f4 : FrT h g3 r 4 := f2.trans (FrT.of r2 r3)
    have ef : (List.range (i + 1)).foldl F (0, -9) = F ((List.range i).foldl F (0, -9)) i := by rw [List.range_succ, List.foldl_append]; rfl
    by_cases q : pl_wk fr la ce ki (m_un B.length (pl_mask B) i) (A.getD s 0).toNat (wi.getD s 0).toNat = t
    · refine ⟨(ma + 1, pl_b (i + 1 < pl_fct B.length), g3), ⟨?_, rfl, by dsimp only; omega, tm3, lf4, l4, f4⟩, fun x => ?_⟩
      · dsimp only
        rw [ef, hF, pl_orS, if_pos q, ← hF, ← e1]
      · dsimp only
        rw [e56_13]
        simp (disch := first | omega | (simp only [List.length_set]; omega) | rfl) only [↓e56_15, ↓e56_18, ↓e56_21, ↓e56_23, ↓e56_26, ↓e56_27, ↓e56_30, ↓e56_31, ↓e56_32, ↓e56_33, ↓e56_36, ↓e56_37, ↓e56_40, ↓e56_43, ↓e56_44, ↓e56_47, ↓e56_49, ↓e56_52, ↓am_ilp, ↓am_iln, ↓am_iep, ↓am_ien, ↓am_zlp, ↓am_zln, ↓am_zep, ↓am_zen, ↓am_zgp, ↓am_zgn, ↓am_zhp, ↓am_zhn, ↓am_b01, true_or, true_and, and_true, or_true, if_true, if_false, ↓am_bdl_z, ↓am_bdl_s, ↓am_bsl_z, ↓am_bsl_s, ↓am_k1_i, ↓am_k1_r, ↓am_k1_e, ↓am_k1_n, ↓am_bd_s, am_k1_t, eq_self, am_nl_i, am_nl_r, am_nl_e, am_nl_n, Option.toList_some, Option.toList_none, Option.map_some, Option.map_none, List.cons_append, List.nil_append, List.length_cons, List.length_nil, List.set_cons_zero, List.set_cons_succ, List.getElem?_cons_zero, List.getElem?_cons_succ, am_bd_s, ↓am_tls, ↓am_bdf lpg.1, am_bdf lpg.1, ↓am_bfu lpg.1, am_bfu lpg.1, ↓am_oc_of lpg.1, am_oc_of lpg.1, ↓am_bdf lf2.2.1.1, am_bdf lf2.2.1.1, ↓am_bfu lf2.2.1.1, am_bfu lf2.2.1.1, ↓am_oc_of lf2.2.1.1, am_oc_of lf2.2.1.1, ↓am_bdf l2.obj.1, am_bdf l2.obj.1, ↓am_bfu l2.obj.1, am_bfu l2.obj.1, ↓am_oc_of l2.obj.1, am_oc_of l2.obj.1, ↓am_bdf l3.obj.1, am_bdf l3.obj.1, ↓am_bfu l3.obj.1, am_bfu l3.obj.1, ↓am_oc_of l3.obj.1, am_oc_of l3.obj.1, ↓w2, ↓w3, Int.natCast_add, Int.natCast_one]
    · refine ⟨(ma, pl_b (i + 1 < pl_fct B.length), g3), ⟨?_, rfl, by dsimp only; omega, tm3, lf4, l4, f4⟩, fun x => ?_⟩
      · dsimp only
        rw [ef, hF, pl_orS, if_neg q, ← hF, ← e1]
      · dsimp only
        rw [e56_13]
        simp (disch := first | omega | (simp only [List.length_set]; omega) | rfl) only [↓e56_15, ↓e56_18, ↓e56_21, ↓e56_23, ↓e56_26, ↓e56_27, ↓e56_30, ↓e56_31, ↓e56_32, ↓e56_33, ↓e56_36, ↓e56_37, ↓e56_40, ↓e56_43, ↓e56_44, ↓e56_47, ↓e56_49, ↓e56_52, ↓am_ilp, ↓am_iln, ↓am_iep, ↓am_ien, ↓am_zlp, ↓am_zln, ↓am_zep, ↓am_zen, ↓am_zgp, ↓am_zgn, ↓am_zhp, ↓am_zhn, ↓am_b01, true_or, true_and, and_true, or_true, if_true, if_false, ↓am_bdl_z, ↓am_bdl_s, ↓am_bsl_z, ↓am_bsl_s, ↓am_k1_i, ↓am_k1_r, ↓am_k1_e, ↓am_k1_n, ↓am_bd_s, am_k1_t, eq_self, am_nl_i, am_nl_r, am_nl_e, am_nl_n, Option.toList_some, Option.toList_none, Option.map_some, Option.map_none, List.cons_append, List.nil_append, List.length_cons, List.length_nil, List.set_cons_zero, List.set_cons_succ, List.getElem?_cons_zero, List.getElem?_cons_succ, am_bd_s, ↓am_tls, ↓am_bdf lpg.1, am_bdf lpg.1, ↓am_bfu lpg.1, am_bfu lpg.1, ↓am_oc_of lpg.1, am_oc_of lpg.1, ↓am_bdf lf2.2.1.1, am_bdf lf2.2.1.1, ↓am_bfu lf2.2.1.1, am_bfu lf2.2.1.1, ↓am_oc_of lf2.2.1.1, am_oc_of lf2.2.1.1, ↓am_bdf l2.obj.1, am_bdf l2.obj.1, ↓am_bfu l2.obj.1, am_bfu l2.obj.1, ↓am_oc_of l2.obj.1, am_oc_of l2.obj.1, ↓am_bdf l3.obj.1, am_bdf l3.obj.1, ↓am_bfu l3.obj.1, am_bfu l3.obj.1, ↓am_oc_of l3.obj.1, am_oc_of l3.obj.1, ↓w2, ↓w3, Int.natCast_add, Int.natCast_one]) (pl_fct B.length) 0 (0, 1, h1) (by omega) ⟨rfl, by rw [pl_b, if_pos (by omega)], by dsimp only; omega, tm, lf1, by rw [Nat.min_eq_left (by omega)]; exact l1, f1.T⟩
  dsimp only at e1 e2 e3 lf2 l2 f2 w2
  rw [pl_b, if_neg (by omega)] at e2
  subst e2
  refine ⟨h2, tm2, _, fun E K => ?_, lf2, l2, f2⟩
  rw [← e1]
  have w3 := w2 (E, K)
  dsimp only at w3
  have fin : Wp E 56 13 [some (am_r (some 12)), some (am_r (some r)), some (am_i (s : Int)), some (am_i t), some (am_i ma), some (am_i 0), some (am_i (pl_fct B.length : Int))] [] h2 K = K (some (am_i ma)) h2 := by
    rw [e56_13]
    by_cases q : pl_fct B.length < 720
    · simp (disch := first | omega | (simp only [List.length_set]; omega) | rfl) only [↓e56_15, ↓e56_18, ↓e56_21, ↓e56_23, ↓e56_55, ↓e56_57, ↓am_ilp, ↓am_iln, ↓am_iep, ↓am_ien, ↓am_zlp, ↓am_zln, ↓am_zep, ↓am_zen, ↓am_zgp, ↓am_zgn, ↓am_zhp, ↓am_zhn, ↓am_b01, true_or, true_and, and_true, or_true, if_true, if_false, ↓am_bdl_z, ↓am_bdl_s, ↓am_bsl_z, ↓am_bsl_s, ↓am_k1_i, ↓am_k1_r, ↓am_k1_e, ↓am_k1_n, ↓am_bd_s, am_k1_t, eq_self, am_nl_i, am_nl_r, am_nl_e, am_nl_n, Option.toList_some, Option.toList_none, Option.map_some, Option.map_none, List.cons_append, List.nil_append, List.length_cons, List.length_nil, List.set_cons_zero, List.set_cons_succ, List.getElem?_cons_zero, List.getElem?_cons_succ, am_bd_s]
    · simp (disch := first | omega | (simp only [List.length_set]; omega) | rfl) only [↓e56_15, ↓e56_18, ↓e56_55, ↓e56_57, ↓am_ilp, ↓am_iln, ↓am_iep, ↓am_ien, ↓am_zlp, ↓am_zln, ↓am_zep, ↓am_zen, ↓am_zgp, ↓am_zgn, ↓am_zhp, ↓am_zhn, ↓am_b01, true_or, true_and, and_true, or_true, if_true, if_false, ↓am_bdl_z, ↓am_bdl_s, ↓am_bsl_z, ↓am_bsl_s, ↓am_k1_i, ↓am_k1_r, ↓am_k1_e, ↓am_k1_n, ↓am_bd_s, am_k1_t, eq_self, am_nl_i, am_nl_r, am_nl_e, am_nl_n, Option.toList_some, Option.toList_none, Option.map_some, Option.map_none, List.cons_append, List.nil_append, List.length_cons, List.length_nil, List.set_cons_zero, List.set_cons_succ, List.getElem?_cons_zero, List.getElem?_cons_succ, am_bd_s]
  rw [fin] at w3
  simp (disch := first | omega | (simp only [List.length_set]; omega) | rfl) only [↓e56_0, ↓e56_1, ↓e56_4, ↓e56_5, ↓e56_7, ↓e56_8, ↓e56_10, ↓e56_11, ↓am_ilp, ↓am_iln, ↓am_iep, ↓am_ien, ↓am_zlp, ↓am_zln, ↓am_zep, ↓am_zen, ↓am_zgp, ↓am_zgn, ↓am_zhp, ↓am_zhn, ↓am_b01, true_or, true_and, and_true, or_true, if_true, if_false, ↓am_bdl_z, ↓am_bdl_s, ↓am_bsl_z, ↓am_bsl_s, ↓am_k1_i, ↓am_k1_r, ↓am_k1_e, ↓am_k1_n, ↓am_bd_s, am_k1_t, eq_self, am_nl_i, am_nl_r, am_nl_e, am_nl_n, Option.toList_some, Option.toList_none, Option.map_some, Option.map_none, List.cons_append, List.nil_append, List.length_cons, List.length_nil, List.set_cons_zero, List.set_cons_succ, List.getElem?_cons_zero, List.getElem?_cons_succ, am_bd_s, ↓am_tln, ↓am_bdf l.obj.1, am_bdf l.obj.1, ↓am_bfu l.obj.1, am_bfu l.obj.1, ↓am_oc_of l.obj.1, am_oc_of l.obj.1, ↓w1]
  exact w3
theorem X5_firstOrder_l {s : Nat} {t : Int} {B : List Nat} (hB : ∀ x ∈ B, x < nb) (hn : B.Nodup) (ha : AtOk ns wi A) (hs : s < ns) (ht : 0 ≤ t ∧ t ≤ 10) (hr : 14 ≤ r) :
    ∀ (k i : Nat) (h : am_H) (tm : List Int), i + k = pl_fct B.length → Fix h nb ns fr la ce ki wi tm → PlanC h tk → LayC h r (m_un B.length (pl_mask B) (min i (pl_fct B.length - 1))) A Wo ni → ((List.range i).foldl (pl_orS (fun B' => pl_wk fr la ce ki B' (A.getD s 0).toNat (wi.getD s 0).toNat) (m_un B.length (pl_mask B)) t) (0, -9)) = (0, -9) → ∃ h' tm' B', (∀ E K, Wp E 57 10 [some (am_r (some 12)), some (am_r (some r)), some (am_i (s : Int)), some (am_i t), some (am_i (pl_b (i < pl_fct B.length))), some (am_i (i : Int))] [] h K = K (some (am_i ((List.range (pl_fct B.length)).foldl (pl_orS (fun B' => pl_wk fr la ce ki B' (A.getD s 0).toNat (wi.getD s 0).toNat) (m_un B.length (pl_mask B)) t) (0, -9)).2)) h') ∧ Fix h' nb ns fr la ce ki wi tm' ∧ LayC h' r B' A Wo ni ∧ FrT h h' r 4
  | 0, i, h, tm, e, lf, lp, l, hz => by
    have hf := pl_fct_rng B.length
    have ei : i = pl_fct B.length := by omega
    refine ⟨h, tm, _, fun E K => ?_, lf, l, FrT.rf⟩
    rw [← ei, hz, pl_b, if_neg (by omega), e57_10]
    by_cases q : i < 720
    · simp (disch := first | omega | (simp only [List.length_set]; omega) | rfl) only [↓e57_12, ↓e57_15, ↓e57_18, ↓e57_20, ↓e57_54, ↓e57_56, ↓am_ilp, ↓am_iln, ↓am_iep, ↓am_ien, ↓am_zlp, ↓am_zln, ↓am_zep, ↓am_zen, ↓am_zgp, ↓am_zgn, ↓am_zhp, ↓am_zhn, ↓am_b01, true_or, true_and, and_true, or_true, if_true, if_false, ↓am_bdl_z, ↓am_bdl_s, ↓am_bsl_z, ↓am_bsl_s, ↓am_k1_i, ↓am_k1_r, ↓am_k1_e, ↓am_k1_n, ↓am_bd_s, am_k1_t, eq_self, am_nl_i, am_nl_r, am_nl_e, am_nl_n, Option.toList_some, Option.toList_none, Option.map_some, Option.map_none, List.cons_append, List.nil_append, List.length_cons, List.length_nil, List.set_cons_zero, List.set_cons_succ, List.getElem?_cons_zero, List.getElem?_cons_succ, am_bd_s]
    · simp (disch := first | omega | (simp only [List.length_set]; omega) | rfl) only [↓e57_12, ↓e57_15, ↓e57_54, ↓e57_56, ↓am_ilp, ↓am_iln, ↓am_iep, ↓am_ien, ↓am_zlp, ↓am_zln, ↓am_zep, ↓am_zen, ↓am_zgp, ↓am_zgn, ↓am_zhp, ↓am_zhn, ↓am_b01, true_or, true_and, and_true, or_true, if_true, if_false, ↓am_bdl_z, ↓am_bdl_s, ↓am_bsl_z, ↓am_bsl_s, ↓am_k1_i, ↓am_k1_r, ↓am_k1_e, ↓am_k1_n, ↓am_bd_s, am_k1_t, eq_self, am_nl_i, am_nl_r, am_nl_e, am_nl_n, Option.toList_some, Option.toList_none, Option.map_some, Option.map_none, List.cons_append, List.nil_append, List.length_cons, List.length_nil, List.set_cons_zero, List.set_cons_succ, List.getElem?_cons_zero, List.getElem?_cons_succ, am_bd_s]
  | k + 1, i, h, tm, e, lf, lp, l, hz => by
    have h6 : nb ≤ 6 := lf.1.2.2.2.2.2.2.2.2.2.2.2.1
    have hf := pl_fct_rng B.length
    have hi : i < pl_fct B.length := by omega
    rw [Nat.min_eq_left (by omega)] at l
    obtain ⟨u1, u2, u3⟩ := m_un_lie hB h6 hn hi
    obtain ⟨g2, tm3, w2, lf3, r2⟩ := X1_wakes_f (m := 0) (s := s) l lf u1 (by omega) (by omega) ha hs
    rw [pl_f0] at w2
    have e0 : ((0 : Nat) : Int) = 0 := rfl
    rw [e0] at w2
    have l3 := l.fr r2 (by omega)
    obtain ⟨g3, w3, l4, r3⟩ := X3_toNextOrder_w l3 (fun x hx => by have := u1 x hx; omega)
    have hrg := pl_win_rng (pl_tms_v lf.2.2.2.1 u1) (A.getD s 0).toNat (wi.getD s 0).toNat
    have hrg2 : 0 ≤ pl_wk fr la ce ki (m_un B.length (pl_mask B) i) (A.getD s 0).toNat (wi.getD s 0).toNat ∧ pl_wk fr la ce ki (m_un B.length (pl_mask B) i) (A.getD s 0).toNat (wi.getD s 0).toNat ≤ 10 := hrg
    have es : (pl_nx (m_un B.length (pl_mask B) i)).isSome = true ↔ i + 1 < pl_fct B.length := by
      rw [u3]
      by_cases q : i + 1 < pl_fct B.length
      · rw [if_pos q]; simp [q]
      · rw [if_neg q]; simp [q]
    rw [pl_ba es] at w3
    have el : (pl_nx (m_un B.length (pl_mask B) i)).getD (m_un B.length (pl_mask B) i) = m_un B.length (pl_mask B) (min (i + 1) (pl_fct B.length - 1)) := by
      rw [u3]
      by_cases q : i + 1 < pl_fct B.length
      · rw [if_pos q, Nat.min_eq_left (by omega)]; rfl
      · rw [if_neg q, Nat.min_eq_right (by omega), show pl_fct B.length - 1 = i by omega]; rfl
    rw [el] at l4
    have lf4 := lf3.fr r3 (by omega)
    have f4 : FrT h g3 r 4 := FrT.of r2 r3
    have ef : ∀ F : Int × Int → Nat → Int × Int, (List.range (i + 1)).foldl F (0, -9) = F ((List.range i).foldl F (0, -9)) i := fun F => by rw [List.range_succ, List.foldl_append]; rfl
    have fw := fun E K => X3_asFigures_w (E := E) (K := K) l3
    by_cases q : pl_wk fr la ce ki (m_un B.length (pl_mask B) i) (A.getD s 0).toNat (wi.getD s 0).toNat = t
    · refine ⟨g2, tm3, _, fun E K => ?_, lf3, l3, FrT.of0 r2⟩
      have ev : ((List.range (pl_fct B.length)).foldl (pl_orS (fun B' => pl_wk fr la ce ki B' (A.getD s 0).toNat (wi.getD s 0).toNat) (m_un B.length (pl_mask B)) t) (0, -9)).2 = pl_figs (m_un B.length (pl_mask B) i) := by
        rw [pl_range_split (show i + 1 ≤ pl_fct B.length by omega), List.foldl_append, ef, hz]
        have e9 : pl_orS (fun B' => pl_wk fr la ce ki B' (A.getD s 0).toNat (wi.getD s 0).toNat) (m_un B.length (pl_mask B)) t (0, -9) i = (1, pl_figs (m_un B.length (pl_mask B) i)) := by
          rw [pl_orS, if_pos q, if_pos rfl]; rfl
        rw [e9, pl_orS_keep _ _ (Int.le_refl 1)]
      rw [ev, pl_b, if_pos hi, e57_10]
      simp (disch := first | omega | (simp only [List.length_set]; omega) | rfl) only [↓e57_12, ↓e57_15, ↓e57_18, ↓e57_20, ↓e57_23, ↓e57_24, ↓e57_27, ↓e57_28, ↓e57_29, ↓e57_30, ↓e57_33, ↓e57_34, ↓e57_37, ↓e57_38, ↓e57_41, ↓e57_42, ↓e57_43, ↓e57_46, ↓e57_48, ↓e57_51, ↓am_ilp, ↓am_iln, ↓am_iep, ↓am_ien, ↓am_zlp, ↓am_zln, ↓am_zep, ↓am_zen, ↓am_zgp, ↓am_zgn, ↓am_zhp, ↓am_zhn, ↓am_b01, true_or, true_and, and_true, or_true, if_true, if_false, ↓am_bdl_z, ↓am_bdl_s, ↓am_bsl_z, ↓am_bsl_s, ↓am_k1_i, ↓am_k1_r, ↓am_k1_e, ↓am_k1_n, ↓am_bd_s, am_k1_t, eq_self, am_nl_i, am_nl_r, am_nl_e, am_nl_n, Option.toList_some, Option.toList_none, Option.map_some, Option.map_none, List.cons_append, List.nil_append, List.length_cons, List.length_nil, List.set_cons_zero, List.set_cons_succ, List.getElem?_cons_zero, List.getElem?_cons_succ, am_bd_s, ↓am_tls, ↓am_bdf lp.1, am_bdf lp.1, ↓am_bfu lp.1, am_bfu lp.1, ↓am_oc_of lp.1, am_oc_of lp.1, ↓am_bdf lf.2.1.1, am_bdf lf.2.1.1, ↓am_bfu lf.2.1.1, am_bfu lf.2.1.1, ↓am_oc_of lf.2.1.1, am_oc_of lf.2.1.1, ↓am_bdf l.obj.1, am_bdf l.obj.1, ↓am_bfu l.obj.1, am_bfu l.obj.1, ↓am_oc_of l.obj.1, am_oc_of l.obj.1, ↓am_bdf l3.obj.1, am_bdf l3.obj.1, ↓am_bfu l3.obj.1, am_bfu l3.obj.1, ↓am_oc_of l3.obj.1, am_oc_of l3.obj.1, ↓w2, ↓fw]
    · obtain ⟨h', tm', B', w5, lf5, l5, f5⟩ := X5_firstOrder_l hB hn ha hs ht hr k (i + 1) g3 tm3 (by omega) lf4 (lp.frT f4 (by omega)) l4 (by rw [ef, hz, pl_orS, if_neg q])
      refine ⟨h', tm', B', fun E K => ?_, lf5, l5, f4.trans f5⟩
      have w6 := w5 E K
      rw [pl_b, if_pos hi, e57_10]
      simp (disch := first | omega | (simp only [List.length_set]; omega) | rfl) only [↓e57_12, ↓e57_15, ↓e57_18, ↓e57_20, ↓e57_23, ↓e57_24, ↓e57_27, ↓e57_28, ↓e57_29, ↓e57_30, ↓e57_33, ↓e57_34, ↓e57_37, ↓e57_38, ↓e57_41, ↓e57_42, ↓e57_43, ↓e57_46, ↓e57_48, ↓e57_51, ↓am_ilp, ↓am_iln, ↓am_iep, ↓am_ien, ↓am_zlp, ↓am_zln, ↓am_zep, ↓am_zen, ↓am_zgp, ↓am_zgn, ↓am_zhp, ↓am_zhn, ↓am_b01, true_or, true_and, and_true, or_true, if_true, if_false, ↓am_bdl_z, ↓am_bdl_s, ↓am_bsl_z, ↓am_bsl_s, ↓am_k1_i, ↓am_k1_r, ↓am_k1_e, ↓am_k1_n, ↓am_bd_s, am_k1_t, eq_self, am_nl_i, am_nl_r, am_nl_e, am_nl_n, Option.toList_some, Option.toList_none, Option.map_some, Option.map_none, List.cons_append, List.nil_append, List.length_cons, List.length_nil, List.set_cons_zero, List.set_cons_succ, List.getElem?_cons_zero, List.getElem?_cons_succ, am_bd_s, ↓am_tls, ↓am_bdf lp.1, am_bdf lp.1, ↓am_bfu lp.1, am_bfu lp.1, ↓am_oc_of lp.1, am_oc_of lp.1, ↓am_bdf lf.2.1.1, am_bdf lf.2.1.1, ↓am_bfu lf.2.1.1, am_bfu lf.2.1.1, ↓am_oc_of lf.2.1.1, am_oc_of lf.2.1.1, ↓am_bdf l.obj.1, am_bdf l.obj.1, ↓am_bfu l.obj.1, am_bfu l.obj.1, ↓am_oc_of l.obj.1, am_oc_of l.obj.1, ↓am_bdf l3.obj.1, am_bdf l3.obj.1, ↓am_bfu l3.obj.1, am_bfu l3.obj.1, ↓am_oc_of l3.obj.1, am_oc_of l3.obj.1, ↓w2, ↓w3]
      exact w6
theorem X5_firstOrder_f {s : Nat} {t : Int} (l : LayC h r B A Wo ni) (lf : Fix h nb ns fr la ce ki wi tm) (lp : PlanC h tk) (hB : ∀ x ∈ B, x < nb) (hn : B.Nodup) (ha : AtOk ns wi A) (hs : s < ns) (ht : 0 ≤ t ∧ t ≤ 10) (hr : 14 ≤ r) : ∃ h' tm' B', (∀ E K, Wp E 57 0 [some (am_r (some 12)), some (am_r (some r)), some (am_i (s : Int)), some (am_i t), none, none] [] h K = K (some (am_i ((List.range (pl_fct B.length)).foldl (pl_orS (fun B' => pl_wk fr la ce ki B' (A.getD s 0).toNat (wi.getD s 0).toNat) (m_un B.length (pl_mask B)) t) (0, -9)).2)) h') ∧ Fix h' nb ns fr la ce ki wi tm' ∧ LayC h' r B' A Wo ni ∧ FrT h h' r 4 := by
  have h6 : nb ≤ 6 := lf.1.2.2.2.2.2.2.2.2.2.2.2.1
  have B6 : ∀ x ∈ B, x < 6 := fun x hx => by have := hB x hx; omega
  have hm := pl_mask_64 B6
  have hpl := pl_pop_len B6 hn
  have hf := pl_fct_rng B.length
  obtain ⟨h1, w1, l1, f1⟩ := X3_toFirstOrder_w l B6
  have u0 := m_un_0 (pl_mask B) hm
  rw [hpl] at u0
  rw [← u0] at l1
  have lf1 := lf.fr f1 (by omega)
  obtain ⟨h', tm', B', w5, lf5, l5, f5⟩ := X5_firstOrder_l (tk := tk) hB hn ha hs ht hr (pl_fct B.length) 0 h1 tm (by omega) lf1 (lp.frT f1.T (by omega)) (by rw [Nat.min_eq_left (by omega)]; exact l1) rfl
  refine ⟨h', tm', B', fun E K => ?_, lf5, l5, f1.T.trans f5⟩
  have w6 := w5 E K
  rw [pl_b, if_pos (by omega)] at w6
  simp (disch := first | omega | (simp only [List.length_set]; omega) | rfl) only [↓e57_0, ↓e57_1, ↓e57_4, ↓e57_5, ↓e57_7, ↓e57_8, ↓am_ilp, ↓am_iln, ↓am_iep, ↓am_ien, ↓am_zlp, ↓am_zln, ↓am_zep, ↓am_zen, ↓am_zgp, ↓am_zgn, ↓am_zhp, ↓am_zhn, ↓am_b01, true_or, true_and, and_true, or_true, if_true, if_false, ↓am_bdl_z, ↓am_bdl_s, ↓am_bsl_z, ↓am_bsl_s, ↓am_k1_i, ↓am_k1_r, ↓am_k1_e, ↓am_k1_n, ↓am_bd_s, am_k1_t, eq_self, am_nl_i, am_nl_r, am_nl_e, am_nl_n, Option.toList_some, Option.toList_none, Option.map_some, Option.map_none, List.cons_append, List.nil_append, List.length_cons, List.length_nil, List.set_cons_zero, List.set_cons_succ, List.getElem?_cons_zero, List.getElem?_cons_succ, am_bd_s, ↓am_tln, ↓am_bdf l.obj.1, am_bdf l.obj.1, ↓am_bfu l.obj.1, am_bfu l.obj.1, ↓am_oc_of l.obj.1, am_oc_of l.obj.1, ↓w1]
  exact w6
theorem X5_firstImpossible_l {n row : Nat} (hn : n ≤ 4) (hrow : row < 100000000) (hr : 14 ≤ r) :
    ∀ (k i : Nat) (h : am_H) (L : pl_L) (tm : List Int) (u : Int) (x6 : Option am_V), i + k = n → (1 ≤ k → u = ((100 ^ (k - 1) : Nat) : Int)) → LayL h r L → Fix h nb ns fr la ce ki wi tm → PlanC h tk → WfL nb ns wi L → ∃ h' tm' L', (∀ E K, Wp E 58 28 [some (am_r (some 12)), some (am_r (some r)), some (am_i (n : Int)), some (am_i (row : Int)), some (am_i u), some (am_i (i : Int)), x6] [] h K = K (some (am_i (pl_jg (pl_dg n row) (pl_do nb ns fr la ce ki wi) k i L))) h') ∧ Fix h' nb ns fr la ce ki wi tm' ∧ LayL h' r L' ∧ FrT h h' r 4
  | 0, i, h, L, tm, u, x6, e, hu, l, lf, lp, wf => by
    refine ⟨h, tm, L, fun E K => ?_, lf, l, FrT.rf⟩
    rw [e58_28, pl_jg]
    simp (disch := first | omega | (simp only [List.length_set]; omega) | rfl) only [↓e58_30, ↓e58_31, ↓e58_84, ↓e58_86, ↓am_ilp, ↓am_iln, ↓am_iep, ↓am_ien, ↓am_zlp, ↓am_zln, ↓am_zep, ↓am_zen, ↓am_zgp, ↓am_zgn, ↓am_zhp, ↓am_zhn, ↓am_b01, true_or, true_and, and_true, or_true, if_true, if_false, ↓am_bdl_z, ↓am_bdl_s, ↓am_bsl_z, ↓am_bsl_s, ↓am_k1_i, ↓am_k1_r, ↓am_k1_e, ↓am_k1_n, ↓am_bd_s, am_k1_t, eq_self, am_nl_i, am_nl_r, am_nl_e, am_nl_n, Option.toList_some, Option.toList_none, Option.map_some, Option.map_none, List.cons_append, List.nil_append, List.length_cons, List.length_nil, List.set_cons_zero, List.set_cons_succ, List.getElem?_cons_zero, List.getElem?_cons_succ, am_bd_s]
  | k + 1, i, h, L, tm, u, x6, e, hu, l, lf, lp, wf => by
    have hu1 := hu (by omega)
    rw [Nat.add_sub_cancel] at hu1
    have hk : n - 1 - i = k := by omega
    have hd : ∀ k < 4, 1 ≤ 100 ^ k ∧ 100 ^ k ≤ 1000000 := by decide
    have pk := hd k (by omega)
    obtain ⟨uk, huk⟩ : ∃ uk : Nat, uk = 100 ^ k := ⟨_, rfl⟩
    rw [← huk] at pk hu1
    have d1 : am_div (row : Int) u = ((row / uk : Nat) : Int) := by
      rw [hu1, am_div_n (by omega) (by omega) (by omega) (by omega)]
      rfl
    have b1 : row / uk ≤ row := Nat.div_le_self _ _
    have d0 : ∀ z : Nat, z ≤ 100000000 → am_rem (z : Int) 100 = ((z % 100 : Nat) : Int) := fun z hz => by
      rw [am_rem_n (by omega) (by omega) (by omega) (by omega)]
      rfl
    have ed : pl_dg n row i = row / uk % 100 := by rw [pl_dg, hk, huk]
    have d2 : am_rem ((row / uk : Nat) : Int) 100 = ((pl_dg n row i : Nat) : Int) := by rw [ed]; exact d0 _ (Nat.le_trans b1 (by omega))
    have b2 : pl_dg n row i < 100 := Nat.mod_lt _ (by omega)
    have d3 : am_div ((pl_dg n row i : Nat) : Int) 10 = ((pl_dg n row i / 10 : Nat) : Int) := by
      rw [am_div_n (by omega) (by omega) (by omega) (by omega)]
      rfl
    have d4 : am_rem ((pl_dg n row i : Nat) : Int) 10 = ((pl_dg n row i % 10 : Nat) : Int) := by
      rw [am_rem_n (by omega) (by omega) (by omega) (by omega)]
      rfl
    obtain ⟨h1, tm1, w1, l1, lf1, f1⟩ := X0_perform_f (k := pl_dg n row i / 10) (b := pl_dg n row i % 10) l lf wf (by omega) (by omega) (by omega)
    have lp1 : PlanC h1 tk := lp.frT f1 (by omega)
    have u1 : ¬ am_w u = 0 := by rw [hu1, am_w_nat (by omega)]; omega
    have h10 : ¬ am_w 10 = 0 := by decide
    have h100 : ¬ am_w 100 = 0 := by decide
    -- up to the call
    have st : ∀ E K, Wp E 58 28 [some (am_r (some 12)), some (am_r (some r)), some (am_i (n : Int)), some (am_i (row : Int)), some (am_i u), some (am_i (i : Int)), x6] [] h K = Wp E 58 58 [some (am_r (some 12)), some (am_r (some r)), some (am_i (n : Int)), some (am_i (row : Int)), some (am_i u), some (am_i (i : Int)), some (am_i ((pl_dg n row i : Nat) : Int))] [am_i ((pl_dg n row i % 10 : Nat) : Int), am_i ((pl_dg n row i / 10 : Nat) : Int), am_r (some r), am_r (some 11)] h K := by
      intro E K
      rw [e58_28]
      simp (disch := first | omega | (simp only [List.length_set]; omega) | rfl) only [↓e58_30, ↓e58_31, ↓e58_34, ↓e58_35, ↓e58_37, ↓e58_38, ↓e58_40, ↓e58_41, ↓e58_43, ↓e58_44, ↓e58_47, ↓e58_48, ↓e58_50, ↓e58_52, ↓e58_53, ↓e58_55, ↓e58_57, ↓am_ilp, ↓am_iln, ↓am_iep, ↓am_ien, ↓am_zlp, ↓am_zln, ↓am_zep, ↓am_zen, ↓am_zgp, ↓am_zgn, ↓am_zhp, ↓am_zhn, ↓am_b01, true_or, true_and, and_true, or_true, if_true, if_false, ↓am_bdl_z, ↓am_bdl_s, ↓am_bsl_z, ↓am_bsl_s, ↓am_k1_i, ↓am_k1_r, ↓am_k1_e, ↓am_k1_n, ↓am_bd_s, am_k1_t, eq_self, am_nl_i, am_nl_r, am_nl_e, am_nl_n, Option.toList_some, Option.toList_none, Option.map_some, Option.map_none, List.cons_append, List.nil_append, List.length_cons, List.length_nil, List.set_cons_zero, List.set_cons_succ, List.getElem?_cons_zero, List.getElem?_cons_succ, am_bd_s, ↓am_bdf lp.1, am_bdf lp.1, ↓am_bfu lp.1, am_bfu lp.1, ↓am_oc_of lp.1, am_oc_of lp.1, ↓if_neg u1, ↓if_neg h10, ↓if_neg h100, d1, d2, d3, d4]
    rw [pl_jg]
    cases q : pl_do nb ns fr la ce ki wi L (pl_dg n row i / 10) (pl_dg n row i % 10) with
    | none =>
      rw [q] at w1
      refine ⟨h1, tm1, _, fun E K => ?_, lf1, l1, f1⟩
      have q2 : ¬ (none : Option pl_L).isSome = true := by simp
      rw [st]
      simp (disch := first | omega | (simp only [List.length_set]; omega) | rfl) only [↓e58_58, ↓e58_61, ↓e58_64, ↓e58_66, ↓am_ilp, ↓am_iln, ↓am_iep, ↓am_ien, ↓am_zlp, ↓am_zln, ↓am_zep, ↓am_zen, ↓am_zgp, ↓am_zgn, ↓am_zhp, ↓am_zhn, ↓am_b01, true_or, true_and, and_true, or_true, if_true, if_false, ↓am_bdl_z, ↓am_bdl_s, ↓am_bsl_z, ↓am_bsl_s, ↓am_k1_i, ↓am_k1_r, ↓am_k1_e, ↓am_k1_n, ↓am_bd_s, am_k1_t, eq_self, am_nl_i, am_nl_r, am_nl_e, am_nl_n, Option.toList_some, Option.toList_none, Option.map_some, Option.map_none, List.cons_append, List.nil_append, List.length_cons, List.length_nil, List.set_cons_zero, List.set_cons_succ, List.getElem?_cons_zero, List.getElem?_cons_succ, am_bd_s, ↓am_tls, ↓am_bdf lf.2.2.1, am_bdf lf.2.2.1, ↓am_bfu lf.2.2.1, am_bfu lf.2.2.1, ↓am_oc_of lf.2.2.1, am_oc_of lf.2.2.1, ↓w1, ↓am_ifb, ↓if_neg q2]
    | some L1 =>
      rw [q] at w1 l1
      have q2 : (some L1 : Option pl_L).isSome = true := rfl
      obtain ⟨u', hu'⟩ : ∃ u' : Int, u' = if am_w (am_div u 100) < am_w 1 then 1 else am_div u 100 := ⟨_, rfl⟩
      have e100 : am_div u 100 = ((uk / 100 : Nat) : Int) := by
        rw [hu1, am_div_n (by omega) (by omega) (by omega) (by omega)]
        rfl
      have hu2 : 1 ≤ k → u' = ((100 ^ (k - 1) : Nat) : Int) := by
        intro k1
        have e9 : uk / 100 = 100 ^ (k - 1) := by
          rw [huk]
          obtain ⟨j, rfl⟩ : ∃ j, k = j + 1 := ⟨k - 1, by omega⟩
          rw [Nat.pow_succ, Nat.add_sub_cancel, Nat.mul_div_cancel _ (by omega)]
        have p9 := hd (k - 1) (by omega)
        rw [← e9] at p9 ⊢
        rw [hu', e100, am_w_nat (by omega), am_w_l1, if_neg (by omega)]
      obtain ⟨h2, tm2, L2, w2, lf2, l2, f2⟩ := X5_firstImpossible_l hn hrow hr k (i + 1) h1 L1 tm1 u' (some (am_i ((pl_dg n row i : Nat) : Int))) (by omega) hu2 l1 lf1 lp1 (pl_do_wf l.lens.1 lf.1.2.2.2.2.2.2.2.2.2.2.2.2 wf q)
      refine ⟨h2, tm2, L2, fun E K => ?_, lf2, l2, f1.trans f2⟩
      have w3 := w2 E K
      rw [hu'] at w3
      rw [st]
      simp (disch := first | omega | (simp only [List.length_set]; omega) | rfl) only [↓e58_58, ↓e58_61, ↓e58_64, ↓e58_66, ↓e58_67, ↓e58_69, ↓e58_71, ↓e58_72, ↓e58_73, ↓e58_76, ↓e58_78, ↓e58_81, ↓am_ilp, ↓am_iln, ↓am_iep, ↓am_ien, ↓am_zlp, ↓am_zln, ↓am_zep, ↓am_zen, ↓am_zgp, ↓am_zgn, ↓am_zhp, ↓am_zhn, ↓am_b01, true_or, true_and, and_true, or_true, if_true, if_false, ↓am_bdl_z, ↓am_bdl_s, ↓am_bsl_z, ↓am_bsl_s, ↓am_k1_i, ↓am_k1_r, ↓am_k1_e, ↓am_k1_n, ↓am_bd_s, am_k1_t, eq_self, am_nl_i, am_nl_r, am_nl_e, am_nl_n, Option.toList_some, Option.toList_none, Option.map_some, Option.map_none, List.cons_append, List.nil_append, List.length_cons, List.length_nil, List.set_cons_zero, List.set_cons_succ, List.getElem?_cons_zero, List.getElem?_cons_succ, am_bd_s, ↓am_tls, ↓am_bdf lf.2.2.1, am_bdf lf.2.2.1, ↓am_bfu lf.2.2.1, am_bfu lf.2.2.1, ↓am_oc_of lf.2.2.1, am_oc_of lf.2.2.1, ↓w1, ↓am_ifb, ↓if_pos q2, ↓if_neg h100]
      exact w3
theorem X5_firstImpossible_f {n row : Nat} {L : pl_L} (l : LayL h r L) (lf : Fix h nb ns fr la ce ki wi tm) (lp : PlanC h tk) (wf : WfL nb ns wi L) (hn : 1 ≤ n ∧ n ≤ 4) (hrow : row < 100000000) (hr : 14 ≤ r) : ∃ h' tm' L', (∀ E K, Wp E 58 0 [some (am_r (some 12)), some (am_r (some r)), some (am_i (n : Int)), some (am_i (row : Int)), none, none, none] [] h K = K (some (am_i (pl_jg (pl_dg n row) (pl_do nb ns fr la ce ki wi) n 0 L))) h') ∧ Fix h' nb ns fr la ce ki wi tm' ∧ LayL h' r L' ∧ FrT h h' r 4 := by
  have lo := fun (E : List (List Int)) (K : Option am_V → am_H → Prop) => am_foldz (W := fun i v => Wp E 58 6 [some (am_r (some 12)), some (am_r (some r)), some (am_i (n : Int)), some (am_i (row : Int)), some (am_i v), some (am_i i), none] [] h K) (f := fun v _ => v * 100) (I := fun _ _ => True) (lo := 1) (N := (n : Int)) (by
    intro i v h0 h1 _
    refine ⟨trivial, ?_⟩
    rw [e58_6]
    simp (disch := first | omega | (simp only [List.length_set]; omega) | rfl) only [↓e58_8, ↓e58_9, ↓e58_12, ↓e58_14, ↓e58_16, ↓e58_17, ↓e58_19, ↓e58_22, ↓am_ilp, ↓am_iln, ↓am_iep, ↓am_ien, ↓am_zlp, ↓am_zln, ↓am_zep, ↓am_zen, ↓am_zgp, ↓am_zgn, ↓am_zhp, ↓am_zhn, ↓am_b01, true_or, true_and, and_true, or_true, if_true, if_false, ↓am_bdl_z, ↓am_bdl_s, ↓am_bsl_z, ↓am_bsl_s, ↓am_k1_i, ↓am_k1_r, ↓am_k1_e, ↓am_k1_n, ↓am_bd_s, am_k1_t, eq_self, am_nl_i, am_nl_r, am_nl_e, am_nl_n, Option.toList_some, Option.toList_none, Option.map_some, Option.map_none, List.cons_append, List.nil_append, List.length_cons, List.length_nil, List.set_cons_zero, List.set_cons_succ, List.getElem?_cons_zero, List.getElem?_cons_succ, am_bd_s]) (n - 1) 1 1 (by omega) (by omega) trivial
  have e2 := pl_pw 100 (n - 1) 1 1
  rw [Int.one_mul] at e2
  rw [e2] at lo
  obtain ⟨h2, tm2, L2, w2, lf2, l2, f2⟩ := X5_firstImpossible_l (tk := tk) (n := n) (row := row) hn.2 hrow hr n 0 h L tm ((100 : Int) ^ (n - 1)) none (by omega) (fun _ => by rw [Int.natCast_pow]; rfl) l lf lp wf
  refine ⟨h2, tm2, L2, fun E K => ?_, lf2, l2, f2⟩
  have w3 := w2 E K
  simp (disch := first | omega | (simp only [List.length_set]; omega) | rfl) only [↓e58_0, ↓e58_1, ↓e58_3, ↓e58_4, ↓am_ilp, ↓am_iln, ↓am_iep, ↓am_ien, ↓am_zlp, ↓am_zln, ↓am_zep, ↓am_zen, ↓am_zgp, ↓am_zgn, ↓am_zhp, ↓am_zhn, ↓am_b01, true_or, true_and, and_true, or_true, if_true, if_false, ↓am_bdl_z, ↓am_bdl_s, ↓am_bsl_z, ↓am_bsl_s, ↓am_k1_i, ↓am_k1_r, ↓am_k1_e, ↓am_k1_n, ↓am_bd_s, am_k1_t, eq_self, am_nl_i, am_nl_r, am_nl_e, am_nl_n, Option.toList_some, Option.toList_none, Option.map_some, Option.map_none, List.cons_append, List.nil_append, List.length_cons, List.length_nil, List.set_cons_zero, List.set_cons_succ, List.getElem?_cons_zero, List.getElem?_cons_succ, am_bd_s]
  refine Eq.trans (lo E K).1 ?_
  rw [e58_6]
  simp (disch := first | omega | (simp only [List.length_set]; omega) | rfl) only [↓e58_8, ↓e58_9, ↓e58_25, ↓e58_26, ↓am_ilp, ↓am_iln, ↓am_iep, ↓am_ien, ↓am_zlp, ↓am_zln, ↓am_zep, ↓am_zen, ↓am_zgp, ↓am_zgn, ↓am_zhp, ↓am_zhn, ↓am_b01, true_or, true_and, and_true, or_true, if_true, if_false, ↓am_bdl_z, ↓am_bdl_s, ↓am_bsl_z, ↓am_bsl_s, ↓am_k1_i, ↓am_k1_r, ↓am_k1_e, ↓am_k1_n, ↓am_bd_s, am_k1_t, eq_self, am_nl_i, am_nl_r, am_nl_e, am_nl_n, Option.toList_some, Option.toList_none, Option.map_some, Option.map_none, List.cons_append, List.nil_append, List.length_cons, List.length_nil, List.set_cons_zero, List.set_cons_succ, List.getElem?_cons_zero, List.getElem?_cons_succ, am_bd_s]
  exact w3
end PL2
