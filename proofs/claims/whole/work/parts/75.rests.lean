theorem pl_rs1_keep {ir : Int → Int → Bool} {p : Nat} : ∀ (l : List Nat) (a : Int × Int), 1 ≤ a.1 → (l.foldl (pl_rs1 ir p) a).2 = a.2 ∧ 1 ≤ (l.foldl (pl_rs1 ir p) a).1
  | [], _, h => ⟨rfl, h⟩
  | x :: l, a, h => by
    rw [List.foldl_cons]
    by_cases q : ir (p : Int) (x : Int) = true
    · have e : pl_rs1 ir p a x = (a.1 + 1, a.2) := by rw [pl_rs1, if_pos q, if_neg (by omega)]
      rw [e]
      exact pl_rs1_keep l (a.1 + 1, a.2) (by dsimp only; omega)
    · have e : pl_rs1 ir p a x = a := by rw [pl_rs1, if_neg q]
      rw [e]
      exact pl_rs1_keep l a h
theorem pl_rs_keep {ir : Int → Int → Bool} {n2 : Nat} : ∀ (l : List Nat) (a : Int × Int), 1 ≤ a.1 → (l.foldl (pl_rs ir n2) a).2 = a.2
  | [], _, _ => rfl
  | x :: l, a, h => by
    rw [List.foldl_cons]
    have k := pl_rs1_keep (ir := ir) (p := x) (List.range n2) a h
    rw [pl_rs_keep (ir := ir) (n2 := n2) l (pl_rs ir n2 a x) k.2]
    exact k.1
section RS2
variable {E : List (List Int)} {h : am_H} {K : Option am_V → am_H → Prop} {o1 o2 : List Int} {w1 w2 : Int} {ir : Int → Int → Bool}
theorem X2_howManyRests_w (lc : ChanC h o1 o2 w1 w2) (h1 : 1 ≤ w1 ∧ w1 ≤ 3) (h2 : 1 ≤ w2 ∧ w2 ≤ 3) (isr : ∀ p q : Nat, (p : Int) + w1 ≤ 6 → (q : Int) + w2 ≤ 6 → ∀ E K, Wp E 25 0 [some (am_r (some 14)), some (am_i (p : Int)), some (am_i (q : Int)), none, none] [] h K = K (some (am_i (pl_b (ir (p : Int) (q : Int) = true)))) h) : Wp E 23 0 [some (am_r (some 14)), none, none, none] [] h K = K (some (am_i ((List.range (7 - w1).toNat).foldl (pl_rs ir (7 - w2).toNat) (0, -9)).1)) h := by
  have c0 := lc.1
  have inn : ∀ (p : Nat) (a : Int × Int) (x3 : Option am_V), (p : Int) + w1 ≤ 6 → Wp E 23 4 [some (am_r (some 14)), some (am_i a.1), some (am_i (p : Int)), x3] [] h K = Wp E 23 4 [some (am_r (some 14)), some (am_i (pl_rs ir (7 - w2).toNat a p).1), some (am_i ((p + 1 : Nat) : Int)), some (am_i ((7 - w2).toNat : Int))] [] h K := by
    intro p a x3 hp
    have lo := am_fold (W := fun q a => Wp E 23 17 [some (am_r (some 14)), some (am_i a.1), some (am_i (p : Int)), some (am_i (q : Int))] [] h K) (f := pl_rs1 ir p) (I := fun _ _ => True) (N := (7 - w2).toNat) (by
      rintro q ⟨a, b⟩ hq -
      refine ⟨trivial, ?_⟩
      have wi := isr p q hp (by omega)
      dsimp only
      rw [e23_17, pl_rs1]
      by_cases qq : ir (p : Int) (q : Int) = true
      · rw [if_pos qq]
        simp (disch := first | omega | (simp only [List.length_set]; omega) | rfl) only [↓e23_18, ↓e23_19, ↓e23_22, ↓e23_23, ↓e23_25, ↓e23_28, ↓e23_29, ↓e23_30, ↓e23_31, ↓e23_34, ↓e23_37, ↓e23_40, ↓e23_43, ↓am_ilp, ↓am_iln, ↓am_iep, ↓am_ien, ↓am_zlp, ↓am_zln, ↓am_zep, ↓am_zen, ↓am_zgp, ↓am_zgn, ↓am_zhp, ↓am_zhn, ↓am_b01, true_or, true_and, and_true, or_true, if_true, if_false, ↓am_bdl_z, ↓am_bdl_s, ↓am_bsl_z, ↓am_bsl_s, ↓am_k1_i, ↓am_k1_r, ↓am_k1_e, ↓am_k1_n, ↓am_bd_s, am_k1_t, eq_self, am_nl_i, am_nl_r, am_nl_e, am_nl_n, Option.toList_some, Option.toList_none, Option.map_some, Option.map_none, List.cons_append, List.nil_append, List.length_cons, List.length_nil, List.set_cons_zero, List.set_cons_succ, List.getElem?_cons_zero, List.getElem?_cons_succ, am_bd_s, ↓am_tls, ↓am_bdf c0, am_bdf c0, ↓am_bfu c0, am_bfu c0, ↓am_oc_of c0, am_oc_of c0, ↓wi, ↓am_ifb, ↓if_pos qq, Int.natCast_add, Int.natCast_one]
      · rw [if_neg qq]
        simp (disch := first | omega | (simp only [List.length_set]; omega) | rfl) only [↓e23_18, ↓e23_19, ↓e23_22, ↓e23_23, ↓e23_25, ↓e23_28, ↓e23_29, ↓e23_30, ↓e23_31, ↓e23_34, ↓e23_37, ↓e23_40, ↓e23_43, ↓am_ilp, ↓am_iln, ↓am_iep, ↓am_ien, ↓am_zlp, ↓am_zln, ↓am_zep, ↓am_zen, ↓am_zgp, ↓am_zgn, ↓am_zhp, ↓am_zhn, ↓am_b01, true_or, true_and, and_true, or_true, if_true, if_false, ↓am_bdl_z, ↓am_bdl_s, ↓am_bsl_z, ↓am_bsl_s, ↓am_k1_i, ↓am_k1_r, ↓am_k1_e, ↓am_k1_n, ↓am_bd_s, am_k1_t, eq_self, am_nl_i, am_nl_r, am_nl_e, am_nl_n, Option.toList_some, Option.toList_none, Option.map_some, Option.map_none, List.cons_append, List.nil_append, List.length_cons, List.length_nil, List.set_cons_zero, List.set_cons_succ, List.getElem?_cons_zero, List.getElem?_cons_succ, am_bd_s, ↓am_tls, ↓am_bdf c0, am_bdf c0, ↓am_bfu c0, am_bfu c0, ↓am_oc_of c0, am_oc_of c0, ↓wi, ↓am_ifb, ↓if_neg qq, Int.natCast_add, Int.natCast_one]) (7 - w2).toNat 0 a (by omega) trivial
    rw [← List.range_eq_range'] at lo
    have fin : Wp E 23 17 [some (am_r (some 14)), some (am_i (pl_rs ir (7 - w2).toNat a p).1), some (am_i (p : Int)), some (am_i ((7 - w2).toNat : Int))] [] h K = Wp E 23 4 [some (am_r (some 14)), some (am_i (pl_rs ir (7 - w2).toNat a p).1), some (am_i ((p + 1 : Nat) : Int)), some (am_i ((7 - w2).toNat : Int))] [] h K := by
      rw [e23_17]
      simp (disch := first | omega | (simp only [List.length_set]; omega) | rfl) only [↓e23_18, ↓e23_19, ↓e23_22, ↓e23_23, ↓e23_25, ↓e23_46, ↓e23_49, ↓am_ilp, ↓am_iln, ↓am_iep, ↓am_ien, ↓am_zlp, ↓am_zln, ↓am_zep, ↓am_zen, ↓am_zgp, ↓am_zgn, ↓am_zhp, ↓am_zhn, ↓am_b01, true_or, true_and, and_true, or_true, if_true, if_false, ↓am_bdl_z, ↓am_bdl_s, ↓am_bsl_z, ↓am_bsl_s, ↓am_k1_i, ↓am_k1_r, ↓am_k1_e, ↓am_k1_n, ↓am_bd_s, am_k1_t, eq_self, am_nl_i, am_nl_r, am_nl_e, am_nl_n, Option.toList_some, Option.toList_none, Option.map_some, Option.map_none, List.cons_append, List.nil_append, List.length_cons, List.length_nil, List.set_cons_zero, List.set_cons_succ, List.getElem?_cons_zero, List.getElem?_cons_succ, am_bd_s, ↓am_bdf c0, am_bdf c0, ↓am_bfu c0, am_bfu c0, ↓am_oc_of c0, am_oc_of c0, Int.natCast_add, Int.natCast_one]
    rw [← fin, e23_4]
    simp (disch := first | omega | (simp only [List.length_set]; omega) | rfl) only [↓e23_5, ↓e23_6, ↓e23_9, ↓e23_10, ↓e23_12, ↓e23_15, ↓e23_16, ↓am_ilp, ↓am_iln, ↓am_iep, ↓am_ien, ↓am_zlp, ↓am_zln, ↓am_zep, ↓am_zen, ↓am_zgp, ↓am_zgn, ↓am_zhp, ↓am_zhn, ↓am_b01, true_or, true_and, and_true, or_true, if_true, if_false, ↓am_bdl_z, ↓am_bdl_s, ↓am_bsl_z, ↓am_bsl_s, ↓am_k1_i, ↓am_k1_r, ↓am_k1_e, ↓am_k1_n, ↓am_bd_s, am_k1_t, eq_self, am_nl_i, am_nl_r, am_nl_e, am_nl_n, Option.toList_some, Option.toList_none, Option.map_some, Option.map_none, List.cons_append, List.nil_append, List.length_cons, List.length_nil, List.set_cons_zero, List.set_cons_succ, List.getElem?_cons_zero, List.getElem?_cons_succ, am_bd_s, ↓am_bdf c0, am_bdf c0, ↓am_bfu c0, am_bfu c0, ↓am_oc_of c0, am_oc_of c0]
    exact lo
  have out : ∀ (n p : Nat) (a : Int × Int) (x3 : Option am_V), (p : Int) + n = 7 - w1 → Wp E 23 4 [some (am_r (some 14)), some (am_i a.1), some (am_i (p : Int)), x3] [] h K = K (some (am_i ((List.range' p n).foldl (pl_rs ir (7 - w2).toNat) a).1)) h := by
    intro n
    induction n with
    | zero =>
      intro p a x3 hp
      rw [e23_4, List.range'_zero, List.foldl_nil]
      simp (disch := first | omega | (simp only [List.length_set]; omega) | rfl) only [↓e23_5, ↓e23_6, ↓e23_9, ↓e23_10, ↓e23_12, ↓e23_52, ↓e23_53, ↓am_ilp, ↓am_iln, ↓am_iep, ↓am_ien, ↓am_zlp, ↓am_zln, ↓am_zep, ↓am_zen, ↓am_zgp, ↓am_zgn, ↓am_zhp, ↓am_zhn, ↓am_b01, true_or, true_and, and_true, or_true, if_true, if_false, ↓am_bdl_z, ↓am_bdl_s, ↓am_bsl_z, ↓am_bsl_s, ↓am_k1_i, ↓am_k1_r, ↓am_k1_e, ↓am_k1_n, ↓am_bd_s, am_k1_t, eq_self, am_nl_i, am_nl_r, am_nl_e, am_nl_n, Option.toList_some, Option.toList_none, Option.map_some, Option.map_none, List.cons_append, List.nil_append, List.length_cons, List.length_nil, List.set_cons_zero, List.set_cons_succ, List.getElem?_cons_zero, List.getElem?_cons_succ, am_bd_s, ↓am_bdf c0, am_bdf c0, ↓am_bfu c0, am_bfu c0, ↓am_oc_of c0, am_oc_of c0]
    | succ n ih =>
      intro p a x3 hp
      rw [inn p a x3 (by omega), ih (p + 1) _ _ (by omega), List.range'_succ, List.foldl_cons]
  have o := out (7 - w1).toNat 0 (0, -9) none (by omega)
  rw [← List.range_eq_range'] at o
  rw [← o]
  simp (disch := first | omega | (simp only [List.length_set]; omega) | rfl) only [↓e23_0, ↓e23_1, ↓e23_2, ↓e23_3, ↓am_ilp, ↓am_iln, ↓am_iep, ↓am_ien, ↓am_zlp, ↓am_zln, ↓am_zep, ↓am_zen, ↓am_zgp, ↓am_zgn, ↓am_zhp, ↓am_zhn, ↓am_b01, true_or, true_and, and_true, or_true, if_true, if_false, ↓am_bdl_z, ↓am_bdl_s, ↓am_bsl_z, ↓am_bsl_s, ↓am_k1_i, ↓am_k1_r, ↓am_k1_e, ↓am_k1_n, ↓am_bd_s, am_k1_t, eq_self, am_nl_i, am_nl_r, am_nl_e, am_nl_n, Option.toList_some, Option.toList_none, Option.map_some, Option.map_none, List.cons_append, List.nil_append, List.length_cons, List.length_nil, List.set_cons_zero, List.set_cons_succ, List.getElem?_cons_zero, List.getElem?_cons_succ, am_bd_s]
  rfl
theorem X2_firstRest_w (lc : ChanC h o1 o2 w1 w2) (h1 : 1 ≤ w1 ∧ w1 ≤ 3) (h2 : 1 ≤ w2 ∧ w2 ≤ 3) (isr : ∀ p q : Nat, (p : Int) + w1 ≤ 6 → (q : Int) + w2 ≤ 6 → ∀ E K, Wp E 25 0 [some (am_r (some 14)), some (am_i (p : Int)), some (am_i (q : Int)), none, none] [] h K = K (some (am_i (pl_b (ir (p : Int) (q : Int) = true)))) h) : Wp E 24 0 [some (am_r (some 14)), none, none] [] h K = K (some (am_i ((List.range (7 - w1).toNat).foldl (pl_rs ir (7 - w2).toNat) (0, -9)).2)) h := by
  have c0 := lc.1
  have inn : ∀ (p : Nat), (p : Int) + w1 ≤ 6 → ∀ (n q : Nat), (q : Int) + n = 7 - w2 → (List.range q).foldl (pl_rs1 ir p) (0, -9) = (0, -9) → (Wp E 24 15 [some (am_r (some 14)), some (am_i (p : Int)), some (am_i (q : Int))] [] h K = Wp E 24 2 [some (am_r (some 14)), some (am_i ((p + 1 : Nat) : Int)), some (am_i ((7 - w2).toNat : Int))] [] h K ∧ pl_rs ir (7 - w2).toNat (0, -9) p = (0, -9)) ∨ (∃ x, Wp E 24 15 [some (am_r (some 14)), some (am_i (p : Int)), some (am_i (q : Int))] [] h K = K (some (am_i x)) h ∧ (pl_rs ir (7 - w2).toNat (0, -9) p).2 = x ∧ 1 ≤ (pl_rs ir (7 - w2).toNat (0, -9) p).1) := by
    intro p hp n
    induction n with
    | zero =>
      intro q hq hz
      refine Or.inl ⟨?_, ?_⟩
      · rw [show (((7 - w2).toNat : Nat) : Int) = (q : Int) by omega, e24_15]
        simp (disch := first | omega | (simp only [List.length_set]; omega) | rfl) only [↓e24_16, ↓e24_17, ↓e24_20, ↓e24_21, ↓e24_23, ↓e24_48, ↓e24_51, ↓am_ilp, ↓am_iln, ↓am_iep, ↓am_ien, ↓am_zlp, ↓am_zln, ↓am_zep, ↓am_zen, ↓am_zgp, ↓am_zgn, ↓am_zhp, ↓am_zhn, ↓am_b01, true_or, true_and, and_true, or_true, if_true, if_false, ↓am_bdl_z, ↓am_bdl_s, ↓am_bsl_z, ↓am_bsl_s, ↓am_k1_i, ↓am_k1_r, ↓am_k1_e, ↓am_k1_n, ↓am_bd_s, am_k1_t, eq_self, am_nl_i, am_nl_r, am_nl_e, am_nl_n, Option.toList_some, Option.toList_none, Option.map_some, Option.map_none, List.cons_append, List.nil_append, List.length_cons, List.length_nil, List.set_cons_zero, List.set_cons_succ, List.getElem?_cons_zero, List.getElem?_cons_succ, am_bd_s, ↓am_bdf c0, am_bdf c0, ↓am_bfu c0, am_bfu c0, ↓am_oc_of c0, am_oc_of c0, Int.natCast_add, Int.natCast_one]
      · rw [pl_rs, show (7 - w2).toNat = q by omega, hz]
    | succ n ih =>
      intro q hq hz
      have wi := isr p q hp (by omega)
      have es : (List.range (q + 1)).foldl (pl_rs1 ir p) (0, -9) = pl_rs1 ir p (0, -9) q := by rw [List.range_succ, List.foldl_append, hz]; rfl
      by_cases qq : ir (p : Int) (q : Int) = true
      · refine Or.inr ⟨10 * (p : Int) + (q : Int), ?_, ?_⟩
        · rw [e24_15]
          simp (disch := first | omega | (simp only [List.length_set]; omega) | rfl) only [↓e24_16, ↓e24_17, ↓e24_20, ↓e24_21, ↓e24_23, ↓e24_26, ↓e24_27, ↓e24_28, ↓e24_29, ↓e24_32, ↓e24_35, ↓e24_37, ↓e24_38, ↓e24_39, ↓e24_40, ↓e24_41, ↓e24_42, ↓e24_45, ↓am_ilp, ↓am_iln, ↓am_iep, ↓am_ien, ↓am_zlp, ↓am_zln, ↓am_zep, ↓am_zen, ↓am_zgp, ↓am_zgn, ↓am_zhp, ↓am_zhn, ↓am_b01, true_or, true_and, and_true, or_true, if_true, if_false, ↓am_bdl_z, ↓am_bdl_s, ↓am_bsl_z, ↓am_bsl_s, ↓am_k1_i, ↓am_k1_r, ↓am_k1_e, ↓am_k1_n, ↓am_bd_s, am_k1_t, eq_self, am_nl_i, am_nl_r, am_nl_e, am_nl_n, Option.toList_some, Option.toList_none, Option.map_some, Option.map_none, List.cons_append, List.nil_append, List.length_cons, List.length_nil, List.set_cons_zero, List.set_cons_succ, List.getElem?_cons_zero, List.getElem?_cons_succ, am_bd_s, ↓am_tls, ↓am_bdf c0, am_bdf c0, ↓am_bfu c0, am_bfu c0, ↓am_oc_of c0, am_oc_of c0, ↓wi, ↓am_ifb, ↓if_pos qq]
        · rw [pl_rs, pl_range_split (show q + 1 ≤ (7 - w2).toNat by omega), List.foldl_append, es, pl_rs1, if_pos qq, if_pos rfl]
          exact pl_rs1_keep _ _ (by dsimp only; omega)
      · have ih2 := ih (q + 1) (by omega) (by rw [es, pl_rs1, if_neg qq])
        have st : Wp E 24 15 [some (am_r (some 14)), some (am_i (p : Int)), some (am_i (q : Int))] [] h K = Wp E 24 15 [some (am_r (some 14)), some (am_i (p : Int)), some (am_i ((q + 1 : Nat) : Int))] [] h K := by
          rw [e24_15]
          simp (disch := first | omega | (simp only [List.length_set]; omega) | rfl) only [↓e24_16, ↓e24_17, ↓e24_20, ↓e24_21, ↓e24_23, ↓e24_26, ↓e24_27, ↓e24_28, ↓e24_29, ↓e24_32, ↓e24_35, ↓e24_37, ↓e24_38, ↓e24_39, ↓e24_40, ↓e24_41, ↓e24_42, ↓e24_45, ↓am_ilp, ↓am_iln, ↓am_iep, ↓am_ien, ↓am_zlp, ↓am_zln, ↓am_zep, ↓am_zen, ↓am_zgp, ↓am_zgn, ↓am_zhp, ↓am_zhn, ↓am_b01, true_or, true_and, and_true, or_true, if_true, if_false, ↓am_bdl_z, ↓am_bdl_s, ↓am_bsl_z, ↓am_bsl_s, ↓am_k1_i, ↓am_k1_r, ↓am_k1_e, ↓am_k1_n, ↓am_bd_s, am_k1_t, eq_self, am_nl_i, am_nl_r, am_nl_e, am_nl_n, Option.toList_some, Option.toList_none, Option.map_some, Option.map_none, List.cons_append, List.nil_append, List.length_cons, List.length_nil, List.set_cons_zero, List.set_cons_succ, List.getElem?_cons_zero, List.getElem?_cons_succ, am_bd_s, ↓am_tls, ↓am_bdf c0, am_bdf c0, ↓am_bfu c0, am_bfu c0, ↓am_oc_of c0, am_oc_of c0, ↓wi, ↓am_ifb, ↓if_neg qq, Int.natCast_add, Int.natCast_one]
        rw [st]
        exact ih2
  have out : ∀ (n p : Nat) (x2 : Option am_V), (p : Int) + n = 7 - w1 → (List.range p).foldl (pl_rs ir (7 - w2).toNat) (0, -9) = (0, -9) → Wp E 24 2 [some (am_r (some 14)), some (am_i (p : Int)), x2] [] h K = K (some (am_i ((List.range (7 - w1).toNat).foldl (pl_rs ir (7 - w2).toNat) (0, -9)).2)) h := by
    intro n
    induction n with
    | zero =>
      intro p x2 hp hz
      rw [show (7 - w1).toNat = p by omega, hz, e24_2]
      simp (disch := first | omega | (simp only [List.length_set]; omega) | rfl) only [↓e24_3, ↓e24_4, ↓e24_7, ↓e24_8, ↓e24_10, ↓e24_54, ↓e24_56, ↓am_ilp, ↓am_iln, ↓am_iep, ↓am_ien, ↓am_zlp, ↓am_zln, ↓am_zep, ↓am_zen, ↓am_zgp, ↓am_zgn, ↓am_zhp, ↓am_zhn, ↓am_b01, true_or, true_and, and_true, or_true, if_true, if_false, ↓am_bdl_z, ↓am_bdl_s, ↓am_bsl_z, ↓am_bsl_s, ↓am_k1_i, ↓am_k1_r, ↓am_k1_e, ↓am_k1_n, ↓am_bd_s, am_k1_t, eq_self, am_nl_i, am_nl_r, am_nl_e, am_nl_n, Option.toList_some, Option.toList_none, Option.map_some, Option.map_none, List.cons_append, List.nil_append, List.length_cons, List.length_nil, List.set_cons_zero, List.set_cons_succ, List.getElem?_cons_zero, List.getElem?_cons_succ, am_bd_s, ↓am_bdf c0, am_bdf c0, ↓am_bfu c0, am_bfu c0, ↓am_oc_of c0, am_oc_of c0]
    | succ n ih =>
      intro p x2 hp hz
      have es : (List.range (p + 1)).foldl (pl_rs ir (7 - w2).toNat) (0, -9) = pl_rs ir (7 - w2).toNat (0, -9) p := by rw [List.range_succ, List.foldl_append, hz]; rfl
      have st : Wp E 24 2 [some (am_r (some 14)), some (am_i (p : Int)), x2] [] h K = Wp E 24 15 [some (am_r (some 14)), some (am_i (p : Int)), some (am_i ((0 : Nat) : Int))] [] h K := by
        rw [e24_2]
        simp (disch := first | omega | (simp only [List.length_set]; omega) | rfl) only [↓e24_3, ↓e24_4, ↓e24_7, ↓e24_8, ↓e24_10, ↓e24_13, ↓e24_14, ↓am_ilp, ↓am_iln, ↓am_iep, ↓am_ien, ↓am_zlp, ↓am_zln, ↓am_zep, ↓am_zen, ↓am_zgp, ↓am_zgn, ↓am_zhp, ↓am_zhn, ↓am_b01, true_or, true_and, and_true, or_true, if_true, if_false, ↓am_bdl_z, ↓am_bdl_s, ↓am_bsl_z, ↓am_bsl_s, ↓am_k1_i, ↓am_k1_r, ↓am_k1_e, ↓am_k1_n, ↓am_bd_s, am_k1_t, eq_self, am_nl_i, am_nl_r, am_nl_e, am_nl_n, Option.toList_some, Option.toList_none, Option.map_some, Option.map_none, List.cons_append, List.nil_append, List.length_cons, List.length_nil, List.set_cons_zero, List.set_cons_succ, List.getElem?_cons_zero, List.getElem?_cons_succ, am_bd_s, ↓am_bdf c0, am_bdf c0, ↓am_bfu c0, am_bfu c0, ↓am_oc_of c0, am_oc_of c0]
        rfl
      rw [st]
      rcases inn p (by omega) (7 - w2).toNat 0 (by omega) rfl with ⟨w, e⟩ | ⟨x, w, e, e3⟩
      · rw [w]
        exact ih (p + 1) _ (by omega) (by rw [es, e])
      · rw [w, pl_range_split (show p + 1 ≤ (7 - w1).toNat by omega), List.foldl_append, es, pl_rs_keep _ _ e3, e]
  have o := out (7 - w1).toNat 0 none (by omega) rfl
  rw [← o]
  simp (disch := first | omega | (simp only [List.length_set]; omega) | rfl) only [↓e24_0, ↓e24_1, ↓am_ilp, ↓am_iln, ↓am_iep, ↓am_ien, ↓am_zlp, ↓am_zln, ↓am_zep, ↓am_zen, ↓am_zgp, ↓am_zgn, ↓am_zhp, ↓am_zhn, ↓am_b01, true_or, true_and, and_true, or_true, if_true, if_false, ↓am_bdl_z, ↓am_bdl_s, ↓am_bsl_z, ↓am_bsl_s, ↓am_k1_i, ↓am_k1_r, ↓am_k1_e, ↓am_k1_n, ↓am_bd_s, am_k1_t, eq_self, am_nl_i, am_nl_r, am_nl_e, am_nl_n, Option.toList_some, Option.toList_none, Option.map_some, Option.map_none, List.cons_append, List.nil_append, List.length_cons, List.length_nil, List.set_cons_zero, List.set_cons_succ, List.getElem?_cons_zero, List.getElem?_cons_succ, am_bd_s]
  rfl
end RS2
