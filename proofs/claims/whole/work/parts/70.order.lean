/-! the class: orders of laying -/
theorem am_brl {h : am_H} {a : Nat} {B : List Nat} {g : List Int} (he : h[a]? = some (am_a 0 (pl_c B ++ g))) {j : Int} (h0 : 0 ≤ j ∧ j < (B.length : Int) ∧ j ≤ 100000) (f : Int → Prop) : am_bd (am_ra 0 h a j) f = f ((B.getD j.toNat 0 : Nat) : Int) := by
  rw [am_bra he h0.1 (by rw [List.length_append, pl_c_len]; omega) h0.2.2]
  congr 1
  rw [List.getD_eq_getElem?_getD, List.getElem?_append_left (by rw [pl_c_len]; omega), List.getD_eq_getElem?_getD, pl_c, List.getElem?_map]
  rw [List.getElem?_eq_getElem (show j.toNat < B.length by omega)]
  rfl
theorem pl_swp_len {B : List Nat} {i j : Nat} : (pl_swp B i j).length = B.length := by simp [pl_swp]
theorem pl_swp_c {B : List Nat} {g : List Int} {i j : Nat} (hi : i < B.length) (hj : j < B.length) : (((pl_c B ++ g).set i ((pl_c B ++ g).getD j 0)).set j ((pl_c B ++ g).getD i 0)) = pl_c (pl_swp B i j) ++ g := by
  have e : ∀ k, k < B.length → (pl_c B ++ g).getD k 0 = ((B.getD k 0 : Nat) : Int) := by
    intro k hk
    rw [List.getD_eq_getElem?_getD, List.getElem?_append_left (by rw [pl_c_len]; omega), List.getD_eq_getElem?_getD, pl_c, List.getElem?_map, List.getElem?_eq_getElem hk]
    rfl
  rw [e i hi, e j hj]
  have s1 : ∀ (L : List Nat) (k x : Nat), k < L.length → (pl_c L ++ g).set k ((x : Nat) : Int) = pl_c (L.set k x) ++ g := by
    intro L k x hk
    rw [List.set_append_left _ _ (by rw [pl_c_len]; exact hk), pl_c, pl_c, List.map_set]
    rfl
  rw [s1 B i _ hi, s1 _ j _ (by rw [List.length_set]; exact hj)]
  rfl
theorem pl_swp_b {B : List Nat} {i j n : Nat} (h : ∀ x ∈ B, x < n) (hi : i < B.length) (hj : j < B.length) : ∀ x ∈ pl_swp B i j, x < n := by
  intro x hx
  unfold pl_swp at hx
  rcases List.mem_or_eq_of_mem_set hx with z | z
  · rcases List.mem_or_eq_of_mem_set z with y | y
    · exact h x y
    · rw [y]; exact pl_gm h hj
  · rw [z]; exact pl_gm h hi
section ORD
variable {h : am_H} {r : Nat} {B : List Nat} {A Wo : List Int} {ni : Int}
theorem X3_toFirstOrder_w (l : LayC h r B A Wo ni) (hx : ∀ x ∈ B, x < 6) : ∃ h', (∀ E K, Wp E 39 0 [some (am_r (some r)), none, none] [] h K = K none h') ∧ LayC h' r ((List.range 6).filter fun b => (pl_mask B).testBit b) A Wo ni ∧ Fr h h' r 4 := by
  have aw := fun E K => X3_asBits_w (E := E) (K := K) l
  rw [pl_bits_n hx] at aw
  have hm := pl_mask_64 hx
  obtain ⟨g, a0, a1, a2, a3, a4, a5, a6⟩ := id l
  have lr := am_lt a1
  obtain ⟨h1, hh1⟩ : ∃ h1, h1 = h.set r (am_o 3 [am_r (some (r + 1)), am_i 0, am_r (some (r + 2)), am_r (some (r + 3)), am_i ni]) := ⟨_, rfl⟩
  have f1 : Fr h h1 r 4 := by rw [hh1]; exact Fr.rf.set (by omega) (by omega)
  have l1 : LayC h1 r [] A Wo ni := by
    rw [hh1]
    exact ⟨pl_c B ++ g, by rw [List.length_append, pl_c_len]; simpa using a0, am_set_at a1, by rw [am_set_ne (by omega)]; exact a2, by rw [am_set_ne (by omega)]; exact a3, by rw [am_set_ne (by omega)]; exact a4, a5, a6⟩
  obtain ⟨h2, ⟨l2, f2⟩, w2⟩ := am_loop (X := List (List Int) × (Option am_V → am_H → Prop)) (α := am_H) (W := fun x i h => Wp x.1 39 12 [some (am_r (some r)), some (am_i (pl_mask B : Int)), some (am_i (i : Int))] [] h x.2) (I := fun i h' => LayC h' r ((List.range i).filter fun b => (pl_mask B).testBit b) A Wo ni ∧ Fr h h' r 4) (N := 6) (by
    rintro i h' hi ⟨l', f'⟩
    have hb := pl_bit (pl_mask B) hm i hi
    by_cases q : (pl_mask B).testBit i = true
    · have hl : ((List.range i).filter fun b => (pl_mask B).testBit b).length < 6 := Nat.lt_of_le_of_lt (List.length_filter_le _ _) (by rw [List.length_range]; exact hi)
      obtain ⟨h2, w2, l2, f2⟩ := X3_layOnTop_w (b := i) l' (fun x hx => by have := List.mem_range.mp (List.mem_filter.mp hx).1; omega) hi (fun z => by have := List.mem_range.mp (List.mem_filter.mp z).1; omega) hl
      have er : (List.range (i + 1)).filter (fun b => (pl_mask B).testBit b) = (List.range i).filter (fun b => (pl_mask B).testBit b) ++ [i] := by
        rw [List.range_succ, List.filter_append, List.filter_cons_of_pos (p := fun b => (pl_mask B).testBit b) q, List.filter_nil]
      refine ⟨h2, ⟨by rw [er]; exact l2, f'.trans (f2.wide (by omega) (by omega))⟩, fun x => ?_⟩
      rw [if_pos q] at hb
      have hb2 : ¬ am_w (am_and (am_shr (pl_mask B : Int) (i : Int)) 1) = 0 := by rw [hb]; decide
      rw [e39_12]
      simp (disch := first | omega | (simp only [List.length_set]; omega) | rfl) only [↓e39_13, ↓e39_15, ↓e39_18, ↓e39_19, ↓e39_20, ↓e39_21, ↓e39_22, ↓e39_23, ↓e39_26, ↓e39_27, ↓e39_28, ↓e39_31, ↓e39_32, ↓e39_35, ↓am_ilp, ↓am_iln, ↓am_iep, ↓am_ien, ↓am_zlp, ↓am_zln, ↓am_zep, ↓am_zen, ↓am_zgp, ↓am_zgn, ↓am_zhp, ↓am_zhn, ↓am_b01, true_or, true_and, and_true, or_true, if_true, if_false, ↓am_bdl_z, ↓am_bdl_s, ↓am_bsl_z, ↓am_bsl_s, ↓am_k1_i, ↓am_k1_r, ↓am_k1_e, ↓am_k1_n, ↓am_bd_s, am_k1_t, eq_self, am_nl_i, am_nl_r, am_nl_e, am_nl_n, Option.toList_some, Option.toList_none, Option.map_some, Option.map_none, List.cons_append, List.nil_append, List.length_cons, List.length_nil, List.set_cons_zero, List.set_cons_succ, List.getElem?_cons_zero, List.getElem?_cons_succ, am_bd_s, ↓am_tls, ↓am_bdf l'.obj.1, am_bdf l'.obj.1, ↓am_bfu l'.obj.1, am_bfu l'.obj.1, ↓am_oc_of l'.obj.1, am_oc_of l'.obj.1, ↓if_neg hb2, ↓w2, Int.natCast_add, Int.natCast_one]
    · have er : (List.range (i + 1)).filter (fun b => (pl_mask B).testBit b) = (List.range i).filter (fun b => (pl_mask B).testBit b) := by
        rw [List.range_succ, List.filter_append, List.filter_cons_of_neg (p := fun b => (pl_mask B).testBit b) q, List.filter_nil, List.append_nil]
      refine ⟨h', ⟨by rw [er]; exact l', f'⟩, fun x => ?_⟩
      rw [if_neg q] at hb
      rw [e39_12]
      simp (disch := first | omega | (simp only [List.length_set]; omega) | rfl) only [↓e39_13, ↓e39_15, ↓e39_18, ↓e39_19, ↓e39_20, ↓e39_21, ↓e39_22, ↓e39_23, ↓e39_26, ↓e39_27, ↓e39_28, ↓e39_31, ↓e39_32, ↓e39_35, ↓am_ilp, ↓am_iln, ↓am_iep, ↓am_ien, ↓am_zlp, ↓am_zln, ↓am_zep, ↓am_zen, ↓am_zgp, ↓am_zgn, ↓am_zhp, ↓am_zhn, ↓am_b01, true_or, true_and, and_true, or_true, if_true, if_false, ↓am_bdl_z, ↓am_bdl_s, ↓am_bsl_z, ↓am_bsl_s, ↓am_k1_i, ↓am_k1_r, ↓am_k1_e, ↓am_k1_n, ↓am_bd_s, am_k1_t, eq_self, am_nl_i, am_nl_r, am_nl_e, am_nl_n, Option.toList_some, Option.toList_none, Option.map_some, Option.map_none, List.cons_append, List.nil_append, List.length_cons, List.length_nil, List.set_cons_zero, List.set_cons_succ, List.getElem?_cons_zero, List.getElem?_cons_succ, am_bd_s, ↓am_tls, ↓am_bdf l'.obj.1, am_bdf l'.obj.1, ↓am_bfu l'.obj.1, am_bfu l'.obj.1, ↓am_oc_of l'.obj.1, am_oc_of l'.obj.1, ↓if_pos hb, Int.natCast_add, Int.natCast_one]) 6 0 h1 rfl ⟨l1, f1⟩
  refine ⟨h2, fun E K => ?_, l2, f2⟩
  have w3 := w2 (E, K)
  dsimp only at w3
  rw [e39_12 (h := h2)] at w3
  simp (disch := first | omega | (simp only [List.length_set]; omega) | rfl) only [↓e39_13, ↓e39_15, ↓e39_38, ↓am_ilp, ↓am_iln, ↓am_iep, ↓am_ien, ↓am_zlp, ↓am_zln, ↓am_zep, ↓am_zen, ↓am_zgp, ↓am_zgn, ↓am_zhp, ↓am_zhn, ↓am_b01, true_or, true_and, and_true, or_true, if_true, if_false, ↓am_bdl_z, ↓am_bdl_s, ↓am_bsl_z, ↓am_bsl_s, ↓am_k1_i, ↓am_k1_r, ↓am_k1_e, ↓am_k1_n, ↓am_bd_s, am_k1_t, eq_self, am_nl_i, am_nl_r, am_nl_e, am_nl_n, Option.toList_some, Option.toList_none, Option.map_some, Option.map_none, List.cons_append, List.nil_append, List.length_cons, List.length_nil, List.set_cons_zero, List.set_cons_succ, List.getElem?_cons_zero, List.getElem?_cons_succ, am_bd_s] at w3
  simp (disch := first | omega | (simp only [List.length_set]; omega) | rfl) only [↓e39_0, ↓e39_1, ↓e39_4, ↓e39_5, ↓e39_6, ↓e39_7, ↓e39_10, ↓e39_11, ↓am_ilp, ↓am_iln, ↓am_iep, ↓am_ien, ↓am_zlp, ↓am_zln, ↓am_zep, ↓am_zen, ↓am_zgp, ↓am_zgn, ↓am_zhp, ↓am_zhn, ↓am_b01, true_or, true_and, and_true, or_true, if_true, if_false, ↓am_bdl_z, ↓am_bdl_s, ↓am_bsl_z, ↓am_bsl_s, ↓am_k1_i, ↓am_k1_r, ↓am_k1_e, ↓am_k1_n, ↓am_bd_s, am_k1_t, eq_self, am_nl_i, am_nl_r, am_nl_e, am_nl_n, Option.toList_some, Option.toList_none, Option.map_some, Option.map_none, List.cons_append, List.nil_append, List.length_cons, List.length_nil, List.set_cons_zero, List.set_cons_succ, List.getElem?_cons_zero, List.getElem?_cons_succ, am_bd_s, ↓am_tls, ↓am_bdf l.obj.1, am_bdf l.obj.1, ↓am_bfu l.obj.1, am_bfu l.obj.1, ↓am_oc_of l.obj.1, am_oc_of l.obj.1, ↓aw]
  rw [← hh1]
  exact w3
theorem X3_toNextOrder_p {E : List (List Int)} {K : Option am_V → am_H → Prop} (l : LayC h r B A Wo ni) (hx : ∀ x ∈ B, x < 6) (x2 x3 x4 : Option am_V) : ∀ (f : Nat) (p : Int), -1 ≤ p → p ≤ (B.length : Int) - 2 ∨ p = -1 → p + 1 < f → Wp E 40 7 [some (am_r (some r)), some (am_i p), x2, x3, x4] [] h K = Wp E 40 34 [some (am_r (some r)), some (am_i (pl_piv B f p)), x2, x3, x4] [] h K
  | 0, p, h0, h1, hf => by omega
  | f + 1, p, h0, h1, hf => by
    have l6 := l.lens.2.2
    rw [pl_piv, e40_7]
    obtain ⟨g, a0, a1, a2, a3, a4, a5, a6⟩ := id l
    by_cases q : p < 0
    · rw [if_pos q]
      simp (disch := first | omega | (simp only [List.length_set]; omega) | rfl) only [↓e40_8, ↓am_ilp, ↓am_iln, ↓am_iep, ↓am_ien, ↓am_zlp, ↓am_zln, ↓am_zep, ↓am_zen, ↓am_zgp, ↓am_zgn, ↓am_zhp, ↓am_zhn, ↓am_b01, true_or, true_and, and_true, or_true, if_true, if_false, ↓am_bdl_z, ↓am_bdl_s, ↓am_bsl_z, ↓am_bsl_s, ↓am_k1_i, ↓am_k1_r, ↓am_k1_e, ↓am_k1_n, ↓am_bd_s, am_k1_t, eq_self, am_nl_i, am_nl_r, am_nl_e, am_nl_n, Option.toList_some, Option.toList_none, Option.map_some, Option.map_none, List.cons_append, List.nil_append, List.length_cons, List.length_nil, List.set_cons_zero, List.set_cons_succ, List.getElem?_cons_zero, List.getElem?_cons_succ, am_bd_s]
    · rw [if_neg q]
      have e1 : (p + 1).toNat = p.toNat + 1 := by omega
      have b1 := pl_gm hx (show p.toNat < B.length by omega)
      have b2 := pl_gm hx (show p.toNat + 1 < B.length by omega)
      by_cases q2 : B.getD (p.toNat + 1) 0 < B.getD p.toNat 0
      · rw [if_pos q2]
        have ih := X3_toNextOrder_p (E := E) (K := K) l hx x2 x3 x4 f (p - 1) (by omega) (by omega) (by omega)
        have q3 : (((B.getD (p + 1).toNat 0 : Nat)) : Int) < ((B.getD p.toNat 0 : Nat) : Int) := by rw [e1]; omega
        have q4 : ((B.getD (p + 1).toNat 0 : Nat) : Int) ≤ 10 := by rw [e1]; omega
        have e3 : p + -1 = p - 1 := by omega
        simp (disch := first | omega | (simp only [List.length_set]; omega) | rfl) only [↓e40_8, ↓e40_11, ↓e40_12, ↓e40_15, ↓e40_16, ↓e40_17, ↓e40_18, ↓e40_21, ↓e40_22, ↓e40_23, ↓e40_24, ↓e40_25, ↓e40_28, ↓e40_31, ↓am_ilp, ↓am_iln, ↓am_iep, ↓am_ien, ↓am_zlp, ↓am_zln, ↓am_zep, ↓am_zen, ↓am_zgp, ↓am_zgn, ↓am_zhp, ↓am_zhn, ↓am_b01, true_or, true_and, and_true, or_true, if_true, if_false, ↓am_bdl_z, ↓am_bdl_s, ↓am_bsl_z, ↓am_bsl_s, ↓am_k1_i, ↓am_k1_r, ↓am_k1_e, ↓am_k1_n, ↓am_bd_s, am_k1_t, eq_self, am_nl_i, am_nl_r, am_nl_e, am_nl_n, Option.toList_some, Option.toList_none, Option.map_some, Option.map_none, List.cons_append, List.nil_append, List.length_cons, List.length_nil, List.set_cons_zero, List.set_cons_succ, List.getElem?_cons_zero, List.getElem?_cons_succ, am_bd_s, ↓am_bdf a1, am_bdf a1, ↓am_bfu a1, am_bfu a1, ↓am_oc_of a1, am_oc_of a1, ↓am_brl a2, e3]
        exact ih
      · rw [if_neg q2]
        have q3 : ¬ (((B.getD (p + 1).toNat 0 : Nat)) : Int) < ((B.getD p.toNat 0 : Nat) : Int) := by rw [e1]; omega
        have q4 : ((B.getD (p + 1).toNat 0 : Nat) : Int) ≤ 10 := by rw [e1]; omega
        simp (disch := first | omega | (simp only [List.length_set]; omega) | rfl) only [↓e40_8, ↓e40_11, ↓e40_12, ↓e40_15, ↓e40_16, ↓e40_17, ↓e40_18, ↓e40_21, ↓e40_22, ↓e40_23, ↓e40_24, ↓e40_25, ↓e40_28, ↓e40_31, ↓am_ilp, ↓am_iln, ↓am_iep, ↓am_ien, ↓am_zlp, ↓am_zln, ↓am_zep, ↓am_zen, ↓am_zgp, ↓am_zgn, ↓am_zhp, ↓am_zhn, ↓am_b01, true_or, true_and, and_true, or_true, if_true, if_false, ↓am_bdl_z, ↓am_bdl_s, ↓am_bsl_z, ↓am_bsl_s, ↓am_k1_i, ↓am_k1_r, ↓am_k1_e, ↓am_k1_n, ↓am_bd_s, am_k1_t, eq_self, am_nl_i, am_nl_r, am_nl_e, am_nl_n, Option.toList_some, Option.toList_none, Option.map_some, Option.map_none, List.cons_append, List.nil_append, List.length_cons, List.length_nil, List.set_cons_zero, List.set_cons_succ, List.getElem?_cons_zero, List.getElem?_cons_succ, am_bd_s, ↓am_bdf a1, am_bdf a1, ↓am_bfu a1, am_bfu a1, ↓am_oc_of a1, am_oc_of a1, ↓am_brl a2]
theorem X3_toNextOrder_g {E : List (List Int)} {K : Option am_V → am_H → Prop} {p : Nat} (l : LayC h r B A Wo ni) (hx : ∀ x ∈ B, x < 6) (hp : p < B.length) (x3 x4 : Option am_V) : ∀ (f g : Nat), g < B.length → g < f + p + 1 → p + 1 ≤ g → Wp E 40 47 [some (am_r (some r)), some (am_i (p : Int)), some (am_i (g : Int)), x3, x4] [] h K = Wp E 40 75 [some (am_r (some r)), some (am_i (p : Int)), some (am_i (pl_gre B p f g : Int)), x3, x4] [] h K
  | 0, g, h0, hf, hg => by omega
  | f + 1, g, h0, hf, hg => by
    have l6 := l.lens.2.2
    rw [pl_gre, e40_47]
    obtain ⟨g', a0, a1, a2, a3, a4, a5, a6⟩ := id l
    have b1 := pl_gm hx hp
    have b2 := pl_gm hx h0
    have e1 : (p : Int).toNat = p := Int.toNat_natCast p
    have e2 : (g : Int).toNat = g := Int.toNat_natCast g
    have r1 : ((B.getD (p : Int).toNat 0 : Nat) : Int) ≤ 10 := by rw [e1]; omega
    have r2 : ((B.getD (g : Int).toNat 0 : Nat) : Int) ≤ 10 := by rw [e2]; omega
    by_cases q1 : p + 1 < g
    · by_cases q2 : B.getD g 0 < B.getD p 0
      · rw [if_pos ⟨q1, q2⟩]
        have ih := X3_toNextOrder_g (E := E) (K := K) l hx hp x3 x4 f (g - 1) (by omega) (by omega) (by omega)
        have q3 : ((B.getD (g : Int).toNat 0 : Nat) : Int) < ((B.getD (p : Int).toNat 0 : Nat) : Int) := by rw [e1, e2]; omega
        have e3 : (g : Int) + -1 = ((g - 1 : Nat) : Int) := by omega
        simp (disch := first | omega | (simp only [List.length_set]; omega) | rfl) only [↓e40_48, ↓e40_49, ↓e40_50, ↓e40_51, ↓e40_54, ↓e40_55, ↓e40_58, ↓e40_59, ↓e40_60, ↓e40_61, ↓e40_64, ↓e40_65, ↓e40_66, ↓e40_69, ↓e40_72, ↓am_ilp, ↓am_iln, ↓am_iep, ↓am_ien, ↓am_zlp, ↓am_zln, ↓am_zep, ↓am_zen, ↓am_zgp, ↓am_zgn, ↓am_zhp, ↓am_zhn, ↓am_b01, true_or, true_and, and_true, or_true, if_true, if_false, ↓am_bdl_z, ↓am_bdl_s, ↓am_bsl_z, ↓am_bsl_s, ↓am_k1_i, ↓am_k1_r, ↓am_k1_e, ↓am_k1_n, ↓am_bd_s, am_k1_t, eq_self, am_nl_i, am_nl_r, am_nl_e, am_nl_n, Option.toList_some, Option.toList_none, Option.map_some, Option.map_none, List.cons_append, List.nil_append, List.length_cons, List.length_nil, List.set_cons_zero, List.set_cons_succ, List.getElem?_cons_zero, List.getElem?_cons_succ, am_bd_s, ↓am_bdf a1, am_bdf a1, ↓am_bfu a1, am_bfu a1, ↓am_oc_of a1, am_oc_of a1, ↓am_brl a2, e3]
        exact ih
      · rw [if_neg (fun z => q2 z.2)]
        have q3 : ¬ ((B.getD (g : Int).toNat 0 : Nat) : Int) < ((B.getD (p : Int).toNat 0 : Nat) : Int) := by rw [e1, e2]; omega
        simp (disch := first | omega | (simp only [List.length_set]; omega) | rfl) only [↓e40_48, ↓e40_49, ↓e40_50, ↓e40_51, ↓e40_54, ↓e40_55, ↓e40_58, ↓e40_59, ↓e40_60, ↓e40_61, ↓e40_64, ↓e40_65, ↓e40_66, ↓e40_69, ↓e40_72, ↓am_ilp, ↓am_iln, ↓am_iep, ↓am_ien, ↓am_zlp, ↓am_zln, ↓am_zep, ↓am_zen, ↓am_zgp, ↓am_zgn, ↓am_zhp, ↓am_zhn, ↓am_b01, true_or, true_and, and_true, or_true, if_true, if_false, ↓am_bdl_z, ↓am_bdl_s, ↓am_bsl_z, ↓am_bsl_s, ↓am_k1_i, ↓am_k1_r, ↓am_k1_e, ↓am_k1_n, ↓am_bd_s, am_k1_t, eq_self, am_nl_i, am_nl_r, am_nl_e, am_nl_n, Option.toList_some, Option.toList_none, Option.map_some, Option.map_none, List.cons_append, List.nil_append, List.length_cons, List.length_nil, List.set_cons_zero, List.set_cons_succ, List.getElem?_cons_zero, List.getElem?_cons_succ, am_bd_s, ↓am_bdf a1, am_bdf a1, ↓am_bfu a1, am_bfu a1, ↓am_oc_of a1, am_oc_of a1, ↓am_brl a2]
    · rw [if_neg (fun z => q1 z.1)]
      simp (disch := first | omega | (simp only [List.length_set]; omega) | rfl) only [↓e40_48, ↓e40_49, ↓e40_50, ↓e40_51, ↓am_ilp, ↓am_iln, ↓am_iep, ↓am_ien, ↓am_zlp, ↓am_zln, ↓am_zep, ↓am_zen, ↓am_zgp, ↓am_zgn, ↓am_zhp, ↓am_zhn, ↓am_b01, true_or, true_and, and_true, or_true, if_true, if_false, ↓am_bdl_z, ↓am_bdl_s, ↓am_bsl_z, ↓am_bsl_s, ↓am_k1_i, ↓am_k1_r, ↓am_k1_e, ↓am_k1_n, ↓am_bd_s, am_k1_t, eq_self, am_nl_i, am_nl_r, am_nl_e, am_nl_n, Option.toList_some, Option.toList_none, Option.map_some, Option.map_none, List.cons_append, List.nil_append, List.length_cons, List.length_nil, List.set_cons_zero, List.set_cons_succ, List.getElem?_cons_zero, List.getElem?_cons_succ, am_bd_s]
theorem LayC.setB {B' : List Nat} {g : List Int} (l : LayC h r B A Wo ni) (hg : B'.length = B.length) (h2 : ∃ g0, B.length + g0.length = 6 ∧ g0 = g ∧ h[r + 1]? = some (am_a 0 (pl_c B ++ g0))) : LayC (h.set (r + 1) (am_a 0 (pl_c B' ++ g))) r B' A Wo ni := by
  obtain ⟨g0, a0, a1, a2, a3, a4, a5, a6⟩ := l
  obtain ⟨g1, b0, rfl, b2⟩ := h2
  exact ⟨g1, by omega, by rw [am_set_ne (by omega), a1, hg], am_set_at a2, by rw [am_set_ne (by omega)]; exact a3, by rw [am_set_ne (by omega)]; exact a4, a5, a6⟩
theorem X3_swapLevels_l {i j : Nat} (l : LayC h r B A Wo ni) (hi : i < B.length) (hj : j < B.length) : ∃ h', (∀ E K, Wp E 36 0 [some (am_r (some r)), some (am_i (i : Int)), some (am_i (j : Int)), none] [] h K = K none h') ∧ LayC h' r (pl_swp B i j) A Wo ni ∧ Fr h h' r 4 := by
  obtain ⟨g, a0, a1, a2, a3, a4, a5, a6⟩ := id l
  have hlen : (pl_c B ++ g).length = 6 := by rw [List.length_append, pl_c_len]; exact a0
  refine ⟨_, fun E K => X3_swapLevels_w (i := i) (j := j) a1 a2 (by rw [List.length_append, pl_c_len]; omega) (by rw [List.length_append, pl_c_len]; omega) (by omega), ?_, Fr.rf.set (by omega) (by omega)⟩
  rw [pl_swp_c hi hj]
  exact l.setB pl_swp_len ⟨g, a0, rfl, a2⟩
theorem X3_toNextOrder_r {p gr : Int} : ∀ (f : Nat) (h : am_H) (B : List Nat) (lo : Nat) (hi : Int), LayC h r B A Wo ni → hi < (B.length : Int) → hi - lo < f → -1 ≤ hi → (lo : Int) ≤ 100 → ∃ h', (∀ E K, Wp E 40 93 [some (am_r (some r)), some (am_i p), some (am_i gr), some (am_i (lo : Int)), some (am_i hi)] [] h K = K (some (am_i 1)) h') ∧ LayC h' r (pl_rev f B lo hi) A Wo ni ∧ Fr h h' r 4
  | 0, h, B, lo, hi, l, h1, hf, h0, hl => by
    have l6 := l.lens.2.2
    refine ⟨h, fun E K => ?_, l, Fr.rf⟩
    rw [e40_93]
    simp (disch := first | omega | (simp only [List.length_set]; omega) | rfl) only [↓e40_94, ↓e40_96, ↓e40_115, ↓e40_116, ↓am_ilp, ↓am_iln, ↓am_iep, ↓am_ien, ↓am_zlp, ↓am_zln, ↓am_zep, ↓am_zen, ↓am_zgp, ↓am_zgn, ↓am_zhp, ↓am_zhn, ↓am_b01, true_or, true_and, and_true, or_true, if_true, if_false, ↓am_bdl_z, ↓am_bdl_s, ↓am_bsl_z, ↓am_bsl_s, ↓am_k1_i, ↓am_k1_r, ↓am_k1_e, ↓am_k1_n, ↓am_bd_s, am_k1_t, eq_self, am_nl_i, am_nl_r, am_nl_e, am_nl_n, Option.toList_some, Option.toList_none, Option.map_some, Option.map_none, List.cons_append, List.nil_append, List.length_cons, List.length_nil, List.set_cons_zero, List.set_cons_succ, List.getElem?_cons_zero, List.getElem?_cons_succ, am_bd_s]
  | f + 1, h, B, lo, hi, l, h1, hf, h0, hl => by
    have l6 := l.lens.2.2
    rw [pl_rev]
    by_cases q : (lo : Int) < hi
    · obtain ⟨k, rfl⟩ : ∃ k : Nat, hi = (k : Int) := ⟨hi.toNat, by omega⟩
      obtain ⟨h2, w2, l2, f2⟩ := X3_swapLevels_l (i := lo) (j := k) l (by omega) (by omega)
      obtain ⟨h3, w3, l3, f3⟩ := X3_toNextOrder_r (p := p) (gr := gr) f h2 (pl_swp B lo k) (lo + 1) ((k : Int) - 1) l2 (by rw [pl_swp_len]; omega) (by omega) (by omega) (by omega)
      rw [if_pos q, Int.toNat_natCast]
      refine ⟨h3, fun E K => ?_, l3, f2.trans f3⟩
      have w4 := w3 E K
      have e3 : (k : Int) + -1 = (k : Int) - 1 := by omega
      rw [e40_93]
      simp (disch := first | omega | (simp only [List.length_set]; omega) | rfl) only [↓e40_94, ↓e40_96, ↓e40_99, ↓e40_100, ↓e40_101, ↓e40_103, ↓e40_106, ↓e40_109, ↓e40_112, ↓am_ilp, ↓am_iln, ↓am_iep, ↓am_ien, ↓am_zlp, ↓am_zln, ↓am_zep, ↓am_zen, ↓am_zgp, ↓am_zgn, ↓am_zhp, ↓am_zhn, ↓am_b01, true_or, true_and, and_true, or_true, if_true, if_false, ↓am_bdl_z, ↓am_bdl_s, ↓am_bsl_z, ↓am_bsl_s, ↓am_k1_i, ↓am_k1_r, ↓am_k1_e, ↓am_k1_n, ↓am_bd_s, am_k1_t, eq_self, am_nl_i, am_nl_r, am_nl_e, am_nl_n, Option.toList_some, Option.toList_none, Option.map_some, Option.map_none, List.cons_append, List.nil_append, List.length_cons, List.length_nil, List.set_cons_zero, List.set_cons_succ, List.getElem?_cons_zero, List.getElem?_cons_succ, am_bd_s, ↓am_tln, ↓am_bdf l.obj.1, am_bdf l.obj.1, ↓am_bfu l.obj.1, am_bfu l.obj.1, ↓am_oc_of l.obj.1, am_oc_of l.obj.1, ↓w2, e3]
      exact w4
    · rw [if_neg q]
      refine ⟨h, fun E K => ?_, l, Fr.rf⟩
      rw [e40_93]
      simp (disch := first | omega | (simp only [List.length_set]; omega) | rfl) only [↓e40_94, ↓e40_96, ↓e40_115, ↓e40_116, ↓am_ilp, ↓am_iln, ↓am_iep, ↓am_ien, ↓am_zlp, ↓am_zln, ↓am_zep, ↓am_zen, ↓am_zgp, ↓am_zgn, ↓am_zhp, ↓am_zhn, ↓am_b01, true_or, true_and, and_true, or_true, if_true, if_false, ↓am_bdl_z, ↓am_bdl_s, ↓am_bsl_z, ↓am_bsl_s, ↓am_k1_i, ↓am_k1_r, ↓am_k1_e, ↓am_k1_n, ↓am_bd_s, am_k1_t, eq_self, am_nl_i, am_nl_r, am_nl_e, am_nl_n, Option.toList_some, Option.toList_none, Option.map_some, Option.map_none, List.cons_append, List.nil_append, List.length_cons, List.length_nil, List.set_cons_zero, List.set_cons_succ, List.getElem?_cons_zero, List.getElem?_cons_succ, am_bd_s]
theorem pl_piv_le {B : List Nat} : ∀ (f : Nat) (p : Int), pl_piv B f p ≤ p
  | 0, p => Int.le_refl p
  | f + 1, p => by
    rw [pl_piv]
    split
    · exact Int.le_refl p
    · split
      · have := pl_piv_le (B := B) f (p - 1); omega
      · exact Int.le_refl p
theorem pl_gre_b {B : List Nat} {p : Nat} : ∀ (f g : Nat), p + 1 ≤ g → p + 1 ≤ pl_gre B p f g ∧ pl_gre B p f g ≤ g
  | 0, g, h => ⟨h, Nat.le_refl g⟩
  | f + 1, g, h => by
    rw [pl_gre]
    split
    · rename_i q
      have := pl_gre_b (B := B) (p := p) f (g - 1) (by omega)
      omega
    · exact ⟨h, Nat.le_refl g⟩
/-- on to the next order -/
theorem X3_toNextOrder_w (l : LayC h r B A Wo ni) (hx : ∀ x ∈ B, x < 6) : ∃ h', (∀ E K, Wp E 40 0 [some (am_r (some r)), none, none, none, none] [] h K = K (some (am_i (pl_b ((pl_nx B).isSome = true)))) h') ∧ LayC h' r ((pl_nx B).getD B) A Wo ni ∧ Fr h h' r 4 := by
  have l6 := l.lens.2.2
  obtain ⟨pv, hpv⟩ : ∃ pv, pv = pl_piv B 6 ((B.length : Int) - 2) := ⟨_, rfl⟩
  have hp := fun (E : List (List Int)) (K : Option am_V → am_H → Prop) (hh : 1 ≤ B.length) => X3_toNextOrder_p (E := E) (K := K) l hx none none none 6 ((B.length : Int) - 2) (by omega) (by omega) (by omega)
  have ple := pl_piv_le (B := B) 6 ((B.length : Int) - 2)
  rw [← hpv] at ple
  unfold pl_nx
  rw [← hpv]
  by_cases q : pv < 0
  · rw [if_pos q]
    refine ⟨h, fun E K => ?_, l, Fr.rf⟩
    rw [pl_b, if_neg (by simp)]
    by_cases hh : 1 ≤ B.length
    · have hp2 := hp E K hh
      rw [← hpv] at hp2
      have st : Wp E 40 0 [some (am_r (some r)), none, none, none, none] [] h K = Wp E 40 7 [some (am_r (some r)), some (am_i ((B.length : Int) - 2)), none, none, none] [] h K := by
        simp (disch := first | omega | (simp only [List.length_set]; omega) | rfl) only [↓e40_0, ↓e40_1, ↓e40_4, ↓e40_5, ↓e40_6, ↓am_ilp, ↓am_iln, ↓am_iep, ↓am_ien, ↓am_zlp, ↓am_zln, ↓am_zep, ↓am_zen, ↓am_zgp, ↓am_zgn, ↓am_zhp, ↓am_zhn, ↓am_b01, true_or, true_and, and_true, or_true, if_true, if_false, ↓am_bdl_z, ↓am_bdl_s, ↓am_bsl_z, ↓am_bsl_s, ↓am_k1_i, ↓am_k1_r, ↓am_k1_e, ↓am_k1_n, ↓am_bd_s, am_k1_t, eq_self, am_nl_i, am_nl_r, am_nl_e, am_nl_n, Option.toList_some, Option.toList_none, Option.map_some, Option.map_none, List.cons_append, List.nil_append, List.length_cons, List.length_nil, List.set_cons_zero, List.set_cons_succ, List.getElem?_cons_zero, List.getElem?_cons_succ, am_bd_s, ↓am_bdf l.obj.1, am_bdf l.obj.1, ↓am_bfu l.obj.1, am_bfu l.obj.1, ↓am_oc_of l.obj.1, am_oc_of l.obj.1]
      have pl1 : -1 ≤ pv := by
        have key : ∀ (f : Nat) (p : Int), -1 ≤ p → -1 ≤ pl_piv B f p := by
          intro f
          induction f with
          | zero => intro p hp; exact hp
          | succ f ih =>
            intro p hp
            rw [pl_piv]
            split
            · exact hp
            · split
              · exact ih _ (by omega)
              · exact hp
        rw [hpv]; exact key _ _ (by omega)
      rw [st, hp2]
      simp (disch := first | omega | (simp only [List.length_set]; omega) | rfl) only [↓e40_34, ↓e40_35, ↓e40_38, ↓e40_39, ↓am_ilp, ↓am_iln, ↓am_iep, ↓am_ien, ↓am_zlp, ↓am_zln, ↓am_zep, ↓am_zen, ↓am_zgp, ↓am_zgn, ↓am_zhp, ↓am_zhn, ↓am_b01, true_or, true_and, and_true, or_true, if_true, if_false, ↓am_bdl_z, ↓am_bdl_s, ↓am_bsl_z, ↓am_bsl_s, ↓am_k1_i, ↓am_k1_r, ↓am_k1_e, ↓am_k1_n, ↓am_bd_s, am_k1_t, eq_self, am_nl_i, am_nl_r, am_nl_e, am_nl_n, Option.toList_some, Option.toList_none, Option.map_some, Option.map_none, List.cons_append, List.nil_append, List.length_cons, List.length_nil, List.set_cons_zero, List.set_cons_succ, List.getElem?_cons_zero, List.getElem?_cons_succ, am_bd_s]
    · simp (disch := first | omega | (simp only [List.length_set]; omega) | rfl) only [↓e40_0, ↓e40_1, ↓e40_4, ↓e40_5, ↓e40_6, ↓e40_7, ↓e40_8, ↓e40_11, ↓e40_12, ↓e40_15, ↓e40_16, ↓e40_17, ↓e40_18, ↓e40_21, ↓e40_22, ↓e40_23, ↓e40_24, ↓e40_25, ↓e40_28, ↓e40_31, ↓e40_34, ↓e40_35, ↓e40_38, ↓e40_39, ↓am_ilp, ↓am_iln, ↓am_iep, ↓am_ien, ↓am_zlp, ↓am_zln, ↓am_zep, ↓am_zen, ↓am_zgp, ↓am_zgn, ↓am_zhp, ↓am_zhn, ↓am_b01, true_or, true_and, and_true, or_true, if_true, if_false, ↓am_bdl_z, ↓am_bdl_s, ↓am_bsl_z, ↓am_bsl_s, ↓am_k1_i, ↓am_k1_r, ↓am_k1_e, ↓am_k1_n, ↓am_bd_s, am_k1_t, eq_self, am_nl_i, am_nl_r, am_nl_e, am_nl_n, Option.toList_some, Option.toList_none, Option.map_some, Option.map_none, List.cons_append, List.nil_append, List.length_cons, List.length_nil, List.set_cons_zero, List.set_cons_succ, List.getElem?_cons_zero, List.getElem?_cons_succ, am_bd_s, ↓am_bdf l.obj.1, am_bdf l.obj.1, ↓am_bfu l.obj.1, am_bfu l.obj.1, ↓am_oc_of l.obj.1, am_oc_of l.obj.1]
  · rw [if_neg q]
    have hh : 1 ≤ B.length := by omega
    obtain ⟨p, rfl⟩ : ∃ p : Nat, pv = (p : Int) := ⟨pv.toNat, by omega⟩
    rw [Int.toNat_natCast]
    have hg := fun (E : List (List Int)) (K : Option am_V → am_H → Prop) => X3_toNextOrder_g (E := E) (K := K) (p := p) l hx (by omega) none none 6 (B.length - 1) (by omega) (by omega) (by omega)
    have gb := pl_gre_b (B := B) (p := p) 6 (B.length - 1) (by omega)
    obtain ⟨gr, hgr⟩ : ∃ gr, gr = pl_gre B p 6 (B.length - 1) := ⟨_, rfl⟩
    rw [← hgr] at gb hg ⊢
    obtain ⟨h1, w1, l1, f1⟩ := X3_swapLevels_l (i := p) (j := gr) l (by omega) (by omega)
    obtain ⟨h2, w2, l2, f2⟩ := X3_toNextOrder_r (p := (p : Int)) (gr := (gr : Int)) 6 h1 (pl_swp B p gr) (p + 1) ((B.length : Int) - 1) l1 (by rw [pl_swp_len]; omega) (by omega) (by omega) (by omega)
    refine ⟨h2, fun E K => ?_, l2, f1.trans f2⟩
    rw [pl_b, if_pos (by rfl)]
    have hp2 := hp E K hh
    rw [← hpv] at hp2
    have hg2 := hg E K
    have w3 := w2 E K
    have e1 : ((B.length - 1 : Nat) : Int) = (B.length : Int) - 1 := by omega
    rw [e1] at hg2
    have st : Wp E 40 0 [some (am_r (some r)), none, none, none, none] [] h K = Wp E 40 7 [some (am_r (some r)), some (am_i ((B.length : Int) - 2)), none, none, none] [] h K := by
      simp (disch := first | omega | (simp only [List.length_set]; omega) | rfl) only [↓e40_0, ↓e40_1, ↓e40_4, ↓e40_5, ↓e40_6, ↓am_ilp, ↓am_iln, ↓am_iep, ↓am_ien, ↓am_zlp, ↓am_zln, ↓am_zep, ↓am_zen, ↓am_zgp, ↓am_zgn, ↓am_zhp, ↓am_zhn, ↓am_b01, true_or, true_and, and_true, or_true, if_true, if_false, ↓am_bdl_z, ↓am_bdl_s, ↓am_bsl_z, ↓am_bsl_s, ↓am_k1_i, ↓am_k1_r, ↓am_k1_e, ↓am_k1_n, ↓am_bd_s, am_k1_t, eq_self, am_nl_i, am_nl_r, am_nl_e, am_nl_n, Option.toList_some, Option.toList_none, Option.map_some, Option.map_none, List.cons_append, List.nil_append, List.length_cons, List.length_nil, List.set_cons_zero, List.set_cons_succ, List.getElem?_cons_zero, List.getElem?_cons_succ, am_bd_s, ↓am_bdf l.obj.1, am_bdf l.obj.1, ↓am_bfu l.obj.1, am_bfu l.obj.1, ↓am_oc_of l.obj.1, am_oc_of l.obj.1]
    have st2 : Wp E 40 34 [some (am_r (some r)), some (am_i (p : Int)), none, none, none] [] h K = Wp E 40 47 [some (am_r (some r)), some (am_i (p : Int)), some (am_i ((B.length : Int) - 1)), none, none] [] h K := by
      simp (disch := first | omega | (simp only [List.length_set]; omega) | rfl) only [↓e40_34, ↓e40_35, ↓e40_38, ↓e40_39, ↓e40_40, ↓e40_41, ↓e40_44, ↓e40_45, ↓e40_46, ↓am_ilp, ↓am_iln, ↓am_iep, ↓am_ien, ↓am_zlp, ↓am_zln, ↓am_zep, ↓am_zen, ↓am_zgp, ↓am_zgn, ↓am_zhp, ↓am_zhn, ↓am_b01, true_or, true_and, and_true, or_true, if_true, if_false, ↓am_bdl_z, ↓am_bdl_s, ↓am_bsl_z, ↓am_bsl_s, ↓am_k1_i, ↓am_k1_r, ↓am_k1_e, ↓am_k1_n, ↓am_bd_s, am_k1_t, eq_self, am_nl_i, am_nl_r, am_nl_e, am_nl_n, Option.toList_some, Option.toList_none, Option.map_some, Option.map_none, List.cons_append, List.nil_append, List.length_cons, List.length_nil, List.set_cons_zero, List.set_cons_succ, List.getElem?_cons_zero, List.getElem?_cons_succ, am_bd_s, ↓am_bdf l.obj.1, am_bdf l.obj.1, ↓am_bfu l.obj.1, am_bfu l.obj.1, ↓am_oc_of l.obj.1, am_oc_of l.obj.1]
    have lo1 := l1.obj.1
    rw [pl_swp_len] at lo1
    rw [st, hp2, st2, hg2]
    simp (disch := first | omega | (simp only [List.length_set]; omega) | rfl) only [↓e40_75, ↓e40_76, ↓e40_77, ↓e40_78, ↓e40_81, ↓e40_82, ↓e40_83, ↓e40_84, ↓e40_85, ↓e40_86, ↓e40_89, ↓e40_90, ↓e40_91, ↓am_ilp, ↓am_iln, ↓am_iep, ↓am_ien, ↓am_zlp, ↓am_zln, ↓am_zep, ↓am_zen, ↓am_zgp, ↓am_zgn, ↓am_zhp, ↓am_zhn, ↓am_b01, true_or, true_and, and_true, or_true, if_true, if_false, ↓am_bdl_z, ↓am_bdl_s, ↓am_bsl_z, ↓am_bsl_s, ↓am_k1_i, ↓am_k1_r, ↓am_k1_e, ↓am_k1_n, ↓am_bd_s, am_k1_t, eq_self, am_nl_i, am_nl_r, am_nl_e, am_nl_n, Option.toList_some, Option.toList_none, Option.map_some, Option.map_none, List.cons_append, List.nil_append, List.length_cons, List.length_nil, List.set_cons_zero, List.set_cons_succ, List.getElem?_cons_zero, List.getElem?_cons_succ, am_bd_s, ↓am_tln, ↓am_bdf l.obj.1, am_bdf l.obj.1, ↓am_bfu l.obj.1, am_bfu l.obj.1, ↓am_oc_of l.obj.1, am_oc_of l.obj.1, ↓am_bdf lo1, am_bdf lo1, ↓am_bfu lo1, am_bfu lo1, ↓am_oc_of lo1, am_oc_of lo1, ↓w1]
    exact w3
end ORD
