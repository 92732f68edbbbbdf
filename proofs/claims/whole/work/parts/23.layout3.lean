theorem am_set_sw {h : am_H} {a b : Nat} {x x' y : am_C} (hn : a ≠ b) : ((h.set a x).set b y).set a x' = (h.set a x').set b y := by
  rw [List.set_comm _ _ hn, List.set_set, List.set_comm _ _ (Ne.symm hn)]
theorem am_rd_l {xs : List Int} {i : Nat} {x : Int} (h : xs[i]? = some x) (h2 : i ≤ 100000) : am_rd xs (i : Int) = some x := am_rd_at h h2
section LAY3
variable {E : List (List Int)} {h : am_H} {K : Option am_V → am_H → Prop} {r q b : Nat} {B : List Nat} {A Wo : List Int} {ni : Int}
theorem X3_tuckUnder_no (l : LayC h r B A Wo ni) (hx : ∀ x ∈ B, x < 6) (hb : b < 6) (hm : b ∈ B) : Wp E 35 0 [some (am_r (some r)), some (am_i (b : Int)), none] [] h K = K (some (am_i 0)) h := by
  have lw := fun E K => X3_layOnTop_no (E := E) (K := K) l hx hb hm
  obtain ⟨g, h0, h1, h2, h3, h4, h5⟩ := l
  simp only [e35_0, e35_1, e35_2, eq_self, am_k1_t, am_bd_s, am_bd_n, am_nl_i, am_nl_r, am_nl_e, am_nl_n, Option.toList_some, Option.toList_none, List.cons_append, List.nil_append, List.getElem?_cons_zero, List.getElem?_cons_succ, List.length_cons, List.length_nil, List.set_cons_zero, List.set_cons_succ, am_oc_of h1, lw]
  simp only [e35_5, e35_8, e35_9, eq_self, am_k1_t, am_bd_s, am_bd_n, am_nl_i, am_nl_r, am_nl_e, am_nl_n, Option.toList_some, Option.toList_none, List.cons_append, List.nil_append, List.getElem?_cons_zero, List.getElem?_cons_succ, List.length_cons, List.length_nil, List.set_cons_zero, List.set_cons_succ, am_w_l0, if_true]
  simp
theorem X3_tuckUnder_w (l : LayC h r B A Wo ni) (hx : ∀ x ∈ B, x < 6) (hb : b < 6) (hm : b ∉ B) (h6 : B.length < 6) : ∃ h', (∀ E K, Wp E 35 0 [some (am_r (some r)), some (am_i (b : Int)), none] [] h K = K (some (am_i 1)) h') ∧ LayC h' r (b :: B) A Wo ni ∧ Fr h h' r 2 := by
  have ob : ∃ fs, h[r]? = some (am_o 3 fs) := by obtain ⟨g, h0, h1, h2, h3, h4, h5⟩ := l; exact ⟨_, h1⟩
  obtain ⟨fs0, hfs0⟩ := ob
  obtain ⟨hA, wA, lA, fA⟩ := X3_layOnTop_w l hx hb hm h6
  obtain ⟨g, h0, h1, h2, h3, h4, h5⟩ := lA
  have hl : (B ++ [b]).length = B.length + 1 := by simp
  have ea : pl_c (B ++ [b]) ++ g = pl_c B ++ (b : Int) :: g := by rw [pl_c_app, List.append_assoc]; rfl
  have hh : hA = hA.set (r + 1) (am_a 0 (pl_c B ++ (b : Int) :: g)) := by rw [← ea]; exact (am_set_same h2).symm
  refine ⟨hA.set (r + 1) (am_a 0 ((b : Int) :: (pl_c B ++ g))), fun E K => ?_, ⟨g, ?_, ?_, ?_, ?_, ?_, h5⟩, fA.set (by omega) (by omega)⟩
  · have lp := X3_tuckUnder_l (E := E) (K := K) (b := b) (T := g) h1 h2 _ (pl_c B) g rfl (by rw [pl_c_len]; rw [hl] at h0; omega)
    rw [pl_c_len, ← hh] at lp
    have e9 : (((B ++ [b]).length : Nat) : Int) - 1 = (B.length : Int) := by rw [hl]; omega
    simp only [e35_0, e35_1, e35_2, eq_self, am_k1_t, am_bd_s, am_bd_n, am_nl_i, am_nl_r, am_nl_e, am_nl_n, Option.toList_some, Option.toList_none, List.cons_append, List.nil_append, List.getElem?_cons_zero, List.getElem?_cons_succ, List.length_cons, List.length_nil, List.set_cons_zero, List.set_cons_succ, am_oc_of hfs0, wA]
    simp only [e35_5, e35_8, e35_9, e35_10, e35_11, e35_14, e35_15, e35_16, eq_self, am_k1_t, am_bd_s, am_bd_n, am_nl_i, am_nl_r, am_nl_e, am_nl_n, Option.toList_some, Option.toList_none, List.cons_append, List.nil_append, List.getElem?_cons_zero, List.getElem?_cons_succ, List.length_cons, List.length_nil, List.set_cons_zero, List.set_cons_succ, am_w_l1, am_fd_of h1, e9]
    simp only [show ¬ (1 : Int) = 0 by decide, if_false]
    exact lp
  · rw [List.length_cons]; rw [hl] at h0; omega
  · rw [am_set_ne (by omega), h1, hl]; rfl
  · rw [am_set_at h2]; rfl
  · rw [am_set_ne (by omega)]; exact h3
  · rw [am_set_ne (by omega)]; exact h4
theorem X3_place_w {s : Nat} {f : Int} (l : LayC h r B A Wo ni) (hs : s < 3) : ∃ h', (∀ E K, Wp E 30 0 [some (am_r (some r)), some (am_i (s : Int)), some (am_i f)] [] h K = K none h') ∧ LayC h' r B (A.set s f) Wo ni ∧ Fr h h' r 4 := by
  obtain ⟨g, h0, h1, h2, h3, h4, h5, h6⟩ := l
  have c0 : ¬ am_w (s : Int) < 0 := by rw [am_w_nat (by omega)]; omega
  have c1 : am_w (s : Int) < am_w 3 := by rw [am_w_nat (by omega), am_w_l3]; omega
  refine ⟨h.set (r + 2) (am_a 0 (A.set s f)), fun E K => ?_, ⟨g, h0, ?_, ?_, ?_, ?_, by rw [List.length_set]; exact h5, h6⟩, Fr.rf.set (by omega) (by omega)⟩
  · simp only [e30_0, e30_1, e30_4, e30_5, e30_6, e30_9, e30_10, e30_13, e30_14, e30_15, e30_16, eq_self, am_k1_t, am_bd_s, am_bd_n, am_nl_i, am_nl_r, am_nl_e, am_nl_n, Option.toList_some, Option.toList_none, List.cons_append, List.nil_append, List.getElem?_cons_zero, List.getElem?_cons_succ, List.length_cons, List.length_nil, List.set_cons_zero, List.set_cons_succ, if_neg c0, if_pos c1, am_fd_of h1, am_wa_of h3, am_wr_nat f (show s < A.length by omega) (by omega), Option.map_some]
  · rw [am_set_ne (by omega)]; exact h1
  · rw [am_set_ne (by omega)]; exact h2
  · rw [am_set_at h3]
  · rw [am_set_ne (by omega)]; exact h4
theorem X3_copyFrom_l1 {x1 x2 x3 x4 y1 y2 y3 y4 : am_V} {src : List Int} {z : am_C} (h1 : h[r]? = some (am_o 3 [am_r (some (r + 1)), x1, x2, x3, x4])) (h2 : h[r + 1]? = some z) (q1 : h[q]? = some (am_o 3 [am_r (some (q + 1)), y1, y2, y3, y4])) (q2 : h[q + 1]? = some (am_a 0 src)) (d : r + 4 ≤ q ∨ q + 4 ≤ r) (h6 : src.length = 6) :
    ∀ (S P D : List Int), src = P ++ S → D.length = S.length → Wp E 29 18 [some (am_r (some r)), some (am_r (some q)), some (am_i (P.length : Int))] [] (h.set (r + 1) (am_a 0 (P ++ D))) K = Wp E 29 42 [some (am_r (some r)), some (am_r (some q)), some (am_i 6)] [] (h.set (r + 1) (am_a 0 src)) K
  | [], P, D, e, eD => by
    have hP : P.length = 6 := by rw [← h6, e, List.append_nil]
    have hD : D = [] := List.length_eq_zero_iff.mp eD
    subst hD
    have c1 : ¬ am_w ((6 : Nat) : Int) < am_w 6 := by decide
    rw [hP, e29_18]
    simp only [e29_19, e29_21, if_neg c1]
    rw [e, List.append_nil]
    rfl
  | x :: S, P, D, e, eD => by
    obtain ⟨d0, D', rfl⟩ : ∃ d0 D', D = d0 :: D' := by
      cases D with
      | nil => cases eD
      | cons d0 D' => exact ⟨d0, D', rfl⟩
    have hP : P.length + (S.length + 1) = 6 := by rw [← h6, e, List.length_append, List.length_cons]
    have ih := X3_copyFrom_l1 h1 h2 q1 q2 d h6 S (P ++ [x]) D' (by rw [e]; simp) (by simpa using eD)
    have s1 : (h.set (r + 1) (am_a 0 (P ++ d0 :: D')))[r]? = some (am_o 3 [am_r (some (r + 1)), x1, x2, x3, x4]) := by rw [am_set_ne (by omega)]; exact h1
    have s2 : (h.set (r + 1) (am_a 0 (P ++ d0 :: D')))[r + 1]? = some (am_a 0 (P ++ d0 :: D')) := am_set_at h2
    have t1 : (h.set (r + 1) (am_a 0 (P ++ d0 :: D')))[q]? = some (am_o 3 [am_r (some (q + 1)), y1, y2, y3, y4]) := by rw [am_set_ne (by omega)]; exact q1
    have t2 : (h.set (r + 1) (am_a 0 (P ++ d0 :: D')))[q + 1]? = some (am_a 0 src) := by rw [am_set_ne (by omega)]; exact q2
    have c1 : am_w (P.length : Int) < am_w 6 := by rw [am_w_nat (by omega), am_w_l6]; omega
    have r1 : am_rd src (P.length : Int) = some x := by rw [e]; exact am_rd_mid (by omega)
    have w1 : am_wr (P ++ d0 :: D') (P.length : Int) x = some (P ++ x :: D') := am_wr_mid (by omega)
    rw [e29_18]
    simp only [e29_19, e29_21, e29_24, e29_25, e29_28, e29_29, e29_30, e29_33, e29_34, e29_35, e29_36, e29_39, eq_self, am_k1_t, am_bd_s, am_bd_n, am_nl_i, am_nl_r, am_nl_e, am_nl_n, Option.toList_some, Option.toList_none, List.cons_append, List.nil_append, List.getElem?_cons_zero, List.getElem?_cons_succ, List.length_cons, List.length_nil, List.set_cons_zero, List.set_cons_succ, if_pos c1, am_fd_of s1, am_fd_of t1, am_ra_of t2, r1, am_wa_of s2, w1, Option.map_some, List.set_set]
    rw [List.length_append, List.append_assoc] at ih
    exact ih
theorem X3_copyFrom_l2 {x0 x1 x4 y0 y1 y4 : am_V} {A2 W2 : List Int} {z z' : am_C} (h1 : h[r]? = some (am_o 3 [x0, x1, am_r (some (r + 2)), am_r (some (r + 3)), x4])) (h2 : h[r + 2]? = some z) (h3 : h[r + 3]? = some z') (q1 : h[q]? = some (am_o 3 [y0, y1, am_r (some (q + 2)), am_r (some (q + 3)), y4])) (q2 : h[q + 2]? = some (am_a 0 A2)) (q3 : h[q + 3]? = some (am_a 0 W2)) (d : r + 4 ≤ q ∨ q + 4 ≤ r) (hA : A2.length = 3) (hW : W2.length = 3) :
    ∀ (S S' P P' D D' : List Int), A2 = P ++ S → W2 = P' ++ S' → P.length = P'.length → D.length = S.length → D'.length = S'.length → Wp E 29 44 [some (am_r (some r)), some (am_r (some q)), some (am_i (P.length : Int))] [] ((h.set (r + 2) (am_a 0 (P ++ D))).set (r + 3) (am_a 0 (P' ++ D'))) K = K none ((h.set (r + 2) (am_a 0 A2)).set (r + 3) (am_a 0 W2))
  | [], S', P, P', D, D', e, e', eP, eD, eD' => by
    have hP : P.length = 3 := by rw [← hA, e, List.append_nil]
    have hS' : S' = [] := by
      apply List.length_eq_zero_iff.mp
      have := congrArg List.length e'
      rw [List.length_append] at this
      omega
    subst hS'
    have hD : D = [] := List.length_eq_zero_iff.mp eD
    have hD' : D' = [] := List.length_eq_zero_iff.mp eD'
    subst hD; subst hD'
    have c1 : ¬ am_w ((3 : Nat) : Int) < am_w 3 := by decide
    rw [hP, e29_44]
    simp only [e29_45, e29_46, e29_49, e29_50, e29_53, e29_54, e29_55, e29_58, e29_59, e29_60, e29_61, e29_62, e29_65, e29_66, e29_67, e29_70, e29_71, e29_72, e29_73, e29_76, e29_79, if_neg c1]
    rw [e, e', List.append_nil, List.append_nil]
  | x :: S, S', P, P', D, D', e, e', eP, eD, eD' => by
    have hP : P.length + (S.length + 1) = 3 := by rw [← hA, e, List.length_append, List.length_cons]
    obtain ⟨x', S', rfl⟩ : ∃ x' S'', S' = x' :: S'' := by
      cases S' with
      | nil =>
        have := congrArg List.length e'
        rw [List.length_append, List.length_nil] at this
        omega
      | cons d0 D' => exact ⟨d0, D', rfl⟩
    obtain ⟨d0, D, rfl⟩ : ∃ d0 D1, D = d0 :: D1 := by
      cases D with
      | nil => cases eD
      | cons d0 D' => exact ⟨d0, D', rfl⟩
    obtain ⟨d0', D', rfl⟩ : ∃ d0 D1, D' = d0 :: D1 := by
      cases D' with
      | nil => cases eD'
      | cons d0 D' => exact ⟨d0, D', rfl⟩
    have ih := X3_copyFrom_l2 h1 h2 h3 q1 q2 q3 d hA hW S S' (P ++ [x]) (P' ++ [x']) D D' (by rw [e]; simp) (by rw [e']; simp) (by simp; exact eP) (by simpa using eD) (by simpa using eD')
    have s1 : ((h.set (r + 2) (am_a 0 (P ++ d0 :: D))).set (r + 3) (am_a 0 (P' ++ d0' :: D')))[r]? = some (am_o 3 [x0, x1, am_r (some (r + 2)), am_r (some (r + 3)), x4]) := by rw [am_set_ne (by omega), am_set_ne (by omega)]; exact h1
    have s2 : ((h.set (r + 2) (am_a 0 (P ++ d0 :: D))).set (r + 3) (am_a 0 (P' ++ d0' :: D')))[r + 2]? = some (am_a 0 (P ++ d0 :: D)) := by rw [am_set_ne (by omega)]; exact am_set_at h2
    have t1 : ((h.set (r + 2) (am_a 0 (P ++ d0 :: D))).set (r + 3) (am_a 0 (P' ++ d0' :: D')))[q]? = some (am_o 3 [y0, y1, am_r (some (q + 2)), am_r (some (q + 3)), y4]) := by rw [am_set_ne (by omega), am_set_ne (by omega)]; exact q1
    have t2 : ((h.set (r + 2) (am_a 0 (P ++ d0 :: D))).set (r + 3) (am_a 0 (P' ++ d0' :: D')))[q + 2]? = some (am_a 0 A2) := by rw [am_set_ne (by omega), am_set_ne (by omega)]; exact q2
    have u1 : ((h.set (r + 2) (am_a 0 (P ++ x :: D))).set (r + 3) (am_a 0 (P' ++ d0' :: D')))[r]? = some (am_o 3 [x0, x1, am_r (some (r + 2)), am_r (some (r + 3)), x4]) := by rw [am_set_ne (by omega), am_set_ne (by omega)]; exact h1
    have u3 : ((h.set (r + 2) (am_a 0 (P ++ x :: D))).set (r + 3) (am_a 0 (P' ++ d0' :: D')))[r + 3]? = some (am_a 0 (P' ++ d0' :: D')) := am_set_at (y := z') (by rw [am_set_ne (by omega)]; exact h3)
    have v1 : ((h.set (r + 2) (am_a 0 (P ++ x :: D))).set (r + 3) (am_a 0 (P' ++ d0' :: D')))[q]? = some (am_o 3 [y0, y1, am_r (some (q + 2)), am_r (some (q + 3)), y4]) := by rw [am_set_ne (by omega), am_set_ne (by omega)]; exact q1
    have v3 : ((h.set (r + 2) (am_a 0 (P ++ x :: D))).set (r + 3) (am_a 0 (P' ++ d0' :: D')))[q + 3]? = some (am_a 0 W2) := by rw [am_set_ne (by omega), am_set_ne (by omega)]; exact q3
    have c1 : am_w (P.length : Int) < am_w 3 := by rw [am_w_nat (by omega), am_w_l3]; omega
    have r1 : am_rd A2 (P.length : Int) = some x := by rw [e]; exact am_rd_mid (by omega)
    have r2 : am_rd W2 (P.length : Int) = some x' := by rw [e', eP]; exact am_rd_mid (by omega)
    have w1 : am_wr (P ++ d0 :: D) (P.length : Int) x = some (P ++ x :: D) := am_wr_mid (by omega)
    have w2 : am_wr (P' ++ d0' :: D') (P.length : Int) x' = some (P' ++ x' :: D') := by rw [eP]; exact am_wr_mid (by omega)
    rw [e29_44]
    simp only [e29_45, e29_46, e29_49, e29_50, e29_53, e29_54, e29_55, e29_58, e29_59, e29_60, e29_61, e29_62, e29_65, e29_66, e29_67, e29_70, e29_71, e29_72, e29_73, e29_76, eq_self, am_k1_t, am_bd_s, am_bd_n, am_nl_i, am_nl_r, am_nl_e, am_nl_n, Option.toList_some, Option.toList_none, List.cons_append, List.nil_append, List.getElem?_cons_zero, List.getElem?_cons_succ, List.length_cons, List.length_nil, List.set_cons_zero, List.set_cons_succ, if_pos c1, am_fd_of s1, am_fd_of t1, am_ra_of t2, r1, am_wa_of s2, w1, Option.map_some, am_set_sw (show r + 2 ≠ r + 3 by omega), am_fd_of u1, am_fd_of v1, am_ra_of v3, r2, am_wa_of u3, w2, List.set_set]
    rw [List.length_append, List.append_assoc, List.append_assoc] at ih
    exact ih
theorem X3_copyFrom_w {B0 : List Nat} {A0 W0 : List Int} {n0 : Int} (l0 : LayC h r B0 A0 W0 n0) (l : LayC h q B A Wo ni) (d : r + 4 ≤ q ∨ q + 4 ≤ r) : ∃ h', (∀ E K, Wp E 29 0 [some (am_r (some r)), some (am_r (some q)), none] [] h K = K none h') ∧ LayC h' r B A Wo ni ∧ Fr h h' r 4 := by
  obtain ⟨g0, a0, a1, a2, a3, a4, a5, a6⟩ := l0
  obtain ⟨g, b0, b1, b2, b3, b4, b5, b6⟩ := l
  let O1 : am_C := am_o 3 [am_r (some (r + 1)), am_i (B.length : Int), am_r (some (r + 2)), am_r (some (r + 3)), am_i n0]
  let O2 : am_C := am_o 3 [am_r (some (r + 1)), am_i (B.length : Int), am_r (some (r + 2)), am_r (some (r + 3)), am_i ni]
  have s1 : (h.set r O1)[r]? = some O1 := am_set_at a1
  have s2 : (h.set r O1)[q]? = h[q]? := am_set_ne (by omega)
  have hO : (h.set r O1).set r O2 = h.set r O2 := List.set_set _
  have t1 : (h.set r O2)[r]? = some O2 := am_set_at a1
  have t2 : (h.set r O2)[r + 1]? = some (am_a 0 (pl_c B0 ++ g0)) := by rw [am_set_ne (by omega)]; exact a2
  have t3 : (h.set r O2)[q]? = h[q]? := am_set_ne (by omega)
  have t4 : (h.set r O2)[q + 1]? = h[q + 1]? := am_set_ne (by omega)
  refine ⟨(((h.set r O2).set (r + 1) (am_a 0 (pl_c B ++ g))).set (r + 2) (am_a 0 A)).set (r + 3) (am_a 0 Wo), fun E K => ?_, ⟨g, b0, ?_, ?_, ?_, ?_, b5, b6⟩, (((Fr.rf.set (by omega) (by omega)).set (by omega) (by omega)).set (by omega) (by omega)).set (by omega) (by omega)⟩
  · have l1 := X3_copyFrom_l1 (E := E) (K := K) (h := h.set r O2) (q := q) t1 t2 (t3.trans b1) (t4.trans b2) d (by rw [List.length_append, pl_c_len]; exact b0) (pl_c B ++ g) [] (pl_c B0 ++ g0) rfl (by rw [List.length_append, List.length_append, pl_c_len, pl_c_len]; omega)
    have hh : (h.set r O2).set (r + 1) (am_a 0 (pl_c B0 ++ g0)) = h.set r O2 := am_set_same t2
    rw [List.nil_append, hh] at l1
    have u : ∀ j, j ≠ r + 1 → ((h.set r O2).set (r + 1) (am_a 0 (pl_c B ++ g)))[j]? = (h.set r O2)[j]? := fun j hj => am_set_ne (Ne.symm hj)
    have w2 : ((h.set r O2).set (r + 1) (am_a 0 (pl_c B ++ g)))[r + 2]? = some (am_a 0 A0) := by rw [u _ (by omega), am_set_ne (by omega)]; exact a3
    have w3 : ((h.set r O2).set (r + 1) (am_a 0 (pl_c B ++ g)))[r + 3]? = some (am_a 0 W0) := by rw [u _ (by omega), am_set_ne (by omega)]; exact a4
    have l2 := X3_copyFrom_l2 (E := E) (K := K) (r := r) (q := q) (h := (h.set r O2).set (r + 1) (am_a 0 (pl_c B ++ g))) (by rw [u _ (by omega)]; exact t1) w2 w3 (by rw [u _ (by omega), t3]; exact b1) (by rw [u _ (by omega), am_set_ne (by omega)]; exact b3) (by rw [u _ (by omega), am_set_ne (by omega)]; exact b4) d b5 b6 A Wo [] [] A0 W0 rfl rfl rfl (by omega) (by omega)
    rw [List.nil_append, List.nil_append, am_set_same w2, am_set_same w3] at l2
    simp only [e29_0, e29_1, e29_2, e29_5, e29_8, e29_9, e29_10, e29_13, e29_16, e29_17, eq_self, am_k1_t, am_bd_s, am_bd_n, am_nl_i, am_nl_r, am_nl_e, am_nl_n, Option.toList_some, Option.toList_none, List.cons_append, List.nil_append, List.getElem?_cons_zero, List.getElem?_cons_succ, List.length_cons, List.length_nil, List.set_cons_zero, List.set_cons_succ, am_fd_of b1, am_fu_of a1 (show 1 < [am_r (some (r + 1)), am_i (B0.length : Int), am_r (some (r + 2)), am_r (some (r + 3)), am_i n0].length from by simp)]
    have s1x : (h.set r (am_o 3 [am_r (some (r + 1)), am_i (B.length : Int), am_r (some (r + 2)), am_r (some (r + 3)), am_i n0]))[r]? = some (am_o 3 [am_r (some (r + 1)), am_i (B.length : Int), am_r (some (r + 2)), am_r (some (r + 3)), am_i n0]) := s1
    have v1 : (h.set r (am_o 3 [am_r (some (r + 1)), am_i (B.length : Int), am_r (some (r + 2)), am_r (some (r + 3)), am_i n0]))[q]? = some (am_o 3 [am_r (some (q + 1)), am_i (B.length : Int), am_r (some (q + 2)), am_r (some (q + 3)), am_i ni]) := s2.trans b1
    simp only [am_fd_of v1, e29_13, e29_16, e29_17, eq_self, am_k1_t, am_bd_s, am_bd_n, am_nl_i, am_nl_r, am_nl_e, am_nl_n, Option.toList_some, Option.toList_none, List.cons_append, List.nil_append, List.getElem?_cons_zero, List.getElem?_cons_succ, List.length_cons, List.length_nil, List.set_cons_zero, List.set_cons_succ, am_fu_of s1x (show 4 < [am_r (some (r + 1)), am_i (B.length : Int), am_r (some (r + 2)), am_r (some (r + 3)), am_i n0].length from by simp), List.set_set]
    refine Eq.trans l1 ?_
    simp only [e29_42, e29_43, eq_self, am_k1_t, am_bd_s, am_bd_n, am_nl_i, am_nl_r, am_nl_e, am_nl_n, Option.toList_some, Option.toList_none, List.cons_append, List.nil_append, List.getElem?_cons_zero, List.getElem?_cons_succ, List.length_cons, List.length_nil, List.set_cons_zero, List.set_cons_succ]
    exact l2
  · rw [am_set_ne (by omega), am_set_ne (by omega), am_set_ne (by omega)]; exact t1
  · rw [am_set_ne (by omega), am_set_ne (by omega)]; exact am_set_at t2
  · rw [am_set_ne (by omega)]; exact am_set_at (y := am_a 0 A0) (by rw [am_set_ne (by omega), am_set_ne (by omega)]; exact a3)
  · exact am_set_at (y := am_a 0 W0) (by rw [am_set_ne (by omega), am_set_ne (by omega), am_set_ne (by omega)]; exact a4)
end LAY3
