theorem am_set_same {h : am_H} {a : Nat} {x : am_C} (e : h[a]? = some x) : h.set a x = h := by
  apply List.ext_getElem?
  intro i
  by_cases q : a = i
  · subst q
    rw [am_set_at e, e]
  · rw [am_set_ne q]
section LAY2
variable {E : List (List Int)} {h : am_H} {K : Option am_V → am_H → Prop} {r b : Nat} {B : List Nat} {A Wo : List Int} {ni : Int}
theorem X3_takeOff_no (l : LayC h r B A Wo ni) (hx : ∀ x ∈ B, x < 6) (hb : b < 6) (hm : b ∉ B) : Wp E 33 0 [some (am_r (some r)), some (am_i (b : Int)), none, none] [] h K = K (some (am_i 0)) h := by
  have lw := fun E K => X3_levelOf_c (E := E) (K := K) l hx hb
  obtain ⟨g, h0, h1, h2, h3, h4, h5⟩ := l
  simp only [e33_0, e33_1, e33_2, eq_self, am_k1_t, am_bd_s, am_bd_n, am_nl_i, am_nl_r, am_nl_e, am_nl_n, Option.toList_some, Option.toList_none, List.cons_append, List.nil_append, List.getElem?_cons_zero, List.getElem?_cons_succ, List.length_cons, List.length_nil, List.set_cons_zero, List.set_cons_succ, am_oc_of h1, lw, pl_ix_no hm]
  simp only [e33_5, e33_6, e33_7, e33_9, e33_12, e33_13, eq_self, am_k1_t, am_bd_s, am_bd_n, am_nl_i, am_nl_r, am_nl_e, am_nl_n, Option.toList_some, Option.toList_none, List.cons_append, List.nil_append, List.getElem?_cons_zero, List.getElem?_cons_succ, List.length_cons, List.length_nil, List.set_cons_zero, List.set_cons_succ, if_true]
  simp
theorem X3_takeOff_l {lv : Int} {n : Nat} {g : List Int} {y0 : am_C} {x2 x3 x4 : am_V} (h1 : h[r]? = some (am_o 3 [am_r (some (r + 1)), am_i (n : Int), x2, x3, x4])) (h2 : h[r + 1]? = some y0) (hn : n ≤ 6) :
    ∀ (S P : List Int) (x : Int), n = P.length + 1 + S.length → Wp E 33 16 [some (am_r (some r)), some (am_i (b : Int)), some (am_i lv), some (am_i (P.length : Int))] [] (h.set (r + 1) (am_a 0 (P ++ x :: (S ++ g)))) K = Wp E 33 46 [some (am_r (some r)), some (am_i (b : Int)), some (am_i lv), some (am_i ((P.length + S.length : Nat) : Int))] [] (h.set (r + 1) (am_a 0 (P ++ (S ++ (S.getLastD x :: g))))) K
  | [], P, x, e => by
    have s1 : (h.set (r + 1) (am_a 0 (P ++ x :: g)))[r]? = some (am_o 3 [am_r (some (r + 1)), am_i (n : Int), x2, x3, x4]) := by rw [am_set_ne (by omega)]; exact h1
    rw [List.length_nil] at e
    have c1 : ¬ am_w ((P.length : Int) + 1) < am_w (n : Int) := by rw [am_w_id (by omega) (by omega), am_w_nat (by omega)]; omega
    rw [e33_16]
    simp only [e33_17, e33_18, e33_19, e33_20, e33_23, eq_self, am_k1_t, am_bd_s, am_bd_n, am_nl_i, am_nl_r, am_nl_e, am_nl_n, Option.toList_some, Option.toList_none, List.cons_append, List.nil_append, List.getElem?_cons_zero, List.getElem?_cons_succ, List.length_cons, List.length_nil, List.set_cons_zero, List.set_cons_succ, am_fd_of s1, if_neg c1]
    simp
  | y :: S, P, x, e => by
    have e0 : n = (P ++ [y]).length + 1 + S.length := by rw [e, List.length_append, List.length_cons, List.length_singleton]; omega
    have ih := X3_takeOff_l (lv := lv) (g := g) h1 h2 hn S (P ++ [y]) y e0
    clear e0
    have s1 : (h.set (r + 1) (am_a 0 (P ++ x :: y :: (S ++ g))))[r]? = some (am_o 3 [am_r (some (r + 1)), am_i (n : Int), x2, x3, x4]) := by rw [am_set_ne (by omega)]; exact h1
    have s2 : (h.set (r + 1) (am_a 0 (P ++ x :: y :: (S ++ g))))[r + 1]? = some (am_a 0 (P ++ x :: y :: (S ++ g))) := am_set_at h2
    rw [List.length_cons] at e
    have c1 : am_w ((P.length : Int) + 1) < am_w (n : Int) := by rw [am_w_id (by omega) (by omega), am_w_nat (by omega)]; omega
    have r1 : am_rd (P ++ x :: y :: (S ++ g)) ((P.length : Int) + 1) = some y := am_rd_at (i := P.length + 1) (by simp) (by omega)
    have w1 : am_wr (P ++ x :: y :: (S ++ g)) (P.length : Int) y = some (P ++ y :: y :: (S ++ g)) := am_wr_mid (by omega)
    rw [e33_16]
    simp only [e33_17, e33_18, e33_19, e33_20, e33_23, e33_26, e33_27, e33_30, e33_31, e33_32, e33_35, e33_36, e33_37, e33_38, e33_39, e33_40, e33_43, eq_self, am_k1_t, am_bd_s, am_bd_n, am_nl_i, am_nl_r, am_nl_e, am_nl_n, Option.toList_some, Option.toList_none, List.cons_append, List.nil_append, List.getElem?_cons_zero, List.getElem?_cons_succ, List.length_cons, List.length_nil, List.set_cons_zero, List.set_cons_succ, am_fd_of s1, if_pos c1, am_ra_of s2, r1, am_wa_of s2, w1, Option.map_some, List.set_set]
    have e3 : P ++ [y] ++ y :: (S ++ g) = P ++ y :: (y :: (S ++ g)) := by simp
    rw [List.length_append, e3] at ih
    have e4 : P ++ [y] ++ (S ++ (S.getLastD y :: g)) = P ++ (y :: (S ++ ((y :: S).getLastD x :: g))) := by cases S <;> simp [List.getLastD]
    rw [e4] at ih
    have e5 : P.length + [y].length + S.length = P.length + (y :: S).length := by simp; omega
    rw [e5] at ih
    exact ih
theorem X3_takeOff_w {P S : List Nat} (l : LayC h r (P ++ b :: S) A Wo ni) (hx : ∀ x ∈ P ++ b :: S, x < 6) (hb : b < 6) (hm : b ∉ P) : ∃ h', (∀ E K, Wp E 33 0 [some (am_r (some r)), some (am_i (b : Int)), none, none] [] h K = K (some (am_i 1)) h') ∧ LayC h' r (P ++ S) A Wo ni ∧ Fr h h' r 2 := by
  have lw := fun E K => X3_levelOf_c (E := E) (K := K) l hx hb
  obtain ⟨g, h0, h1, h2, h3, h4, h5⟩ := l
  have hn : (P ++ b :: S).length = P.length + 1 + S.length := by simp; omega
  have e1 : pl_c (P ++ b :: S) ++ g = pl_c P ++ (b : Int) :: (pl_c S ++ g) := by rw [pl_c_app, pl_c_cons, List.append_assoc]; rfl
  have hh : h = h.set (r + 1) (am_a 0 (pl_c P ++ (b : Int) :: (pl_c S ++ g))) := by rw [← e1]; exact (am_set_same h2).symm
  obtain ⟨g', hg'⟩ : ∃ g', g' = (pl_c S).getLastD (b : Int) :: g := ⟨_, rfl⟩
  have s1 : (h.set (r + 1) (am_a 0 (pl_c P ++ (pl_c S ++ g'))))[r]? = some (am_o 3 [am_r (some (r + 1)), am_i ((P ++ b :: S).length : Int), am_r (some (r + 2)), am_r (some (r + 3)), am_i ni]) := by rw [am_set_ne (by omega)]; exact h1
  refine ⟨(h.set (r + 1) (am_a 0 (pl_c P ++ (pl_c S ++ g')))).set r (am_o 3 [am_r (some (r + 1)), am_i (((P ++ b :: S).length : Int) - 1), am_r (some (r + 2)), am_r (some (r + 3)), am_i ni]), fun E K => ?_, ⟨g', ?_, ?_, ?_, ?_, ?_, h5⟩, (Fr.rf.set (by omega) (by omega)).set (by omega) (by omega)⟩
  · have c2 : ¬ am_w ((0 + P.length : Nat) : Int) = am_w (-9) := by rw [am_w_nat (by omega), am_w_m9]; omega
    simp only [e33_0, e33_1, e33_2, eq_self, am_k1_t, am_bd_s, am_bd_n, am_nl_i, am_nl_r, am_nl_e, am_nl_n, Option.toList_some, Option.toList_none, List.cons_append, List.nil_append, List.getElem?_cons_zero, List.getElem?_cons_succ, List.length_cons, List.length_nil, List.set_cons_zero, List.set_cons_succ, am_oc_of h1, lw, pl_ix_at hm]
    simp only [e33_5, e33_6, e33_7, e33_9, e33_12, e33_13, e33_14, e33_15, eq_self, am_k1_t, am_bd_s, am_bd_n, am_nl_i, am_nl_r, am_nl_e, am_nl_n, Option.toList_some, Option.toList_none, List.cons_append, List.nil_append, List.getElem?_cons_zero, List.getElem?_cons_succ, List.length_cons, List.length_nil, List.set_cons_zero, List.set_cons_succ, if_neg c2]
    have lp := X3_takeOff_l (E := E) (K := K) (b := b) (lv := ((0 + P.length : Nat) : Int)) (g := g) h1 h2 (by omega) (pl_c S) (pl_c P) (b : Int) (by rw [pl_c_len, pl_c_len]; exact hn)
    rw [pl_c_len, ← hh] at lp
    rw [Nat.zero_add] at lp ⊢
    rw [lp, ← hg']
    simp only [e33_46, e33_47, e33_48, e33_51, e33_52, e33_53, e33_56, e33_57, eq_self, am_k1_t, am_bd_s, am_bd_n, am_nl_i, am_nl_r, am_nl_e, am_nl_n, Option.toList_some, Option.toList_none, List.cons_append, List.nil_append, List.getElem?_cons_zero, List.getElem?_cons_succ, List.length_cons, List.length_nil, List.set_cons_zero, List.set_cons_succ, am_fd_of s1, am_fu_of s1 (show 1 < [am_r (some (r + 1)), am_i ((P ++ b :: S).length : Int), am_r (some (r + 2)), am_r (some (r + 3)), am_i ni].length from by simp)]
    simp
  · rw [hg', List.length_cons, List.length_append]; omega
  · rw [am_set_at s1, hn, List.length_append]
    congr 5
    omega
  · rw [am_set_ne (by omega), am_set_at h2, pl_c_app, List.append_assoc]
  · rw [am_set_ne (by omega), am_set_ne (by omega)]; exact h3
  · rw [am_set_ne (by omega), am_set_ne (by omega)]; exact h4
theorem X3_swapLevels_w {xs : List Int} {i j : Nat} {x1 x2 x3 x4 : am_V} (h1 : h[r]? = some (am_o 3 [am_r (some (r + 1)), x1, x2, x3, x4])) (h2 : h[r + 1]? = some (am_a 0 xs)) (hi : i < xs.length) (hj : j < xs.length) (hl : xs.length ≤ 6) : Wp E 36 0 [some (am_r (some r)), some (am_i (i : Int)), some (am_i (j : Int)), none] [] h K = K none (h.set (r + 1) (am_a 0 ((xs.set i (xs.getD j 0)).set j (xs.getD i 0)))) := by
  have s1 : (h.set (r + 1) (am_a 0 (xs.set i (xs.getD j 0))))[r]? = some (am_o 3 [am_r (some (r + 1)), x1, x2, x3, x4]) := by rw [am_set_ne (by omega)]; exact h1
  have s2 : (h.set (r + 1) (am_a 0 (xs.set i (xs.getD j 0))))[r + 1]? = some (am_a 0 (xs.set i (xs.getD j 0))) := am_set_at h2
  simp only [e36_0, e36_1, e36_4, e36_5, e36_6, e36_7, e36_8, e36_11, e36_12, e36_13, e36_16, e36_17, e36_18, e36_19, e36_20, e36_23, e36_24, e36_25, e36_26, eq_self, am_k1_t, am_bd_s, am_bd_n, am_nl_i, am_nl_r, am_nl_e, am_nl_n, Option.toList_some, Option.toList_none, List.cons_append, List.nil_append, List.getElem?_cons_zero, List.getElem?_cons_succ, List.length_cons, List.length_nil, List.set_cons_zero, List.set_cons_succ, am_fd_of h1, am_ra_of h2, am_rd_nat hi (by omega), am_rd_nat hj (by omega), am_wa_of h2, am_wr_nat _ hi (by omega), Option.map_some, am_fd_of s1, am_wa_of s2, am_wr_nat (xs := xs.set i (xs.getD j 0)) (xs.getD i 0) (show j < (xs.set i (xs.getD j 0)).length from by rw [List.length_set]; exact hj) (by omega), List.set_set]
theorem pl_swap {P T : List Int} {x y : Int} : (((P ++ x :: y :: T).set (P.length + 1) ((P ++ x :: y :: T).getD P.length 0)).set P.length ((P ++ x :: y :: T).getD (P.length + 1) 0)) = P ++ y :: x :: T := by
  simp [List.getD_eq_getElem?_getD, List.set_append]
theorem X3_tuckUnder_l {T : List Int} {x1 x2 x3 x4 : am_V} {y0 : am_C} (h1 : h[r]? = some (am_o 3 [am_r (some (r + 1)), x1, x2, x3, x4])) (h2 : h[r + 1]? = some y0) :
    ∀ (n : Nat) (P T : List Int), P.length = n → P.length + 1 + T.length = 6 → Wp E 35 17 [some (am_r (some r)), some (am_i (b : Int)), some (am_i (P.length : Int))] [] (h.set (r + 1) (am_a 0 (P ++ (b : Int) :: T))) K = K (some (am_i 1)) (h.set (r + 1) (am_a 0 ((b : Int) :: (P ++ T))))
  | 0, P, T, e, e2 => by
    obtain rfl := List.length_eq_zero_iff.mp e
    rw [e35_17]
    have c0 : ¬ 0 < am_w (([] : List Int).length : Int) := by decide
    simp only [e35_18, e35_21, e35_22, e35_23, e35_24, e35_25, e35_26, e35_29, e35_32, e35_35, e35_36, if_neg c0]
    simp
  | n + 1, P, T, e, e2 => by
    obtain ⟨P', x, rfl⟩ : ∃ P' x, P = P' ++ [x] := ⟨P.dropLast, P.getLast (by intro q; rw [q] at e; cases e), (List.dropLast_concat_getLast _).symm⟩
    have ih := X3_tuckUnder_l (T := T) h1 h2 n P' (x :: T) (by simpa using e) (by simp at e2 ⊢; omega)
    have hl : (P' ++ [x]).length = P'.length + 1 := by simp
    have ea : P' ++ [x] ++ (b : Int) :: T = P' ++ x :: (b : Int) :: T := by simp
    rw [hl, ea]
    rw [hl] at e2
    have s1 : (h.set (r + 1) (am_a 0 (P' ++ x :: (b : Int) :: T)))[r]? = some (am_o 3 [am_r (some (r + 1)), x1, x2, x3, x4]) := by rw [am_set_ne (by omega)]; exact h1
    have s2 : (h.set (r + 1) (am_a 0 (P' ++ x :: (b : Int) :: T)))[r + 1]? = some (am_a 0 (P' ++ x :: (b : Int) :: T)) := am_set_at h2
    have c1 : 0 < am_w ((P'.length + 1 : Nat) : Int) := by rw [am_w_nat (by omega)]; omega
    have e9 : ((P'.length + 1 : Nat) : Int) - 1 = (P'.length : Int) := by omega
    have e10 : ((P'.length + 1 : Nat) : Int) + (-1) = (P'.length : Int) := by omega
    have sw := fun E K => X3_swapLevels_w (E := E) (K := K) (i := P'.length + 1) (j := P'.length) s1 s2 (by simp) (by simp) (by simp; omega)
    rw [e35_17]
    simp only [e35_18, e35_21, e35_22, e35_23, e35_24, e35_25, e35_26, eq_self, am_k1_t, am_bd_s, am_bd_n, am_nl_i, am_nl_r, am_nl_e, am_nl_n, Option.toList_some, Option.toList_none, List.cons_append, List.nil_append, List.getElem?_cons_zero, List.getElem?_cons_succ, List.length_cons, List.length_nil, List.set_cons_zero, List.set_cons_succ, if_pos c1, am_oc_of s1, e9, sw, pl_swap, List.set_set]
    simp only [e35_29, e35_32, eq_self, am_k1_t, am_bd_s, am_bd_n, am_nl_i, am_nl_r, am_nl_e, am_nl_n, Option.toList_some, Option.toList_none, List.cons_append, List.nil_append, List.getElem?_cons_zero, List.getElem?_cons_succ, List.length_cons, List.length_nil, List.set_cons_zero, List.set_cons_succ, e10]
    rw [ih]
    simp
end LAY2
