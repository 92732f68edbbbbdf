theorem X3_levelOf_l {E : List (List Int)} {h : am_H} {K : Option am_V → am_H → Prop} {o a b : Nat} {x2 x3 x4 : am_V} {B : List Nat} {g : List Int} (ho : h[o]? = some (am_o 3 [am_r (some a), am_i (B.length : Int), x2, x3, x4])) (ha : h[a]? = some (am_a 0 (pl_c B ++ g))) (hB : B.length ≤ 6) (hx : ∀ x ∈ B, x < 6) (hb : b < 6) :
    ∀ (S P : List Nat), B = P ++ S → Wp E 32 2 [some (am_r (some o)), some (am_i (b : Int)), some (am_i (P.length : Int))] [] h K = K (some (am_i (pl_ix b S P.length))) h
  | [], P, e => by
    have e1 : P.length = B.length := by rw [e, List.append_nil]
    rw [e32_2]
    simp only [e32_0, e32_1, e32_3, e32_4, e32_7, e32_10, e32_11, e32_14, e32_15, e32_16, e32_17, e32_20, e32_21, e32_22, e32_25, e32_28, e32_30, eq_self, am_k1_t, am_bd_s, am_bd_n, am_nl_i, am_nl_r, am_nl_e, am_nl_n, Option.toList_some, Option.toList_none, List.cons_append, List.nil_append, List.getElem?_cons_zero, List.getElem?_cons_succ, List.length_cons, List.length_nil, List.set_cons_zero, List.set_cons_succ, am_fd_of ho, e1, Int.lt_irrefl, if_false, pl_ix]
  | x :: S, P, e => by
    have e1 : B.length = P.length + (S.length + 1) := by rw [e, List.length_append]; rfl
    have e2 : pl_c B ++ g = pl_c P ++ (x : Int) :: (pl_c S ++ g) := by rw [e, pl_c_app, pl_c_cons, List.append_assoc]; rfl
    have h6 : x < 6 := hx x (by rw [e]; simp)
    have ih := X3_levelOf_l (E := E) (K := K) ho ha hB hx hb S (P ++ [x]) (by rw [e]; simp)
    rw [e32_2]
    have r1 : am_rd (pl_c B ++ g) (P.length : Int) = some (x : Int) := by
      rw [e2, ← pl_c_len P]
      exact am_rd_mid (by rw [pl_c_len]; omega)
    have c1 : am_w (P.length : Int) < am_w (B.length : Int) := by rw [am_w_nat (by omega), am_w_nat (by omega)]; omega
    simp only [e32_0, e32_1, e32_3, e32_4, e32_7, e32_10, e32_11, e32_14, e32_15, e32_16, e32_17, e32_20, e32_21, e32_22, e32_25, e32_28, e32_30, eq_self, am_k1_t, am_bd_s, am_bd_n, am_nl_i, am_nl_r, am_nl_e, am_nl_n, Option.toList_some, Option.toList_none, List.cons_append, List.nil_append, List.getElem?_cons_zero, List.getElem?_cons_succ, List.length_cons, List.length_nil, List.set_cons_zero, List.set_cons_succ, am_fd_of ho, if_pos c1, am_ra_of ha, r1, am_w_nat (show x ≤ 2147483647 by omega), am_w_nat (show b ≤ 2147483647 by omega), Int.ofNat_inj, Int.natCast_inj, pl_ix]
    by_cases q : x = b
    · rw [if_pos q, if_pos q]
    · rw [if_neg q, if_neg q]
      rw [List.length_append] at ih
      exact ih
theorem X3_levelOf_w {E : List (List Int)} {h : am_H} {K : Option am_V → am_H → Prop} {o a b : Nat} {x2 x3 x4 : am_V} {B : List Nat} {g : List Int} (ho : h[o]? = some (am_o 3 [am_r (some a), am_i (B.length : Int), x2, x3, x4])) (ha : h[a]? = some (am_a 0 (pl_c B ++ g))) (hB : B.length ≤ 6) (hx : ∀ x ∈ B, x < 6) (hb : b < 6) :
    Wp E 32 0 [some (am_r (some o)), some (am_i (b : Int)), none] [] h K = K (some (am_i (pl_ix b B 0))) h := by
  simp only [e32_0, e32_1, eq_self, am_k1_t, am_bd_s, am_bd_n, am_nl_i, am_nl_r, am_nl_e, am_nl_n, Option.toList_some, Option.toList_none, List.cons_append, List.nil_append, List.getElem?_cons_zero, List.getElem?_cons_succ, List.length_cons, List.length_nil, List.set_cons_zero, List.set_cons_succ]
  exact X3_levelOf_l ho ha hB hx hb B [] rfl
