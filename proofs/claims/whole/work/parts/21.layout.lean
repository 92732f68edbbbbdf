theorem X3_levelOf_l {E : List (List Int)} {h : am_H} {K : Option am_V → am_H → Prop} {o a b : Nat} {x2 x3 x4 : am_V} {B : List Nat} {g : List Int} (ho : h[o]? = some (am_o 3 [am_r (some a), am_i (B.length : Int), x2, x3, x4])) (ha : h[a]? = some (am_a 0 (pl_c B ++ g))) (hB : B.length ≤ 6) (hx : ∀ x ∈ B, x < 6) (hb : b < 6) :
    ∀ (S P : List Nat), B = P ++ S → Wp E 32 2 [some (am_r (some o)), some (am_i (b : Int)), some (am_i (P.length : Int))] [] h K = K (some (am_i (pl_ix b S P.length))) h
  | [], P, e => by
    have e1 : P.length = B.length := by rw [e, List.append_nil]
    rw [e32_2]
    simp only [e32_0, e32_1, e32_3, e32_4, e32_7, e32_10, e32_11, e32_14, e32_15, e32_16, e32_17, e32_20, e32_21, e32_22, e32_25, e32_28, e32_30, eq_self, am_k1_t, am_bd_s, am_bd_n, am_nl_i, am_nl_r, am_nl_e, am_nl_n, Option.toList_some, Option.toList_none, List.cons_append, List.nil_append, List.getElem?_cons_zero, List.getElem?_cons_succ, List.length_cons, List.length_nil, List.set_cons_zero, List.set_cons_succ, am_fd_of ho, e1, Int.lt_irrefl, if_false, pl_ix]
  | x :: S, P, e => by
    have e1 : B.length = P.length + (S.length + 1) := by rw [e, List.length_append]; rfl
    have e2 : pl_c B ++ g = pl_c P ++ (x : Int) :: (pl_c S ++ g) := by rw [e, pl_c_app, pl_c_cons, List.append_assoc]; rfl
    have h6 : x < 6 := hx x (by rw [e]; simp)
    have ih := X3_levelOf_l (E := E) (K := K) ho ha hB hx hb S (P ++ [x]) (by rw [e]; simp)
    rw [e32_2]
    have r1 : am_rd (pl_c B ++ g) (P.length : Int) = some (x : Int) := by
      rw [e2, ← pl_c_len P]
      exact am_rd_mid (by rw [pl_c_len]; omega)
    have c1 : am_w (P.length : Int) < am_w (B.length : Int) := by rw [am_w_nat (by omega), am_w_nat (by omega)]; omega
    simp only [e32_0, e32_1, e32_3, e32_4, e32_7, e32_10, e32_11, e32_14, e32_15, e32_16, e32_17, e32_20, e32_21, e32_22, e32_25, e32_28, e32_30, eq_self, am_k1_t, am_bd_s, am_bd_n, am_nl_i, am_nl_r, am_nl_e, am_nl_n, Option.toList_some, Option.toList_none, List.cons_append, List.nil_append, List.getElem?_cons_zero, List.getElem?_cons_succ, List.length_cons, List.length_nil, List.set_cons_zero, List.set_cons_succ, am_fd_of ho, if_pos c1, am_ra_of ha, r1, am_w_nat (show x ≤ 2147483647 by omega), am_w_nat (show b ≤ 2147483647 by omega), Int.ofNat_inj, Int.natCast_inj, pl_ix]
    by_cases q : x = b
    · rw [if_pos q, if_pos q]
    · rw [if_neg q, if_neg q]
      rw [List.length_append] at ih
      exact ih
theorem X3_levelOf_w {E : List (List Int)} {h : am_H} {K : Option am_V → am_H → Prop} {o a b : Nat} {x2 x3 x4 : am_V} {B : List Nat} {g : List Int} (ho : h[o]? = some (am_o 3 [am_r (some a), am_i (B.length : Int), x2, x3, x4])) (ha : h[a]? = some (am_a 0 (pl_c B ++ g))) (hB : B.length ≤ 6) (hx : ∀ x ∈ B, x < 6) (hb : b < 6) :
    Wp E 32 0 [some (am_r (some o)), some (am_i (b : Int)), none] [] h K = K (some (am_i (pl_ix b B 0))) h := by
  simp only [e32_0, e32_1, eq_self, am_k1_t, am_bd_s, am_bd_n, am_nl_i, am_nl_r, am_nl_e, am_nl_n, Option.toList_some, Option.toList_none, List.cons_append, List.nil_append, List.getElem?_cons_zero, List.getElem?_cons_succ, List.length_cons, List.length_nil, List.set_cons_zero, List.set_cons_succ]
  exact X3_levelOf_l ho ha hB hx hb B [] rfl
theorem pl_ix_no {b : Nat} : ∀ {B : List Nat} {i : Nat}, b ∉ B → pl_ix b B i = -9
  | [], _, _ => rfl
  | x :: B, i, h => by
    rw [pl_ix, if_neg (fun e => h (by rw [e]; exact List.mem_cons_self)), pl_ix_no (fun e => h (List.mem_cons_of_mem _ e))]
theorem pl_ix_at {b : Nat} {S : List Nat} : ∀ {P : List Nat} {i : Nat}, b ∉ P → pl_ix b (P ++ b :: S) i = ((i + P.length : Nat) : Int)
  | [], i, _ => by simp [pl_ix]
  | x :: P, i, h => by
    rw [List.cons_append, pl_ix, if_neg (fun e => h (by rw [e]; exact List.mem_cons_self)), pl_ix_at (fun e => h (List.mem_cons_of_mem _ e))]
    rw [List.length_cons]
    congr 1
    omega
theorem pl_split {b : Nat} : ∀ {B : List Nat}, b ∈ B → ∃ P S, B = P ++ b :: S ∧ b ∉ P
  | [], h => by cases h
  | x :: B, h => by
    by_cases e : x = b
    · exact ⟨[], B, by rw [e]; rfl, List.not_mem_nil⟩
    · rcases List.mem_cons.mp h with h | h
      · exact absurd h.symm e
      · obtain ⟨P, S, e1, e2⟩ := pl_split h
        exact ⟨x :: P, S, by rw [e1]; rfl, fun q => by
          rcases List.mem_cons.mp q with q | q
          · exact e q.symm
          · exact e2 q⟩
def pl_ob (a : Int) (x : Nat) : Int := am_or a (am_shl 1 (x : Int))
def pl_of (a : Int) (x : Nat) : Int := 10 * a + (x : Int) + 1
section LAY
variable {E : List (List Int)} {h : am_H} {K : Option am_V → am_H → Prop} {r b : Nat} {B : List Nat} {A Wo : List Int} {ni : Int}
theorem X3_levelOf_c (l : LayC h r B A Wo ni) (hx : ∀ x ∈ B, x < 6) (hb : b < 6) : Wp E 32 0 [some (am_r (some r)), some (am_i (b : Int)), none] [] h K = K (some (am_i (pl_ix b B 0))) h := by
  obtain ⟨g, h0, h1, h2, h3, h4, h5⟩ := l
  exact X3_levelOf_w h1 h2 (by omega) hx hb
theorem X3_blanketAt_w {P S : List Nat} {x : Nat} (l : LayC h r (P ++ x :: S) A Wo ni) : Wp E 31 0 [some (am_r (some r)), some (am_i (P.length : Int))] [] h K = K (some (am_i (x : Int))) h := by
  obtain ⟨g, h0, h1, h2, h3, h4, h5⟩ := l
  rw [List.length_append, List.length_cons] at h0
  have e2 : am_rd (pl_c (P ++ x :: S) ++ g) (P.length : Int) = some (x : Int) := by
    rw [pl_c_app, pl_c_cons, List.append_assoc, ← pl_c_len P]
    exact am_rd_mid (by rw [pl_c_len]; omega)
  have c0 : ¬ am_w (P.length : Int) < 0 := by rw [am_w_nat (by omega)]; omega
  have c1 : am_w (P.length : Int) < am_w ((P ++ x :: S).length : Int) := by rw [List.length_append, List.length_cons, am_w_nat (by omega), am_w_nat (by omega)]; omega
  simp only [e31_0, e31_1, e31_4, e31_5, e31_6, e31_9, e31_12, e31_13, e31_16, e31_17, e31_18, e31_21, e31_23, eq_self, am_k1_t, am_bd_s, am_bd_n, am_nl_i, am_nl_r, am_nl_e, am_nl_n, Option.toList_some, Option.toList_none, List.cons_append, List.nil_append, List.getElem?_cons_zero, List.getElem?_cons_succ, List.length_cons, List.length_nil, List.set_cons_zero, List.set_cons_succ, am_fd_of h1, am_ra_of h2, if_neg c0, if_pos c1, e2]
theorem X3_asBits_l (l : LayC h r B A Wo ni) : ∀ (S P : List Nat) (y : Int), B = P ++ S → Wp E 37 4 [some (am_r (some r)), some (am_i y), some (am_i (P.length : Int))] [] h K = K (some (am_i (S.foldl pl_ob y))) h
  | [], P, y, e => by
    obtain ⟨g, h0, h1, h2, h3, h4, h5⟩ := l
    have e1 : P.length = B.length := by rw [e, List.append_nil]
    rw [e37_4]
    simp only [e37_0, e37_1, e37_2, e37_3, e37_5, e37_6, e37_9, e37_12, e37_13, e37_14, e37_15, e37_18, e37_19, e37_20, e37_21, e37_22, e37_23, e37_26, e37_29, e37_30, eq_self, am_k1_t, am_bd_s, am_bd_n, am_nl_i, am_nl_r, am_nl_e, am_nl_n, Option.toList_some, Option.toList_none, List.cons_append, List.nil_append, List.getElem?_cons_zero, List.getElem?_cons_succ, List.length_cons, List.length_nil, List.set_cons_zero, List.set_cons_succ, am_fd_of h1, e1, Int.lt_irrefl, if_false, List.foldl_nil]
  | x :: S, P, y, e => by
    have ih := X3_asBits_l l S (P ++ [x]) (pl_ob y x) (by rw [e]; simp)
    obtain ⟨g, h0, h1, h2, h3, h4, h5⟩ := l
    have e1 : B.length = P.length + (S.length + 1) := by rw [e, List.length_append]; rfl
    have r1 : am_rd (pl_c B ++ g) (P.length : Int) = some (x : Int) := by
      rw [e, pl_c_app, pl_c_cons, List.append_assoc, ← pl_c_len P]
      exact am_rd_mid (by rw [pl_c_len]; omega)
    have c1 : am_w (P.length : Int) < am_w (B.length : Int) := by rw [am_w_nat (by omega), am_w_nat (by omega)]; omega
    rw [e37_4]
    simp only [e37_0, e37_1, e37_2, e37_3, e37_5, e37_6, e37_9, e37_12, e37_13, e37_14, e37_15, e37_18, e37_19, e37_20, e37_21, e37_22, e37_23, e37_26, e37_29, e37_30, eq_self, am_k1_t, am_bd_s, am_bd_n, am_nl_i, am_nl_r, am_nl_e, am_nl_n, Option.toList_some, Option.toList_none, List.cons_append, List.nil_append, List.getElem?_cons_zero, List.getElem?_cons_succ, List.length_cons, List.length_nil, List.set_cons_zero, List.set_cons_succ, am_fd_of h1, if_pos c1, am_ra_of h2, r1, List.foldl_cons]
    rw [List.length_append] at ih
    exact ih
theorem X3_asFigures_l (l : LayC h r B A Wo ni) : ∀ (S P : List Nat) (y : Int), B = P ++ S → Wp E 38 4 [some (am_r (some r)), some (am_i y), some (am_i (P.length : Int))] [] h K = K (some (am_i (S.foldl pl_of y))) h
  | [], P, y, e => by
    obtain ⟨g, h0, h1, h2, h3, h4, h5⟩ := l
    have e1 : P.length = B.length := by rw [e, List.append_nil]
    rw [e38_4]
    simp only [e38_0, e38_1, e38_2, e38_3, e38_5, e38_6, e38_9, e38_12, e38_14, e38_15, e38_16, e38_17, e38_20, e38_21, e38_22, e38_23, e38_24, e38_25, e38_26, e38_29, e38_32, e38_33, eq_self, am_k1_t, am_bd_s, am_bd_n, am_nl_i, am_nl_r, am_nl_e, am_nl_n, Option.toList_some, Option.toList_none, List.cons_append, List.nil_append, List.getElem?_cons_zero, List.getElem?_cons_succ, List.length_cons, List.length_nil, List.set_cons_zero, List.set_cons_succ, am_fd_of h1, e1, Int.lt_irrefl, if_false, List.foldl_nil]
  | x :: S, P, y, e => by
    have ih := X3_asFigures_l l S (P ++ [x]) (pl_of y x) (by rw [e]; simp)
    obtain ⟨g, h0, h1, h2, h3, h4, h5⟩ := l
    have e1 : B.length = P.length + (S.length + 1) := by rw [e, List.length_append]; rfl
    have r1 : am_rd (pl_c B ++ g) (P.length : Int) = some (x : Int) := by
      rw [e, pl_c_app, pl_c_cons, List.append_assoc, ← pl_c_len P]
      exact am_rd_mid (by rw [pl_c_len]; omega)
    have c1 : am_w (P.length : Int) < am_w (B.length : Int) := by rw [am_w_nat (by omega), am_w_nat (by omega)]; omega
    rw [e38_4]
    simp only [e38_0, e38_1, e38_2, e38_3, e38_5, e38_6, e38_9, e38_12, e38_14, e38_15, e38_16, e38_17, e38_20, e38_21, e38_22, e38_23, e38_24, e38_25, e38_26, e38_29, e38_32, e38_33, eq_self, am_k1_t, am_bd_s, am_bd_n, am_nl_i, am_nl_r, am_nl_e, am_nl_n, Option.toList_some, Option.toList_none, List.cons_append, List.nil_append, List.getElem?_cons_zero, List.getElem?_cons_succ, List.length_cons, List.length_nil, List.set_cons_zero, List.set_cons_succ, am_fd_of h1, if_pos c1, am_ra_of h2, r1, List.foldl_cons]
    rw [List.length_append] at ih
    exact ih
def pl_bits (B : List Nat) : Int := B.foldl pl_ob 0
def pl_figs (B : List Nat) : Int := B.foldl pl_of 0
theorem X3_asBits_w (l : LayC h r B A Wo ni) : Wp E 37 0 [some (am_r (some r)), none, none] [] h K = K (some (am_i (pl_bits B))) h := by
  simp only [e37_0, e37_1, e37_2, e37_3, eq_self, am_k1_t, am_bd_s, am_bd_n, am_nl_i, am_nl_r, am_nl_e, am_nl_n, Option.toList_some, Option.toList_none, List.cons_append, List.nil_append, List.getElem?_cons_zero, List.getElem?_cons_succ, List.length_cons, List.length_nil, List.set_cons_zero, List.set_cons_succ]
  exact X3_asBits_l l B [] 0 rfl
theorem X3_asFigures_w (l : LayC h r B A Wo ni) : Wp E 38 0 [some (am_r (some r)), none, none] [] h K = K (some (am_i (pl_figs B))) h := by
  simp only [e38_0, e38_1, e38_2, e38_3, eq_self, am_k1_t, am_bd_s, am_bd_n, am_nl_i, am_nl_r, am_nl_e, am_nl_n, Option.toList_some, Option.toList_none, List.cons_append, List.nil_append, List.getElem?_cons_zero, List.getElem?_cons_succ, List.length_cons, List.length_nil, List.set_cons_zero, List.set_cons_succ]
  exact X3_asFigures_l l B [] 0 rfl
/-- one on top -/
theorem X3_layOnTop_no (l : LayC h r B A Wo ni) (hx : ∀ x ∈ B, x < 6) (hb : b < 6) (hm : b ∈ B) : Wp E 34 0 [some (am_r (some r)), some (am_i (b : Int))] [] h K = K (some (am_i 0)) h := by
  obtain ⟨P, S, e, hP⟩ := pl_split hm
  have lw := X3_levelOf_c (E := E) (K := fun v h' => Wp E 34 14 [some (am_r (some r)), some (am_i (b : Int))] (v.toList ++ []) h' K) l hx hb
  obtain ⟨g, h0, h1, h2, h3, h4, h5⟩ := l
  have e1 : pl_ix b B 0 = ((0 + P.length : Nat) : Int) := by rw [e]; exact pl_ix_at hP
  have hl : P.length < B.length := by rw [e, List.length_append, List.length_cons]; omega
  simp only [e34_0, e34_1, e34_4, e34_6, eq_self, am_k1_t, am_bd_s, am_bd_n, am_nl_i, am_nl_r, am_nl_e, am_nl_n, Option.toList_some, Option.toList_none, List.cons_append, List.nil_append, List.getElem?_cons_zero, List.getElem?_cons_succ, List.length_cons, List.length_nil, List.set_cons_zero, List.set_cons_succ, am_fd_of h1]
  by_cases c1 : am_w (B.length : Int) < am_w 6
  · have c2 : ¬ am_w ((0 + P.length : Nat) : Int) = am_w (-9) := by rw [am_w_nat (by omega), am_w_m9]; omega
    simp only [if_pos c1, e34_9, e34_10, e34_11, am_oc_of h1, eq_self, am_k1_t, am_bd_s, am_bd_n, am_nl_i, am_nl_r, am_nl_e, am_nl_n, Option.toList_some, Option.toList_none, List.cons_append, List.nil_append, List.getElem?_cons_zero, List.getElem?_cons_succ, List.length_cons, List.length_nil, List.set_cons_zero, List.set_cons_succ, lw, e1]
    simp only [e34_14, e34_16, e34_19, e34_20, eq_self, am_k1_t, am_bd_s, am_bd_n, am_nl_i, am_nl_r, am_nl_e, am_nl_n, Option.toList_some, Option.toList_none, List.cons_append, List.nil_append, List.getElem?_cons_zero, List.getElem?_cons_succ, List.length_cons, List.length_nil, List.set_cons_zero, List.set_cons_succ, if_neg c2]
    simp
  · simp only [if_neg c1, e34_19, e34_20, eq_self, am_k1_t, am_bd_s, am_bd_n, am_nl_i, am_nl_r, am_nl_e, am_nl_n, Option.toList_some, Option.toList_none, List.cons_append, List.nil_append, List.getElem?_cons_zero, List.getElem?_cons_succ, List.length_cons, List.length_nil, List.set_cons_zero, List.set_cons_succ]
    simp
theorem X3_layOnTop_w (l : LayC h r B A Wo ni) (hx : ∀ x ∈ B, x < 6) (hb : b < 6) (hm : b ∉ B) (h6 : B.length < 6) : ∃ h', (∀ E K, Wp E 34 0 [some (am_r (some r)), some (am_i (b : Int))] [] h K = K (some (am_i 1)) h') ∧ LayC h' r (B ++ [b]) A Wo ni ∧ Fr h h' r 2 := by
  have lw := fun E K => X3_levelOf_c (E := E) (K := K) l hx hb
  obtain ⟨g, h0, h1, h2, h3, h4, h5⟩ := l
  obtain ⟨y, g, rfl⟩ : ∃ y g', g = y :: g' := by
    cases g with
    | nil => rw [List.length_nil] at h0; omega
    | cons y g' => exact ⟨y, g', rfl⟩
  have c1 : am_w (B.length : Int) < am_w 6 := by rw [am_w_nat (by omega), am_w_l6]; omega
  have w1 : am_wr (pl_c B ++ y :: g) (B.length : Int) (b : Int) = some (pl_c B ++ (b : Int) :: g) := by
    rw [← pl_c_len B]; exact am_wr_mid (by rw [pl_c_len]; omega)
  have s1 : (h.set (r + 1) (am_a 0 (pl_c B ++ (b : Int) :: g)))[r]? = some (am_o 3 [am_r (some (r + 1)), am_i (B.length : Int), am_r (some (r + 2)), am_r (some (r + 3)), am_i ni]) := by rw [am_set_ne (by omega)]; exact h1
  refine ⟨(h.set (r + 1) (am_a 0 (pl_c B ++ (b : Int) :: g))).set r (am_o 3 [am_r (some (r + 1)), am_i ((B.length : Int) + 1), am_r (some (r + 2)), am_r (some (r + 3)), am_i ni]), fun E K => ?_, ⟨g, ?_, ?_, ?_, ?_, ?_, h5⟩, (Fr.rf.set (by omega) (by omega)).set (by omega) (by omega)⟩
  · simp only [e34_0, e34_1, e34_4, e34_6, e34_9, e34_10, e34_11, eq_self, am_k1_t, am_bd_s, am_bd_n, am_nl_i, am_nl_r, am_nl_e, am_nl_n, Option.toList_some, Option.toList_none, List.cons_append, List.nil_append, List.getElem?_cons_zero, List.getElem?_cons_succ, List.length_cons, List.length_nil, List.set_cons_zero, List.set_cons_succ, am_fd_of h1, if_pos c1, am_oc_of h1, lw, pl_ix_no hm]
    simp only [e34_14, e34_16, e34_19, e34_20, e34_21, e34_22, e34_25, e34_26, e34_29, e34_30, e34_31, e34_32, e34_33, e34_36, e34_37, e34_38, e34_41, e34_42, eq_self, am_k1_t, am_bd_s, am_bd_n, am_nl_i, am_nl_r, am_nl_e, am_nl_n, Option.toList_some, Option.toList_none, List.cons_append, List.nil_append, List.getElem?_cons_zero, List.getElem?_cons_succ, List.length_cons, List.length_nil, List.set_cons_zero, List.set_cons_succ, if_true, am_fd_of h1, am_wa_of h2, w1, Option.map_some, am_fd_of s1, am_fu_of s1 (show 1 < [am_r (some (r + 1)), am_i (B.length : Int), am_r (some (r + 2)), am_r (some (r + 3)), am_i ni].length from by simp)]
    simp
  · rw [List.length_append, List.length_singleton]; rw [List.length_cons] at h0; omega
  · rw [am_set_at s1, List.length_append, List.length_singleton]; rfl
  · rw [am_set_ne (by omega), am_set_at h2, pl_c_app, List.append_assoc]; rfl
  · rw [am_set_ne (by omega), am_set_ne (by omega)]; exact h3
  · rw [am_set_ne (by omega), am_set_ne (by omega)]; exact h4
end LAY
