/-! the class: shares and chances -/
def ChanC (h : am_H) (o1 o2 : List Int) (w1 w2 : Int) : Prop := h[14]? = some (am_o 2 [am_r (some 3), am_r (some 9), am_r (some 15), am_r (some 16), am_i w1, am_i w2]) ∧ h[15]? = some (am_a 0 o1) ∧ h[16]? = some (am_a 0 o2) ∧ o1.length = 6 ∧ o2.length = 6
theorem ChanC.frT {h h' : am_H} {o1 o2 : List Int} {w1 w2 : Int} {q n : Nat} (l : ChanC h o1 o2 w1 w2) (f : FrT h h' q n) (d : 17 ≤ q ∨ q + n ≤ 14) : ChanC h' o1 o2 w1 w2 := by
  obtain ⟨h0, h1, h2, h3⟩ := l
  exact ⟨by rw [f.2 _ (by omega) (by omega)]; exact h0, by rw [f.2 _ (by omega) (by omega)]; exact h1, by rw [f.2 _ (by omega) (by omega)]; exact h2, h3⟩
theorem am_alx {E : List (List Int)} {h : am_H} {xs : List Int} (he : E[1]? = some xs) (f : Int → Prop) : am_bd (am_al E h (am_e 1)) f = f (xs.length : Int) := by
  unfold am_al
  dsimp only
  rw [he]
  rfl
theorem am_xax {E : List (List Int)} {xs : List Int} (he : E[1]? = some xs) {j : Nat} (hj : j < xs.length) (h2 : j ≤ 100000) (f : Int → Prop) : am_bd (am_xa E 1 (j : Int)) f = f (xs.getD j 0) := by
  unfold am_xa
  rw [he]
  dsimp only
  rw [am_rd_nat hj h2]
  rfl
/-- Euclid, so many steps -/
def pl_eu : Nat → Nat → Nat → Nat
  | 0, x, _ => x
  | f + 1, x, y => if y = 0 then x else pl_eu f y (x % y)
theorem pl_eu_gcd : ∀ (b f x y : Nat), y < 2 ^ b → 2 * b + 2 ≤ f → pl_eu f x y = Nat.gcd x y
  | 0, f, x, y, h, hf => by
    have e : y = 0 := by rw [Nat.pow_zero] at h; omega
    obtain ⟨f', rfl⟩ : ∃ f', f = f' + 1 := ⟨f - 1, by omega⟩
    rw [pl_eu, if_pos e, e, Nat.gcd_zero_right]
  | b + 1, f, x, y, h, hf => by
    obtain ⟨f', rfl⟩ : ∃ f', f = f' + 2 := ⟨f - 2, by omega⟩
    rw [pl_eu]
    by_cases q : y = 0
    · rw [if_pos q, q, Nat.gcd_zero_right]
    · rw [if_neg q, pl_eu]
      have e1 : Nat.gcd x y = Nat.gcd y (x % y) := by rw [Nat.gcd_comm x y, Nat.gcd_rec y x, Nat.gcd_comm]
      by_cases q2 : x % y = 0
      · rw [if_pos q2, e1, q2, Nat.gcd_zero_right]
      · rw [if_neg q2, e1]
        have e2 : Nat.gcd y (x % y) = Nat.gcd (x % y) (y % (x % y)) := by rw [Nat.gcd_comm y (x % y), Nat.gcd_rec (x % y) y, Nat.gcd_comm]
        rw [e2]
        have l1 : x % y < y := Nat.mod_lt x (by omega)
        have l2 : y % (x % y) < x % y := Nat.mod_lt y (by omega)
        have l3 : (x % y) * (y / (x % y)) + y % (x % y) = y := Nat.div_add_mod y (x % y)
        have l4 : 1 ≤ y / (x % y) := (Nat.one_le_div_iff (by omega)).mpr (by omega)
        have l5 : x % y ≤ (x % y) * (y / (x % y)) := Nat.le_mul_of_pos_right _ (by omega)
        rw [Nat.pow_succ] at h
        exact pl_eu_gcd b f' (x % y) (y % (x % y)) (by omega) (by omega)
section CHA
variable {E : List (List Int)} {h : am_H} {K : Option am_V → am_H → Prop} {r nb ns : Nat} {B : List Nat} {A Wo tm fr la ce ki wi o1 o2 : List Int} {ni w1 w2 : Int}
theorem X2_power_w {v n : Int} (hn : 0 ≤ n ∧ n ≤ 100) : Wp E 20 0 [some (am_i v), some (am_i n), none, none] [] h K = K (some (am_i (v ^ n.toNat))) h := by
  have lo := am_foldz (W := fun i p => Wp E 20 4 [some (am_i v), some (am_i n), some (am_i p), some (am_i i)] [] h K) (f := fun p _ => p * v) (I := fun _ _ => True) (lo := 0) (N := n) (by
    intro i p h0 h1 _
    refine ⟨trivial, ?_⟩
    rw [e20_4]
    simp (disch := first | omega | (simp only [List.length_set]; omega) | rfl) only [↓e20_5, ↓e20_6, ↓e20_9, ↓e20_10, ↓e20_11, ↓e20_12, ↓e20_13, ↓e20_16, ↓am_ilp, ↓am_iln, ↓am_iep, ↓am_ien, ↓am_zlp, ↓am_zln, ↓am_zep, ↓am_zen, ↓am_zgp, ↓am_zgn, ↓am_zhp, ↓am_zhn, ↓am_b01, true_or, true_and, and_true, or_true, if_true, if_false, ↓am_bdl_z, ↓am_bdl_s, ↓am_bsl_z, ↓am_bsl_s, ↓am_k1_i, ↓am_k1_r, ↓am_k1_e, ↓am_k1_n, ↓am_bd_s, am_k1_t, eq_self, am_nl_i, am_nl_r, am_nl_e, am_nl_n, Option.toList_some, Option.toList_none, Option.map_some, Option.map_none, List.cons_append, List.nil_append, List.length_cons, List.length_nil, List.set_cons_zero, List.set_cons_succ, List.getElem?_cons_zero, List.getElem?_cons_succ, am_bd_s]) n.toNat 0 1 (by omega) (by omega) trivial
  have e2 := pl_pw v n.toNat 0 1
  rw [Int.one_mul] at e2
  rw [← e2]
  simp (disch := first | omega | (simp only [List.length_set]; omega) | rfl) only [↓e20_0, ↓e20_1, ↓e20_2, ↓e20_3, ↓am_ilp, ↓am_iln, ↓am_iep, ↓am_ien, ↓am_zlp, ↓am_zln, ↓am_zep, ↓am_zen, ↓am_zgp, ↓am_zgn, ↓am_zhp, ↓am_zhn, ↓am_b01, true_or, true_and, and_true, or_true, if_true, if_false, ↓am_bdl_z, ↓am_bdl_s, ↓am_bsl_z, ↓am_bsl_s, ↓am_k1_i, ↓am_k1_r, ↓am_k1_e, ↓am_k1_n, ↓am_bd_s, am_k1_t, eq_self, am_nl_i, am_nl_r, am_nl_e, am_nl_n, Option.toList_some, Option.toList_none, Option.map_some, Option.map_none, List.cons_append, List.nil_append, List.length_cons, List.length_nil, List.set_cons_zero, List.set_cons_succ, List.getElem?_cons_zero, List.getElem?_cons_succ, am_bd_s]
  refine Eq.trans lo.1 ?_
  rw [e20_4]
  simp (disch := first | omega | (simp only [List.length_set]; omega) | rfl) only [↓e20_5, ↓e20_6, ↓e20_19, ↓e20_20, ↓am_ilp, ↓am_iln, ↓am_iep, ↓am_ien, ↓am_zlp, ↓am_zln, ↓am_zep, ↓am_zen, ↓am_zgp, ↓am_zgn, ↓am_zhp, ↓am_zhn, ↓am_b01, true_or, true_and, and_true, or_true, if_true, if_false, ↓am_bdl_z, ↓am_bdl_s, ↓am_bsl_z, ↓am_bsl_s, ↓am_k1_i, ↓am_k1_r, ↓am_k1_e, ↓am_k1_n, ↓am_bd_s, am_k1_t, eq_self, am_nl_i, am_nl_r, am_nl_e, am_nl_n, Option.toList_some, Option.toList_none, Option.map_some, Option.map_none, List.cons_append, List.nil_append, List.length_cons, List.length_nil, List.set_cons_zero, List.set_cons_succ, List.getElem?_cons_zero, List.getElem?_cons_succ, am_bd_s]
theorem X2_factorial_w {n : Nat} (he : E[1]? = some am_fac7) (hn : n ≤ 6) : Wp E 18 0 [some (am_i (n : Int))] [] h K = K (some (am_i (pl_fct n : Int))) h := by
  have e7 : am_fac7.length = 7 := rfl
  have ev : am_fac7.getD n 0 = (pl_fct n : Int) := by
    have hd : ∀ n < 7, am_fac7.getD n 0 = ((pl_fct n : Nat) : Int) := by decide
    exact hd n (by omega)
  simp (disch := first | omega | (simp only [List.length_set]; omega) | rfl) only [↓e18_0, ↓e18_1, ↓e18_4, ↓e18_5, ↓e18_8, ↓e18_9, ↓e18_12, ↓e18_15, ↓e18_16, ↓e18_17, ↓e18_20, ↓e18_21, ↓am_ilp, ↓am_iln, ↓am_iep, ↓am_ien, ↓am_zlp, ↓am_zln, ↓am_zep, ↓am_zen, ↓am_zgp, ↓am_zgn, ↓am_zhp, ↓am_zhn, ↓am_b01, true_or, true_and, and_true, or_true, if_true, if_false, ↓am_bdl_z, ↓am_bdl_s, ↓am_bsl_z, ↓am_bsl_s, ↓am_k1_i, ↓am_k1_r, ↓am_k1_e, ↓am_k1_n, ↓am_bd_s, am_k1_t, eq_self, am_nl_i, am_nl_r, am_nl_e, am_nl_n, Option.toList_some, Option.toList_none, Option.map_some, Option.map_none, List.cons_append, List.nil_append, List.length_cons, List.length_nil, List.set_cons_zero, List.set_cons_succ, List.getElem?_cons_zero, List.getElem?_cons_succ, am_bd_s, ↓am_alx he, ↓am_xax he, e7, ev]
theorem X2_ordersAround_w {a n : Nat} (he : E[1]? = some am_fac7) (hn : n ≤ 6) (ha : a + 1 ≤ n) : Wp E 17 0 [some (am_i (a : Int)), some (am_i (n : Int))] [] h K = K (some (am_i ((pl_fct a : Int) * (pl_fct (n - 1 - a) : Int)))) h := by
  have e1 : (n : Int) - 1 - (a : Int) = ((n - 1 - a : Nat) : Int) := by omega
  have f1 := fun E K he => X2_factorial_w (E := E) (h := h) (K := K) (n := a) he (by omega)
  have f2 : Wp E 18 0 [some (am_i ((n : Int) - 1 - (a : Int)))] [] h (fun v h => Wp E 17 12 [some (am_i (a : Int)), some (am_i (n : Int))] (v.toList ++ [am_i (pl_fct a : Int)]) h K) = Wp E 17 12 [some (am_i (a : Int)), some (am_i (n : Int))] [am_i (pl_fct (n - 1 - a) : Int), am_i (pl_fct a : Int)] h K := by
    rw [e1, X2_factorial_w he (by omega)]
    rfl
  have st : Wp E 17 0 [some (am_i (a : Int)), some (am_i (n : Int))] [] h K = Wp E 17 9 [some (am_i (a : Int)), some (am_i (n : Int))] [am_i ((n : Int) - 1 - (a : Int)), am_i (pl_fct a : Int)] h K := by
    simp (disch := first | omega | (simp only [List.length_set]; omega) | rfl) only [↓e17_0, ↓e17_1, ↓e17_4, ↓e17_5, ↓e17_6, ↓e17_7, ↓e17_8, ↓am_ilp, ↓am_iln, ↓am_iep, ↓am_ien, ↓am_zlp, ↓am_zln, ↓am_zep, ↓am_zen, ↓am_zgp, ↓am_zgn, ↓am_zhp, ↓am_zhn, ↓am_b01, true_or, true_and, and_true, or_true, if_true, if_false, ↓am_bdl_z, ↓am_bdl_s, ↓am_bsl_z, ↓am_bsl_s, ↓am_k1_i, ↓am_k1_r, ↓am_k1_e, ↓am_k1_n, ↓am_bd_s, am_k1_t, eq_self, am_nl_i, am_nl_r, am_nl_e, am_nl_n, Option.toList_some, Option.toList_none, Option.map_some, Option.map_none, List.cons_append, List.nil_append, List.length_cons, List.length_nil, List.set_cons_zero, List.set_cons_succ, List.getElem?_cons_zero, List.getElem?_cons_succ, am_bd_s, ↓am_tls, ↓X2_factorial_w he]
  rw [st, e17_9, f2]
  simp (disch := first | omega | (simp only [List.length_set]; omega) | rfl) only [↓e17_12, ↓e17_13, ↓am_ilp, ↓am_iln, ↓am_iep, ↓am_ien, ↓am_zlp, ↓am_zln, ↓am_zep, ↓am_zen, ↓am_zgp, ↓am_zgn, ↓am_zhp, ↓am_zhn, ↓am_b01, true_or, true_and, and_true, or_true, if_true, if_false, ↓am_bdl_z, ↓am_bdl_s, ↓am_bsl_z, ↓am_bsl_s, ↓am_k1_i, ↓am_k1_r, ↓am_k1_e, ↓am_k1_n, ↓am_bd_s, am_k1_t, eq_self, am_nl_i, am_nl_r, am_nl_e, am_nl_n, Option.toList_some, Option.toList_none, Option.map_some, Option.map_none, List.cons_append, List.nil_append, List.length_cons, List.length_nil, List.set_cons_zero, List.set_cons_succ, List.getElem?_cons_zero, List.getElem?_cons_succ, am_bd_s]
theorem X2_fraction_l {a b u : Int} : ∀ (f : Nat) (x y : Nat) (i : Int) (x6 : Option am_V), 0 ≤ i → i + f = 100 → x ≤ 2147483647 → y ≤ 2147483647 → ∃ y' i' x6', Wp E 21 11 [some (am_i a), some (am_i b), some (am_i u), some (am_i (x : Int)), some (am_i (y : Int)), some (am_i i), x6] [] h K = Wp E 21 42 [some (am_i a), some (am_i b), some (am_i u), some (am_i ((pl_eu f x y : Nat) : Int)), some (am_i y'), some (am_i i'), x6'] [] h K
  | 0, x, y, i, x6, h0, hi, hx, hy => by
    refine ⟨(y : Int), i, x6, ?_⟩
    rw [e21_11, pl_eu]
    simp (disch := first | omega | (simp only [List.length_set]; omega) | rfl) only [↓e21_13, ↓e21_15, ↓am_ilp, ↓am_iln, ↓am_iep, ↓am_ien, ↓am_zlp, ↓am_zln, ↓am_zep, ↓am_zen, ↓am_zgp, ↓am_zgn, ↓am_zhp, ↓am_zhn, ↓am_b01, true_or, true_and, and_true, or_true, if_true, if_false, ↓am_bdl_z, ↓am_bdl_s, ↓am_bsl_z, ↓am_bsl_s, ↓am_k1_i, ↓am_k1_r, ↓am_k1_e, ↓am_k1_n, ↓am_bd_s, am_k1_t, eq_self, am_nl_i, am_nl_r, am_nl_e, am_nl_n, Option.toList_some, Option.toList_none, Option.map_some, Option.map_none, List.cons_append, List.nil_append, List.length_cons, List.length_nil, List.set_cons_zero, List.set_cons_succ, List.getElem?_cons_zero, List.getElem?_cons_succ, am_bd_s]
  | f + 1, x, y, i, x6, h0, hi, hx, hy => by
    by_cases q : y = 0
    · refine ⟨(y : Int), i, x6, ?_⟩
      rw [e21_11, pl_eu, if_pos q]
      simp (disch := first | omega | (simp only [List.length_set]; omega) | rfl) only [↓e21_13, ↓e21_15, ↓e21_18, ↓e21_20, ↓am_ilp, ↓am_iln, ↓am_iep, ↓am_ien, ↓am_zlp, ↓am_zln, ↓am_zep, ↓am_zen, ↓am_zgp, ↓am_zgn, ↓am_zhp, ↓am_zhn, ↓am_b01, true_or, true_and, and_true, or_true, if_true, if_false, ↓am_bdl_z, ↓am_bdl_s, ↓am_bsl_z, ↓am_bsl_s, ↓am_k1_i, ↓am_k1_r, ↓am_k1_e, ↓am_k1_n, ↓am_bd_s, am_k1_t, eq_self, am_nl_i, am_nl_r, am_nl_e, am_nl_n, Option.toList_some, Option.toList_none, Option.map_some, Option.map_none, List.cons_append, List.nil_append, List.length_cons, List.length_nil, List.set_cons_zero, List.set_cons_succ, List.getElem?_cons_zero, List.getElem?_cons_succ, am_bd_s]
    · have hl := Nat.mod_lt x (show 0 < y by omega)
      have er : am_rem (x : Int) (y : Int) = ((x % y : Nat) : Int) := by
        rw [am_rem_n (by omega) (by omega) (by omega) (by omega)]
        rfl
      obtain ⟨y', i', x6', w⟩ := X2_fraction_l (a := a) (b := b) (u := u) f y (x % y) (i + 1) (some (am_i ((x % y : Nat) : Int))) (by omega) (by omega) hy (by omega)
      refine ⟨y', i', x6', ?_⟩
      rw [e21_11, pl_eu, if_neg q]
      simp (disch := first | omega | (simp only [List.length_set]; omega) | rfl) only [↓e21_13, ↓e21_15, ↓e21_18, ↓e21_20, ↓e21_23, ↓e21_24, ↓e21_26, ↓e21_27, ↓e21_29, ↓e21_31, ↓e21_32, ↓e21_34, ↓e21_36, ↓e21_39, ↓am_ilp, ↓am_iln, ↓am_iep, ↓am_ien, ↓am_zlp, ↓am_zln, ↓am_zep, ↓am_zen, ↓am_zgp, ↓am_zgn, ↓am_zhp, ↓am_zhn, ↓am_b01, true_or, true_and, and_true, or_true, if_true, if_false, ↓am_bdl_z, ↓am_bdl_s, ↓am_bsl_z, ↓am_bsl_s, ↓am_k1_i, ↓am_k1_r, ↓am_k1_e, ↓am_k1_n, ↓am_bd_s, am_k1_t, eq_self, am_nl_i, am_nl_r, am_nl_e, am_nl_n, Option.toList_some, Option.toList_none, Option.map_some, Option.map_none, List.cons_append, List.nil_append, List.length_cons, List.length_nil, List.set_cons_zero, List.set_cons_succ, List.getElem?_cons_zero, List.getElem?_cons_succ, am_bd_s, er]
      exact w
theorem X2_fraction_w {a b : Int} {u : Bool} (ha : -2147483647 ≤ a ∧ a ≤ 2147483647) (hb : 1 ≤ b ∧ b ≤ 1000000) : Wp E 21 0 [some (am_i a), some (am_i b), some (am_i (if u = true then 1 else 0)), none, none, none, none] [] h K = K (some (am_i (pl_fra a b u))) h := by
  obtain ⟨ui, hui⟩ : ∃ ui : Int, ui = if u = true then 1 else 0 := ⟨_, rfl⟩
  rw [← hui]
  have u01 : (u = true ∧ ui = 1) ∨ (u = false ∧ ui = 0) := by cases u <;> simp [hui]
  obtain ⟨y', i', x6', w⟩ := X2_fraction_l (E := E) (h := h) (K := K) (a := a) (b := b) (u := ui) 100 a.natAbs b.natAbs 0 none (by omega) (by omega) (by omega) (by omega)
  rw [pl_eu_gcd 20 100 a.natAbs b.natAbs (by omega) (by omega)] at w
  obtain ⟨gc, hgc⟩ : ∃ gc : Nat, gc = Nat.gcd a.natAbs b.natAbs := ⟨_, rfl⟩
  have gp : 1 ≤ gc ∧ gc ≤ 1000000 := by
    rw [hgc]
    refine ⟨Nat.gcd_pos_of_pos_right _ (by omega), ?_⟩
    have := Nat.gcd_le_right a.natAbs (n := b.natAbs) (by omega)
    omega
  rw [← hgc] at w
  rw [pl_fra, ← hgc]
  have ea : (if 0 ≤ am_w a then a else 0 - a) = ((a.natAbs : Nat) : Int) := by
    rw [am_w_id (by omega) (by omega)]
    split <;> omega
  have eb : ((b.natAbs : Nat) : Int) = b := by omega
  rw [eb] at w
  have st : Wp E 21 0 [some (am_i a), some (am_i b), some (am_i ui), none, none, none, none] [] h K = Wp E 21 11 [some (am_i a), some (am_i b), some (am_i ui), some (am_i ((a.natAbs : Nat) : Int)), some (am_i b), some (am_i 0), none] [] h K := by
    rw [← ea]
    simp (disch := first | omega | (simp only [List.length_set]; omega) | rfl) only [↓e21_0, ↓e21_1, ↓e21_4, ↓e21_5, ↓e21_6, ↓e21_8, ↓e21_9, ↓am_ilp, ↓am_iln, ↓am_iep, ↓am_ien, ↓am_zlp, ↓am_zln, ↓am_zep, ↓am_zen, ↓am_zgp, ↓am_zgn, ↓am_zhp, ↓am_zhn, ↓am_b01, true_or, true_and, and_true, or_true, if_true, if_false, ↓am_bdl_z, ↓am_bdl_s, ↓am_bsl_z, ↓am_bsl_s, ↓am_k1_i, ↓am_k1_r, ↓am_k1_e, ↓am_k1_n, ↓am_bd_s, am_k1_t, eq_self, am_nl_i, am_nl_r, am_nl_e, am_nl_n, Option.toList_some, Option.toList_none, Option.map_some, Option.map_none, List.cons_append, List.nil_append, List.length_cons, List.length_nil, List.set_cons_zero, List.set_cons_succ, List.getElem?_cons_zero, List.getElem?_cons_succ, am_bd_s]
  rw [st, w]
  rcases u01 with ⟨uu, ui1⟩ | ⟨uu, ui1⟩
  · rw [if_pos uu]
    simp (disch := first | omega | (simp only [List.length_set]; omega) | rfl) only [↓e21_42, ↓e21_43, ↓e21_46, ↓e21_47, ↓e21_50, ↓e21_51, ↓e21_53, ↓e21_54, ↓e21_57, ↓e21_59, ↓e21_62, ↓e21_64, ↓e21_65, ↓e21_66, ↓am_ilp, ↓am_iln, ↓am_iep, ↓am_ien, ↓am_zlp, ↓am_zln, ↓am_zep, ↓am_zen, ↓am_zgp, ↓am_zgn, ↓am_zhp, ↓am_zhn, ↓am_b01, true_or, true_and, and_true, or_true, if_true, if_false, ↓am_bdl_z, ↓am_bdl_s, ↓am_bsl_z, ↓am_bsl_s, ↓am_k1_i, ↓am_k1_r, ↓am_k1_e, ↓am_k1_n, ↓am_bd_s, am_k1_t, eq_self, am_nl_i, am_nl_r, am_nl_e, am_nl_n, Option.toList_some, Option.toList_none, Option.map_some, Option.map_none, List.cons_append, List.nil_append, List.length_cons, List.length_nil, List.set_cons_zero, List.set_cons_succ, List.getElem?_cons_zero, List.getElem?_cons_succ, am_bd_s]
  · rw [if_neg (by rw [uu]; decide)]
    simp (disch := first | omega | (simp only [List.length_set]; omega) | rfl) only [↓e21_42, ↓e21_43, ↓e21_46, ↓e21_47, ↓e21_50, ↓e21_51, ↓e21_53, ↓e21_54, ↓e21_57, ↓e21_59, ↓e21_62, ↓e21_64, ↓e21_65, ↓e21_66, ↓am_ilp, ↓am_iln, ↓am_iep, ↓am_ien, ↓am_zlp, ↓am_zln, ↓am_zep, ↓am_zen, ↓am_zgp, ↓am_zgn, ↓am_zhp, ↓am_zhn, ↓am_b01, true_or, true_and, and_true, or_true, if_true, if_false, ↓am_bdl_z, ↓am_bdl_s, ↓am_bsl_z, ↓am_bsl_s, ↓am_k1_i, ↓am_k1_r, ↓am_k1_e, ↓am_k1_n, ↓am_bd_s, am_k1_t, eq_self, am_nl_i, am_nl_r, am_nl_e, am_nl_n, Option.toList_some, Option.toList_none, Option.map_some, Option.map_none, List.cons_append, List.nil_append, List.length_cons, List.length_nil, List.set_cons_zero, List.set_cons_succ, List.getElem?_cons_zero, List.getElem?_cons_succ, am_bd_s]
end CHA
