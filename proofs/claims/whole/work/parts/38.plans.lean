/-! what could be done -/
theorem am_div_n {x y : Int} (h0 : 0 ≤ x) (h1 : x ≤ 2147483647) (h2 : 0 < y) (h3 : y ≤ 2147483647) : am_div x y = x / y := by
  have a1 : 0 ≤ x / y := Int.ediv_nonneg h0 (by omega)
  have a2 : x / y ≤ x := Int.ediv_le_self y h0
  unfold am_div
  rw [Int32.toInt_div, Int32.toInt_ofInt_of_le (by omega) (by omega), Int32.toInt_ofInt_of_le (by omega) (by omega), Int.tdiv_eq_ediv_of_nonneg h0, Int.bmod_eq_of_le (by omega) (by omega)]
theorem am_rem_n {x y : Int} (h0 : 0 ≤ x) (h1 : x ≤ 2147483647) (h2 : 0 < y) (h3 : y ≤ 2147483647) : am_rem x y = x % y := by
  have a1 : 0 ≤ x / y := Int.ediv_nonneg h0 (by omega)
  have a2 : x / y ≤ x := Int.ediv_le_self y h0
  have a3 : x / y * y + x % y = x := Int.ediv_mul_add_emod x y
  have a4 : 0 ≤ x % y := Int.emod_nonneg x (by omega)
  have a5 : x % y < y := Int.emod_lt_of_pos x h2
  have a6 : 0 ≤ x / y * y := Int.mul_nonneg a1 (by omega)
  unfold am_rem
  rw [Int32.toInt_sub, Int32.toInt_mul, Int32.toInt_div, Int32.toInt_ofInt_of_le (by omega) (by omega), Int32.toInt_ofInt_of_le (by omega) (by omega), Int.tdiv_eq_ediv_of_nonneg h0, Int.bmod_eq_of_le (n := x / y) (by omega) (by omega), Int.bmod_eq_of_le (n := x / y * y) (by omega) (by omega), Int.bmod_eq_of_le (by omega) (by omega)]
  omega
theorem am_ifb {α : Sort _} {c : Prop} [Decidable c] {A B : α} : (if am_w (pl_b c) = 0 then A else B) = if c then B else A := by
  unfold pl_b
  by_cases q : c
  · rw [if_pos q, if_pos q, if_neg (by decide)]
  · rw [if_neg q, if_neg q, if_pos (by decide)]
theorem am_kite (K : Option am_V → am_H → Prop) {c : Prop} [Decidable c] {x y : Int} {h : am_H} : K (some (am_i (if c then x else y))) h = if c then K (some (am_i x)) h else K (some (am_i y)) h := by
  split <;> rfl
/-- how many bits -/
def pl_pop (n : Nat) : Nat := (List.range 6).foldl (fun a k => a + if n.testBit k then 1 else 0) 0
theorem pl_pop_6 : ∀ n < 64, pl_pop n ≤ 6 := by decide +kernel
def pl_bc (x0 : Int) : Int :=
  let x1 := x0 - am_and (am_ush x0 1) 1431655765
  let x2 := am_and x1 858993459 + am_and (am_ush x1 2) 858993459
  let x3 := am_and (x2 + am_ush x2 4) 252645135
  let x4 := x3 + am_ush x3 8
  let x5 := x4 + am_ush x4 16
  am_and x5 63
theorem pl_bc_n : ∀ n < 64, pl_bc ((n : Nat) : Int) = ((pl_pop n : Nat) : Int) := by decide +kernel
theorem J6_bitCount_w {E : List (List Int)} {h : am_H} {K : Option am_V → am_H → Prop} {n : Nat} (hn : n < 64) : Wp E 181 0 [some (am_i (n : Int))] [] h K = K (some (am_i (pl_pop n : Int))) h := by
  simp only [↓e181_0, ↓e181_1, ↓e181_2, ↓e181_3, ↓e181_4, ↓e181_7, ↓e181_8, ↓e181_9, ↓e181_10, ↓e181_11, ↓e181_14, ↓e181_15, ↓e181_16, ↓e181_17, ↓e181_18, ↓e181_21, ↓e181_22, ↓e181_23, ↓e181_24, ↓e181_25, ↓e181_26, ↓e181_27, ↓e181_28, ↓e181_29, ↓e181_32, ↓e181_33, ↓e181_34, ↓e181_35, ↓e181_36, ↓e181_38, ↓e181_39, ↓e181_40, ↓e181_41, ↓e181_42, ↓e181_43, ↓e181_45, ↓e181_46, ↓e181_47, ↓e181_48, ↓e181_49, ↓e181_51, ↓e181_52, ↓am_ilp, ↓am_iln, ↓am_iep, ↓am_ien, ↓am_zlp, ↓am_zln, ↓am_zep, ↓am_zen, ↓am_zgp, ↓am_zgn, ↓am_zhp, ↓am_zhn, ↓am_b01, true_or, true_and, and_true, or_true, if_true, if_false, ↓am_bdl_z, ↓am_bdl_s, ↓am_bsl_z, ↓am_bsl_s, ↓am_k1_i, ↓am_k1_r, ↓am_k1_e, ↓am_k1_n, ↓am_bd_s, am_k1_t, eq_self, am_nl_i, am_nl_r, am_nl_e, am_nl_n, Option.toList_some, Option.toList_none, Option.map_some, Option.map_none, List.cons_append, List.nil_append, List.length_cons, List.length_nil, List.set_cons_zero, List.set_cons_succ, List.getElem?_cons_zero, List.getElem?_cons_succ, am_bd_s]
  rw [← pl_bc_n n hn]
  rfl
/-- what lies, as bits -/
def pl_mask (B : List Nat) : Nat := B.foldl (fun a x => a ||| 2 ^ x) 0
theorem pl_or1 : ∀ m < 64, ∀ x < 6, pl_ob ((m : Nat) : Int) x = ((m ||| 2 ^ x : Nat) : Int) ∧ m ||| 2 ^ x < 64 := by decide +kernel
theorem pl_mask_l : ∀ (B : List Nat) (m : Nat), m < 64 → (∀ x ∈ B, x < 6) → B.foldl pl_ob (m : Int) = ((B.foldl (fun a x => a ||| 2 ^ x) m : Nat) : Int) ∧ B.foldl (fun a x => a ||| 2 ^ x) m < 64
  | [], m, hm, _ => ⟨rfl, hm⟩
  | x :: B, m, hm, hB => by
    obtain ⟨e1, e2⟩ := pl_or1 m hm x (hB x (by simp))
    rw [List.foldl_cons, List.foldl_cons, e1]
    exact pl_mask_l B _ e2 (fun y hy => hB y (by simp [hy]))
theorem pl_bits_n {B : List Nat} (hB : ∀ x ∈ B, x < 6) : pl_bits B = (pl_mask B : Int) := (pl_mask_l B 0 (by omega) hB).1
theorem pl_mask_64 {B : List Nat} (hB : ∀ x ∈ B, x < 6) : pl_mask B < 64 := (pl_mask_l B 0 (by omega) hB).2
theorem pl_or_bit : ∀ m < 64, ∀ x < 6, ∀ q < 6, (m ||| 2 ^ x).testBit q = (m.testBit q || decide (q = x)) := by decide +kernel
theorem pl_mask_bl : ∀ (B : List Nat) (m q : Nat), m < 64 → (∀ x ∈ B, x < 6) → q < 6 → (B.foldl (fun a x => a ||| 2 ^ x) m).testBit q = (m.testBit q || decide (q ∈ B))
  | [], m, q, hm, _, hq => by simp
  | x :: B, m, q, hm, hB, hq => by
    have hx : x < 6 := hB x (by simp)
    rw [List.foldl_cons, pl_mask_bl B _ q (pl_or1 m hm x hx).2 (fun y hy => hB y (by simp [hy])) hq, pl_or_bit m hm x hx q hq]
    by_cases q1 : q = x <;> simp [q1]
theorem pl_mask_bit {B : List Nat} (hB : ∀ x ∈ B, x < 6) {q : Nat} (hq : q < 6) : (pl_mask B).testBit q = decide (q ∈ B) := by
  unfold pl_mask
  rw [pl_mask_bl B 0 q (by omega) hB hq]
  simp
theorem pl_sub : ∀ i < 64, ∀ m < 64, am_w (am_and ((i : Nat) : Int) (am_xor ((m : Nat) : Int) (-1))) = 0 ↔ i &&& m = i := by decide +kernel
def PlanC (h : am_H) (tk : List Int) : Prop := h[12]? = some (am_o 5 [am_r (some 3), am_r (some 9), am_r (some 11), am_r (some 13)]) ∧ h[13]? = some (am_a 0 tk) ∧ tk.length = 6
theorem PlanC.frT {h h' : am_H} {tk : List Int} {q n : Nat} (l : PlanC h tk) (f : FrT h h' q n) (d : 14 ≤ q ∨ q + n ≤ 12) : PlanC h' tk := ⟨by rw [f.2 _ (by omega) (by omega)]; exact l.1, by rw [f.2 _ (by omega) (by omega)]; exact l.2.1, l.2.2⟩
/-- would one wake in t, lying from f on -/
def pl_ww (T : List Int) (w f t : Int) : Bool := decide (0 ≤ f ∧ f + w ≤ 6 ∧ pl_cm ((T.drop f.toNat).take w.toNat) = t)
def pl_tt (W : Int → Bool) (f : Int) : Nat → Int → Int
  | 0, _ => -9
  | k + 1, d => if W (f + d) = true then 10 + d else if W (f - d) = true then 20 + d else pl_tt W f k (d + 1)
section PLN
variable {E : List (List Int)} {h : am_H} {K : Option am_V → am_H → Prop} {r nb ns : Nat} {B : List Nat} {A Wo tm fr la ce ki wi tk : List Int} {ni : Int}
theorem X1_commonest_n {a : Nat} {f w : Int} {T : List Int} (ha : h[a]? = some (am_a 0 T)) (h6 : T.length = 6) (hv : ∀ v ∈ T, 0 ≤ v ∧ v ≤ 10) (hf : 0 ≤ f ∧ f ≤ 6) (hw : 0 ≤ w ∧ w ≤ 6) : Wp E 7 0 [some (am_r (some a)), some (am_i f), some (am_i w), none, none, none, none, none, none, none] [] h K = K (some (am_i (pl_cm ((T.drop f.toNat).take w.toNat)))) h := by
  obtain ⟨f, rfl⟩ : ∃ n : Nat, f = (n : Int) := ⟨f.toNat, by omega⟩
  obtain ⟨w, rfl⟩ : ∃ n : Nat, w = (n : Int) := ⟨w.toNat, by omega⟩
  exact X1_commonest_w ha h6 (by omega) (by omega) (fun v hv2 => am_w_id (by have := hv v hv2; omega) (by have := hv v hv2; omega))
theorem pl_win_rng {T : List Int} (hv : ∀ v ∈ T, 0 ≤ v ∧ v ≤ 10) (f w : Nat) : 0 ≤ pl_cm ((T.drop f).take w) ∧ pl_cm ((T.drop f).take w) ≤ 10 := pl_cm_rng (fun v h1 => hv v (List.mem_of_mem_drop (List.mem_of_mem_take h1)))
theorem X5_wouldWake_w {s : Nat} {f t : Int} (lf : Fix h nb ns fr la ce ki wi tm) (lp : PlanC h tk) (hs : s < ns) (hf : -100 ≤ f ∧ f ≤ 100) (ht : 0 ≤ t ∧ t ≤ 10) : Wp E 53 0 [some (am_r (some 12)), some (am_i (s : Int)), some (am_i f), some (am_i t), none] [] h K = K (some (am_i (pl_b (pl_ww tm (wi.getD s 0) f t = true)))) h := by
  have h3 : ns ≤ 3 := lf.1.2.2.2.2.2.2.2.2.2.2.2.2
  have lw : wi.length = 3 := lf.1.2.2.2.2.2.2.2.2.2.2.1
  have y := lf.2.2.2.2.2.2 s hs
  have hr := pl_win_rng lf.2.2.2.2.1 f.toNat (wi.getD s 0).toNat
  by_cases q1 : 0 ≤ f
  · by_cases q2 : f + wi.getD s 0 ≤ 6
    · by_cases q3 : pl_cm ((tm.drop f.toNat).take (wi.getD s 0).toNat) = t
      · rw [pl_b, if_pos (by simp [pl_ww, q1, q2, q3, -List.getD_eq_getElem?_getD])]
        simp (disch := first | omega | (simp only [List.length_set]; omega) | rfl) only [↓e53_0, ↓e53_1, ↓e53_4, ↓e53_7, ↓e53_8, ↓e53_9, ↓e53_11, ↓e53_12, ↓e53_15, ↓e53_16, ↓e53_18, ↓e53_19, ↓e53_21, ↓e53_24, ↓e53_25, ↓e53_28, ↓e53_31, ↓e53_32, ↓e53_34, ↓e53_37, ↓e53_38, ↓e53_41, ↓e53_42, ↓e53_45, ↓e53_46, ↓am_ilp, ↓am_iln, ↓am_iep, ↓am_ien, ↓am_zlp, ↓am_zln, ↓am_zep, ↓am_zen, ↓am_zgp, ↓am_zgn, ↓am_zhp, ↓am_zhn, ↓am_b01, true_or, true_and, and_true, or_true, if_true, if_false, ↓am_bdl_z, ↓am_bdl_s, ↓am_bsl_z, ↓am_bsl_s, ↓am_k1_i, ↓am_k1_r, ↓am_k1_e, ↓am_k1_n, ↓am_bd_s, am_k1_t, eq_self, am_nl_i, am_nl_r, am_nl_e, am_nl_n, Option.toList_some, Option.toList_none, Option.map_some, Option.map_none, List.cons_append, List.nil_append, List.length_cons, List.length_nil, List.set_cons_zero, List.set_cons_succ, List.getElem?_cons_zero, List.getElem?_cons_succ, am_bd_s, ↓am_bdf lp.1, am_bdf lp.1, ↓am_bfu lp.1, am_bfu lp.1, ↓am_oc_of lp.1, am_oc_of lp.1, ↓am_bdf lf.1.1, am_bdf lf.1.1, ↓am_bfu lf.1.1, am_bfu lf.1.1, ↓am_oc_of lf.1.1, am_oc_of lf.1.1, ↓am_bdf lf.2.1.1, am_bdf lf.2.1.1, ↓am_bfu lf.2.1.1, am_bfu lf.2.1.1, ↓am_oc_of lf.2.1.1, am_oc_of lf.2.1.1, ↓am_brn lf.1.2.2.2.2.2.1, am_brn lf.1.2.2.2.2.2.1, ↓am_bwn lf.1.2.2.2.2.2.1, am_bwn lf.1.2.2.2.2.2.1, ↓X1_commonest_n lf.2.1.2.1 lf.2.1.2.2 lf.2.2.2.2.1, X1_commonest_n lf.2.1.2.1 lf.2.1.2.2 lf.2.2.2.2.1, Int.toNat_natCast, am_w_i, if_pos, if_neg]
      · rw [pl_b, if_neg (by simp [pl_ww, q3, -List.getD_eq_getElem?_getD])]
        simp (disch := first | omega | (simp only [List.length_set]; omega) | rfl) only [↓e53_0, ↓e53_1, ↓e53_4, ↓e53_7, ↓e53_8, ↓e53_9, ↓e53_11, ↓e53_12, ↓e53_15, ↓e53_16, ↓e53_18, ↓e53_19, ↓e53_21, ↓e53_24, ↓e53_25, ↓e53_28, ↓e53_31, ↓e53_32, ↓e53_34, ↓e53_37, ↓e53_38, ↓e53_41, ↓e53_42, ↓e53_45, ↓e53_46, ↓am_ilp, ↓am_iln, ↓am_iep, ↓am_ien, ↓am_zlp, ↓am_zln, ↓am_zep, ↓am_zen, ↓am_zgp, ↓am_zgn, ↓am_zhp, ↓am_zhn, ↓am_b01, true_or, true_and, and_true, or_true, if_true, if_false, ↓am_bdl_z, ↓am_bdl_s, ↓am_bsl_z, ↓am_bsl_s, ↓am_k1_i, ↓am_k1_r, ↓am_k1_e, ↓am_k1_n, ↓am_bd_s, am_k1_t, eq_self, am_nl_i, am_nl_r, am_nl_e, am_nl_n, Option.toList_some, Option.toList_none, Option.map_some, Option.map_none, List.cons_append, List.nil_append, List.length_cons, List.length_nil, List.set_cons_zero, List.set_cons_succ, List.getElem?_cons_zero, List.getElem?_cons_succ, am_bd_s, ↓am_bdf lp.1, am_bdf lp.1, ↓am_bfu lp.1, am_bfu lp.1, ↓am_oc_of lp.1, am_oc_of lp.1, ↓am_bdf lf.1.1, am_bdf lf.1.1, ↓am_bfu lf.1.1, am_bfu lf.1.1, ↓am_oc_of lf.1.1, am_oc_of lf.1.1, ↓am_bdf lf.2.1.1, am_bdf lf.2.1.1, ↓am_bfu lf.2.1.1, am_bfu lf.2.1.1, ↓am_oc_of lf.2.1.1, am_oc_of lf.2.1.1, ↓am_brn lf.1.2.2.2.2.2.1, am_brn lf.1.2.2.2.2.2.1, ↓am_bwn lf.1.2.2.2.2.2.1, am_bwn lf.1.2.2.2.2.2.1, ↓X1_commonest_n lf.2.1.2.1 lf.2.1.2.2 lf.2.2.2.2.1, X1_commonest_n lf.2.1.2.1 lf.2.1.2.2 lf.2.2.2.2.1, Int.toNat_natCast, am_w_i, if_pos, if_neg]
    · rw [pl_b, if_neg (by simp [pl_ww, q2, -List.getD_eq_getElem?_getD])]
      simp (disch := first | omega | (simp only [List.length_set]; omega) | rfl) only [↓e53_0, ↓e53_1, ↓e53_4, ↓e53_7, ↓e53_8, ↓e53_9, ↓e53_11, ↓e53_12, ↓e53_15, ↓e53_16, ↓e53_18, ↓e53_19, ↓e53_21, ↓e53_24, ↓e53_25, ↓e53_28, ↓e53_31, ↓e53_32, ↓e53_34, ↓e53_37, ↓e53_38, ↓e53_41, ↓e53_42, ↓e53_45, ↓e53_46, ↓am_ilp, ↓am_iln, ↓am_iep, ↓am_ien, ↓am_zlp, ↓am_zln, ↓am_zep, ↓am_zen, ↓am_zgp, ↓am_zgn, ↓am_zhp, ↓am_zhn, ↓am_b01, true_or, true_and, and_true, or_true, if_true, if_false, ↓am_bdl_z, ↓am_bdl_s, ↓am_bsl_z, ↓am_bsl_s, ↓am_k1_i, ↓am_k1_r, ↓am_k1_e, ↓am_k1_n, ↓am_bd_s, am_k1_t, eq_self, am_nl_i, am_nl_r, am_nl_e, am_nl_n, Option.toList_some, Option.toList_none, Option.map_some, Option.map_none, List.cons_append, List.nil_append, List.length_cons, List.length_nil, List.set_cons_zero, List.set_cons_succ, List.getElem?_cons_zero, List.getElem?_cons_succ, am_bd_s, ↓am_bdf lp.1, am_bdf lp.1, ↓am_bfu lp.1, am_bfu lp.1, ↓am_oc_of lp.1, am_oc_of lp.1, ↓am_bdf lf.1.1, am_bdf lf.1.1, ↓am_bfu lf.1.1, am_bfu lf.1.1, ↓am_oc_of lf.1.1, am_oc_of lf.1.1, ↓am_bdf lf.2.1.1, am_bdf lf.2.1.1, ↓am_bfu lf.2.1.1, am_bfu lf.2.1.1, ↓am_oc_of lf.2.1.1, am_oc_of lf.2.1.1, ↓am_brn lf.1.2.2.2.2.2.1, am_brn lf.1.2.2.2.2.2.1, ↓am_bwn lf.1.2.2.2.2.2.1, am_bwn lf.1.2.2.2.2.2.1, Int.toNat_natCast, am_w_i, if_pos, if_neg]
  · rw [pl_b, if_neg (by simp [pl_ww, q1])]
    simp (disch := first | omega | (simp only [List.length_set]; omega) | rfl) only [↓e53_0, ↓e53_1, ↓e53_4, ↓e53_7, ↓e53_8, ↓e53_9, ↓e53_11, ↓e53_12, ↓e53_15, ↓e53_16, ↓e53_18, ↓e53_19, ↓e53_21, ↓e53_24, ↓e53_25, ↓e53_28, ↓e53_31, ↓e53_32, ↓e53_34, ↓e53_37, ↓e53_38, ↓e53_41, ↓e53_42, ↓e53_45, ↓e53_46, ↓am_ilp, ↓am_iln, ↓am_iep, ↓am_ien, ↓am_zlp, ↓am_zln, ↓am_zep, ↓am_zen, ↓am_zgp, ↓am_zgn, ↓am_zhp, ↓am_zhn, ↓am_b01, true_or, true_and, and_true, or_true, if_true, if_false, ↓am_bdl_z, ↓am_bdl_s, ↓am_bsl_z, ↓am_bsl_s, ↓am_k1_i, ↓am_k1_r, ↓am_k1_e, ↓am_k1_n, ↓am_bd_s, am_k1_t, eq_self, am_nl_i, am_nl_r, am_nl_e, am_nl_n, Option.toList_some, Option.toList_none, Option.map_some, Option.map_none, List.cons_append, List.nil_append, List.length_cons, List.length_nil, List.set_cons_zero, List.set_cons_succ, List.getElem?_cons_zero, List.getElem?_cons_succ, am_bd_s, ↓am_bdf lp.1, am_bdf lp.1, ↓am_bfu lp.1, am_bfu lp.1, ↓am_oc_of lp.1, am_oc_of lp.1, ↓am_bdf lf.1.1, am_bdf lf.1.1, ↓am_bfu lf.1.1, am_bfu lf.1.1, ↓am_oc_of lf.1.1, am_oc_of lf.1.1, ↓am_bdf lf.2.1.1, am_bdf lf.2.1.1, ↓am_bfu lf.2.1.1, am_bfu lf.2.1.1, ↓am_oc_of lf.2.1.1, am_oc_of lf.2.1.1, ↓am_brn lf.1.2.2.2.2.2.1, am_brn lf.1.2.2.2.2.2.1, ↓am_bwn lf.1.2.2.2.2.2.1, am_bwn lf.1.2.2.2.2.2.1, Int.toNat_natCast, am_w_i, if_pos, if_neg]
theorem X5_fewestTurns_f {s : Nat} {t : Int} (l : LayC h r B A Wo ni) (lf : Fix h nb ns fr la ce ki wi tm) (lp : PlanC h tk) (hB : ∀ x ∈ B, x < nb) (ha : AtOk ns wi A) (hs : s < ns) (ht : 0 ≤ t ∧ t ≤ 10) (hr : 14 ≤ r) : ∃ h' tm', (∀ E K, Wp E 52 0 [some (am_r (some 12)), some (am_r (some r)), some (am_i (s : Int)), some (am_i t), none, none] [] h K = K (some (am_i (if pl_ww (pl_tms fr la ce ki B) (wi.getD s 0) (A.getD s 0) t = true then 0 else pl_tt (fun f => pl_ww (pl_tms fr la ce ki B) (wi.getD s 0) f t) (A.getD s 0) 5 1))) h') ∧ Fix h' nb ns fr la ce ki wi tm' ∧ Fr h h' 10 1 := by
  obtain ⟨h1, w1, f1, r1⟩ := X1_reckon_f (m := 0) l lf hB (by omega) (by omega)
  rw [pl_f0] at f1
  have e0 : ((0 : Nat) : Int) = 0 := rfl
  rw [e0] at w1
  have l1 := l.fr r1 (by omega)
  have lp1 : PlanC h1 tk := lp.frT (FrT.of0 (r := 0) (n := 0) r1) (by omega)
  have h3 : ns ≤ 3 := lf.1.2.2.2.2.2.2.2.2.2.2.2.2
  have y := lf.2.2.2.2.2.2 s hs
  have z := ha s hs
  have lA := l.lens.1
  have lo : ∀ (E : List (List Int)) (K : Option am_V → am_H → Prop) (k : Nat) (d : Int), d + k = 6 → 1 ≤ d → Wp E 52 33 [some (am_r (some 12)), some (am_r (some r)), some (am_i (s : Int)), some (am_i t), some (am_i (A.getD s 0)), some (am_i d)] [] h1 K = K (some (am_i (pl_tt (fun f => pl_ww (pl_tms fr la ce ki B) (wi.getD s 0) f t) (A.getD s 0) k d))) h1 := by
    intro E K k
    induction k with
    | zero =>
      intro d hd h1
      rw [e52_33]
      simp (disch := first | omega | (simp only [List.length_set]; omega) | rfl) only [↓e52_35, ↓e52_37, ↓e52_86, ↓e52_88, ↓am_ilp, ↓am_iln, ↓am_iep, ↓am_ien, ↓am_zlp, ↓am_zln, ↓am_zep, ↓am_zen, ↓am_zgp, ↓am_zgn, ↓am_zhp, ↓am_zhn, ↓am_b01, true_or, true_and, and_true, or_true, if_true, if_false, ↓am_bdl_z, ↓am_bdl_s, ↓am_bsl_z, ↓am_bsl_s, ↓am_k1_i, ↓am_k1_r, ↓am_k1_e, ↓am_k1_n, ↓am_bd_s, am_k1_t, eq_self, am_nl_i, am_nl_r, am_nl_e, am_nl_n, Option.toList_some, Option.toList_none, Option.map_some, Option.map_none, List.cons_append, List.nil_append, List.length_cons, List.length_nil, List.set_cons_zero, List.set_cons_succ, List.getElem?_cons_zero, List.getElem?_cons_succ, am_bd_s, pl_tt]
    | succ k ih =>
      intro d hd h1
      have ih2 := ih (d + 1) (by omega) (by omega)
      rw [e52_33]
      simp (disch := first | omega | (simp only [List.length_set]; omega) | rfl) only [↓e52_35, ↓e52_37, ↓e52_40, ↓e52_41, ↓e52_42, ↓e52_44, ↓e52_46, ↓e52_47, ↓e52_48, ↓e52_51, ↓e52_54, ↓e52_56, ↓e52_58, ↓e52_59, ↓e52_60, ↓e52_61, ↓e52_62, ↓e52_64, ↓e52_66, ↓e52_67, ↓e52_68, ↓e52_71, ↓e52_74, ↓e52_76, ↓e52_78, ↓e52_79, ↓e52_80, ↓e52_83, ↓am_ilp, ↓am_iln, ↓am_iep, ↓am_ien, ↓am_zlp, ↓am_zln, ↓am_zep, ↓am_zen, ↓am_zgp, ↓am_zgn, ↓am_zhp, ↓am_zhn, ↓am_b01, true_or, true_and, and_true, or_true, if_true, if_false, ↓am_bdl_z, ↓am_bdl_s, ↓am_bsl_z, ↓am_bsl_s, ↓am_k1_i, ↓am_k1_r, ↓am_k1_e, ↓am_k1_n, ↓am_bd_s, am_k1_t, eq_self, am_nl_i, am_nl_r, am_nl_e, am_nl_n, Option.toList_some, Option.toList_none, Option.map_some, Option.map_none, List.cons_append, List.nil_append, List.length_cons, List.length_nil, List.set_cons_zero, List.set_cons_succ, List.getElem?_cons_zero, List.getElem?_cons_succ, am_bd_s, ↓am_bdf lp1.1, am_bdf lp1.1, ↓am_bfu lp1.1, am_bfu lp1.1, ↓am_oc_of lp1.1, am_oc_of lp1.1, ↓X5_wouldWake_w f1 lp1 hs, ↓am_ifb, ih2, pl_tt]
      split
      · rfl
      · split <;> rfl
  refine ⟨h1, _, fun E K => ?_, f1, r1⟩
  simp (disch := first | omega | (simp only [List.length_set]; omega) | rfl) only [↓e52_0, ↓e52_1, ↓e52_4, ↓e52_5, ↓e52_6, ↓e52_9, ↓e52_10, ↓e52_13, ↓e52_14, ↓e52_15, ↓e52_17, ↓e52_18, ↓e52_19, ↓e52_21, ↓e52_22, ↓e52_25, ↓e52_28, ↓e52_29, ↓e52_30, ↓e52_31, ↓am_ilp, ↓am_iln, ↓am_iep, ↓am_ien, ↓am_zlp, ↓am_zln, ↓am_zep, ↓am_zen, ↓am_zgp, ↓am_zgn, ↓am_zhp, ↓am_zhn, ↓am_b01, true_or, true_and, and_true, or_true, if_true, if_false, ↓am_bdl_z, ↓am_bdl_s, ↓am_bsl_z, ↓am_bsl_s, ↓am_k1_i, ↓am_k1_r, ↓am_k1_e, ↓am_k1_n, ↓am_bd_s, am_k1_t, eq_self, am_nl_i, am_nl_r, am_nl_e, am_nl_n, Option.toList_some, Option.toList_none, Option.map_some, Option.map_none, List.cons_append, List.nil_append, List.length_cons, List.length_nil, List.set_cons_zero, List.set_cons_succ, List.getElem?_cons_zero, List.getElem?_cons_succ, am_bd_s, ↓am_bdf lp.1, am_bdf lp.1, ↓am_bfu lp.1, am_bfu lp.1, ↓am_oc_of lp.1, am_oc_of lp.1, ↓am_bdf lp1.1, am_bdf lp1.1, ↓am_bfu lp1.1, am_bfu lp1.1, ↓am_oc_of lp1.1, am_oc_of lp1.1, ↓am_bdf l.obj.1, am_bdf l.obj.1, ↓am_bfu l.obj.1, am_bfu l.obj.1, ↓am_oc_of l.obj.1, am_oc_of l.obj.1, ↓am_bdf l1.obj.1, am_bdf l1.obj.1, ↓am_bfu l1.obj.1, am_bfu l1.obj.1, ↓am_oc_of l1.obj.1, am_oc_of l1.obj.1, ↓am_bdf lf.2.1.1, am_bdf lf.2.1.1, ↓am_bfu lf.2.1.1, am_bfu lf.2.1.1, ↓am_oc_of lf.2.1.1, am_oc_of lf.2.1.1, ↓am_brn l1.obj.2.1, am_brn l1.obj.2.1, ↓am_bwn l1.obj.2.1, am_bwn l1.obj.2.1, ↓w1, ↓X5_wouldWake_w f1 lp1 hs, ↓am_ifb, am_ifb]
  split
  · rfl
  · exact lo E K 5 1 (by omega) (by omega)
/-- the times with t on some cells -/
def pl_tuk (T : List Int) (a m : Nat) (t : Int) : List Int := (List.range 6).map fun i => if a ≤ i ∧ i < a + m then t else T.getD i 0
theorem X5_tuckOnto_w {a m : Nat} {t : Int} (lf : Fix h nb ns fr la ce ki wi tm) (lp : PlanC h tk) (ha : a ≤ 6) (hm : m ≤ 6) : Wp E 55 0 [some (am_r (some 12)), some (am_i (a : Int)), some (am_i (m : Int)), some (am_i t), none] [] h K = K none (h.set 13 (am_a 0 (pl_tuk tm a m t))) := by
  obtain ⟨p0, p1, p2⟩ := lp
  have l13 := am_lt p1
  have t6 : tm.length = 6 := lf.2.1.2.2
  have lo := am_fold (W := fun i xs => Wp E 55 3 [some (am_r (some 12)), some (am_i (a : Int)), some (am_i (m : Int)), some (am_i t), some (am_i (i : Int))] [] (h.set 13 (am_a 0 xs)) K) (f := fun xs i => xs.set i (if a ≤ i ∧ i < a + m then t else tm.getD i 0)) (I := fun _ xs => xs.length = 6) (N := 6) (by
    intro i xs hi hx
    refine ⟨by rw [List.length_set]; exact hx, ?_⟩
    rw [e55_3]
    by_cases q1 : a ≤ i
    · by_cases q2 : i < a + m <;> simp (disch := first | omega | (simp only [List.length_set]; omega) | rfl) only [↓e55_5, ↓e55_7, ↓e55_10, ↓e55_11, ↓e55_14, ↓e55_16, ↓e55_17, ↓e55_19, ↓e55_22, ↓e55_24, ↓e55_25, ↓e55_26, ↓e55_27, ↓e55_30, ↓e55_31, ↓e55_34, ↓e55_35, ↓e55_38, ↓e55_41, ↓e55_43, ↓e55_44, ↓e55_45, ↓e55_48, ↓am_ilp, ↓am_iln, ↓am_iep, ↓am_ien, ↓am_zlp, ↓am_zln, ↓am_zep, ↓am_zen, ↓am_zgp, ↓am_zgn, ↓am_zhp, ↓am_zhn, ↓am_b01, true_or, true_and, and_true, or_true, if_true, if_false, ↓am_bdl_z, ↓am_bdl_s, ↓am_bsl_z, ↓am_bsl_s, ↓am_k1_i, ↓am_k1_r, ↓am_k1_e, ↓am_k1_n, ↓am_bd_s, am_k1_t, eq_self, am_nl_i, am_nl_r, am_nl_e, am_nl_n, Option.toList_some, Option.toList_none, Option.map_some, Option.map_none, List.cons_append, List.nil_append, List.length_cons, List.length_nil, List.set_cons_zero, List.set_cons_succ, List.getElem?_cons_zero, List.getElem?_cons_succ, am_bd_s, ↓am_sra_ne, am_sra_ne, ↓am_sra_eq, am_sra_eq, ↓am_sfd_ne, am_sfd_ne, ↓am_sfd_eq, am_sfd_eq, ↓am_soc_ne, am_soc_ne, ↓am_soc_eq, am_soc_eq, ↓am_swa_ne, am_swa_ne, ↓am_swa_eq, am_swa_eq, ↓am_sfu_ne, am_sfu_ne, ↓am_sfu_eq, am_sfu_eq, List.length_set, ↓am_bdf p0, am_bdf p0, ↓am_bfu p0, am_bfu p0, ↓am_oc_of p0, am_oc_of p0, ↓am_bdf lf.2.1.1, am_bdf lf.2.1.1, ↓am_bfu lf.2.1.1, am_bfu lf.2.1.1, ↓am_oc_of lf.2.1.1, am_oc_of lf.2.1.1, ↓am_brn p1, am_brn p1, ↓am_bwn p1, am_bwn p1, ↓am_brn lf.2.1.2.1, am_brn lf.2.1.2.1, ↓am_bwn lf.2.1.2.1, am_bwn lf.2.1.2.1, Int.toNat_natCast, if_pos, if_neg, Int.natCast_add, Int.natCast_one]
    · simp (disch := first | omega | (simp only [List.length_set]; omega) | rfl) only [↓e55_5, ↓e55_7, ↓e55_10, ↓e55_11, ↓e55_14, ↓e55_16, ↓e55_17, ↓e55_19, ↓e55_22, ↓e55_24, ↓e55_25, ↓e55_26, ↓e55_27, ↓e55_30, ↓e55_31, ↓e55_34, ↓e55_35, ↓e55_38, ↓e55_41, ↓e55_43, ↓e55_44, ↓e55_45, ↓e55_48, ↓am_ilp, ↓am_iln, ↓am_iep, ↓am_ien, ↓am_zlp, ↓am_zln, ↓am_zep, ↓am_zen, ↓am_zgp, ↓am_zgn, ↓am_zhp, ↓am_zhn, ↓am_b01, true_or, true_and, and_true, or_true, if_true, if_false, ↓am_bdl_z, ↓am_bdl_s, ↓am_bsl_z, ↓am_bsl_s, ↓am_k1_i, ↓am_k1_r, ↓am_k1_e, ↓am_k1_n, ↓am_bd_s, am_k1_t, eq_self, am_nl_i, am_nl_r, am_nl_e, am_nl_n, Option.toList_some, Option.toList_none, Option.map_some, Option.map_none, List.cons_append, List.nil_append, List.length_cons, List.length_nil, List.set_cons_zero, List.set_cons_succ, List.getElem?_cons_zero, List.getElem?_cons_succ, am_bd_s, ↓am_sra_ne, am_sra_ne, ↓am_sra_eq, am_sra_eq, ↓am_sfd_ne, am_sfd_ne, ↓am_sfd_eq, am_sfd_eq, ↓am_soc_ne, am_soc_ne, ↓am_soc_eq, am_soc_eq, ↓am_swa_ne, am_swa_ne, ↓am_swa_eq, am_swa_eq, ↓am_sfu_ne, am_sfu_ne, ↓am_sfu_eq, am_sfu_eq, List.length_set, ↓am_bdf p0, am_bdf p0, ↓am_bfu p0, am_bfu p0, ↓am_oc_of p0, am_oc_of p0, ↓am_bdf lf.2.1.1, am_bdf lf.2.1.1, ↓am_bfu lf.2.1.1, am_bfu lf.2.1.1, ↓am_oc_of lf.2.1.1, am_oc_of lf.2.1.1, ↓am_brn p1, am_brn p1, ↓am_bwn p1, am_bwn p1, ↓am_brn lf.2.1.2.1, am_brn lf.2.1.2.1, ↓am_bwn lf.2.1.2.1, am_bwn lf.2.1.2.1, Int.toNat_natCast, if_pos, if_neg, Int.natCast_add, Int.natCast_one]) 6 0 tk rfl p2
  rw [am_set_same p1] at lo
  simp (disch := first | omega | (simp only [List.length_set]; omega) | rfl) only [↓e55_0, ↓e55_1, ↓am_ilp, ↓am_iln, ↓am_iep, ↓am_ien, ↓am_zlp, ↓am_zln, ↓am_zep, ↓am_zen, ↓am_zgp, ↓am_zgn, ↓am_zhp, ↓am_zhn, ↓am_b01, true_or, true_and, and_true, or_true, if_true, if_false, ↓am_bdl_z, ↓am_bdl_s, ↓am_bsl_z, ↓am_bsl_s, ↓am_k1_i, ↓am_k1_r, ↓am_k1_e, ↓am_k1_n, ↓am_bd_s, am_k1_t, eq_self, am_nl_i, am_nl_r, am_nl_e, am_nl_n, Option.toList_some, Option.toList_none, Option.map_some, Option.map_none, List.cons_append, List.nil_append, List.length_cons, List.length_nil, List.set_cons_zero, List.set_cons_succ, List.getElem?_cons_zero, List.getElem?_cons_succ, am_bd_s]
  refine Eq.trans lo ?_
  rw [e55_3]
  simp (disch := first | omega | (simp only [List.length_set]; omega) | rfl) only [↓e55_5, ↓e55_7, ↓e55_51, ↓am_ilp, ↓am_iln, ↓am_iep, ↓am_ien, ↓am_zlp, ↓am_zln, ↓am_zep, ↓am_zen, ↓am_zgp, ↓am_zgn, ↓am_zhp, ↓am_zhn, ↓am_b01, true_or, true_and, and_true, or_true, if_true, if_false, ↓am_bdl_z, ↓am_bdl_s, ↓am_bsl_z, ↓am_bsl_s, ↓am_k1_i, ↓am_k1_r, ↓am_k1_e, ↓am_k1_n, ↓am_bd_s, am_k1_t, eq_self, am_nl_i, am_nl_r, am_nl_e, am_nl_n, Option.toList_some, Option.toList_none, Option.map_some, Option.map_none, List.cons_append, List.nil_append, List.length_cons, List.length_nil, List.set_cons_zero, List.set_cons_succ, List.getElem?_cons_zero, List.getElem?_cons_succ, am_bd_s]
  congr 3
  match tk, p2 with
  | [t0, t1, t2, t3, t4, t5], _ => rfl
theorem pl_tuk_v {T : List Int} {a m : Nat} {t : Int} (hT : ∀ v ∈ T, 0 ≤ v ∧ v ≤ 10) (l6 : T.length = 6) (ht : 0 ≤ t ∧ t ≤ 10) : ∀ v ∈ pl_tuk T a m t, 0 ≤ v ∧ v ≤ 10 := by
  intro v hv
  obtain ⟨i, hi, rfl⟩ := List.mem_map.mp hv
  have h6 := List.mem_range.mp hi
  split
  · exact ht
  · exact hT _ (by rw [List.getD_eq_getElem?_getD, List.getElem?_eq_getElem (by omega)]; exact List.getElem_mem _)
/-- the first place of k from a on -/
def pl_in (p : Nat → Bool) : Nat → Nat → Option Nat
  | 0, _ => none
  | k + 1, a => if p a = true then some a else pl_in p k (a + 1)
def pl_out (p : Nat → Nat → Bool) : Nat → Nat → Int
  | 0, _ => -9
  | k + 1, m => match pl_in (p m) (7 - m) 0 with
    | some a => ((10 * m + a : Nat) : Int)
    | none => pl_out p k (m + 1)
/-- would one wake in t if a blanket of t lay under m cells from a on -/
def pl_tp (T : List Int) (f w t : Int) (m a : Nat) : Bool := decide (pl_cm (((pl_tuk T a m t).drop f.toNat).take w.toNat) = t)
theorem X5_shortestTucked_i {s m : Nat} {t : Int} (hs : s < ns) (ha : AtOk ns wi A) (ht : 0 ≤ t ∧ t ≤ 10) (hm : 1 ≤ m) (hm6 : m ≤ 6) (hr : 14 ≤ r) :
    ∀ (k a : Nat) (h : am_H) (tk : List Int), a + k = 7 - m → LayC h r B A Wo ni → Fix h nb ns fr la ce ki wi tm → PlanC h tk → ∃ h' tk', (∀ E K, Wp E 54 37 [some (am_r (some 12)), some (am_r (some r)), some (am_i (s : Int)), some (am_i t), some (am_i (m : Int)), some (am_i (a : Int))] [] h K = match pl_in (pl_tp tm (A.getD s 0) (wi.getD s 0) t m) k a with
      | some x => K (some (am_i ((10 * m + x : Nat) : Int))) h'
      | none => Wp E 54 27 [some (am_r (some 12)), some (am_r (some r)), some (am_i (s : Int)), some (am_i t), some (am_i ((m + 1 : Nat) : Int)), some (am_i ((7 - m : Nat) : Int))] [] h' K) ∧ LayC h' r B A Wo ni ∧ Fix h' nb ns fr la ce ki wi tm ∧ PlanC h' tk' ∧ Fr h h' 13 1
  | 0, a, h, tk, e, l, lf, lp => by
    refine ⟨h, tk, fun E K => ?_, l, lf, lp, Fr.rf⟩
    rw [e54_37]
    simp (disch := first | omega | (simp only [List.length_set]; omega) | rfl) only [↓e54_39, ↓e54_41, ↓e54_42, ↓e54_44, ↓e54_97, ↓e54_100, ↓am_ilp, ↓am_iln, ↓am_iep, ↓am_ien, ↓am_zlp, ↓am_zln, ↓am_zep, ↓am_zen, ↓am_zgp, ↓am_zgn, ↓am_zhp, ↓am_zhn, ↓am_b01, true_or, true_and, and_true, or_true, if_true, if_false, ↓am_bdl_z, ↓am_bdl_s, ↓am_bsl_z, ↓am_bsl_s, ↓am_k1_i, ↓am_k1_r, ↓am_k1_e, ↓am_k1_n, ↓am_bd_s, am_k1_t, eq_self, am_nl_i, am_nl_r, am_nl_e, am_nl_n, Option.toList_some, Option.toList_none, Option.map_some, Option.map_none, List.cons_append, List.nil_append, List.length_cons, List.length_nil, List.set_cons_zero, List.set_cons_succ, List.getElem?_cons_zero, List.getElem?_cons_succ, am_bd_s, pl_in]
    rw [show 7 - m = a by omega]
    rfl
  | k + 1, a, h, tk, e, l, lf, lp => by
    have h3 : ns ≤ 3 := lf.1.2.2.2.2.2.2.2.2.2.2.2.2
    have lw : wi.length = 3 := lf.1.2.2.2.2.2.2.2.2.2.2.1
    have y := lf.2.2.2.2.2.2 s hs
    have z := ha s hs
    have lA := l.lens.1
    have l13 := am_lt lp.2.1
    have f1 : Fr h (h.set 13 (am_a 0 (pl_tuk tm a m t))) 13 1 := Fr.rf.set (by omega) (by omega)
    have l1 := l.fr f1 (by omega)
    have lf1 := lf.fr f1 (by omega)
    have lp1 : PlanC (h.set 13 (am_a 0 (pl_tuk tm a m t))) (pl_tuk tm a m t) := ⟨by rw [am_set_ne (by omega)]; exact lp.1, am_set_at lp.2.1, by simp [pl_tuk]⟩
    have hv := pl_tuk_v (a := a) (m := m) lf.2.2.2.2.1 lf.2.1.2.2 ht
    have hrg := pl_win_rng hv (A.getD s 0).toNat (wi.getD s 0).toNat
    have tw := fun E K => X5_tuckOnto_w (E := E) (K := K) (a := a) (m := m) (t := t) lf lp (by omega) (by omega)
    have cw := fun E K => X1_commonest_n (E := E) (K := K) (f := A.getD s 0) (w := wi.getD s 0) lp1.2.1 lp1.2.2 hv (by omega) (by omega)
    by_cases q : pl_cm (((pl_tuk tm a m t).drop (A.getD s 0).toNat).take (wi.getD s 0).toNat) = t
    · have ep : pl_tp tm (A.getD s 0) (wi.getD s 0) t m a = true := decide_eq_true q
      refine ⟨_, _, fun E K => ?_, l1, lf1, lp1, f1⟩
      rw [e54_37, pl_in, if_pos ep]
      simp (disch := first | omega | (simp only [List.length_set]; omega) | rfl) only [↓e54_39, ↓e54_41, ↓e54_42, ↓e54_44, ↓e54_47, ↓e54_48, ↓e54_50, ↓e54_52, ↓e54_53, ↓e54_56, ↓e54_57, ↓e54_60, ↓e54_61, ↓e54_64, ↓e54_65, ↓e54_66, ↓e54_67, ↓e54_70, ↓e54_73, ↓e54_74, ↓e54_75, ↓e54_78, ↓e54_79, ↓e54_82, ↓e54_84, ↓e54_86, ↓e54_87, ↓e54_89, ↓e54_90, ↓am_ilp, ↓am_iln, ↓am_iep, ↓am_ien, ↓am_zlp, ↓am_zln, ↓am_zep, ↓am_zen, ↓am_zgp, ↓am_zgn, ↓am_zhp, ↓am_zhn, ↓am_b01, true_or, true_and, and_true, or_true, if_true, if_false, ↓am_bdl_z, ↓am_bdl_s, ↓am_bsl_z, ↓am_bsl_s, ↓am_k1_i, ↓am_k1_r, ↓am_k1_e, ↓am_k1_n, ↓am_bd_s, am_k1_t, eq_self, am_nl_i, am_nl_r, am_nl_e, am_nl_n, Option.toList_some, Option.toList_none, Option.map_some, Option.map_none, List.cons_append, List.nil_append, List.length_cons, List.length_nil, List.set_cons_zero, List.set_cons_succ, List.getElem?_cons_zero, List.getElem?_cons_succ, am_bd_s, ↓am_bdf lp.1, am_bdf lp.1, ↓am_bfu lp.1, am_bfu lp.1, ↓am_oc_of lp.1, am_oc_of lp.1, ↓am_bdf lp1.1, am_bdf lp1.1, ↓am_bfu lp1.1, am_bfu lp1.1, ↓am_oc_of lp1.1, am_oc_of lp1.1, ↓am_bdf l1.obj.1, am_bdf l1.obj.1, ↓am_bfu l1.obj.1, am_bfu l1.obj.1, ↓am_oc_of l1.obj.1, am_oc_of l1.obj.1, ↓am_bdf lf1.1.1, am_bdf lf1.1.1, ↓am_bfu lf1.1.1, am_bfu lf1.1.1, ↓am_oc_of lf1.1.1, am_oc_of lf1.1.1, ↓am_brn l1.obj.2.1, am_brn l1.obj.2.1, ↓am_bwn l1.obj.2.1, am_bwn l1.obj.2.1, ↓am_brn lf1.1.2.2.2.2.2.1, am_brn lf1.1.2.2.2.2.2.1, ↓am_bwn lf1.1.2.2.2.2.2.1, am_bwn lf1.1.2.2.2.2.2.1, ↓tw, ↓cw]
      rfl
    · have ep : ¬ pl_tp tm (A.getD s 0) (wi.getD s 0) t m a = true := by simpa [pl_tp, -List.getD_eq_getElem?_getD] using q
      obtain ⟨h2, tk2, w2, l2, lf2, lp2, f2⟩ := X5_shortestTucked_i hs ha ht hm hm6 hr k (a + 1) _ _ (by omega) l1 lf1 lp1
      refine ⟨h2, tk2, fun E K => ?_, l2, lf2, lp2, f1.trans f2⟩
      rw [e54_37, pl_in, if_neg ep]
      simp (disch := first | omega | (simp only [List.length_set]; omega) | rfl) only [↓e54_39, ↓e54_41, ↓e54_42, ↓e54_44, ↓e54_47, ↓e54_48, ↓e54_50, ↓e54_52, ↓e54_53, ↓e54_56, ↓e54_57, ↓e54_60, ↓e54_61, ↓e54_64, ↓e54_65, ↓e54_66, ↓e54_67, ↓e54_70, ↓e54_73, ↓e54_74, ↓e54_75, ↓e54_78, ↓e54_79, ↓e54_82, ↓e54_84, ↓e54_86, ↓e54_87, ↓e54_89, ↓e54_90, ↓e54_91, ↓e54_94, ↓am_ilp, ↓am_iln, ↓am_iep, ↓am_ien, ↓am_zlp, ↓am_zln, ↓am_zep, ↓am_zen, ↓am_zgp, ↓am_zgn, ↓am_zhp, ↓am_zhn, ↓am_b01, true_or, true_and, and_true, or_true, if_true, if_false, ↓am_bdl_z, ↓am_bdl_s, ↓am_bsl_z, ↓am_bsl_s, ↓am_k1_i, ↓am_k1_r, ↓am_k1_e, ↓am_k1_n, ↓am_bd_s, am_k1_t, eq_self, am_nl_i, am_nl_r, am_nl_e, am_nl_n, Option.toList_some, Option.toList_none, Option.map_some, Option.map_none, List.cons_append, List.nil_append, List.length_cons, List.length_nil, List.set_cons_zero, List.set_cons_succ, List.getElem?_cons_zero, List.getElem?_cons_succ, am_bd_s, ↓am_bdf lp.1, am_bdf lp.1, ↓am_bfu lp.1, am_bfu lp.1, ↓am_oc_of lp.1, am_oc_of lp.1, ↓am_bdf lp1.1, am_bdf lp1.1, ↓am_bfu lp1.1, am_bfu lp1.1, ↓am_oc_of lp1.1, am_oc_of lp1.1, ↓am_bdf l1.obj.1, am_bdf l1.obj.1, ↓am_bfu l1.obj.1, am_bfu l1.obj.1, ↓am_oc_of l1.obj.1, am_oc_of l1.obj.1, ↓am_bdf lf1.1.1, am_bdf lf1.1.1, ↓am_bfu lf1.1.1, am_bfu lf1.1.1, ↓am_oc_of lf1.1.1, am_oc_of lf1.1.1, ↓am_brn l1.obj.2.1, am_brn l1.obj.2.1, ↓am_bwn l1.obj.2.1, am_bwn l1.obj.2.1, ↓am_brn lf1.1.2.2.2.2.2.1, am_brn lf1.1.2.2.2.2.2.1, ↓am_bwn lf1.1.2.2.2.2.2.1, am_bwn lf1.1.2.2.2.2.2.1, ↓tw, ↓cw]
      exact w2 E K
theorem X5_shortestTucked_o {s : Nat} {t : Int} (hs : s < ns) (ha : AtOk ns wi A) (ht : 0 ≤ t ∧ t ≤ 10) (hr : 14 ≤ r) :
    ∀ (k m : Nat) (h : am_H) (tk : List Int) (x5 : Option am_V), m + k = 7 → 1 ≤ m → LayC h r B A Wo ni → Fix h nb ns fr la ce ki wi tm → PlanC h tk → ∃ h' tk', (∀ E K, Wp E 54 27 [some (am_r (some 12)), some (am_r (some r)), some (am_i (s : Int)), some (am_i t), some (am_i (m : Int)), x5] [] h K = K (some (am_i (pl_out (pl_tp tm (A.getD s 0) (wi.getD s 0) t) k m))) h') ∧ Fix h' nb ns fr la ce ki wi tm ∧ PlanC h' tk' ∧ Fr h h' 13 1
  | 0, m, h, tk, x5, e, hm, l, lf, lp => by
    refine ⟨h, tk, fun E K => ?_, lf, lp, Fr.rf⟩
    rw [e54_27]
    simp (disch := first | omega | (simp only [List.length_set]; omega) | rfl) only [↓e54_29, ↓e54_31, ↓e54_103, ↓e54_105, ↓am_ilp, ↓am_iln, ↓am_iep, ↓am_ien, ↓am_zlp, ↓am_zln, ↓am_zep, ↓am_zen, ↓am_zgp, ↓am_zgn, ↓am_zhp, ↓am_zhn, ↓am_b01, true_or, true_and, and_true, or_true, if_true, if_false, ↓am_bdl_z, ↓am_bdl_s, ↓am_bsl_z, ↓am_bsl_s, ↓am_k1_i, ↓am_k1_r, ↓am_k1_e, ↓am_k1_n, ↓am_bd_s, am_k1_t, eq_self, am_nl_i, am_nl_r, am_nl_e, am_nl_n, Option.toList_some, Option.toList_none, Option.map_some, Option.map_none, List.cons_append, List.nil_append, List.length_cons, List.length_nil, List.set_cons_zero, List.set_cons_succ, List.getElem?_cons_zero, List.getElem?_cons_succ, am_bd_s, pl_out]
  | k + 1, m, h, tk, x5, e, hm, l, lf, lp => by
    obtain ⟨h1, tk1, w1, l1, lf1, lp1, f1⟩ := X5_shortestTucked_i (m := m) hs ha ht hm (by omega) hr (7 - m) 0 h tk (by omega) l lf lp
    obtain ⟨h2, tk2, w2, lf2, lp2, f2⟩ := X5_shortestTucked_o hs ha ht hr k (m + 1) h1 tk1 (some (am_i ((7 - m : Nat) : Int))) (by omega) (by omega) l1 lf1 lp1
    have st : ∀ E K, Wp E 54 27 [some (am_r (some 12)), some (am_r (some r)), some (am_i (s : Int)), some (am_i t), some (am_i (m : Int)), x5] [] h K = Wp E 54 37 [some (am_r (some 12)), some (am_r (some r)), some (am_i (s : Int)), some (am_i t), some (am_i (m : Int)), some (am_i ((0 : Nat) : Int))] [] h K := by
      intro E K
      rw [e54_27]
      simp (disch := first | omega | (simp only [List.length_set]; omega) | rfl) only [↓e54_29, ↓e54_31, ↓e54_34, ↓e54_35, ↓am_ilp, ↓am_iln, ↓am_iep, ↓am_ien, ↓am_zlp, ↓am_zln, ↓am_zep, ↓am_zen, ↓am_zgp, ↓am_zgn, ↓am_zhp, ↓am_zhn, ↓am_b01, true_or, true_and, and_true, or_true, if_true, if_false, ↓am_bdl_z, ↓am_bdl_s, ↓am_bsl_z, ↓am_bsl_s, ↓am_k1_i, ↓am_k1_r, ↓am_k1_e, ↓am_k1_n, ↓am_bd_s, am_k1_t, eq_self, am_nl_i, am_nl_r, am_nl_e, am_nl_n, Option.toList_some, Option.toList_none, Option.map_some, Option.map_none, List.cons_append, List.nil_append, List.length_cons, List.length_nil, List.set_cons_zero, List.set_cons_succ, List.getElem?_cons_zero, List.getElem?_cons_succ, am_bd_s]
      rfl
    unfold pl_out
    cases q : pl_in (pl_tp tm (A.getD s 0) (wi.getD s 0) t m) (7 - m) 0 with
    | some x =>
      refine ⟨h1, tk1, fun E K => ?_, lf1, lp1, f1⟩
      rw [st, w1, q]
    | none =>
      refine ⟨h2, tk2, fun E K => ?_, lf2, lp2, f1.trans f2⟩
      rw [st, w1, q]
      exact w2 E K
theorem X5_shortestTucked_f {s : Nat} {t : Int} (l : LayC h r B A Wo ni) (lf : Fix h nb ns fr la ce ki wi tm) (lp : PlanC h tk) (hB : ∀ x ∈ B, x < nb) (ha : AtOk ns wi A) (hs : s < ns) (ht : 0 ≤ t ∧ t ≤ 10) (hr : 14 ≤ r) : ∃ h' tm' tk', (∀ E K, Wp E 54 0 [some (am_r (some 12)), some (am_r (some r)), some (am_i (s : Int)), some (am_i t), none, none] [] h K = K (some (am_i (if pl_cm (((pl_tms fr la ce ki B).drop (A.getD s 0).toNat).take (wi.getD s 0).toNat) = t then 0 else pl_out (pl_tp (pl_tms fr la ce ki B) (A.getD s 0) (wi.getD s 0) t) 6 1))) h') ∧ Fix h' nb ns fr la ce ki wi tm' ∧ PlanC h' tk' ∧ Fr h h' 10 4 := by
  obtain ⟨h1, w1, f1, r1⟩ := X1_reckon_f (m := 0) l lf hB (by omega) (by omega)
  rw [pl_f0] at f1
  have e0 : ((0 : Nat) : Int) = 0 := rfl
  rw [e0] at w1
  have l1 := l.fr r1 (by omega)
  have lp1 : PlanC h1 tk := lp.frT (FrT.of0 (r := 0) (n := 0) r1) (by omega)
  have hrg := pl_win_rng f1.2.2.2.2.1 (A.getD s 0).toNat (wi.getD s 0).toNat
  have ww := fun E K => X1_wakesAsReckoned_f (E := E) (K := K) l1 f1 ha hs
  obtain ⟨h2, tk2, w2, f2, lp2, r2⟩ := X5_shortestTucked_o hs ha ht hr 6 1 h1 tk none (by omega) (by omega) l1 f1 lp1
  by_cases q : pl_cm (((pl_tms fr la ce ki B).drop (A.getD s 0).toNat).take (wi.getD s 0).toNat) = t
  · refine ⟨h1, _, tk, fun E K => ?_, f1, lp1, r1.wide (by omega) (by omega)⟩
    rw [if_pos q]
    simp (disch := first | omega | (simp only [List.length_set]; omega) | rfl) only [↓e54_0, ↓e54_1, ↓e54_4, ↓e54_5, ↓e54_6, ↓e54_9, ↓e54_10, ↓e54_13, ↓e54_14, ↓e54_15, ↓e54_18, ↓e54_19, ↓e54_22, ↓e54_23, ↓am_ilp, ↓am_iln, ↓am_iep, ↓am_ien, ↓am_zlp, ↓am_zln, ↓am_zep, ↓am_zen, ↓am_zgp, ↓am_zgn, ↓am_zhp, ↓am_zhn, ↓am_b01, true_or, true_and, and_true, or_true, if_true, if_false, ↓am_bdl_z, ↓am_bdl_s, ↓am_bsl_z, ↓am_bsl_s, ↓am_k1_i, ↓am_k1_r, ↓am_k1_e, ↓am_k1_n, ↓am_bd_s, am_k1_t, eq_self, am_nl_i, am_nl_r, am_nl_e, am_nl_n, Option.toList_some, Option.toList_none, Option.map_some, Option.map_none, List.cons_append, List.nil_append, List.length_cons, List.length_nil, List.set_cons_zero, List.set_cons_succ, List.getElem?_cons_zero, List.getElem?_cons_succ, am_bd_s, ↓am_bdf lp.1, am_bdf lp.1, ↓am_bfu lp.1, am_bfu lp.1, ↓am_oc_of lp.1, am_oc_of lp.1, ↓am_bdf lp1.1, am_bdf lp1.1, ↓am_bfu lp1.1, am_bfu lp1.1, ↓am_oc_of lp1.1, am_oc_of lp1.1, ↓am_bdf lf.2.1.1, am_bdf lf.2.1.1, ↓am_bfu lf.2.1.1, am_bfu lf.2.1.1, ↓am_oc_of lf.2.1.1, am_oc_of lf.2.1.1, ↓am_bdf f1.2.1.1, am_bdf f1.2.1.1, ↓am_bfu f1.2.1.1, am_bfu f1.2.1.1, ↓am_oc_of f1.2.1.1, am_oc_of f1.2.1.1, ↓w1, ↓ww]
  · refine ⟨h2, _, tk2, fun E K => ?_, f2, lp2, (r1.wide (by omega) (by omega)).trans (r2.wide (by omega) (by omega))⟩
    rw [if_neg q]
    simp (disch := first | omega | (simp only [List.length_set]; omega) | rfl) only [↓e54_0, ↓e54_1, ↓e54_4, ↓e54_5, ↓e54_6, ↓e54_9, ↓e54_10, ↓e54_13, ↓e54_14, ↓e54_15, ↓e54_18, ↓e54_19, ↓e54_22, ↓e54_23, ↓e54_24, ↓e54_25, ↓am_ilp, ↓am_iln, ↓am_iep, ↓am_ien, ↓am_zlp, ↓am_zln, ↓am_zep, ↓am_zen, ↓am_zgp, ↓am_zgn, ↓am_zhp, ↓am_zhn, ↓am_b01, true_or, true_and, and_true, or_true, if_true, if_false, ↓am_bdl_z, ↓am_bdl_s, ↓am_bsl_z, ↓am_bsl_s, ↓am_k1_i, ↓am_k1_r, ↓am_k1_e, ↓am_k1_n, ↓am_bd_s, am_k1_t, eq_self, am_nl_i, am_nl_r, am_nl_e, am_nl_n, Option.toList_some, Option.toList_none, Option.map_some, Option.map_none, List.cons_append, List.nil_append, List.length_cons, List.length_nil, List.set_cons_zero, List.set_cons_succ, List.getElem?_cons_zero, List.getElem?_cons_succ, am_bd_s, ↓am_bdf lp.1, am_bdf lp.1, ↓am_bfu lp.1, am_bfu lp.1, ↓am_oc_of lp.1, am_oc_of lp.1, ↓am_bdf lp1.1, am_bdf lp1.1, ↓am_bfu lp1.1, am_bfu lp1.1, ↓am_oc_of lp1.1, am_oc_of lp1.1, ↓am_bdf lf.2.1.1, am_bdf lf.2.1.1, ↓am_bfu lf.2.1.1, am_bfu lf.2.1.1, ↓am_oc_of lf.2.1.1, am_oc_of lf.2.1.1, ↓am_bdf f1.2.1.1, am_bdf f1.2.1.1, ↓am_bfu f1.2.1.1, am_bfu f1.2.1.1, ↓am_oc_of f1.2.1.1, am_oc_of f1.2.1.1, ↓w1, ↓ww]
    exact w2 E K
/-- fewer taken, if one wakes in t then -/
def pl_ftS (Wk : Nat → Int) (msk : Nat) (t : Int) (a : Int × Nat) (i : Nat) : Int × Nat := if i &&& msk = i ∧ pl_pop i < a.2 ∧ Wk i = t then ((i : Int), pl_pop i) else a
theorem X5_fewestTaken_f {s : Nat} {t : Int} (l : LayC h r B A Wo ni) (lf : Fix h nb ns fr la ce ki wi tm) (lp : PlanC h tk) (hB : ∀ x ∈ B, x < nb) (ha : AtOk ns wi A) (hs : s < ns) (ht : 0 ≤ t ∧ t ≤ 10) (hr : 14 ≤ r) : ∃ h' tm', (∀ E K, Wp E 51 0 [some (am_r (some 12)), some (am_r (some r)), some (am_i (s : Int)), some (am_i t), none, none, none, none, none] [] h K = K (some (am_i ((List.range 64).foldl (pl_ftS (fun i => pl_wk fr la ce ki (B.filter fun b => !i.testBit b) (A.getD s 0).toNat (wi.getD s 0).toNat) (pl_mask B) t) (-9, 7)).1)) h') ∧ Fix h' nb ns fr la ce ki wi tm' ∧ Fr h h' 10 1 := by
  have h6 : nb ≤ 6 := lf.1.2.2.2.2.2.2.2.2.2.2.2.1
  have hB6 : ∀ x ∈ B, x < 6 := fun x hx => by have := hB x hx; omega
  have hm := pl_mask_64 hB6
  obtain ⟨F, hF⟩ : ∃ F, F = pl_ftS (fun i => pl_wk fr la ce ki (B.filter fun b => !i.testBit b) (A.getD s 0).toNat (wi.getD s 0).toNat) (pl_mask B) t := ⟨_, rfl⟩
  have st := am_loop (X := List (List Int) × (Option am_V → am_H → Prop)) (α := (Int × Nat) × Option am_V × am_H) (W := fun x i a => Wp x.1 51 17 [some (am_r (some 12)), some (am_r (some r)), some (am_i (s : Int)), some (am_i t), some (am_i (pl_mask B : Int)), some (am_i a.1.1), some (am_i (a.1.2 : Int)), some (am_i (i : Int)), a.2.1] [] a.2.2 x.2) (I := fun i a => a.1 = (List.range i).foldl F (-9, 7) ∧ a.1.2 ≤ 7 ∧ ∃ tm', Fix a.2.2 nb ns fr la ce ki wi tm' ∧ Fr h a.2.2 10 1) (N := 64) (by
    rintro i ⟨⟨be, fe⟩, x8, g⟩ hi ⟨e1, e2, tm1, f1, r1⟩
    dsimp only at e1 e2 f1 r1
    have lg := l.fr r1 (by omega)
    have lpg : PlanC g tk := lp.frT (FrT.of0 (r := 0) (n := 0) r1) (by omega)
    obtain ⟨g2, tm2, w2, f2, r2⟩ := X1_wakes_f (s := s) lg f1 hB hi (by omega) ha hs
    have hrg := pl_win_rng (pl_tms_v f1.2.2.2.1 (B := B.filter fun b => !i.testBit b) (fun x hx => hB x (List.mem_filter.mp hx).1)) (A.getD s 0).toNat (wi.getD s 0).toNat
    have hp := pl_pop_6 i hi
    have hsub := pl_sub i hi (pl_mask B) hm
    by_cases q1 : i &&& pl_mask B = i
    · by_cases q2 : pl_pop i < fe
      · by_cases q3 : pl_wk fr la ce ki (B.filter fun b => !i.testBit b) (A.getD s 0).toNat (wi.getD s 0).toNat = t
        · refine ⟨(((i : Int), pl_pop i), some (am_i 1), g2), ⟨?_, by dsimp only; omega, tm2, f2, r1.trans r2⟩, fun x => ?_⟩
          · rw [List.range_succ, List.foldl_append, ← e1, hF]
            simp only [List.foldl_cons, List.foldl_nil, pl_ftS]
            rw [if_pos ⟨q1, q2, q3⟩]
          · dsimp only
            rw [e51_17]
            simp (disch := first | omega | (simp only [List.length_set]; omega) | rfl) only [↓e51_19, ↓e51_21, ↓e51_24, ↓e51_26, ↓e51_28, ↓e51_29, ↓e51_30, ↓e51_31, ↓e51_34, ↓e51_36, ↓e51_39, ↓e51_41, ↓e51_44, ↓e51_45, ↓e51_48, ↓e51_49, ↓e51_51, ↓e51_53, ↓e51_56, ↓e51_57, ↓e51_60, ↓e51_61, ↓e51_63, ↓e51_64, ↓e51_67, ↓e51_68, ↓e51_71, ↓e51_73, ↓e51_75, ↓e51_77, ↓e51_80, ↓e51_82, ↓e51_85, ↓am_ilp, ↓am_iln, ↓am_iep, ↓am_ien, ↓am_zlp, ↓am_zln, ↓am_zep, ↓am_zen, ↓am_zgp, ↓am_zgn, ↓am_zhp, ↓am_zhn, ↓am_b01, true_or, true_and, and_true, or_true, if_true, if_false, ↓am_bdl_z, ↓am_bdl_s, ↓am_bsl_z, ↓am_bsl_s, ↓am_k1_i, ↓am_k1_r, ↓am_k1_e, ↓am_k1_n, ↓am_bd_s, am_k1_t, eq_self, am_nl_i, am_nl_r, am_nl_e, am_nl_n, Option.toList_some, Option.toList_none, Option.map_some, Option.map_none, List.cons_append, List.nil_append, List.length_cons, List.length_nil, List.set_cons_zero, List.set_cons_succ, List.getElem?_cons_zero, List.getElem?_cons_succ, am_bd_s, ↓am_bdf lpg.1, am_bdf lpg.1, ↓am_bfu lpg.1, am_bfu lpg.1, ↓am_oc_of lpg.1, am_oc_of lpg.1, ↓am_bdf f1.2.1.1, am_bdf f1.2.1.1, ↓am_bfu f1.2.1.1, am_bfu f1.2.1.1, ↓am_oc_of f1.2.1.1, am_oc_of f1.2.1.1, ↓J6_bitCount_w hi, ↓w2, hsub.mpr q1, q3]
            rfl
        · refine ⟨((be, fe), some (am_i 1), g2), ⟨?_, e2, tm2, f2, r1.trans r2⟩, fun x => ?_⟩
          · rw [List.range_succ, List.foldl_append, ← e1, hF]
            simp only [List.foldl_cons, List.foldl_nil, pl_ftS]
            rw [if_neg (fun z => q3 z.2.2)]
          · dsimp only
            have hrg2 : 0 ≤ pl_wk fr la ce ki (B.filter fun b => !i.testBit b) (A.getD s 0).toNat (wi.getD s 0).toNat ∧ pl_wk fr la ce ki (B.filter fun b => !i.testBit b) (A.getD s 0).toNat (wi.getD s 0).toNat ≤ 10 := hrg
            rw [e51_17]
            simp (disch := first | omega | (simp only [List.length_set]; omega) | rfl) only [↓e51_19, ↓e51_21, ↓e51_24, ↓e51_26, ↓e51_28, ↓e51_29, ↓e51_30, ↓e51_31, ↓e51_34, ↓e51_36, ↓e51_39, ↓e51_41, ↓e51_44, ↓e51_45, ↓e51_48, ↓e51_49, ↓e51_51, ↓e51_53, ↓e51_56, ↓e51_57, ↓e51_60, ↓e51_61, ↓e51_63, ↓e51_64, ↓e51_67, ↓e51_68, ↓e51_71, ↓e51_73, ↓e51_75, ↓e51_77, ↓e51_80, ↓e51_82, ↓e51_85, ↓am_ilp, ↓am_iln, ↓am_iep, ↓am_ien, ↓am_zlp, ↓am_zln, ↓am_zep, ↓am_zen, ↓am_zgp, ↓am_zgn, ↓am_zhp, ↓am_zhn, ↓am_b01, true_or, true_and, and_true, or_true, if_true, if_false, ↓am_bdl_z, ↓am_bdl_s, ↓am_bsl_z, ↓am_bsl_s, ↓am_k1_i, ↓am_k1_r, ↓am_k1_e, ↓am_k1_n, ↓am_bd_s, am_k1_t, eq_self, am_nl_i, am_nl_r, am_nl_e, am_nl_n, Option.toList_some, Option.toList_none, Option.map_some, Option.map_none, List.cons_append, List.nil_append, List.length_cons, List.length_nil, List.set_cons_zero, List.set_cons_succ, List.getElem?_cons_zero, List.getElem?_cons_succ, am_bd_s, ↓am_bdf lpg.1, am_bdf lpg.1, ↓am_bfu lpg.1, am_bfu lpg.1, ↓am_oc_of lpg.1, am_oc_of lpg.1, ↓am_bdf f1.2.1.1, am_bdf f1.2.1.1, ↓am_bfu f1.2.1.1, am_bfu f1.2.1.1, ↓am_oc_of f1.2.1.1, am_oc_of f1.2.1.1, ↓J6_bitCount_w hi, ↓w2, hsub.mpr q1]
            rfl
      · refine ⟨((be, fe), some (am_i 0), g), ⟨?_, e2, tm1, f1, r1⟩, fun x => ?_⟩
        · rw [List.range_succ, List.foldl_append, ← e1, hF]
          simp only [List.foldl_cons, List.foldl_nil, pl_ftS]
          rw [if_neg (fun z => q2 z.2.1)]
        · dsimp only
          rw [e51_17]
          simp (disch := first | omega | (simp only [List.length_set]; omega) | rfl) only [↓e51_19, ↓e51_21, ↓e51_24, ↓e51_26, ↓e51_28, ↓e51_29, ↓e51_30, ↓e51_31, ↓e51_34, ↓e51_36, ↓e51_39, ↓e51_41, ↓e51_44, ↓e51_45, ↓e51_48, ↓e51_49, ↓e51_51, ↓e51_53, ↓e51_56, ↓e51_57, ↓e51_60, ↓e51_61, ↓e51_63, ↓e51_64, ↓e51_67, ↓e51_68, ↓e51_71, ↓e51_73, ↓e51_75, ↓e51_77, ↓e51_80, ↓e51_82, ↓e51_85, ↓am_ilp, ↓am_iln, ↓am_iep, ↓am_ien, ↓am_zlp, ↓am_zln, ↓am_zep, ↓am_zen, ↓am_zgp, ↓am_zgn, ↓am_zhp, ↓am_zhn, ↓am_b01, true_or, true_and, and_true, or_true, if_true, if_false, ↓am_bdl_z, ↓am_bdl_s, ↓am_bsl_z, ↓am_bsl_s, ↓am_k1_i, ↓am_k1_r, ↓am_k1_e, ↓am_k1_n, ↓am_bd_s, am_k1_t, eq_self, am_nl_i, am_nl_r, am_nl_e, am_nl_n, Option.toList_some, Option.toList_none, Option.map_some, Option.map_none, List.cons_append, List.nil_append, List.length_cons, List.length_nil, List.set_cons_zero, List.set_cons_succ, List.getElem?_cons_zero, List.getElem?_cons_succ, am_bd_s, ↓am_bdf lpg.1, am_bdf lpg.1, ↓am_bfu lpg.1, am_bfu lpg.1, ↓am_oc_of lpg.1, am_oc_of lpg.1, ↓am_bdf f1.2.1.1, am_bdf f1.2.1.1, ↓am_bfu f1.2.1.1, am_bfu f1.2.1.1, ↓am_oc_of f1.2.1.1, am_oc_of f1.2.1.1, ↓J6_bitCount_w hi, hsub.mpr q1]
          rfl
    · refine ⟨((be, fe), some (am_i 0), g), ⟨?_, e2, tm1, f1, r1⟩, fun x => ?_⟩
      · rw [List.range_succ, List.foldl_append, ← e1, hF]
        simp only [List.foldl_cons, List.foldl_nil, pl_ftS]
        rw [if_neg (fun z => q1 z.1)]
      · dsimp only
        have q2 : ¬ am_w (am_and ((i : Nat) : Int) (am_xor ((pl_mask B : Nat) : Int) (-1))) = 0 := fun z => q1 (hsub.mp z)
        rw [e51_17]
        simp (disch := first | omega | (simp only [List.length_set]; omega) | rfl) only [↓e51_19, ↓e51_21, ↓e51_24, ↓e51_26, ↓e51_28, ↓e51_29, ↓e51_30, ↓e51_31, ↓e51_34, ↓e51_36, ↓e51_39, ↓e51_41, ↓e51_44, ↓e51_45, ↓e51_48, ↓e51_49, ↓e51_51, ↓e51_53, ↓e51_56, ↓e51_57, ↓e51_60, ↓e51_61, ↓e51_63, ↓e51_64, ↓e51_67, ↓e51_68, ↓e51_71, ↓e51_73, ↓e51_75, ↓e51_77, ↓e51_80, ↓e51_82, ↓e51_85, ↓am_ilp, ↓am_iln, ↓am_iep, ↓am_ien, ↓am_zlp, ↓am_zln, ↓am_zep, ↓am_zen, ↓am_zgp, ↓am_zgn, ↓am_zhp, ↓am_zhn, ↓am_b01, true_or, true_and, and_true, or_true, if_true, if_false, ↓am_bdl_z, ↓am_bdl_s, ↓am_bsl_z, ↓am_bsl_s, ↓am_k1_i, ↓am_k1_r, ↓am_k1_e, ↓am_k1_n, ↓am_bd_s, am_k1_t, eq_self, am_nl_i, am_nl_r, am_nl_e, am_nl_n, Option.toList_some, Option.toList_none, Option.map_some, Option.map_none, List.cons_append, List.nil_append, List.length_cons, List.length_nil, List.set_cons_zero, List.set_cons_succ, List.getElem?_cons_zero, List.getElem?_cons_succ, am_bd_s, ↓am_bdf lpg.1, am_bdf lpg.1, ↓am_bfu lpg.1, am_bfu lpg.1, ↓am_oc_of lpg.1, am_oc_of lpg.1, ↓am_bdf f1.2.1.1, am_bdf f1.2.1.1, ↓am_bfu f1.2.1.1, am_bfu f1.2.1.1, ↓am_oc_of f1.2.1.1, am_oc_of f1.2.1.1, ↓if_neg q2]
        rfl) 64 0 ((-9, 7), none, h) rfl ⟨rfl, by dsimp only; omega, tm, lf, Fr.rf⟩
  obtain ⟨⟨⟨be, fe⟩, x8, g⟩, ⟨e1, e2, tm1, f1, r1⟩, w⟩ := st
  dsimp only at e1 e2 f1 r1 w
  refine ⟨g, tm1, fun E K => ?_, f1, r1⟩
  have aw := fun E K => X3_asBits_w (E := E) (K := K) l
  rw [pl_bits_n hB6] at aw
  have w1 := w (E, K)
  dsimp only at w1
  rw [e51_17 (E := E) (K := K) (h := g)] at w1
  simp (disch := first | omega | (simp only [List.length_set]; omega) | rfl) only [↓e51_19, ↓e51_21, ↓e51_88, ↓e51_90, ↓am_ilp, ↓am_iln, ↓am_iep, ↓am_ien, ↓am_zlp, ↓am_zln, ↓am_zep, ↓am_zen, ↓am_zgp, ↓am_zgn, ↓am_zhp, ↓am_zhn, ↓am_b01, true_or, true_and, and_true, or_true, if_true, if_false, ↓am_bdl_z, ↓am_bdl_s, ↓am_bsl_z, ↓am_bsl_s, ↓am_k1_i, ↓am_k1_r, ↓am_k1_e, ↓am_k1_n, ↓am_bd_s, am_k1_t, eq_self, am_nl_i, am_nl_r, am_nl_e, am_nl_n, Option.toList_some, Option.toList_none, Option.map_some, Option.map_none, List.cons_append, List.nil_append, List.length_cons, List.length_nil, List.set_cons_zero, List.set_cons_succ, List.getElem?_cons_zero, List.getElem?_cons_succ, am_bd_s] at w1
  rw [← hF, ← e1]
  simp (disch := first | omega | (simp only [List.length_set]; omega) | rfl) only [↓e51_0, ↓e51_1, ↓e51_4, ↓e51_6, ↓e51_8, ↓e51_10, ↓e51_12, ↓e51_14, ↓e51_15, ↓am_ilp, ↓am_iln, ↓am_iep, ↓am_ien, ↓am_zlp, ↓am_zln, ↓am_zep, ↓am_zen, ↓am_zgp, ↓am_zgn, ↓am_zhp, ↓am_zhn, ↓am_b01, true_or, true_and, and_true, or_true, if_true, if_false, ↓am_bdl_z, ↓am_bdl_s, ↓am_bsl_z, ↓am_bsl_s, ↓am_k1_i, ↓am_k1_r, ↓am_k1_e, ↓am_k1_n, ↓am_bd_s, am_k1_t, eq_self, am_nl_i, am_nl_r, am_nl_e, am_nl_n, Option.toList_some, Option.toList_none, Option.map_some, Option.map_none, List.cons_append, List.nil_append, List.length_cons, List.length_nil, List.set_cons_zero, List.set_cons_succ, List.getElem?_cons_zero, List.getElem?_cons_succ, am_bd_s, ↓am_bdf l.obj.1, am_bdf l.obj.1, ↓am_bfu l.obj.1, am_bfu l.obj.1, ↓am_oc_of l.obj.1, am_oc_of l.obj.1, ↓aw]
  exact w1
end PLN
