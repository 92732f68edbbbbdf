/-! the model: shares and chances -/
theorem pl_pw (v : Int) : ∀ (k : Nat) (i p : Int), pl_fz (fun p _ => p * v) i k p = p * v ^ k
  | 0, i, p => by rw [pl_fz, Int.pow_zero, Int.mul_one]
  | k + 1, i, p => by rw [pl_fz, pl_pw v k, Int.pow_succ, Int.mul_assoc, Int.mul_comm v]
def pl_fct (n : Nat) : Nat := [1, 1, 2, 6, 24, 120, 720].getD n 1
theorem pl_fct_rng (n : Nat) : 1 ≤ pl_fct n ∧ pl_fct n ≤ 720 := by
  match n with
  | 0 => decide
  | 1 => decide
  | 2 => decide
  | 3 => decide
  | 4 => decide
  | 5 => decide
  | 6 => decide
  | n + 7 => show (1 : Nat) ≤ 1 ∧ 1 ≤ 720; decide
/-- subsets -/
theorem pl_and_le {i m : Nat} (h : i &&& m = i) : i ≤ m := by rw [← h]; exact Nat.and_le_right
theorem pl_cut {α : Type} {F : α → Nat → α} {m : Nat} (hm : m < 64) (hF : ∀ a i, m < i → F a i = a) (a : α) : (List.range 64).foldl F a = (List.range (m + 1)).foldl F a := by
  have key : ∀ k, (List.range (m + 1 + k)).foldl F a = (List.range (m + 1)).foldl F a := by
    intro k
    induction k with
    | zero => rfl
    | succ k ih => rw [show m + 1 + (k + 1) = (m + 1 + k) + 1 by omega, List.range_succ, List.foldl_append, ih]; exact hF _ _ (by omega)
  have := key (63 - m)
  rw [show m + 1 + (63 - m) = 64 by omega] at this
  exact this
/-- as many bits as blankets -/
theorem pl_pop_len {B : List Nat} (hB : ∀ x ∈ B, x < 6) (hn : B.Nodup) : pl_pop (pl_mask B) = B.length := by
  have e1 : ∀ m, pl_pop m = ((List.range 6).filter m.testBit).length := by
    intro m
    have key : ∀ (l : List Nat) (a : Nat), l.foldl (fun a k => a + if m.testBit k then 1 else 0) a = a + (l.filter m.testBit).length := by
      intro l
      induction l with
      | nil => intro a; rfl
      | cons x l ih =>
        intro a
        rw [List.foldl_cons, ih]
        by_cases q : m.testBit x = true
        · rw [List.filter_cons_of_pos q, List.length_cons, if_pos q]; omega
        · rw [List.filter_cons_of_neg q, if_neg q]; omega
    unfold pl_pop
    rw [key, Nat.zero_add]
  rw [e1]
  have e2 : ((List.range 6).filter (pl_mask B).testBit).Perm B := by
    apply (List.perm_ext_iff_of_nodup (List.nodup_range.filter _) hn).mpr
    intro x
    rw [List.mem_filter, List.mem_range]
    constructor
    · rintro ⟨h1, h2⟩
      rw [pl_mask_bit hB h1] at h2
      exact of_decide_eq_true h2
    · intro h
      exact ⟨hB x h, by rw [pl_mask_bit hB (hB x h)]; exact decide_eq_true h⟩
  exact e2.length_eq
/-- those of m that are not in i -/
def pl_wo (m i : Nat) : Nat := (am_and ((m : Nat) : Int) (am_xor ((i : Nat) : Int) (-1))).toNat
theorem pl_wo_64 : ∀ m < 64, ∀ i < 64, am_and ((m : Nat) : Int) (am_xor ((i : Nat) : Int) (-1)) = ((pl_wo m i : Nat) : Int) ∧ pl_wo m i < 64 := by decide +kernel
theorem pl_own : ∀ i < 64, ∀ q < 6, am_w (am_and ((i : Nat) : Int) (am_shl 1 ((q : Nat) : Int))) = 0 ↔ i.testBit q = false := by decide +kernel
/-- a step of the sum of a share -/
def pl_shS (nm : Nat → Int) (mask q len : Nat) (a : Int) (i : Nat) : Int := if i &&& mask = i ∧ i.testBit q = false then a + (nm (pl_wo mask (i ||| 2 ^ q)) - nm (pl_wo mask i)) * ((pl_fct (pl_pop i) : Int) * (pl_fct (len - 1 - pl_pop i) : Int)) else a
theorem pl_mul_b {a b : Int} (h1 : -6 ≤ a ∧ a ≤ 6) (h2 : 0 ≤ b ∧ b ≤ 518400) : -3110400 ≤ a * b ∧ a * b ≤ 3110400 := by
  have e1 : a * b ≤ 6 * b := Int.mul_le_mul_of_nonneg_right h1.2 h2.1
  have e2 : (-6) * b ≤ a * b := Int.mul_le_mul_of_nonneg_right h1.1 h2.1
  omega
theorem pl_fct_mul (a b : Nat) : 0 ≤ (pl_fct a : Int) * (pl_fct b : Int) ∧ (pl_fct a : Int) * (pl_fct b : Int) ≤ 518400 := by
  have h1 := pl_fct_rng a
  have h2 := pl_fct_rng b
  refine ⟨Int.mul_nonneg (by omega) (by omega), ?_⟩
  have e1 : (pl_fct a : Int) * (pl_fct b : Int) ≤ 720 * (pl_fct b : Int) := Int.mul_le_mul_of_nonneg_right (by omega) (by omega)
  omega
theorem pl_sh_rng {nm : Nat → Int} {mask q len : Nat} (hnm : ∀ i, 0 ≤ nm i ∧ nm i ≤ 6) : ∀ n : Nat, -3110400 * (n : Int) ≤ (List.range n).foldl (pl_shS nm mask q len) 0 ∧ (List.range n).foldl (pl_shS nm mask q len) 0 ≤ 3110400 * (n : Int)
  | 0 => by constructor <;> simp
  | n + 1 => by
    have ih := pl_sh_rng (nm := nm) (mask := mask) (q := q) (len := len) hnm n
    rw [List.range_succ, List.foldl_append, List.foldl_cons, List.foldl_nil]
    generalize (List.range n).foldl (pl_shS nm mask q len) 0 = a at ih ⊢
    unfold pl_shS
    split
    · have b1 := hnm (pl_wo mask (n ||| 2 ^ q))
      have b2 := hnm (pl_wo mask n)
      have b3 := pl_mul_b (a := nm (pl_wo mask (n ||| 2 ^ q)) - nm (pl_wo mask n)) (by omega) (pl_fct_mul (pl_pop n) (len - 1 - pl_pop n))
      omega
    · omega
/-- a fraction's upper or lower number, made short -/
def pl_fra (a b : Int) (u : Bool) : Int := am_div (if u = true then a else b) ((Nat.gcd a.natAbs b.natAbs : Nat) : Int)
section MCH
variable {C : Nat → am_C} {S : Nat → Int} {V : Nat → List Int} {nb ns : Nat} {L : pl_L}
theorem X10_power_w {E : List (List Int)} {K : Option am_V → am_H → Prop} {h : am_H} {v n : Int} (hn : 0 ≤ n ∧ n ≤ 100) : Wp E 174 0 [some (am_i v), some (am_i n), none, none] [] h K = K (some (am_i (v ^ n.toNat))) h := by
  have lo := am_foldz (W := fun i p => Wp E 174 4 [some (am_i v), some (am_i n), some (am_i p), some (am_i i)] [] h K) (f := fun p _ => p * v) (I := fun _ _ => True) (lo := 0) (N := n) (by
    intro i p h0 h1 _
    refine ⟨trivial, ?_⟩
    rw [e174_4]
    simp (disch := first | omega | (simp (disch := omega) only [up_eq, up_ne, si_len, List.length_set]; omega)) only [↓e174_5, ↓e174_6, ↓e174_9, ↓e174_10, ↓e174_11, ↓e174_12, ↓e174_13, ↓e174_16, ↓am_ilp, ↓am_iln, ↓am_iep, ↓am_ien, ↓am_zlp, ↓am_zln, ↓am_zep, ↓am_zen, ↓am_zgp, ↓am_zgn, ↓am_zhp, ↓am_zhn, ↓am_b01, true_or, true_and, and_true, or_true, if_true, if_false, ↓am_bdl_z, ↓am_bdl_s, ↓am_bsl_z, ↓am_bsl_s, ↓am_k1_i, ↓am_k1_r, ↓am_k1_e, ↓am_k1_n, ↓am_bd_s, am_k1_t, eq_self, am_nl_i, am_nl_r, am_nl_e, am_nl_n, Option.toList_some, Option.toList_none, Option.map_some, Option.map_none, List.cons_append, List.nil_append, List.length_cons, List.length_nil, List.set_cons_zero, List.set_cons_succ, List.getElem?_cons_zero, List.getElem?_cons_succ, am_bd_s]) n.toNat 0 1 (by omega) (by omega) trivial
  have e2 := pl_pw v n.toNat 0 1
  rw [Int.one_mul] at e2
  rw [← e2]
  simp (disch := first | omega | (simp (disch := omega) only [up_eq, up_ne, si_len, List.length_set]; omega)) only [↓e174_0, ↓e174_1, ↓e174_2, ↓e174_3, ↓am_ilp, ↓am_iln, ↓am_iep, ↓am_ien, ↓am_zlp, ↓am_zln, ↓am_zep, ↓am_zen, ↓am_zgp, ↓am_zgn, ↓am_zhp, ↓am_zhn, ↓am_b01, true_or, true_and, and_true, or_true, if_true, if_false, ↓am_bdl_z, ↓am_bdl_s, ↓am_bsl_z, ↓am_bsl_s, ↓am_k1_i, ↓am_k1_r, ↓am_k1_e, ↓am_k1_n, ↓am_bd_s, am_k1_t, eq_self, am_nl_i, am_nl_r, am_nl_e, am_nl_n, Option.toList_some, Option.toList_none, Option.map_some, Option.map_none, List.cons_append, List.nil_append, List.length_cons, List.length_nil, List.set_cons_zero, List.set_cons_succ, List.getElem?_cons_zero, List.getElem?_cons_succ, am_bd_s]
  refine Eq.trans lo.1 ?_
  rw [e174_4]
  simp (disch := first | omega | (simp (disch := omega) only [up_eq, up_ne, si_len, List.length_set]; omega)) only [↓e174_5, ↓e174_6, ↓e174_19, ↓e174_20, ↓am_ilp, ↓am_iln, ↓am_iep, ↓am_ien, ↓am_zlp, ↓am_zln, ↓am_zep, ↓am_zen, ↓am_zgp, ↓am_zgn, ↓am_zhp, ↓am_zhn, ↓am_b01, true_or, true_and, and_true, or_true, if_true, if_false, ↓am_bdl_z, ↓am_bdl_s, ↓am_bsl_z, ↓am_bsl_s, ↓am_k1_i, ↓am_k1_r, ↓am_k1_e, ↓am_k1_n, ↓am_bd_s, am_k1_t, eq_self, am_nl_i, am_nl_r, am_nl_e, am_nl_n, Option.toList_some, Option.toList_none, Option.map_some, Option.map_none, List.cons_append, List.nil_append, List.length_cons, List.length_nil, List.set_cons_zero, List.set_cons_succ, List.getElem?_cons_zero, List.getElem?_cons_succ, am_bd_s]
theorem X10_factorial_w {E : List (List Int)} {K : Option am_V → am_H → Prop} {h : am_H} {n : Int} (hn : 0 ≤ n ∧ n ≤ 6) : Wp E 155 0 [some (am_i n), none, none] [] h K = K (some (am_i (pl_fct n.toNat : Int))) h := by
  have lo := fun (N : Int) (hN : N ≤ 7) => am_foldz (W := fun i p => Wp E 155 4 [some (am_i n), some (am_i p), some (am_i i)] [] h K) (f := fun p i => p * i) (I := fun _ _ => N ≤ n + 1) (lo := 2) (N := N) (by
    intro i p h0 h1 h2
    refine ⟨h2, ?_⟩
    rw [e155_4]
    simp (disch := first | omega | (simp (disch := omega) only [up_eq, up_ne, si_len, List.length_set]; omega)) only [↓e155_5, ↓e155_6, ↓e155_9, ↓e155_10, ↓e155_11, ↓e155_12, ↓e155_13, ↓e155_16, ↓am_ilp, ↓am_iln, ↓am_iep, ↓am_ien, ↓am_zlp, ↓am_zln, ↓am_zep, ↓am_zen, ↓am_zgp, ↓am_zgn, ↓am_zhp, ↓am_zhn, ↓am_b01, true_or, true_and, and_true, or_true, if_true, if_false, ↓am_bdl_z, ↓am_bdl_s, ↓am_bsl_z, ↓am_bsl_s, ↓am_k1_i, ↓am_k1_r, ↓am_k1_e, ↓am_k1_n, ↓am_bd_s, am_k1_t, eq_self, am_nl_i, am_nl_r, am_nl_e, am_nl_n, Option.toList_some, Option.toList_none, Option.map_some, Option.map_none, List.cons_append, List.nil_append, List.length_cons, List.length_nil, List.set_cons_zero, List.set_cons_succ, List.getElem?_cons_zero, List.getElem?_cons_succ, am_bd_s])
  have fin : ∀ (N p : Int), N = n + 1 ∨ n ≤ 1 ∧ N = 2 → Wp E 155 4 [some (am_i n), some (am_i p), some (am_i N)] [] h K = K (some (am_i p)) h := by
    intro N p hN
    rw [e155_4]
    simp (disch := first | omega | (simp (disch := omega) only [up_eq, up_ne, si_len, List.length_set]; omega)) only [↓e155_5, ↓e155_6, ↓e155_19, ↓e155_20, ↓am_ilp, ↓am_iln, ↓am_iep, ↓am_ien, ↓am_zlp, ↓am_zln, ↓am_zep, ↓am_zen, ↓am_zgp, ↓am_zgn, ↓am_zhp, ↓am_zhn, ↓am_b01, true_or, true_and, and_true, or_true, if_true, if_false, ↓am_bdl_z, ↓am_bdl_s, ↓am_bsl_z, ↓am_bsl_s, ↓am_k1_i, ↓am_k1_r, ↓am_k1_e, ↓am_k1_n, ↓am_bd_s, am_k1_t, eq_self, am_nl_i, am_nl_r, am_nl_e, am_nl_n, Option.toList_some, Option.toList_none, Option.map_some, Option.map_none, List.cons_append, List.nil_append, List.length_cons, List.length_nil, List.set_cons_zero, List.set_cons_succ, List.getElem?_cons_zero, List.getElem?_cons_succ, am_bd_s]
  simp (disch := first | omega | (simp (disch := omega) only [up_eq, up_ne, si_len, List.length_set]; omega)) only [↓e155_0, ↓e155_1, ↓e155_2, ↓e155_3, ↓am_ilp, ↓am_iln, ↓am_iep, ↓am_ien, ↓am_zlp, ↓am_zln, ↓am_zep, ↓am_zen, ↓am_zgp, ↓am_zgn, ↓am_zhp, ↓am_zhn, ↓am_b01, true_or, true_and, and_true, or_true, if_true, if_false, ↓am_bdl_z, ↓am_bdl_s, ↓am_bsl_z, ↓am_bsl_s, ↓am_k1_i, ↓am_k1_r, ↓am_k1_e, ↓am_k1_n, ↓am_bd_s, am_k1_t, eq_self, am_nl_i, am_nl_r, am_nl_e, am_nl_n, Option.toList_some, Option.toList_none, Option.map_some, Option.map_none, List.cons_append, List.nil_append, List.length_cons, List.length_nil, List.set_cons_zero, List.set_cons_succ, List.getElem?_cons_zero, List.getElem?_cons_succ, am_bd_s]
  obtain ⟨m, hm, rfl⟩ : ∃ m : Nat, m ≤ 6 ∧ n = (m : Int) := ⟨n.toNat, by omega, by omega⟩
  rw [Int.toNat_natCast]
  match m, hm with
  | 0, _ => exact fin 2 1 (by omega)
  | 1, _ => exact fin 2 1 (by omega)
  | 2, _ => exact (lo 3 (by omega) 1 2 1 (by omega) (by omega) (by omega)).1.trans (fin 3 _ (by omega))
  | 3, _ => exact (lo 4 (by omega) 2 2 1 (by omega) (by omega) (by omega)).1.trans (fin 4 _ (by omega))
  | 4, _ => exact (lo 5 (by omega) 3 2 1 (by omega) (by omega) (by omega)).1.trans (fin 5 _ (by omega))
  | 5, _ => exact (lo 6 (by omega) 4 2 1 (by omega) (by omega) (by omega)).1.trans (fin 6 _ (by omega))
  | 6, _ => exact (lo 7 (by omega) 5 2 1 (by omega) (by omega) (by omega)).1.trans (fin 7 _ (by omega))
  | m + 7, h => omega
theorem X10_common_l {E : List (List Int)} {K : Option am_V → am_H → Prop} {h : am_H} {a : Option am_V} {b : Int} : ∀ (y x : Nat) (x4 : Option am_V), x ≤ 2147483647 → y ≤ 2147483647 → Wp E 167 13 [a, some (am_i b), some (am_i (x : Int)), some (am_i (y : Int)), x4] [] h K = K (some (am_i ((Nat.gcd x y : Nat) : Int))) h := by
  intro y
  induction y using Nat.strongRecOn with
  | _ y ih =>
    intro x x4 hx hy
    rw [e167_13]
    by_cases q : y = 0
    · subst q
      rw [Nat.gcd_zero_right]
      simp (disch := first | omega | (simp (disch := omega) only [up_eq, up_ne, si_len, List.length_set]; omega)) only [↓e167_14, ↓e167_30, ↓e167_31, ↓am_ilp, ↓am_iln, ↓am_iep, ↓am_ien, ↓am_zlp, ↓am_zln, ↓am_zep, ↓am_zen, ↓am_zgp, ↓am_zgn, ↓am_zhp, ↓am_zhn, ↓am_b01, true_or, true_and, and_true, or_true, if_true, if_false, ↓am_bdl_z, ↓am_bdl_s, ↓am_bsl_z, ↓am_bsl_s, ↓am_k1_i, ↓am_k1_r, ↓am_k1_e, ↓am_k1_n, ↓am_bd_s, am_k1_t, eq_self, am_nl_i, am_nl_r, am_nl_e, am_nl_n, Option.toList_some, Option.toList_none, Option.map_some, Option.map_none, List.cons_append, List.nil_append, List.length_cons, List.length_nil, List.set_cons_zero, List.set_cons_succ, List.getElem?_cons_zero, List.getElem?_cons_succ, am_bd_s]
    · have hl := Nat.mod_lt x (show 0 < y by omega)
      have er : am_rem (x : Int) (y : Int) = ((x % y : Nat) : Int) := by
        rw [am_rem_n (by omega) (by omega) (by omega) (by omega)]
        rfl
      have i2 := ih (x % y) hl y (some (am_i ((x % y : Nat) : Int))) hy (by omega)
      rw [show Nat.gcd x y = Nat.gcd y (x % y) by rw [Nat.gcd_comm x y, Nat.gcd_rec y x, Nat.gcd_comm]]
      simp (disch := first | omega | (simp (disch := omega) only [up_eq, up_ne, si_len, List.length_set]; omega)) only [↓e167_14, ↓e167_17, ↓e167_18, ↓e167_19, ↓e167_20, ↓e167_22, ↓e167_23, ↓e167_24, ↓e167_26, ↓e167_27, ↓am_ilp, ↓am_iln, ↓am_iep, ↓am_ien, ↓am_zlp, ↓am_zln, ↓am_zep, ↓am_zen, ↓am_zgp, ↓am_zgn, ↓am_zhp, ↓am_zhn, ↓am_b01, true_or, true_and, and_true, or_true, if_true, if_false, ↓am_bdl_z, ↓am_bdl_s, ↓am_bsl_z, ↓am_bsl_s, ↓am_k1_i, ↓am_k1_r, ↓am_k1_e, ↓am_k1_n, ↓am_bd_s, am_k1_t, eq_self, am_nl_i, am_nl_r, am_nl_e, am_nl_n, Option.toList_some, Option.toList_none, Option.map_some, Option.map_none, List.cons_append, List.nil_append, List.length_cons, List.length_nil, List.set_cons_zero, List.set_cons_succ, List.getElem?_cons_zero, List.getElem?_cons_succ, am_bd_s, er]
      exact i2
theorem X10_common_w {E : List (List Int)} {K : Option am_V → am_H → Prop} {h : am_H} {a b : Int} (ha : -2147483647 ≤ a ∧ a ≤ 2147483647) (hb : 0 ≤ b ∧ b ≤ 2147483647) : Wp E 167 0 [some (am_i a), some (am_i b), none, none, none] [] h K = K (some (am_i ((Nat.gcd a.natAbs b.natAbs : Nat) : Int))) h := by
  have lw := X10_common_l (E := E) (K := K) (h := h) (a := some (am_i a)) (b := b) b.natAbs a.natAbs none (by omega) (by omega)
  rw [show ((b.natAbs : Nat) : Int) = b by omega] at lw
  by_cases q : a < 0
  · rw [show ((a.natAbs : Nat) : Int) = -a by omega] at lw
    simp (disch := first | omega | (simp (disch := omega) only [up_eq, up_ne, si_len, List.length_set]; omega)) only [↓e167_0, ↓e167_1, ↓e167_4, ↓e167_5, ↓e167_6, ↓e167_9, ↓e167_10, ↓e167_11, ↓e167_12, ↓am_ilp, ↓am_iln, ↓am_iep, ↓am_ien, ↓am_zlp, ↓am_zln, ↓am_zep, ↓am_zen, ↓am_zgp, ↓am_zgn, ↓am_zhp, ↓am_zhn, ↓am_b01, true_or, true_and, and_true, or_true, if_true, if_false, ↓am_bdl_z, ↓am_bdl_s, ↓am_bsl_z, ↓am_bsl_s, ↓am_k1_i, ↓am_k1_r, ↓am_k1_e, ↓am_k1_n, ↓am_bd_s, am_k1_t, eq_self, am_nl_i, am_nl_r, am_nl_e, am_nl_n, Option.toList_some, Option.toList_none, Option.map_some, Option.map_none, List.cons_append, List.nil_append, List.length_cons, List.length_nil, List.set_cons_zero, List.set_cons_succ, List.getElem?_cons_zero, List.getElem?_cons_succ, am_bd_s]
    exact lw
  · rw [show ((a.natAbs : Nat) : Int) = a by omega] at lw
    simp (disch := first | omega | (simp (disch := omega) only [up_eq, up_ne, si_len, List.length_set]; omega)) only [↓e167_0, ↓e167_1, ↓e167_4, ↓e167_5, ↓e167_6, ↓e167_9, ↓e167_10, ↓e167_11, ↓e167_12, ↓am_ilp, ↓am_iln, ↓am_iep, ↓am_ien, ↓am_zlp, ↓am_zln, ↓am_zep, ↓am_zen, ↓am_zgp, ↓am_zgn, ↓am_zhp, ↓am_zhn, ↓am_b01, true_or, true_and, and_true, or_true, if_true, if_false, ↓am_bdl_z, ↓am_bdl_s, ↓am_bsl_z, ↓am_bsl_s, ↓am_k1_i, ↓am_k1_r, ↓am_k1_e, ↓am_k1_n, ↓am_bd_s, am_k1_t, eq_self, am_nl_i, am_nl_r, am_nl_e, am_nl_n, Option.toList_some, Option.toList_none, Option.map_some, Option.map_none, List.cons_append, List.nil_append, List.length_cons, List.length_nil, List.set_cons_zero, List.set_cons_succ, List.getElem?_cons_zero, List.getElem?_cons_succ, am_bd_s]
    exact lw
theorem X10_oldBy_w {g : Int} (mp : MP S V nb ns) (ly : Ly (V 102) 0 L) (wf : WfL nb ns (V 101) L) (hg : 0 ≤ g ∧ g < 64) : ∃ V', Sc V V' ∧ ∀ E K, Wp E 168 0 [some (am_r (some 96)), some (am_i g), none, none] [] (mk C S V) K = K (some (am_i (pl_nm (V 97) (V 98) (V 99) (V 100) (L.1.filter fun b => !(pl_wo (pl_mask L.1) g.toNat).testBit b) (List.range' 0 6) : Int))) (mk C S V') := by
  obtain ⟨s0, s1, hnb, hns, l97, l98, l99, l100, l101, l102, l107, pv, wv⟩ := id mp
  have B6 : ∀ x ∈ L.1, x < 6 := fun x hx => by have := wf.1 x hx; omega
  obtain ⟨g, rfl⟩ : ∃ n : Nat, g = (n : Int) := ⟨g.toNat, by omega⟩
  rw [Int.toNat_natCast]
  obtain ⟨z1, z2⟩ := pl_wo_64 (pl_mask L.1) (pl_mask_64 B6) g (by omega)
  have lw := fun E K => X10_lying_w (E := E) (K := K) (C := C) mp ly wf.1
  obtain ⟨V1, c1, l1, w1⟩ := X10_layWithout_w (C := C) (g := am_and (pl_mask L.1 : Int) (am_xor (g : Int) (-1))) mp ly wf (by rw [z1]; omega)
  have et : (am_and (pl_mask L.1 : Int) (am_xor (g : Int) (-1))).toNat = pl_wo (pl_mask L.1) g := rfl
  rw [et] at l1
  have hx : ∀ x ∈ L.1.filter (fun b => !(pl_wo (pl_mask L.1) g).testBit b), x < nb := fun x hx => wf.1 x (List.mem_filter.mp hx).1
  have m1 := c1.mp mp
  have tw := fun (c : Int) (hc : 0 ≤ c ∧ c < 6) E K => X10_timeOf_w (E := E) (K := K) (C := C) (lv := 1) (c := c) m1 l1 (by omega) hx hc
  simp only [c1.at (i := 97) (by decide) (by decide), c1.at (i := 98) (by decide) (by decide), c1.at (i := 99) (by decide) (by decide), c1.at (i := 100) (by decide) (by decide)] at tw
  generalize L.1.filter (fun b => !(pl_wo (pl_mask L.1) g).testBit b) = B at hx tw ⊢
  refine ⟨V1, c1, fun E K => ?_⟩
  have lo := am_foldz (W := fun i a => Wp E 168 16 [some (am_r (some 96)), some (am_i (g : Int)), some (am_i a), some (am_i i)] [] (mk C S V1) K) (f := fun a i => a + if pl_tm (V 97) (V 98) (V 99) (V 100) B i.toNat = 10 then 0 else 1) (I := fun _ _ => True) (lo := 0) (N := 6) (by
    intro i a h0 h1 _
    refine ⟨trivial, ?_⟩
    have hr := pl_tm_rng pv hx (show i.toNat < 6 by omega)
    have tw2 := tw i ⟨h0, h1⟩
    rw [e168_16]
    by_cases q : pl_tm (V 97) (V 98) (V 99) (V 100) B i.toNat = 10
    · simp (disch := first | omega | (simp (disch := omega) only [up_eq, up_ne, si_len, List.length_set]; omega)) only [↓e168_17, ↓e168_19, ↓e168_22, ↓e168_23, ↓e168_24, ↓e168_25, ↓e168_26, ↓e168_29, ↓e168_31, ↓e168_34, ↓e168_35, ↓e168_38, ↓e168_39, ↓e168_40, ↓e168_41, ↓e168_44, ↓am_ilp, ↓am_iln, ↓am_iep, ↓am_ien, ↓am_zlp, ↓am_zln, ↓am_zep, ↓am_zen, ↓am_zgp, ↓am_zgn, ↓am_zhp, ↓am_zhn, ↓am_b01, true_or, true_and, and_true, or_true, if_true, if_false, ↓am_bdl_z, ↓am_bdl_s, ↓am_bsl_z, ↓am_bsl_s, ↓am_k1_i, ↓am_k1_r, ↓am_k1_e, ↓am_k1_n, ↓am_bd_s, am_k1_t, eq_self, am_nl_i, am_nl_r, am_nl_e, am_nl_n, Option.toList_some, Option.toList_none, Option.map_some, Option.map_none, List.cons_append, List.nil_append, List.length_cons, List.length_nil, List.set_cons_zero, List.set_cons_succ, List.getElem?_cons_zero, List.getElem?_cons_succ, am_bd_s, ↓am_tls, ↓am_tln, ↓mk_oc, ↓ma_r, ↓ma_w, ↓mz_r, ↓mz_w, ↓mr0, ↓mr1, ↓mr2, ↓mr3, ↓mr4, ↓mr5, ↓mr6, ↓mr7, ↓mr8, ↓mr9, ↓mr10, ↓mr11, ↓mr12, ↓mr13, ↓mr14, ↓mr15, ↓mr16, ↓mr17, ↓mr18, ↓mr19, ↓mr20, ↓mr21, ↓mr22, ↓mr23, ↓mr24, ↓mr25, ↓mr26, ↓mr27, ↓mw0, ↓mw1, ↓mw11, ↓mw12, ↓mw13, ↓mw15, ↓mw16, ↓mw17, ↓mw19, ↓mw20, ↓mw22, ↓mw25, up_eq, up_ne, up_up, si_len, ↓tw2, if_pos q]
    · simp (disch := first | omega | (simp (disch := omega) only [up_eq, up_ne, si_len, List.length_set]; omega)) only [↓e168_17, ↓e168_19, ↓e168_22, ↓e168_23, ↓e168_24, ↓e168_25, ↓e168_26, ↓e168_29, ↓e168_31, ↓e168_34, ↓e168_35, ↓e168_38, ↓e168_39, ↓e168_40, ↓e168_41, ↓e168_44, ↓am_ilp, ↓am_iln, ↓am_iep, ↓am_ien, ↓am_zlp, ↓am_zln, ↓am_zep, ↓am_zen, ↓am_zgp, ↓am_zgn, ↓am_zhp, ↓am_zhn, ↓am_b01, true_or, true_and, and_true, or_true, if_true, if_false, ↓am_bdl_z, ↓am_bdl_s, ↓am_bsl_z, ↓am_bsl_s, ↓am_k1_i, ↓am_k1_r, ↓am_k1_e, ↓am_k1_n, ↓am_bd_s, am_k1_t, eq_self, am_nl_i, am_nl_r, am_nl_e, am_nl_n, Option.toList_some, Option.toList_none, Option.map_some, Option.map_none, List.cons_append, List.nil_append, List.length_cons, List.length_nil, List.set_cons_zero, List.set_cons_succ, List.getElem?_cons_zero, List.getElem?_cons_succ, am_bd_s, ↓am_tls, ↓am_tln, ↓mk_oc, ↓ma_r, ↓ma_w, ↓mz_r, ↓mz_w, ↓mr0, ↓mr1, ↓mr2, ↓mr3, ↓mr4, ↓mr5, ↓mr6, ↓mr7, ↓mr8, ↓mr9, ↓mr10, ↓mr11, ↓mr12, ↓mr13, ↓mr14, ↓mr15, ↓mr16, ↓mr17, ↓mr18, ↓mr19, ↓mr20, ↓mr21, ↓mr22, ↓mr23, ↓mr24, ↓mr25, ↓mr26, ↓mr27, ↓mw0, ↓mw1, ↓mw11, ↓mw12, ↓mw13, ↓mw15, ↓mw16, ↓mw17, ↓mw19, ↓mw20, ↓mw22, ↓mw25, up_eq, up_ne, up_up, si_len, ↓tw2, if_neg q]) 6 0 0 (by omega) (by omega) trivial
  have ef : pl_fz (fun a i => a + if pl_tm (V 97) (V 98) (V 99) (V 100) B i.toNat = 10 then 0 else 1) 0 6 0 = (pl_nm (V 97) (V 98) (V 99) (V 100) B (List.range' 0 6) : Int) := by
    have key : ∀ (l : List Nat) (a : Int), l.foldl (fun a k => a + if pl_tm (V 97) (V 98) (V 99) (V 100) B k = 10 then 0 else 1) a = a + (pl_nm (V 97) (V 98) (V 99) (V 100) B l : Int) := by
      intro l
      induction l with
      | nil => intro a; simp [pl_nm]
      | cons x l ih =>
        intro a
        rw [List.foldl_cons, ih]
        unfold pl_nm
        rw [List.countP_cons]
        by_cases q : pl_tm (V 97) (V 98) (V 99) (V 100) B x = 10
        · rw [if_pos q, if_neg (by simpa using q)]; omega
        · rw [if_neg q, if_pos (by simpa using q)]; omega
    have h2 := pl_fz_range (f := fun a i => a + if pl_tm (V 97) (V 98) (V 99) (V 100) B i.toNat = 10 then (0 : Int) else 1) 6 0 0
    have h3 := key (List.range' 0 6) 0
    rw [Int.zero_add] at h3
    exact h2.trans h3
  rw [ef] at lo
  simp (disch := first | omega | (simp (disch := omega) only [up_eq, up_ne, si_len, List.length_set]; omega)) only [↓e168_0, ↓e168_1, ↓e168_2, ↓e168_5, ↓e168_6, ↓e168_7, ↓e168_8, ↓e168_9, ↓e168_12, ↓e168_13, ↓e168_14, ↓e168_15, ↓am_ilp, ↓am_iln, ↓am_iep, ↓am_ien, ↓am_zlp, ↓am_zln, ↓am_zep, ↓am_zen, ↓am_zgp, ↓am_zgn, ↓am_zhp, ↓am_zhn, ↓am_b01, true_or, true_and, and_true, or_true, if_true, if_false, ↓am_bdl_z, ↓am_bdl_s, ↓am_bsl_z, ↓am_bsl_s, ↓am_k1_i, ↓am_k1_r, ↓am_k1_e, ↓am_k1_n, ↓am_bd_s, am_k1_t, eq_self, am_nl_i, am_nl_r, am_nl_e, am_nl_n, Option.toList_some, Option.toList_none, Option.map_some, Option.map_none, List.cons_append, List.nil_append, List.length_cons, List.length_nil, List.set_cons_zero, List.set_cons_succ, List.getElem?_cons_zero, List.getElem?_cons_succ, am_bd_s, ↓am_tls, ↓am_tln, ↓mk_oc, ↓ma_r, ↓ma_w, ↓mz_r, ↓mz_w, ↓mr0, ↓mr1, ↓mr2, ↓mr3, ↓mr4, ↓mr5, ↓mr6, ↓mr7, ↓mr8, ↓mr9, ↓mr10, ↓mr11, ↓mr12, ↓mr13, ↓mr14, ↓mr15, ↓mr16, ↓mr17, ↓mr18, ↓mr19, ↓mr20, ↓mr21, ↓mr22, ↓mr23, ↓mr24, ↓mr25, ↓mr26, ↓mr27, ↓mw0, ↓mw1, ↓mw11, ↓mw12, ↓mw13, ↓mw15, ↓mw16, ↓mw17, ↓mw19, ↓mw20, ↓mw22, ↓mw25, up_eq, up_ne, up_up, si_len, ↓lw, ↓w1]
  refine Eq.trans lo.1 ?_
  rw [e168_16]
  simp (disch := first | omega | (simp (disch := omega) only [up_eq, up_ne, si_len, List.length_set]; omega)) only [↓e168_17, ↓e168_19, ↓e168_47, ↓e168_48, ↓am_ilp, ↓am_iln, ↓am_iep, ↓am_ien, ↓am_zlp, ↓am_zln, ↓am_zep, ↓am_zen, ↓am_zgp, ↓am_zgn, ↓am_zhp, ↓am_zhn, ↓am_b01, true_or, true_and, and_true, or_true, if_true, if_false, ↓am_bdl_z, ↓am_bdl_s, ↓am_bsl_z, ↓am_bsl_s, ↓am_k1_i, ↓am_k1_r, ↓am_k1_e, ↓am_k1_n, ↓am_bd_s, am_k1_t, eq_self, am_nl_i, am_nl_r, am_nl_e, am_nl_n, Option.toList_some, Option.toList_none, Option.map_some, Option.map_none, List.cons_append, List.nil_append, List.length_cons, List.length_nil, List.set_cons_zero, List.set_cons_succ, List.getElem?_cons_zero, List.getElem?_cons_succ, am_bd_s]
theorem pl_nm_6 {fr la ce ki : List Int} {B : List Nat} : 0 ≤ (pl_nm fr la ce ki B (List.range' 0 6) : Int) ∧ (pl_nm fr la ce ki B (List.range' 0 6) : Int) ≤ 6 := by
  have h := List.countP_le_length (p := fun c => decide (pl_tm fr la ce ki B c ≠ 10)) (l := List.range' 0 6)
  unfold pl_nm
  rw [List.length_range'] at h
  omega
theorem X10_share_no {q u : Int} (mp : MP S V nb ns) (hq : am_w q = q) (h : ¬ (0 ≤ q ∧ q < nb)) (E : List (List Int)) (K : Option am_V → am_H → Prop) : Wp E 169 0 [some (am_r (some 96)), some (am_i q), some (am_i u), none, none, none, none] [] (mk C S V) K = K (some (am_i (-1))) (mk C S V) := by
  have q1 : ¬ (0 ≤ am_w q ∧ am_w q < (nb : Int)) := by rw [hq]; exact h
  simp (disch := first | omega | (simp (disch := omega) only [up_eq, up_ne, si_len, List.length_set]; omega)) only [↓e169_0, ↓e169_1, ↓e169_2, ↓e169_5, ↓e169_8, ↓e169_9, ↓am_ilp, ↓am_iln, ↓am_iep, ↓am_ien, ↓am_zlp, ↓am_zln, ↓am_zep, ↓am_zen, ↓am_zgp, ↓am_zgn, ↓am_zhp, ↓am_zhn, ↓am_b01, true_or, true_and, and_true, or_true, if_true, if_false, ↓am_bdl_z, ↓am_bdl_s, ↓am_bsl_z, ↓am_bsl_s, ↓am_k1_i, ↓am_k1_r, ↓am_k1_e, ↓am_k1_n, ↓am_bd_s, am_k1_t, eq_self, am_nl_i, am_nl_r, am_nl_e, am_nl_n, Option.toList_some, Option.toList_none, Option.map_some, Option.map_none, List.cons_append, List.nil_append, List.length_cons, List.length_nil, List.set_cons_zero, List.set_cons_succ, List.getElem?_cons_zero, List.getElem?_cons_succ, am_bd_s, ↓am_tls, ↓am_tln, ↓mk_oc, ↓ma_r, ↓ma_w, ↓mz_r, ↓mz_w, ↓mr0, ↓mr1, ↓mr2, ↓mr3, ↓mr4, ↓mr5, ↓mr6, ↓mr7, ↓mr8, ↓mr9, ↓mr10, ↓mr11, ↓mr12, ↓mr13, ↓mr14, ↓mr15, ↓mr16, ↓mr17, ↓mr18, ↓mr19, ↓mr20, ↓mr21, ↓mr22, ↓mr23, ↓mr24, ↓mr25, ↓mr26, ↓mr27, ↓mw0, ↓mw1, ↓mw11, ↓mw12, ↓mw13, ↓mw15, ↓mw16, ↓mw17, ↓mw19, ↓mw20, ↓mw22, ↓mw25, up_eq, up_ne, up_up, si_len, ↓X10_isBlanket_w mp, ↓am_ifb, ↓if_neg q1]
/-- what a share is, in numbers -/
def pl_shr (fr la ce ki : List Int) (B : List Nat) (q : Nat) (u : Bool) : Int := if q ∈ B then pl_fra ((List.range 64).foldl (pl_shS (fun i => (pl_nm fr la ce ki (B.filter fun b => !i.testBit b) (List.range' 0 6) : Int)) (pl_mask B) q B.length) 0) (pl_fct B.length : Int) u else if u = true then 0 else 1
theorem X10_share_w {q : Int} {u : Bool} (mp : MP S V nb ns) (ly : Ly (V 102) 0 L) (wf : WfL nb ns (V 101) L) (hq : am_w q = q) (h : 0 ≤ q ∧ q < nb) : ∃ V', Sc V V' ∧ ∀ E K, Wp E 169 0 [some (am_r (some 96)), some (am_i q), some (am_i (if u = true then 1 else 0)), none, none, none, none] [] (mk C S V) K = K (some (am_i (pl_shr (V 97) (V 98) (V 99) (V 100) L.1 q.toNat u))) (mk C S V') := by
  obtain ⟨s0, s1, hnb, hns, l97, l98, l99, l100, l101, l102, l107, pv, wv⟩ := id mp
  have q1 : 0 ≤ am_w q ∧ am_w q < (nb : Int) := by rw [hq]; exact h
  have B6 : ∀ x ∈ L.1, x < 6 := fun x hx => by have := wf.1 x hx; omega
  have hm := pl_mask_64 B6
  have lw := fun E K => X10_lying_w (E := E) (K := K) (C := C) mp ly wf.1
  obtain ⟨q, rfl⟩ : ∃ n : Nat, q = (n : Int) := ⟨q.toNat, by omega⟩
  rw [Int.toNat_natCast]
  have hq6 : q < 6 := by omega
  have hb := pl_mask_bit B6 hq6
  have hl6 : L.1.length ≤ 6 := ly.1
  have hpl := pl_pop_len B6 wf.2.1
  obtain ⟨ui, hui⟩ : ∃ ui : Int, ui = if u = true then 1 else 0 := ⟨_, rfl⟩
  rw [← hui]
  have u01 : (u = true ∧ ui = 1) ∨ (u = false ∧ ui = 0) := by cases u <;> simp [hui]
  by_cases q2 : (pl_mask L.1 : Int).toNat.testBit (q : Int).toNat = true
  · have q2' : q ∈ L.1 := by rw [Int.toNat_natCast, Int.toNat_natCast, hb] at q2; exact of_decide_eq_true q2
    have hlen : 1 ≤ L.1.length := List.length_pos_of_mem q2'
    rw [pl_shr, if_pos q2']
    obtain ⟨nm, hnm⟩ : ∃ nm : Nat → Int, nm = fun i => (pl_nm (V 97) (V 98) (V 99) (V 100) (L.1.filter fun b => !i.testBit b) (List.range' 0 6) : Int) := ⟨_, rfl⟩
    have nmr : ∀ i, 0 ≤ nm i ∧ nm i ≤ 6 := fun i => by rw [hnm]; exact pl_nm_6
    rw [← hnm]
    obtain ⟨F, hF⟩ : ∃ F, F = pl_shS nm (pl_mask L.1) q L.1.length := ⟨_, rfl⟩
    rw [← hF]
    obtain ⟨⟨sm, x6, V1⟩, ⟨e1, c1⟩, w1⟩ := am_loopz (X := List (List Int) × (Option am_V → am_H → Prop)) (α := Int × Option am_V × (Nat → List Int)) (W := fun x i a => Wp x.1 169 39 [some (am_r (some 96)), some (am_i (q : Int)), some (am_i ui), some (am_i (pl_mask L.1 : Int)), some (am_i a.1), some (am_i i), a.2.1] [] (mk C S a.2.2) x.2) (I := fun i a => a.1 = (List.range i.toNat).foldl F 0 ∧ Sc V a.2.2) (lo := 0) (N := (pl_mask L.1 : Int) + 1) (by
      rintro i ⟨sm, x6, V1⟩ h0 h1 ⟨e1, c1⟩
      dsimp only at e1 c1
      obtain ⟨n, rfl⟩ : ∃ n : Nat, i = (n : Int) := ⟨i.toNat, by omega⟩
      rw [Int.toNat_natCast] at e1
      have hn : n < 64 := by omega
      have m1 := c1.mp mp
      have y1 := c1.ly ly
      have k101 : V1 101 = V 101 := c1.at (by decide) (by decide)
      have ef : (List.range ((n : Int) + 1).toNat).foldl F 0 = F sm n := by rw [show ((n : Int) + 1).toNat = n + 1 by omega, List.range_succ, List.foldl_append, ← e1]; rfl
      have hsub := pl_sub n hn (pl_mask L.1) hm
      by_cases q3 : n &&& pl_mask L.1 = n
      · by_cases q4 : (n : Int).toNat.testBit (q : Int).toNat = true
        · refine ⟨(sm, x6, V1), ⟨?_, c1⟩, fun x => ?_⟩
          · dsimp only
            rw [ef, hF, pl_shS, if_neg (fun z => by rw [Int.toNat_natCast, Int.toNat_natCast] at q4; rw [q4] at z; cases z.2)]
          · dsimp only
            rw [e169_39]
            simp (disch := first | omega | (simp (disch := omega) only [up_eq, up_ne, si_len, List.length_set]; omega)) only [↓e169_41, ↓e169_42, ↓e169_45, ↓e169_47, ↓e169_48, ↓e169_49, ↓e169_50, ↓e169_51, ↓e169_54, ↓e169_56, ↓e169_57, ↓e169_60, ↓e169_63, ↓e169_65, ↓e169_68, ↓e169_71, ↓e169_72, ↓e169_75, ↓e169_76, ↓e169_77, ↓e169_79, ↓e169_82, ↓e169_83, ↓e169_86, ↓e169_87, ↓e169_89, ↓e169_91, ↓e169_93, ↓e169_94, ↓e169_96, ↓e169_97, ↓e169_98, ↓e169_99, ↓e169_100, ↓e169_103, ↓e169_104, ↓e169_106, ↓e169_109, ↓e169_110, ↓e169_111, ↓e169_112, ↓e169_114, ↓e169_117, ↓am_ilp, ↓am_iln, ↓am_iep, ↓am_ien, ↓am_zlp, ↓am_zln, ↓am_zep, ↓am_zen, ↓am_zgp, ↓am_zgn, ↓am_zhp, ↓am_zhn, ↓am_b01, true_or, true_and, and_true, or_true, if_true, if_false, ↓am_bdl_z, ↓am_bdl_s, ↓am_bsl_z, ↓am_bsl_s, ↓am_k1_i, ↓am_k1_r, ↓am_k1_e, ↓am_k1_n, ↓am_bd_s, am_k1_t, eq_self, am_nl_i, am_nl_r, am_nl_e, am_nl_n, Option.toList_some, Option.toList_none, Option.map_some, Option.map_none, List.cons_append, List.nil_append, List.length_cons, List.length_nil, List.set_cons_zero, List.set_cons_succ, List.getElem?_cons_zero, List.getElem?_cons_succ, am_bd_s, ↓am_tls, ↓am_tln, ↓mk_oc, ↓ma_r, ↓ma_w, ↓mz_r, ↓mz_w, ↓mr0, ↓mr1, ↓mr2, ↓mr3, ↓mr4, ↓mr5, ↓mr6, ↓mr7, ↓mr8, ↓mr9, ↓mr10, ↓mr11, ↓mr12, ↓mr13, ↓mr14, ↓mr15, ↓mr16, ↓mr17, ↓mr18, ↓mr19, ↓mr20, ↓mr21, ↓mr22, ↓mr23, ↓mr24, ↓mr25, ↓mr26, ↓mr27, ↓mw0, ↓mw1, ↓mw11, ↓mw12, ↓mw13, ↓mw15, ↓mw16, ↓mw17, ↓mw19, ↓mw20, ↓mw22, ↓mw25, up_eq, up_ne, up_up, si_len, ↓if_pos (hsub.mpr q3), ↓X10_has_w, ↓am_ifb, ↓if_pos q4]
        · have q4' : n.testBit q = false := by rw [Int.toNat_natCast, Int.toNat_natCast] at q4; simpa using q4
          obtain ⟨o1, o2⟩ := pl_or1 n hn q hq6
          unfold pl_ob at o1
          have wf1 : WfL nb ns (V1 101) L := by rw [k101]; exact wf
          obtain ⟨V2, c2, w2⟩ := X10_oldBy_w (C := C) (g := am_or (n : Int) (am_shl 1 (q : Int))) m1 y1 wf1 (by rw [o1]; exact ⟨Int.natCast_nonneg _, Int.ofNat_lt.mpr o2⟩)
          have m2 := c2.mp m1
          have y2 := c2.ly y1
          have j101 : V2 101 = V 101 := (c2.at (by decide) (by decide)).trans k101
          obtain ⟨V3, c3, w3⟩ := X10_oldBy_w (C := C) (g := (n : Int)) m2 y2 (by rw [j101]; exact wf) (by omega)
          rw [c1.at (i := 97) (by decide) (by decide), c1.at (i := 98) (by decide) (by decide), c1.at (i := 99) (by decide) (by decide), c1.at (i := 100) (by decide) (by decide)] at w2
          rw [c2.at (i := 97) (by decide) (by decide), c2.at (i := 98) (by decide) (by decide), c2.at (i := 99) (by decide) (by decide), c2.at (i := 100) (by decide) (by decide), c1.at (i := 97) (by decide) (by decide), c1.at (i := 98) (by decide) (by decide), c1.at (i := 99) (by decide) (by decide), c1.at (i := 100) (by decide) (by decide)] at w3
          have w2' : ∀ E K, Wp E 168 0 [some (am_r (some 96)), some (am_i (am_or (n : Int) (am_shl 1 (q : Int)))), none, none] [] (mk C S V1) K = K (some (am_i (nm (pl_wo (pl_mask L.1) (n ||| 2 ^ q))))) (mk C S V2) := by
            intro E K
            rw [w2, o1, Int.toNat_natCast, hnm]
          have w3' : ∀ E K, Wp E 168 0 [some (am_r (some 96)), some (am_i (n : Int)), none, none] [] (mk C S V2) K = K (some (am_i (nm (pl_wo (pl_mask L.1) n)))) (mk C S V3) := by
            intro E K
            rw [w3, Int.toNat_natCast, hnm]
          have pn := pl_pop_6 n hn
          have pn2 : pl_pop n ≤ L.1.length - 1 := by
            have hd : ∀ m < 64, ∀ n < 64, ∀ q < 6, (n &&& m = n ∧ n.testBit q = false ∧ m.testBit q = true) → pl_pop n + 1 ≤ pl_pop m := by decide +kernel
            have := hd (pl_mask L.1) hm n hn q hq6 ⟨q3, q4', by rw [hb]; exact decide_eq_true q2'⟩
            omega
          have ep : ((pl_pop (pl_mask L.1 : Int).toNat : Nat) : Int) = (L.1.length : Int) := by rw [Int.toNat_natCast, hpl]
          have en : ((pl_pop (n : Int).toNat : Nat) : Int) = (pl_pop n : Int) := by rw [Int.toNat_natCast]
          refine ⟨(sm + (pl_fct (pl_pop n) : Int) * (pl_fct (L.1.length - 1 - pl_pop n) : Int) * (nm (pl_wo (pl_mask L.1) (n ||| 2 ^ q)) - nm (pl_wo (pl_mask L.1) n)), some (am_i ((pl_fct (pl_pop n) : Int) * (pl_fct (L.1.length - 1 - pl_pop n) : Int))), V3), ⟨?_, (c1.trans c2).trans c3⟩, fun x => ?_⟩
          · dsimp only
            rw [ef, hF, pl_shS, if_pos ⟨q3, q4'⟩, Int.mul_comm (nm (pl_wo (pl_mask L.1) (n ||| 2 ^ q)) - nm (pl_wo (pl_mask L.1) n))]
          · dsimp only
            have ea : ((((pl_pop (n : Int).toNat : Nat) : Int)).toNat) = pl_pop n := by rw [Int.toNat_natCast, Int.toNat_natCast]
            have eb : (((pl_pop (pl_mask L.1 : Int).toNat : Nat) : Int) - 1 - ((pl_pop (n : Int).toNat : Nat) : Int)).toNat = L.1.length - 1 - pl_pop n := by rw [ep, en]; omega
            rw [e169_39]
            simp (disch := first | omega | (simp (disch := omega) only [up_eq, up_ne, si_len, List.length_set]; omega)) only [↓e169_41, ↓e169_42, ↓e169_45, ↓e169_47, ↓e169_48, ↓e169_49, ↓e169_50, ↓e169_51, ↓e169_54, ↓e169_56, ↓e169_57, ↓e169_60, ↓e169_63, ↓e169_65, ↓e169_68, ↓e169_71, ↓e169_72, ↓e169_75, ↓e169_76, ↓e169_77, ↓e169_79, ↓e169_82, ↓e169_83, ↓e169_86, ↓e169_87, ↓e169_89, ↓e169_91, ↓e169_93, ↓e169_94, ↓e169_96, ↓e169_97, ↓e169_98, ↓e169_99, ↓e169_100, ↓e169_103, ↓e169_104, ↓e169_106, ↓e169_109, ↓e169_110, ↓e169_111, ↓e169_112, ↓e169_114, ↓e169_117, ↓am_ilp, ↓am_iln, ↓am_iep, ↓am_ien, ↓am_zlp, ↓am_zln, ↓am_zep, ↓am_zen, ↓am_zgp, ↓am_zgn, ↓am_zhp, ↓am_zhn, ↓am_b01, true_or, true_and, and_true, or_true, if_true, if_false, ↓am_bdl_z, ↓am_bdl_s, ↓am_bsl_z, ↓am_bsl_s, ↓am_k1_i, ↓am_k1_r, ↓am_k1_e, ↓am_k1_n, ↓am_bd_s, am_k1_t, eq_self, am_nl_i, am_nl_r, am_nl_e, am_nl_n, Option.toList_some, Option.toList_none, Option.map_some, Option.map_none, List.cons_append, List.nil_append, List.length_cons, List.length_nil, List.set_cons_zero, List.set_cons_succ, List.getElem?_cons_zero, List.getElem?_cons_succ, am_bd_s, ↓am_tls, ↓am_tln, ↓mk_oc, ↓ma_r, ↓ma_w, ↓mz_r, ↓mz_w, ↓mr0, ↓mr1, ↓mr2, ↓mr3, ↓mr4, ↓mr5, ↓mr6, ↓mr7, ↓mr8, ↓mr9, ↓mr10, ↓mr11, ↓mr12, ↓mr13, ↓mr14, ↓mr15, ↓mr16, ↓mr17, ↓mr18, ↓mr19, ↓mr20, ↓mr21, ↓mr22, ↓mr23, ↓mr24, ↓mr25, ↓mr26, ↓mr27, ↓mw0, ↓mw1, ↓mw11, ↓mw12, ↓mw13, ↓mw15, ↓mw16, ↓mw17, ↓mw19, ↓mw20, ↓mw22, ↓mw25, up_eq, up_ne, up_up, si_len, ↓if_pos (hsub.mpr q3), ↓X10_has_w, ↓am_ifb, ↓if_neg q4, ↓X10_ones_w, ↓X10_factorial_w, ↓w2', ↓w3', ea, eb]
      · have q5 : ¬ am_w (am_and (n : Int) (am_xor (pl_mask L.1 : Int) (-1))) = 0 := fun z => q3 (hsub.mp z)
        refine ⟨(sm, x6, V1), ⟨?_, c1⟩, fun x => ?_⟩
        · dsimp only
          rw [ef, hF, pl_shS, if_neg (fun z => q3 z.1)]
        · dsimp only
          rw [e169_39]
          simp (disch := first | omega | (simp (disch := omega) only [up_eq, up_ne, si_len, List.length_set]; omega)) only [↓e169_41, ↓e169_42, ↓e169_45, ↓e169_47, ↓e169_48, ↓e169_49, ↓e169_50, ↓e169_51, ↓e169_54, ↓e169_56, ↓e169_57, ↓e169_60, ↓e169_63, ↓e169_65, ↓e169_68, ↓e169_71, ↓e169_72, ↓e169_75, ↓e169_76, ↓e169_77, ↓e169_79, ↓e169_82, ↓e169_83, ↓e169_86, ↓e169_87, ↓e169_89, ↓e169_91, ↓e169_93, ↓e169_94, ↓e169_96, ↓e169_97, ↓e169_98, ↓e169_99, ↓e169_100, ↓e169_103, ↓e169_104, ↓e169_106, ↓e169_109, ↓e169_110, ↓e169_111, ↓e169_112, ↓e169_114, ↓e169_117, ↓am_ilp, ↓am_iln, ↓am_iep, ↓am_ien, ↓am_zlp, ↓am_zln, ↓am_zep, ↓am_zen, ↓am_zgp, ↓am_zgn, ↓am_zhp, ↓am_zhn, ↓am_b01, true_or, true_and, and_true, or_true, if_true, if_false, ↓am_bdl_z, ↓am_bdl_s, ↓am_bsl_z, ↓am_bsl_s, ↓am_k1_i, ↓am_k1_r, ↓am_k1_e, ↓am_k1_n, ↓am_bd_s, am_k1_t, eq_self, am_nl_i, am_nl_r, am_nl_e, am_nl_n, Option.toList_some, Option.toList_none, Option.map_some, Option.map_none, List.cons_append, List.nil_append, List.length_cons, List.length_nil, List.set_cons_zero, List.set_cons_succ, List.getElem?_cons_zero, List.getElem?_cons_succ, am_bd_s, ↓am_tls, ↓am_tln, ↓mk_oc, ↓ma_r, ↓ma_w, ↓mz_r, ↓mz_w, ↓mr0, ↓mr1, ↓mr2, ↓mr3, ↓mr4, ↓mr5, ↓mr6, ↓mr7, ↓mr8, ↓mr9, ↓mr10, ↓mr11, ↓mr12, ↓mr13, ↓mr14, ↓mr15, ↓mr16, ↓mr17, ↓mr18, ↓mr19, ↓mr20, ↓mr21, ↓mr22, ↓mr23, ↓mr24, ↓mr25, ↓mr26, ↓mr27, ↓mw0, ↓mw1, ↓mw11, ↓mw12, ↓mw13, ↓mw15, ↓mw16, ↓mw17, ↓mw19, ↓mw20, ↓mw22, ↓mw25, up_eq, up_ne, up_up, si_len, ↓if_neg q5]) (pl_mask L.1 + 1) 0 (0, none, V) (by omega) (by omega) ⟨rfl, Sc.rf l107⟩
    dsimp only at e1 c1 w1
    have esm : sm = (List.range 64).foldl F 0 := by
      rw [e1, show ((pl_mask L.1 : Int) + 1).toNat = pl_mask L.1 + 1 by omega, pl_cut hm]
      intro a i hi
      rw [hF, pl_shS, if_neg (fun z => by have := pl_and_le z.1; omega)]
    have hr := pl_sh_rng (mask := pl_mask L.1) (q := q) (len := L.1.length) nmr 64
    rw [← hF, ← esm] at hr
    have fr := pl_fct_rng L.1.length
    rw [← esm]
    refine ⟨V1, c1, fun E K => ?_⟩
    have w2 := w1 (E, K)
    dsimp only at w2
    have ea : ((((pl_pop (pl_mask L.1 : Int).toNat : Nat) : Int)).toNat) = L.1.length := by rw [Int.toNat_natCast, Int.toNat_natCast, hpl]
    have ec : ((pl_pop (pl_mask L.1 : Int).toNat : Nat) : Int) = (L.1.length : Int) := by rw [Int.toNat_natCast, hpl]
    obtain ⟨gc, hgc⟩ : ∃ gc : Nat, gc = Nat.gcd sm.natAbs ((pl_fct L.1.length : Nat) : Int).natAbs := ⟨_, rfl⟩
    have gp : 1 ≤ gc ∧ gc ≤ 720 := by
      rw [hgc]
      refine ⟨Nat.gcd_pos_of_pos_right _ (by omega), ?_⟩
      have := Nat.gcd_le_right sm.natAbs (n := ((pl_fct L.1.length : Nat) : Int).natAbs) (by omega)
      omega
    have fact : ∀ E K h, Wp E 155 0 [some (am_i ((pl_pop (pl_mask L.1 : Int).toNat : Nat) : Int)), none, none] [] h K = K (some (am_i (pl_fct L.1.length : Int))) h := by
      intro E K h
      rw [X10_factorial_w (by omega), ea]
    have comm : ∀ E K h, Wp E 167 0 [some (am_i sm), some (am_i (pl_fct L.1.length : Int)), none, none, none] [] h K = K (some (am_i (gc : Int))) h := by
      intro E K h
      rw [X10_common_w (by omega) (by omega), hgc]
    rw [pl_fra, ← hgc]
    have st : Wp E 169 0 [some (am_r (some 96)), some (am_i (q : Int)), some (am_i ui), none, none, none, none] [] (mk C S V) K = Wp E 169 39 [some (am_r (some 96)), some (am_i (q : Int)), some (am_i ui), some (am_i (pl_mask L.1 : Int)), some (am_i sm), some (am_i ((pl_mask L.1 : Int) + 1)), x6] [] (mk C S V1) K := by
      simp (disch := first | omega | (simp (disch := omega) only [up_eq, up_ne, si_len, List.length_set]; omega)) only [↓e169_0, ↓e169_1, ↓e169_2, ↓e169_5, ↓e169_8, ↓e169_9, ↓e169_10, ↓e169_11, ↓e169_14, ↓e169_15, ↓e169_16, ↓e169_17, ↓e169_20, ↓e169_23, ↓e169_24, ↓e169_27, ↓e169_28, ↓e169_31, ↓e169_32, ↓e169_33, ↓e169_34, ↓e169_36, ↓e169_37, ↓am_ilp, ↓am_iln, ↓am_iep, ↓am_ien, ↓am_zlp, ↓am_zln, ↓am_zep, ↓am_zen, ↓am_zgp, ↓am_zgn, ↓am_zhp, ↓am_zhn, ↓am_b01, true_or, true_and, and_true, or_true, if_true, if_false, ↓am_bdl_z, ↓am_bdl_s, ↓am_bsl_z, ↓am_bsl_s, ↓am_k1_i, ↓am_k1_r, ↓am_k1_e, ↓am_k1_n, ↓am_bd_s, am_k1_t, eq_self, am_nl_i, am_nl_r, am_nl_e, am_nl_n, Option.toList_some, Option.toList_none, Option.map_some, Option.map_none, List.cons_append, List.nil_append, List.length_cons, List.length_nil, List.set_cons_zero, List.set_cons_succ, List.getElem?_cons_zero, List.getElem?_cons_succ, am_bd_s, ↓am_tls, ↓am_tln, ↓mk_oc, ↓ma_r, ↓ma_w, ↓mz_r, ↓mz_w, ↓mr0, ↓mr1, ↓mr2, ↓mr3, ↓mr4, ↓mr5, ↓mr6, ↓mr7, ↓mr8, ↓mr9, ↓mr10, ↓mr11, ↓mr12, ↓mr13, ↓mr14, ↓mr15, ↓mr16, ↓mr17, ↓mr18, ↓mr19, ↓mr20, ↓mr21, ↓mr22, ↓mr23, ↓mr24, ↓mr25, ↓mr26, ↓mr27, ↓mw0, ↓mw1, ↓mw11, ↓mw12, ↓mw13, ↓mw15, ↓mw16, ↓mw17, ↓mw19, ↓mw20, ↓mw22, ↓mw25, up_eq, up_ne, up_up, si_len, ↓X10_isBlanket_w mp, ↓X10_has_w, ↓am_ifb, ↓if_pos q1, ↓lw, ↓if_pos q2]
      exact w2
    rw [st, e169_39]
    rcases u01 with ⟨uu, ui1⟩ | ⟨uu, ui1⟩
    · rw [if_pos uu]
      simp (disch := first | omega | (simp (disch := omega) only [up_eq, up_ne, si_len, List.length_set]; omega)) only [↓e169_41, ↓e169_42, ↓e169_120, ↓e169_122, ↓e169_123, ↓e169_126, ↓e169_129, ↓e169_132, ↓e169_134, ↓e169_135, ↓e169_138, ↓e169_140, ↓e169_142, ↓e169_143, ↓e169_146, ↓e169_147, ↓e169_150, ↓e169_153, ↓e169_155, ↓e169_156, ↓am_ilp, ↓am_iln, ↓am_iep, ↓am_ien, ↓am_zlp, ↓am_zln, ↓am_zep, ↓am_zen, ↓am_zgp, ↓am_zgn, ↓am_zhp, ↓am_zhn, ↓am_b01, true_or, true_and, and_true, or_true, if_true, if_false, ↓am_bdl_z, ↓am_bdl_s, ↓am_bsl_z, ↓am_bsl_s, ↓am_k1_i, ↓am_k1_r, ↓am_k1_e, ↓am_k1_n, ↓am_bd_s, am_k1_t, eq_self, am_nl_i, am_nl_r, am_nl_e, am_nl_n, Option.toList_some, Option.toList_none, Option.map_some, Option.map_none, List.cons_append, List.nil_append, List.length_cons, List.length_nil, List.set_cons_zero, List.set_cons_succ, List.getElem?_cons_zero, List.getElem?_cons_succ, am_bd_s, ↓am_tls, ↓am_tln, ↓mk_oc, ↓ma_r, ↓ma_w, ↓mz_r, ↓mz_w, ↓mr0, ↓mr1, ↓mr2, ↓mr3, ↓mr4, ↓mr5, ↓mr6, ↓mr7, ↓mr8, ↓mr9, ↓mr10, ↓mr11, ↓mr12, ↓mr13, ↓mr14, ↓mr15, ↓mr16, ↓mr17, ↓mr18, ↓mr19, ↓mr20, ↓mr21, ↓mr22, ↓mr23, ↓mr24, ↓mr25, ↓mr26, ↓mr27, ↓mw0, ↓mw1, ↓mw11, ↓mw12, ↓mw13, ↓mw15, ↓mw16, ↓mw17, ↓mw19, ↓mw20, ↓mw22, ↓mw25, up_eq, up_ne, up_up, si_len, ↓X10_ones_w, ↓fact, ↓comm]
    · rw [if_neg (by rw [uu]; decide)]
      simp (disch := first | omega | (simp (disch := omega) only [up_eq, up_ne, si_len, List.length_set]; omega)) only [↓e169_41, ↓e169_42, ↓e169_120, ↓e169_122, ↓e169_123, ↓e169_126, ↓e169_129, ↓e169_132, ↓e169_134, ↓e169_135, ↓e169_138, ↓e169_140, ↓e169_142, ↓e169_143, ↓e169_146, ↓e169_147, ↓e169_150, ↓e169_153, ↓e169_155, ↓e169_156, ↓am_ilp, ↓am_iln, ↓am_iep, ↓am_ien, ↓am_zlp, ↓am_zln, ↓am_zep, ↓am_zen, ↓am_zgp, ↓am_zgn, ↓am_zhp, ↓am_zhn, ↓am_b01, true_or, true_and, and_true, or_true, if_true, if_false, ↓am_bdl_z, ↓am_bdl_s, ↓am_bsl_z, ↓am_bsl_s, ↓am_k1_i, ↓am_k1_r, ↓am_k1_e, ↓am_k1_n, ↓am_bd_s, am_k1_t, eq_self, am_nl_i, am_nl_r, am_nl_e, am_nl_n, Option.toList_some, Option.toList_none, Option.map_some, Option.map_none, List.cons_append, List.nil_append, List.length_cons, List.length_nil, List.set_cons_zero, List.set_cons_succ, List.getElem?_cons_zero, List.getElem?_cons_succ, am_bd_s, ↓am_tls, ↓am_tln, ↓mk_oc, ↓ma_r, ↓ma_w, ↓mz_r, ↓mz_w, ↓mr0, ↓mr1, ↓mr2, ↓mr3, ↓mr4, ↓mr5, ↓mr6, ↓mr7, ↓mr8, ↓mr9, ↓mr10, ↓mr11, ↓mr12, ↓mr13, ↓mr14, ↓mr15, ↓mr16, ↓mr17, ↓mr18, ↓mr19, ↓mr20, ↓mr21, ↓mr22, ↓mr23, ↓mr24, ↓mr25, ↓mr26, ↓mr27, ↓mw0, ↓mw1, ↓mw11, ↓mw12, ↓mw13, ↓mw15, ↓mw16, ↓mw17, ↓mw19, ↓mw20, ↓mw22, ↓mw25, up_eq, up_ne, up_up, si_len, ↓X10_ones_w, ↓fact, ↓comm]
  · have q2' : q ∉ L.1 := by rw [Int.toNat_natCast, Int.toNat_natCast, hb] at q2; exact fun z => q2 (decide_eq_true z)
    rw [pl_shr, if_neg q2']
    refine ⟨V, Sc.rf l107, fun E K => ?_⟩
    rcases u01 with ⟨uu, ui1⟩ | ⟨uu, ui1⟩
    · rw [if_pos uu]
      simp (disch := first | omega | (simp (disch := omega) only [up_eq, up_ne, si_len, List.length_set]; omega)) only [↓e169_0, ↓e169_1, ↓e169_2, ↓e169_5, ↓e169_8, ↓e169_9, ↓e169_10, ↓e169_11, ↓e169_14, ↓e169_15, ↓e169_16, ↓e169_17, ↓e169_20, ↓e169_23, ↓e169_24, ↓e169_27, ↓e169_28, ↓e169_31, ↓e169_32, ↓am_ilp, ↓am_iln, ↓am_iep, ↓am_ien, ↓am_zlp, ↓am_zln, ↓am_zep, ↓am_zen, ↓am_zgp, ↓am_zgn, ↓am_zhp, ↓am_zhn, ↓am_b01, true_or, true_and, and_true, or_true, if_true, if_false, ↓am_bdl_z, ↓am_bdl_s, ↓am_bsl_z, ↓am_bsl_s, ↓am_k1_i, ↓am_k1_r, ↓am_k1_e, ↓am_k1_n, ↓am_bd_s, am_k1_t, eq_self, am_nl_i, am_nl_r, am_nl_e, am_nl_n, Option.toList_some, Option.toList_none, Option.map_some, Option.map_none, List.cons_append, List.nil_append, List.length_cons, List.length_nil, List.set_cons_zero, List.set_cons_succ, List.getElem?_cons_zero, List.getElem?_cons_succ, am_bd_s, ↓am_tls, ↓am_tln, ↓mk_oc, ↓ma_r, ↓ma_w, ↓mz_r, ↓mz_w, ↓mr0, ↓mr1, ↓mr2, ↓mr3, ↓mr4, ↓mr5, ↓mr6, ↓mr7, ↓mr8, ↓mr9, ↓mr10, ↓mr11, ↓mr12, ↓mr13, ↓mr14, ↓mr15, ↓mr16, ↓mr17, ↓mr18, ↓mr19, ↓mr20, ↓mr21, ↓mr22, ↓mr23, ↓mr24, ↓mr25, ↓mr26, ↓mr27, ↓mw0, ↓mw1, ↓mw11, ↓mw12, ↓mw13, ↓mw15, ↓mw16, ↓mw17, ↓mw19, ↓mw20, ↓mw22, ↓mw25, up_eq, up_ne, up_up, si_len, ↓X10_isBlanket_w mp, ↓X10_has_w, ↓am_ifb, ↓if_pos q1, ↓lw, ↓if_neg q2]
    · rw [if_neg (by rw [uu]; decide)]
      simp (disch := first | omega | (simp (disch := omega) only [up_eq, up_ne, si_len, List.length_set]; omega)) only [↓e169_0, ↓e169_1, ↓e169_2, ↓e169_5, ↓e169_8, ↓e169_9, ↓e169_10, ↓e169_11, ↓e169_14, ↓e169_15, ↓e169_16, ↓e169_17, ↓e169_20, ↓e169_23, ↓e169_24, ↓e169_27, ↓e169_28, ↓e169_31, ↓e169_32, ↓am_ilp, ↓am_iln, ↓am_iep, ↓am_ien, ↓am_zlp, ↓am_zln, ↓am_zep, ↓am_zen, ↓am_zgp, ↓am_zgn, ↓am_zhp, ↓am_zhn, ↓am_b01, true_or, true_and, and_true, or_true, if_true, if_false, ↓am_bdl_z, ↓am_bdl_s, ↓am_bsl_z, ↓am_bsl_s, ↓am_k1_i, ↓am_k1_r, ↓am_k1_e, ↓am_k1_n, ↓am_bd_s, am_k1_t, eq_self, am_nl_i, am_nl_r, am_nl_e, am_nl_n, Option.toList_some, Option.toList_none, Option.map_some, Option.map_none, List.cons_append, List.nil_append, List.length_cons, List.length_nil, List.set_cons_zero, List.set_cons_succ, List.getElem?_cons_zero, List.getElem?_cons_succ, am_bd_s, ↓am_tls, ↓am_tln, ↓mk_oc, ↓ma_r, ↓ma_w, ↓mz_r, ↓mz_w, ↓mr0, ↓mr1, ↓mr2, ↓mr3, ↓mr4, ↓mr5, ↓mr6, ↓mr7, ↓mr8, ↓mr9, ↓mr10, ↓mr11, ↓mr12, ↓mr13, ↓mr14, ↓mr15, ↓mr16, ↓mr17, ↓mr18, ↓mr19, ↓mr20, ↓mr21, ↓mr22, ↓mr23, ↓mr24, ↓mr25, ↓mr26, ↓mr27, ↓mw0, ↓mw1, ↓mw11, ↓mw12, ↓mw13, ↓mw15, ↓mw16, ↓mw17, ↓mw19, ↓mw20, ↓mw22, ↓mw25, up_eq, up_ne, up_up, si_len, ↓X10_isBlanket_w mp, ↓X10_has_w, ↓am_ifb, ↓if_pos q1, ↓lw, ↓if_neg q2]
end MCH
