/-! the class's text -/
def TextC (h : am_H) (X : List Int) (n : Nat) : Prop := h[1]? = some (am_o 8 [am_r (some 2), am_i (n : Int)]) ∧ h[2]? = some (am_a 0 X) ∧ X.length = 44 ∧ n ≤ 44 ∧ ∀ i < 44, 0 ≤ X.getD i 0 ∧ X.getD i 0 ≤ 255
/-- the figure at a place -/
def pl_fa (X : List Int) (n : Nat) (p : Int) : Int := if p < (n : Int) then X.getD p.toNat 0 - 48 else -9
def pl_ff (X : List Int) (n : Nat) (p lo hi : Int) : Int := if (n : Int) ≤ p then (n : Int) else if pl_fa X n p < lo ∨ hi < pl_fa X n p then p else -9
/-- the fault of a blanket told from p on -/
def pl_bf (X : List Int) (n : Nat) (p : Int) : Int := if pl_ff X n (p + 1) 0 5 ≠ -9 then pl_ff X n (p + 1) 0 5 else if pl_ff X n (p + 2) (pl_fa X n (p + 1)) 5 ≠ -9 then pl_ff X n (p + 2) (pl_fa X n (p + 1)) 5 else if pl_ff X n (p + 3) 0 9 ≠ -9 then pl_ff X n (p + 3) 0 9 else pl_ff X n (p + 4) 0 3
def pl_cb (f w : Nat) : Nat := (2 ^ w - 1) * 2 ^ f
/-- of a sleeper -/
def pl_sf (X : List Int) (n : Nat) (p : Int) (m : Nat) : Int := if pl_ff X n (p + 1) 0 5 ≠ -9 then pl_ff X n (p + 1) 0 5 else if m &&& pl_cb (pl_fa X n (p + 1)).toNat 1 ≠ 0 then p + 1 else if pl_ff X n (p + 2) 1 (min 3 (6 - pl_fa X n (p + 1))) ≠ -9 then pl_ff X n (p + 2) 1 (min 3 (6 - pl_fa X n (p + 1))) else if m &&& pl_cb (pl_fa X n (p + 1)).toNat (pl_fa X n (p + 2)).toNat ≠ 0 then p + 2 else -9
/-- a quad of a blanket, a pair of a sleeper -/
abbrev pl_Q : Type := Int × Int × Int × Int
/-- WHAT A TEXT TELLS: the first fault (-9: none), blankets, sleepers -/
def pl_pr (X : List Int) (n : Nat) : Nat → Int → Nat → Nat → Nat → Int × List pl_Q × List (Int × Int)
  | 0, _, _, _, _ => (-9, [], [])
  | f + 1, p, nb, ns, m => if (n : Int) ≤ p then (-9, [], []) else
    if X.getD p.toNat 0 = 81 ∧ nb < 6 then (if pl_bf X n p ≠ -9 then (pl_bf X n p, [], []) else
      ((pl_pr X n f (p + 5) (nb + 1) ns m).1, (pl_fa X n (p + 1), pl_fa X n (p + 2), pl_fa X n (p + 3), pl_fa X n (p + 4)) :: (pl_pr X n f (p + 5) (nb + 1) ns m).2.1, (pl_pr X n f (p + 5) (nb + 1) ns m).2.2))
    else if X.getD p.toNat 0 = 83 ∧ ns < 3 ∧ m ≠ 63 then (if pl_sf X n p m ≠ -9 then (pl_sf X n p m, [], []) else
      ((pl_pr X n f (p + 3) nb (ns + 1) (m ||| pl_cb (pl_fa X n (p + 1)).toNat (pl_fa X n (p + 2)).toNat)).1, (pl_pr X n f (p + 3) nb (ns + 1) (m ||| pl_cb (pl_fa X n (p + 1)).toNat (pl_fa X n (p + 2)).toNat)).2.1, (pl_fa X n (p + 1), pl_fa X n (p + 2)) :: (pl_pr X n f (p + 3) nb (ns + 1) (m ||| pl_cb (pl_fa X n (p + 1)).toNat (pl_fa X n (p + 2)).toNat)).2.2))
    else (p, [], [])
/-- from the first letter on -/
def pl_text (X : List Int) (n : Nat) : Int × List pl_Q × List (Int × Int) := if n = 0 ∨ X.getD 0 0 ≠ 66 then (0, [], []) else pl_pr X n 50 1 0 0 0
theorem pl_ff_ok {X : List Int} {n : Nat} {p lo hi : Int} (h : pl_ff X n p lo hi = -9) (hp : 0 ≤ p) : p < n ∧ lo ≤ pl_fa X n p ∧ pl_fa X n p ≤ hi := by
  unfold pl_ff at h
  split at h
  · omega
  · split at h
    · omega
    · omega
/-- a part without a fault is as it should be -/
theorem pl_bf_ok {X : List Int} {n : Nat} {p : Int} (h : pl_bf X n p = -9) (hp : 0 ≤ p) : p + 4 < n ∧ 0 ≤ pl_fa X n (p + 1) ∧ pl_fa X n (p + 1) ≤ pl_fa X n (p + 2) ∧ pl_fa X n (p + 2) ≤ 5 ∧ 0 ≤ pl_fa X n (p + 3) ∧ pl_fa X n (p + 3) ≤ 9 ∧ 0 ≤ pl_fa X n (p + 4) ∧ pl_fa X n (p + 4) ≤ 3 := by
  unfold pl_bf at h
  split at h
  · contradiction
  · rename_i h1
    split at h
    · contradiction
    · rename_i h2
      split at h
      · contradiction
      · rename_i h3
        have a1 := pl_ff_ok (Decidable.not_not.mp h1) (by omega)
        have a2 := pl_ff_ok (Decidable.not_not.mp h2) (by omega)
        have a3 := pl_ff_ok (Decidable.not_not.mp h3) (by omega)
        have a4 := pl_ff_ok h (by omega)
        omega
theorem pl_sf_ok {X : List Int} {n : Nat} {p : Int} {m : Nat} (h : pl_sf X n p m = -9) (hp : 0 ≤ p) : p + 2 < n ∧ 0 ≤ pl_fa X n (p + 1) ∧ 1 ≤ pl_fa X n (p + 2) ∧ pl_fa X n (p + 2) ≤ 3 ∧ pl_fa X n (p + 1) + pl_fa X n (p + 2) ≤ 6 ∧ m &&& pl_cb (pl_fa X n (p + 1)).toNat (pl_fa X n (p + 2)).toNat = 0 := by
  unfold pl_sf at h
  split at h
  · contradiction
  · rename_i h1
    split at h
    · omega
    · split at h
      · contradiction
      · rename_i h3
        split at h
        · omega
        · rename_i h4
          have a1 := pl_ff_ok (Decidable.not_not.mp h1) (by omega)
          have a3 := pl_ff_ok (Decidable.not_not.mp h3) (by omega)
          exact ⟨by omega, by omega, by omega, by omega, by omega, Decidable.not_not.mp h4⟩
section TXT
variable {E : List (List Int)} {h : am_H} {K : Option am_V → am_H → Prop} {X : List Int} {n : Nat}
theorem TextC.frT {h' : am_H} {q n' : Nat} (l : TextC h X n) (f : FrT h h' q n') (d : 3 ≤ q) : TextC h' X n := by
  obtain ⟨h0, h1, h2, h3, h4⟩ := l
  exact ⟨by rw [f.2 _ (by omega) (by omega)]; exact h0, by rw [f.2 _ (by omega) (by omega)]; exact h1, h2, h3, h4⟩
theorem pl_fa_rng (l : TextC h X n) (p : Int) (hp : 0 ≤ p) : -48 ≤ pl_fa X n p ∧ pl_fa X n p ≤ 207 := by
  obtain ⟨h0, h1, h2, h3, h4⟩ := l
  unfold pl_fa
  split
  · have := h4 p.toNat (by omega)
    omega
  · omega
theorem pl_ff_rng (l : TextC h X n) (p lo hi : Int) (hp : 0 ≤ p) : -9 ≤ pl_ff X n p lo hi ∧ pl_ff X n p lo hi ≤ 44 := by
  obtain ⟨h0, h1, h2, h3, h4⟩ := l
  unfold pl_ff
  split
  · omega
  · split <;> omega
theorem pl_fa_w (l : TextC h X n) {p : Int} (hp : 0 ≤ p) : am_w (pl_fa X n p) = pl_fa X n p := by
  have := pl_fa_rng l p hp
  exact am_w_id (by omega) (by omega)
theorem pl_ff_w (l : TextC h X n) {p lo hi : Int} (hp : 0 ≤ p) : am_w (pl_ff X n p lo hi) = pl_ff X n p lo hi := by
  have := pl_ff_rng l p lo hi hp
  exact am_w_id (by omega) (by omega)
theorem X8_append_no {x : Int} (l : TextC h X 44) : Wp E 68 0 [some (am_r (some 1)), some (am_i x)] [] h K = K (some (am_i 0)) h := by
  obtain ⟨h0, h1, h2, h3, h4⟩ := l
  simp (disch := first | omega | (simp only [List.length_set]; omega) | rfl) only [↓e68_0, ↓e68_1, ↓e68_4, ↓e68_6, ↓e68_9, ↓e68_10, ↓am_ilp, ↓am_iln, ↓am_iep, ↓am_ien, ↓am_zlp, ↓am_zln, ↓am_zep, ↓am_zen, ↓am_zgp, ↓am_zgn, ↓am_zhp, ↓am_zhn, ↓am_b01, true_or, true_and, and_true, or_true, if_true, if_false, ↓am_bdl_z, ↓am_bdl_s, ↓am_bsl_z, ↓am_bsl_s, ↓am_k1_i, ↓am_k1_r, ↓am_k1_e, ↓am_k1_n, ↓am_bd_s, am_k1_t, eq_self, am_nl_i, am_nl_r, am_nl_e, am_nl_n, Option.toList_some, Option.toList_none, Option.map_some, Option.map_none, List.cons_append, List.nil_append, List.length_cons, List.length_nil, List.set_cons_zero, List.set_cons_succ, List.getElem?_cons_zero, List.getElem?_cons_succ, am_bd_s, ↓am_bdf h0, am_w_i, if_neg, if_pos]
theorem X8_append_w {x : Int} (l : TextC h X n) (hn : n < 44) (hx : 0 ≤ x ∧ x ≤ 255) : ∃ h', (∀ E K, Wp E 68 0 [some (am_r (some 1)), some (am_i x)] [] h K = K (some (am_i 1)) h') ∧ TextC h' (X.set n x) (n + 1) ∧ Fr h h' 1 2 := by
  obtain ⟨h0, h1, h2, h3, h4⟩ := l
  have s0 : (h.set 2 (am_a 0 (X.set n x)))[1]? = some (am_o 8 [am_r (some 2), am_i (n : Int)]) := by rw [am_set_ne (by omega)]; exact h0
  refine ⟨(h.set 2 (am_a 0 (X.set n x))).set 1 (am_o 8 [am_r (some 2), am_i ((n : Int) + 1)]), fun E K => ?_, ⟨am_set_at s0, by rw [am_set_ne (by omega)]; exact am_set_at h1, by rw [List.length_set]; exact h2, by omega, ?_⟩, (Fr.rf.set (by omega) (by omega)).set (by omega) (by omega)⟩
  · simp (disch := first | omega | (simp only [List.length_set]; omega) | rfl) only [↓e68_0, ↓e68_1, ↓e68_4, ↓e68_6, ↓e68_9, ↓e68_10, ↓e68_11, ↓e68_12, ↓e68_15, ↓e68_16, ↓e68_19, ↓e68_20, ↓e68_21, ↓e68_22, ↓e68_23, ↓e68_26, ↓e68_27, ↓e68_28, ↓e68_31, ↓e68_32, ↓am_ilp, ↓am_iln, ↓am_iep, ↓am_ien, ↓am_zlp, ↓am_zln, ↓am_zep, ↓am_zen, ↓am_zgp, ↓am_zgn, ↓am_zhp, ↓am_zhn, ↓am_b01, true_or, true_and, and_true, or_true, if_true, if_false, ↓am_bdl_z, ↓am_bdl_s, ↓am_bsl_z, ↓am_bsl_s, ↓am_k1_i, ↓am_k1_r, ↓am_k1_e, ↓am_k1_n, ↓am_bd_s, am_k1_t, eq_self, am_nl_i, am_nl_r, am_nl_e, am_nl_n, Option.toList_some, Option.toList_none, Option.map_some, Option.map_none, List.cons_append, List.nil_append, List.length_cons, List.length_nil, List.set_cons_zero, List.set_cons_succ, List.getElem?_cons_zero, List.getElem?_cons_succ, am_bd_s, ↓am_bdf h0, ↓am_bwa h1, ↓am_bdf s0, am_bdf s0, ↓am_bfu s0, am_bfu s0, ↓am_oc_of s0, am_oc_of s0, am_w_i, if_neg, if_pos, Int.toNat_natCast]
  · intro i hi
    have := h4 i hi
    by_cases q : n = i
    · subst q
      rw [List.getD_eq_getElem?_getD, List.getElem?_set_self (by omega)]
      exact hx
    · rw [List.getD_eq_getElem?_getD, List.getElem?_set_ne q, ← List.getD_eq_getElem?_getD]
      exact this
theorem X8_figureAt_w {p : Int} (l : TextC h X n) (hp0 : 0 ≤ p) (hp : p ≤ 100) : Wp E 73 0 [some (am_r (some 1)), some (am_i p)] [] h K = K (some (am_i (pl_fa X n p))) h := by
  obtain ⟨h0, h1, h2, h3, h4⟩ := l
  by_cases q : p < n <;> simp (disch := first | omega | (simp only [List.length_set]; omega) | rfl) only [↓e73_0, ↓e73_1, ↓e73_4, ↓e73_5, ↓e73_6, ↓e73_9, ↓e73_12, ↓e73_13, ↓e73_16, ↓e73_17, ↓e73_18, ↓e73_20, ↓e73_21, ↓e73_24, ↓e73_26, ↓am_ilp, ↓am_iln, ↓am_iep, ↓am_ien, ↓am_zlp, ↓am_zln, ↓am_zep, ↓am_zen, ↓am_zgp, ↓am_zgn, ↓am_zhp, ↓am_zhn, ↓am_b01, true_or, true_and, and_true, or_true, if_true, if_false, ↓am_bdl_z, ↓am_bdl_s, ↓am_bsl_z, ↓am_bsl_s, ↓am_k1_i, ↓am_k1_r, ↓am_k1_e, ↓am_k1_n, ↓am_bd_s, am_k1_t, eq_self, am_nl_i, am_nl_r, am_nl_e, am_nl_n, Option.toList_some, Option.toList_none, Option.map_some, Option.map_none, List.cons_append, List.nil_append, List.length_cons, List.length_nil, List.set_cons_zero, List.set_cons_succ, List.getElem?_cons_zero, List.getElem?_cons_succ, am_bd_s, ↓am_bdf h0, ↓am_bra h1, am_w_i, pl_fa, if_pos, if_neg]
theorem X8_figureFault_w {p lo hi : Int} (l : TextC h X n) (hp0 : 0 ≤ p) (hp : p ≤ 100) (hl : -100 ≤ lo ∧ lo ≤ 300) (hh : -100 ≤ hi ∧ hi ≤ 300) : Wp E 72 0 [some (am_r (some 1)), some (am_i p), some (am_i lo), some (am_i hi), none] [] h K = K (some (am_i (pl_ff X n p lo hi))) h := by
  have lw := fun E K => X8_figureAt_w (E := E) (K := K) l hp0 hp
  have fr := pl_fa_rng l p hp0
  obtain ⟨h0, h1, h2, h3, h4⟩ := l
  by_cases q : p < n
  · by_cases q1 : pl_fa X n p < lo
    · simp (disch := first | omega | (simp only [List.length_set]; omega) | rfl) only [↓e72_0, ↓e72_1, ↓e72_2, ↓e72_5, ↓e72_8, ↓e72_9, ↓e72_12, ↓e72_13, ↓e72_14, ↓e72_15, ↓e72_18, ↓e72_20, ↓e72_22, ↓e72_23, ↓e72_26, ↓e72_28, ↓e72_29, ↓e72_32, ↓e72_33, ↓e72_36, ↓e72_38, ↓am_ilp, ↓am_iln, ↓am_iep, ↓am_ien, ↓am_zlp, ↓am_zln, ↓am_zep, ↓am_zen, ↓am_zgp, ↓am_zgn, ↓am_zhp, ↓am_zhn, ↓am_b01, true_or, true_and, and_true, or_true, if_true, if_false, ↓am_bdl_z, ↓am_bdl_s, ↓am_bsl_z, ↓am_bsl_s, ↓am_k1_i, ↓am_k1_r, ↓am_k1_e, ↓am_k1_n, ↓am_bd_s, am_k1_t, eq_self, am_nl_i, am_nl_r, am_nl_e, am_nl_n, Option.toList_some, Option.toList_none, Option.map_some, Option.map_none, List.cons_append, List.nil_append, List.length_cons, List.length_nil, List.set_cons_zero, List.set_cons_succ, List.getElem?_cons_zero, List.getElem?_cons_succ, am_bd_s, ↓am_bdf h0, ↓am_oc_of h0, ↓lw, am_w_i, pl_ff, if_pos, if_neg]
    · by_cases q2 : hi < pl_fa X n p <;> simp (disch := first | omega | (simp only [List.length_set]; omega) | rfl) only [↓e72_0, ↓e72_1, ↓e72_2, ↓e72_5, ↓e72_8, ↓e72_9, ↓e72_12, ↓e72_13, ↓e72_14, ↓e72_15, ↓e72_18, ↓e72_20, ↓e72_22, ↓e72_23, ↓e72_26, ↓e72_28, ↓e72_29, ↓e72_32, ↓e72_33, ↓e72_36, ↓e72_38, ↓am_ilp, ↓am_iln, ↓am_iep, ↓am_ien, ↓am_zlp, ↓am_zln, ↓am_zep, ↓am_zen, ↓am_zgp, ↓am_zgn, ↓am_zhp, ↓am_zhn, ↓am_b01, true_or, true_and, and_true, or_true, if_true, if_false, ↓am_bdl_z, ↓am_bdl_s, ↓am_bsl_z, ↓am_bsl_s, ↓am_k1_i, ↓am_k1_r, ↓am_k1_e, ↓am_k1_n, ↓am_bd_s, am_k1_t, eq_self, am_nl_i, am_nl_r, am_nl_e, am_nl_n, Option.toList_some, Option.toList_none, Option.map_some, Option.map_none, List.cons_append, List.nil_append, List.length_cons, List.length_nil, List.set_cons_zero, List.set_cons_succ, List.getElem?_cons_zero, List.getElem?_cons_succ, am_bd_s, ↓am_bdf h0, ↓am_oc_of h0, ↓lw, am_w_i, pl_ff, if_pos, if_neg]
  · simp (disch := first | omega | (simp only [List.length_set]; omega) | rfl) only [↓e72_0, ↓e72_1, ↓e72_2, ↓e72_5, ↓e72_8, ↓e72_9, ↓e72_12, ↓e72_13, ↓e72_14, ↓e72_15, ↓e72_18, ↓e72_20, ↓e72_22, ↓e72_23, ↓e72_26, ↓e72_28, ↓e72_29, ↓e72_32, ↓e72_33, ↓e72_36, ↓e72_38, ↓am_ilp, ↓am_iln, ↓am_iep, ↓am_ien, ↓am_zlp, ↓am_zln, ↓am_zep, ↓am_zen, ↓am_zgp, ↓am_zgn, ↓am_zhp, ↓am_zhn, ↓am_b01, true_or, true_and, and_true, or_true, if_true, if_false, ↓am_bdl_z, ↓am_bdl_s, ↓am_bsl_z, ↓am_bsl_s, ↓am_k1_i, ↓am_k1_r, ↓am_k1_e, ↓am_k1_n, ↓am_bd_s, am_k1_t, eq_self, am_nl_i, am_nl_r, am_nl_e, am_nl_n, Option.toList_some, Option.toList_none, Option.map_some, Option.map_none, List.cons_append, List.nil_append, List.length_cons, List.length_nil, List.set_cons_zero, List.set_cons_succ, List.getElem?_cons_zero, List.getElem?_cons_succ, am_bd_s, ↓am_bdf h0, ↓am_oc_of h0, ↓lw, am_w_i, pl_ff, if_pos, if_neg]
theorem X8_blanketFault_w {p : Int} (l : TextC h X n) (hp0 : 0 ≤ p) (hp : p ≤ 50) : Wp E 70 0 [some (am_r (some 1)), some (am_i p), none] [] h K = K (some (am_i (pl_bf X n p))) h := by
  have f1 := pl_fa_rng l (p + 1) (by omega)
  simp (disch := first | omega | (simp only [List.length_set]; omega) | rfl) only [↓e70_0, ↓e70_1, ↓e70_2, ↓e70_3, ↓e70_4, ↓e70_5, ↓e70_6, ↓e70_9, ↓e70_10, ↓e70_11, ↓e70_13, ↓e70_16, ↓e70_17, ↓e70_18, ↓e70_19, ↓e70_20, ↓e70_21, ↓e70_22, ↓e70_23, ↓e70_24, ↓e70_27, ↓e70_28, ↓e70_31, ↓e70_32, ↓e70_33, ↓e70_35, ↓e70_38, ↓e70_39, ↓e70_40, ↓e70_41, ↓e70_42, ↓e70_43, ↓e70_45, ↓e70_48, ↓e70_49, ↓e70_50, ↓e70_52, ↓e70_55, ↓e70_56, ↓e70_57, ↓e70_58, ↓e70_59, ↓e70_60, ↓e70_61, ↓e70_64, ↓e70_67, ↓e70_68, ↓am_ilp, ↓am_iln, ↓am_iep, ↓am_ien, ↓am_zlp, ↓am_zln, ↓am_zep, ↓am_zen, ↓am_zgp, ↓am_zgn, ↓am_zhp, ↓am_zhn, ↓am_b01, true_or, true_and, and_true, or_true, if_true, if_false, ↓am_bdl_z, ↓am_bdl_s, ↓am_bsl_z, ↓am_bsl_s, ↓am_k1_i, ↓am_k1_r, ↓am_k1_e, ↓am_k1_n, ↓am_bd_s, am_k1_t, eq_self, am_nl_i, am_nl_r, am_nl_e, am_nl_n, Option.toList_some, Option.toList_none, Option.map_some, Option.map_none, List.cons_append, List.nil_append, List.length_cons, List.length_nil, List.set_cons_zero, List.set_cons_succ, List.getElem?_cons_zero, List.getElem?_cons_succ, am_bd_s, ↓am_oc_of l.1, ↓X8_figureFault_w l, ↓X8_figureAt_w l, pl_ff_w l, am_w_i]
  unfold pl_bf
  by_cases q1 : pl_ff X n (p + 1) 0 5 = -9
  · by_cases q2 : pl_ff X n (p + 2) (pl_fa X n (p + 1)) 5 = -9
    · by_cases q3 : pl_ff X n (p + 3) 0 9 = -9 <;> simp [q1, q2, q3]
    · simp [q1, q2]
  · simp [q1]
theorem X8_cellBits_w {f w : Int} : Wp E 74 0 [some (am_i f), some (am_i w)] [] h K = K (some (am_i (am_shl (am_shl 1 w - 1) f))) h := by
  simp only [↓e74_0, ↓e74_1, ↓e74_2, ↓e74_3, ↓e74_4, ↓e74_5, ↓e74_6, ↓e74_7, ↓am_ilp, ↓am_iln, ↓am_iep, ↓am_ien, ↓am_zlp, ↓am_zln, ↓am_zep, ↓am_zen, ↓am_zgp, ↓am_zgn, ↓am_zhp, ↓am_zhn, ↓am_b01, true_or, true_and, and_true, or_true, if_true, if_false, ↓am_bdl_z, ↓am_bdl_s, ↓am_bsl_z, ↓am_bsl_s, ↓am_k1_i, ↓am_k1_r, ↓am_k1_e, ↓am_k1_n, ↓am_bd_s, am_k1_t, eq_self, am_nl_i, am_nl_r, am_nl_e, am_nl_n, Option.toList_some, Option.toList_none, Option.map_some, Option.map_none, List.cons_append, List.nil_append, List.length_cons, List.length_nil, List.set_cons_zero, List.set_cons_succ, List.getElem?_cons_zero, List.getElem?_cons_succ, am_bd_s]
end TXT
theorem pl_cb_and : ∀ m < 64, ∀ f < 6, ∀ w < 4, am_w (am_and ((m : Nat) : Int) (am_shl (am_shl 1 ((w : Nat) : Int) - 1) ((f : Nat) : Int))) = ((m &&& pl_cb f w : Nat) : Int) := by decide +kernel
theorem pl_cb_or : ∀ m < 64, ∀ f < 6, ∀ w < 4, am_or ((m : Nat) : Int) (am_shl (am_shl 1 ((w : Nat) : Int) - 1) ((f : Nat) : Int)) = ((m ||| pl_cb f w : Nat) : Int) := by decide +kernel
theorem pl_cb_64 : ∀ m < 64, ∀ f < 6, ∀ w < 4, f + w ≤ 6 → m ||| pl_cb f w < 64 := by decide +kernel
section TX2
variable {E : List (List Int)} {h : am_H} {K : Option am_V → am_H → Prop} {X : List Int} {n : Nat}
theorem X8_sleeperFault_w {p : Int} {m : Nat} (l : TextC h X n) (hp0 : 0 ≤ p) (hp : p ≤ 50) (hm : m < 64) : Wp E 71 0 [some (am_r (some 1)), some (am_i p), some (am_i (m : Int)), none, none] [] h K = K (some (am_i (pl_sf X n p m))) h := by
  have f1 := pl_fa_rng l (p + 1) (by omega)
  have f2 := pl_fa_rng l (p + 2) (by omega)
  by_cases q1 : pl_ff X n (p + 1) 0 5 = -9
  · have a1 := pl_ff_ok q1 (by omega)
    obtain ⟨f, hf⟩ : ∃ f : Nat, pl_fa X n (p + 1) = (f : Int) := ⟨(pl_fa X n (p + 1)).toNat, by omega⟩
    have b1 : am_w (am_and (m : Int) (am_shl (am_shl 1 1 - 1) (f : Int))) = ((m &&& pl_cb f 1 : Nat) : Int) := pl_cb_and m hm f (by omega) 1 (by omega)
    have em : (if am_w (6 - (f : Int)) < am_w 3 then 6 - (f : Int) else 3) = min 3 (6 - (f : Int)) := by
      rw [am_w_id (by omega) (by omega), am_w_l3]
      omega
    by_cases q2 : m &&& pl_cb f 1 = 0
    · by_cases q3 : pl_ff X n (p + 2) 1 (min 3 (6 - (f : Int))) = -9
      · have a3 := pl_ff_ok q3 (by omega)
        obtain ⟨w, hw⟩ : ∃ w : Nat, pl_fa X n (p + 2) = (w : Int) := ⟨(pl_fa X n (p + 2)).toNat, by omega⟩
        have b2 := pl_cb_and m hm f (by omega) w (by omega)
        by_cases q4 : m &&& pl_cb f w = 0 <;> simp (disch := first | omega | (simp only [List.length_set]; omega) | rfl) only [↓e71_0, ↓e71_1, ↓e71_2, ↓e71_3, ↓e71_4, ↓e71_5, ↓e71_6, ↓e71_9, ↓e71_10, ↓e71_11, ↓e71_13, ↓e71_16, ↓e71_17, ↓e71_18, ↓e71_19, ↓e71_20, ↓e71_21, ↓e71_22, ↓e71_25, ↓e71_27, ↓e71_28, ↓e71_30, ↓e71_31, ↓e71_34, ↓e71_35, ↓e71_38, ↓e71_39, ↓e71_40, ↓e71_41, ↓e71_42, ↓e71_43, ↓e71_44, ↓e71_45, ↓e71_46, ↓e71_47, ↓e71_48, ↓e71_50, ↓e71_52, ↓e71_53, ↓e71_56, ↓e71_59, ↓e71_60, ↓e71_61, ↓e71_63, ↓e71_66, ↓e71_67, ↓e71_68, ↓e71_69, ↓e71_71, ↓e71_72, ↓e71_73, ↓e71_74, ↓e71_75, ↓e71_78, ↓e71_81, ↓e71_82, ↓e71_85, ↓e71_86, ↓e71_87, ↓e71_88, ↓e71_91, ↓e71_93, ↓am_ilp, ↓am_iln, ↓am_iep, ↓am_ien, ↓am_zlp, ↓am_zln, ↓am_zep, ↓am_zen, ↓am_zgp, ↓am_zgn, ↓am_zhp, ↓am_zhn, ↓am_b01, true_or, true_and, and_true, or_true, if_true, if_false, ↓am_bdl_z, ↓am_bdl_s, ↓am_bsl_z, ↓am_bsl_s, ↓am_k1_i, ↓am_k1_r, ↓am_k1_e, ↓am_k1_n, ↓am_bd_s, am_k1_t, eq_self, am_nl_i, am_nl_r, am_nl_e, am_nl_n, Option.toList_some, Option.toList_none, Option.map_some, Option.map_none, List.cons_append, List.nil_append, List.length_cons, List.length_nil, List.set_cons_zero, List.set_cons_succ, List.getElem?_cons_zero, List.getElem?_cons_succ, am_bd_s, ↓am_oc_of l.1, ↓X8_figureFault_w l, ↓X8_figureAt_w l, ↓X8_cellBits_w, pl_ff_w l, am_w_m9, am_w_l0, hf, hw, b1, b2, em, pl_sf, q1, q2, q3, q4, Int.toNat_natCast, Int.natCast_eq_zero, ne_eq, not_true, not_false_eq_true]
      · simp (disch := first | omega | (simp only [List.length_set]; omega) | rfl) only [↓e71_0, ↓e71_1, ↓e71_2, ↓e71_3, ↓e71_4, ↓e71_5, ↓e71_6, ↓e71_9, ↓e71_10, ↓e71_11, ↓e71_13, ↓e71_16, ↓e71_17, ↓e71_18, ↓e71_19, ↓e71_20, ↓e71_21, ↓e71_22, ↓e71_25, ↓e71_27, ↓e71_28, ↓e71_30, ↓e71_31, ↓e71_34, ↓e71_35, ↓e71_38, ↓e71_39, ↓e71_40, ↓e71_41, ↓e71_42, ↓e71_43, ↓e71_44, ↓e71_45, ↓e71_46, ↓e71_47, ↓e71_48, ↓e71_50, ↓e71_52, ↓e71_53, ↓e71_56, ↓e71_59, ↓e71_60, ↓e71_61, ↓e71_63, ↓e71_66, ↓e71_67, ↓e71_68, ↓e71_69, ↓e71_71, ↓e71_72, ↓e71_73, ↓e71_74, ↓e71_75, ↓e71_78, ↓e71_81, ↓e71_82, ↓e71_85, ↓e71_86, ↓e71_87, ↓e71_88, ↓e71_91, ↓e71_93, ↓am_ilp, ↓am_iln, ↓am_iep, ↓am_ien, ↓am_zlp, ↓am_zln, ↓am_zep, ↓am_zen, ↓am_zgp, ↓am_zgn, ↓am_zhp, ↓am_zhn, ↓am_b01, true_or, true_and, and_true, or_true, if_true, if_false, ↓am_bdl_z, ↓am_bdl_s, ↓am_bsl_z, ↓am_bsl_s, ↓am_k1_i, ↓am_k1_r, ↓am_k1_e, ↓am_k1_n, ↓am_bd_s, am_k1_t, eq_self, am_nl_i, am_nl_r, am_nl_e, am_nl_n, Option.toList_some, Option.toList_none, Option.map_some, Option.map_none, List.cons_append, List.nil_append, List.length_cons, List.length_nil, List.set_cons_zero, List.set_cons_succ, List.getElem?_cons_zero, List.getElem?_cons_succ, am_bd_s, ↓am_oc_of l.1, ↓X8_figureFault_w l, ↓X8_figureAt_w l, ↓X8_cellBits_w, pl_ff_w l, am_w_m9, am_w_l0, hf, b1, em, pl_sf, q1, q2, q3, Int.toNat_natCast, Int.natCast_eq_zero, ne_eq, not_true, not_false_eq_true]
    · simp (disch := first | omega | (simp only [List.length_set]; omega) | rfl) only [↓e71_0, ↓e71_1, ↓e71_2, ↓e71_3, ↓e71_4, ↓e71_5, ↓e71_6, ↓e71_9, ↓e71_10, ↓e71_11, ↓e71_13, ↓e71_16, ↓e71_17, ↓e71_18, ↓e71_19, ↓e71_20, ↓e71_21, ↓e71_22, ↓e71_25, ↓e71_27, ↓e71_28, ↓e71_30, ↓e71_31, ↓e71_34, ↓e71_35, ↓e71_38, ↓e71_39, ↓e71_40, ↓e71_41, ↓e71_42, ↓e71_43, ↓e71_44, ↓e71_45, ↓e71_46, ↓e71_47, ↓e71_48, ↓e71_50, ↓e71_52, ↓e71_53, ↓e71_56, ↓e71_59, ↓e71_60, ↓e71_61, ↓e71_63, ↓e71_66, ↓e71_67, ↓e71_68, ↓e71_69, ↓e71_71, ↓e71_72, ↓e71_73, ↓e71_74, ↓e71_75, ↓e71_78, ↓e71_81, ↓e71_82, ↓e71_85, ↓e71_86, ↓e71_87, ↓e71_88, ↓e71_91, ↓e71_93, ↓am_ilp, ↓am_iln, ↓am_iep, ↓am_ien, ↓am_zlp, ↓am_zln, ↓am_zep, ↓am_zen, ↓am_zgp, ↓am_zgn, ↓am_zhp, ↓am_zhn, ↓am_b01, true_or, true_and, and_true, or_true, if_true, if_false, ↓am_bdl_z, ↓am_bdl_s, ↓am_bsl_z, ↓am_bsl_s, ↓am_k1_i, ↓am_k1_r, ↓am_k1_e, ↓am_k1_n, ↓am_bd_s, am_k1_t, eq_self, am_nl_i, am_nl_r, am_nl_e, am_nl_n, Option.toList_some, Option.toList_none, Option.map_some, Option.map_none, List.cons_append, List.nil_append, List.length_cons, List.length_nil, List.set_cons_zero, List.set_cons_succ, List.getElem?_cons_zero, List.getElem?_cons_succ, am_bd_s, ↓am_oc_of l.1, ↓X8_figureFault_w l, ↓X8_figureAt_w l, ↓X8_cellBits_w, pl_ff_w l, am_w_m9, am_w_l0, hf, b1, em, pl_sf, q1, q2, Int.toNat_natCast, Int.natCast_eq_zero, ne_eq, not_true, not_false_eq_true]
  · simp (disch := first | omega | (simp only [List.length_set]; omega) | rfl) only [↓e71_0, ↓e71_1, ↓e71_2, ↓e71_3, ↓e71_4, ↓e71_5, ↓e71_6, ↓e71_9, ↓e71_10, ↓e71_11, ↓e71_13, ↓e71_16, ↓e71_17, ↓am_ilp, ↓am_iln, ↓am_iep, ↓am_ien, ↓am_zlp, ↓am_zln, ↓am_zep, ↓am_zen, ↓am_zgp, ↓am_zgn, ↓am_zhp, ↓am_zhn, ↓am_b01, true_or, true_and, and_true, or_true, if_true, if_false, ↓am_bdl_z, ↓am_bdl_s, ↓am_bsl_z, ↓am_bsl_s, ↓am_k1_i, ↓am_k1_r, ↓am_k1_e, ↓am_k1_n, ↓am_bd_s, am_k1_t, eq_self, am_nl_i, am_nl_r, am_nl_e, am_nl_n, Option.toList_some, Option.toList_none, Option.map_some, Option.map_none, List.cons_append, List.nil_append, List.length_cons, List.length_nil, List.set_cons_zero, List.set_cons_succ, List.getElem?_cons_zero, List.getElem?_cons_succ, am_bd_s, ↓am_oc_of l.1, ↓X8_figureFault_w l, pl_ff_w l, am_w_m9, pl_sf, q1, ne_eq, not_false_eq_true]
theorem X8_firstFault_l (l : TextC h X n) : ∀ (f : Nat) (p : Int) (nb ns m : Nat) (x5 x6 x7 : Option am_V), am_nl x5 = true → am_nl x6 = true → 1 ≤ p → (n : Int) - p < f → p ≤ 50 → nb ≤ 6 → ns ≤ 3 → m < 64 → Wp E 69 29 [some (am_r (some 1)), some (am_i (nb : Int)), some (am_i (ns : Int)), some (am_i (m : Int)), some (am_i p), x5, x6, x7] [] h K = K (some (am_i (pl_pr X n f p nb ns m).1)) h
  | 0, p, nb, ns, m, x5, x6, x7, n5, n6, hp, hf, hp5, hnb, hns, hm => by
    have e : (n : Int) ≤ p := by omega
    rw [e69_29]
    simp (disch := first | omega | (simp only [List.length_set]; omega) | rfl) only [↓e69_31, ↓e69_32, ↓e69_35, ↓e69_184, ↓e69_186, ↓am_ilp, ↓am_iln, ↓am_iep, ↓am_ien, ↓am_zlp, ↓am_zln, ↓am_zep, ↓am_zen, ↓am_zgp, ↓am_zgn, ↓am_zhp, ↓am_zhn, ↓am_b01, true_or, true_and, and_true, or_true, if_true, if_false, ↓am_bdl_z, ↓am_bdl_s, ↓am_bsl_z, ↓am_bsl_s, ↓am_k1_i, ↓am_k1_r, ↓am_k1_e, ↓am_k1_n, ↓am_bd_s, am_k1_t, eq_self, am_nl_i, am_nl_r, am_nl_e, am_nl_n, Option.toList_some, Option.toList_none, Option.map_some, Option.map_none, List.cons_append, List.nil_append, List.length_cons, List.length_nil, List.set_cons_zero, List.set_cons_succ, List.getElem?_cons_zero, List.getElem?_cons_succ, am_bd_s, ↓am_bdf l.1, am_w_i, if_neg, pl_pr]
  | f + 1, p, nb, ns, m, x5, x6, x7, n5, n6, hp, hf, hp5, hnb, hns, hm => by
    obtain ⟨h0, h1, h2, h3, h4⟩ := id l
    have hv : 0 ≤ p → p < n → 0 ≤ X.getD p.toNat 0 ∧ X.getD p.toNat 0 ≤ 255 := fun a b => h4 p.toNat (by omega)
    by_cases q0 : (n : Int) ≤ p
    · rw [e69_29]
      simp (disch := first | omega | (simp only [List.length_set]; omega) | rfl) only [↓e69_31, ↓e69_32, ↓e69_35, ↓e69_184, ↓e69_186, ↓am_ilp, ↓am_iln, ↓am_iep, ↓am_ien, ↓am_zlp, ↓am_zln, ↓am_zep, ↓am_zen, ↓am_zgp, ↓am_zgn, ↓am_zhp, ↓am_zhn, ↓am_b01, true_or, true_and, and_true, or_true, if_true, if_false, ↓am_bdl_z, ↓am_bdl_s, ↓am_bsl_z, ↓am_bsl_s, ↓am_k1_i, ↓am_k1_r, ↓am_k1_e, ↓am_k1_n, ↓am_bd_s, am_k1_t, eq_self, am_nl_i, am_nl_r, am_nl_e, am_nl_n, Option.toList_some, Option.toList_none, Option.map_some, Option.map_none, List.cons_append, List.nil_append, List.length_cons, List.length_nil, List.set_cons_zero, List.set_cons_succ, List.getElem?_cons_zero, List.getElem?_cons_succ, am_bd_s, ↓am_bdf h0, am_w_i, if_neg, if_pos, pl_pr]
    · have hv2 := hv (by omega) (by omega)
      rw [e69_29]
      by_cases c1 : X.getD p.toNat 0 = 81
      · have c2 : ¬ ((81 : Int) = 83) := by omega
        by_cases c3 : nb < 6
        · by_cases c4 : pl_bf X n p = -9
          · have a1 := pl_bf_ok c4 (by omega)
            have ih := fun x5 x6 x7 n5 n6 => X8_firstFault_l l f (p + 5) (nb + 1) ns m x5 x6 x7 n5 n6 (by omega) (by omega) (by omega) (by omega) hns hm
            simp only [Int.natCast_add, Int.natCast_one] at ih
            simp (disch := first | omega | (simp only [List.length_set]; omega) | rfl) only [↓e69_31, ↓e69_32, ↓e69_35, ↓e69_38, ↓e69_39, ↓e69_42, ↓e69_44, ↓e69_45, ↓e69_47, ↓e69_50, ↓e69_51, ↓e69_53, ↓e69_56, ↓e69_57, ↓e69_60, ↓e69_61, ↓e69_63, ↓e69_64, ↓e69_67, ↓e69_69, ↓e69_70, ↓e69_72, ↓e69_75, ↓e69_76, ↓e69_77, ↓e69_80, ↓e69_81, ↓e69_83, ↓e69_86, ↓e69_87, ↓e69_90, ↓e69_91, ↓e69_93, ↓e69_95, ↓e69_98, ↓e69_100, ↓e69_103, ↓e69_105, ↓e69_106, ↓e69_108, ↓e69_111, ↓e69_112, ↓e69_114, ↓e69_117, ↓e69_120, ↓e69_121, ↓e69_123, ↓e69_124, ↓e69_127, ↓e69_129, ↓e69_131, ↓e69_133, ↓e69_136, ↓e69_138, ↓e69_139, ↓e69_141, ↓e69_144, ↓e69_147, ↓e69_150, ↓e69_181, ↓am_ilp, ↓am_iln, ↓am_iep, ↓am_ien, ↓am_zlp, ↓am_zln, ↓am_zep, ↓am_zen, ↓am_zgp, ↓am_zgn, ↓am_zhp, ↓am_zhn, ↓am_b01, true_or, true_and, and_true, or_true, if_true, if_false, ↓am_bdl_z, ↓am_bdl_s, ↓am_bsl_z, ↓am_bsl_s, ↓am_k1_i, ↓am_k1_r, ↓am_k1_e, ↓am_k1_n, ↓am_bd_s, am_k1_t, eq_self, am_nl_i, am_nl_r, am_nl_e, am_nl_n, Option.toList_some, Option.toList_none, Option.map_some, Option.map_none, List.cons_append, List.nil_append, List.length_cons, List.length_nil, List.set_cons_zero, List.set_cons_succ, List.getElem?_cons_zero, List.getElem?_cons_succ, am_bd_s, ↓am_bdf h0, ↓am_bra h1, ↓am_oc_of h0, ↓X8_blanketFault_w l, n5, n6, c1, c4, am_w_i, if_neg, if_pos, pl_pr, ne_eq, not_true]
            exact ih _ _ _ rfl rfl
          · have a1 : am_w (pl_bf X n p) = pl_bf X n p := by
              have r1 := pl_ff_rng l (p + 1) 0 5 (by omega)
              have r2 := pl_ff_rng l (p + 2) (pl_fa X n (p + 1)) 5 (by omega)
              have r3 := pl_ff_rng l (p + 3) 0 9 (by omega)
              have r4 := pl_ff_rng l (p + 4) 0 3 (by omega)
              unfold pl_bf
              split
              · exact am_w_id (by omega) (by omega)
              · split
                · exact am_w_id (by omega) (by omega)
                · split <;> exact am_w_id (by omega) (by omega)
            simp (disch := first | omega | (simp only [List.length_set]; omega) | rfl) only [↓e69_31, ↓e69_32, ↓e69_35, ↓e69_38, ↓e69_39, ↓e69_42, ↓e69_44, ↓e69_45, ↓e69_47, ↓e69_50, ↓e69_51, ↓e69_53, ↓e69_56, ↓e69_57, ↓e69_60, ↓e69_61, ↓e69_63, ↓e69_64, ↓e69_67, ↓e69_69, ↓e69_70, ↓e69_72, ↓e69_75, ↓e69_76, ↓e69_77, ↓e69_80, ↓e69_81, ↓e69_83, ↓e69_86, ↓e69_87, ↓e69_90, ↓e69_91, ↓e69_93, ↓e69_95, ↓e69_98, ↓e69_100, ↓e69_103, ↓e69_105, ↓e69_106, ↓e69_108, ↓e69_111, ↓e69_112, ↓e69_114, ↓e69_117, ↓e69_120, ↓e69_121, ↓e69_123, ↓e69_124, ↓e69_127, ↓e69_129, ↓e69_131, ↓e69_133, ↓e69_136, ↓e69_138, ↓e69_139, ↓e69_141, ↓e69_144, ↓e69_147, ↓e69_150, ↓am_ilp, ↓am_iln, ↓am_iep, ↓am_ien, ↓am_zlp, ↓am_zln, ↓am_zep, ↓am_zen, ↓am_zgp, ↓am_zgn, ↓am_zhp, ↓am_zhn, ↓am_b01, true_or, true_and, and_true, or_true, if_true, if_false, ↓am_bdl_z, ↓am_bdl_s, ↓am_bsl_z, ↓am_bsl_s, ↓am_k1_i, ↓am_k1_r, ↓am_k1_e, ↓am_k1_n, ↓am_bd_s, am_k1_t, eq_self, am_nl_i, am_nl_r, am_nl_e, am_nl_n, Option.toList_some, Option.toList_none, Option.map_some, Option.map_none, List.cons_append, List.nil_append, List.length_cons, List.length_nil, List.set_cons_zero, List.set_cons_succ, List.getElem?_cons_zero, List.getElem?_cons_succ, am_bd_s, ↓am_bdf h0, ↓am_bra h1, ↓am_oc_of h0, ↓X8_blanketFault_w l, n5, n6, c1, c4, a1, am_w_i, if_neg, if_pos, pl_pr, ne_eq, not_false_eq_true]
        · simp (disch := first | omega | (simp only [List.length_set]; omega) | rfl) only [↓e69_31, ↓e69_32, ↓e69_35, ↓e69_38, ↓e69_39, ↓e69_42, ↓e69_44, ↓e69_45, ↓e69_47, ↓e69_50, ↓e69_51, ↓e69_53, ↓e69_56, ↓e69_57, ↓e69_60, ↓e69_61, ↓e69_63, ↓e69_64, ↓e69_67, ↓e69_69, ↓e69_70, ↓e69_72, ↓e69_75, ↓e69_76, ↓e69_77, ↓e69_80, ↓e69_81, ↓e69_83, ↓e69_86, ↓e69_87, ↓e69_90, ↓e69_91, ↓e69_93, ↓e69_95, ↓e69_98, ↓e69_100, ↓e69_103, ↓e69_105, ↓am_ilp, ↓am_iln, ↓am_iep, ↓am_ien, ↓am_zlp, ↓am_zln, ↓am_zep, ↓am_zen, ↓am_zgp, ↓am_zgn, ↓am_zhp, ↓am_zhn, ↓am_b01, true_or, true_and, and_true, or_true, if_true, if_false, ↓am_bdl_z, ↓am_bdl_s, ↓am_bsl_z, ↓am_bsl_s, ↓am_k1_i, ↓am_k1_r, ↓am_k1_e, ↓am_k1_n, ↓am_bd_s, am_k1_t, eq_self, am_nl_i, am_nl_r, am_nl_e, am_nl_n, Option.toList_some, Option.toList_none, Option.map_some, Option.map_none, List.cons_append, List.nil_append, List.length_cons, List.length_nil, List.set_cons_zero, List.set_cons_succ, List.getElem?_cons_zero, List.getElem?_cons_succ, am_bd_s, ↓am_bdf h0, ↓am_bra h1, n5, n6, c1, am_w_i, if_neg, if_pos, pl_pr]
      · by_cases c2 : X.getD p.toNat 0 = 83 ∧ ns < 3 ∧ m ≠ 63
        · have c3 : ¬ ((83 : Int) = 81) := by omega
          by_cases c4 : pl_sf X n p m = -9
          · have a1 := pl_sf_ok c4 (by omega)
            obtain ⟨g, hg⟩ : ∃ g : Nat, pl_fa X n (p + 1) = (g : Int) := ⟨(pl_fa X n (p + 1)).toNat, by omega⟩
            obtain ⟨w, hw⟩ : ∃ w : Nat, pl_fa X n (p + 2) = (w : Int) := ⟨(pl_fa X n (p + 2)).toNat, by omega⟩
            have b1 := pl_cb_or m hm g (by omega) w (by omega)
            have ih := fun x5 x6 x7 n5 n6 => X8_firstFault_l l f (p + 3) nb (ns + 1) (m ||| pl_cb g w) x5 x6 x7 n5 n6 (by omega) (by omega) (by omega) hnb (by omega) (pl_cb_64 m hm g (by omega) w (by omega) (by omega))
            rw [← b1] at ih
            simp only [Int.natCast_add, Int.natCast_one] at ih
            simp (disch := first | omega | (simp only [List.length_set]; omega) | rfl) only [↓e69_31, ↓e69_32, ↓e69_35, ↓e69_38, ↓e69_39, ↓e69_42, ↓e69_44, ↓e69_45, ↓e69_47, ↓e69_50, ↓e69_51, ↓e69_53, ↓e69_56, ↓e69_57, ↓e69_60, ↓e69_61, ↓e69_63, ↓e69_64, ↓e69_67, ↓e69_69, ↓e69_70, ↓e69_72, ↓e69_75, ↓e69_76, ↓e69_77, ↓e69_80, ↓e69_81, ↓e69_83, ↓e69_86, ↓e69_87, ↓e69_90, ↓e69_91, ↓e69_93, ↓e69_95, ↓e69_98, ↓e69_100, ↓e69_103, ↓e69_105, ↓e69_106, ↓e69_108, ↓e69_111, ↓e69_112, ↓e69_114, ↓e69_120, ↓e69_121, ↓e69_123, ↓e69_124, ↓e69_127, ↓e69_129, ↓e69_131, ↓e69_133, ↓e69_136, ↓e69_138, ↓e69_139, ↓e69_141, ↓e69_144, ↓e69_147, ↓e69_150, ↓e69_153, ↓e69_154, ↓e69_155, ↓e69_157, ↓e69_158, ↓e69_159, ↓e69_162, ↓e69_163, ↓e69_165, ↓e69_166, ↓e69_167, ↓e69_170, ↓e69_173, ↓e69_174, ↓e69_175, ↓e69_178, ↓e69_181, ↓e69_117, ↓am_ilp, ↓am_iln, ↓am_iep, ↓am_ien, ↓am_zlp, ↓am_zln, ↓am_zep, ↓am_zen, ↓am_zgp, ↓am_zgn, ↓am_zhp, ↓am_zhn, ↓am_b01, true_or, true_and, and_true, or_true, if_true, if_false, ↓am_bdl_z, ↓am_bdl_s, ↓am_bsl_z, ↓am_bsl_s, ↓am_k1_i, ↓am_k1_r, ↓am_k1_e, ↓am_k1_n, ↓am_bd_s, am_k1_t, eq_self, am_nl_i, am_nl_r, am_nl_e, am_nl_n, Option.toList_some, Option.toList_none, Option.map_some, Option.map_none, List.cons_append, List.nil_append, List.length_cons, List.length_nil, List.set_cons_zero, List.set_cons_succ, List.getElem?_cons_zero, List.getElem?_cons_succ, am_bd_s, ↓am_bdf h0, ↓am_bra h1, ↓am_oc_of h0, ↓X8_sleeperFault_w l, ↓X8_figureAt_w l, ↓X8_cellBits_w, n5, n6, c2.1, c4, hg, hw, Int.toNat_natCast, am_w_i, if_neg, if_pos, pl_pr, ne_eq, not_true]
            exact ih _ _ _ rfl rfl
          · have a1 : am_w (pl_sf X n p m) = pl_sf X n p m := by
              have r1 := pl_ff_rng l (p + 1) 0 5 (by omega)
              have r3 := pl_ff_rng l (p + 2) 1 (min 3 (6 - pl_fa X n (p + 1))) (by omega)
              unfold pl_sf
              split
              · exact am_w_id (by omega) (by omega)
              · split
                · exact am_w_id (by omega) (by omega)
                · split
                  · exact am_w_id (by omega) (by omega)
                  · split <;> exact am_w_id (by omega) (by omega)
            simp (disch := first | omega | (simp only [List.length_set]; omega) | rfl) only [↓e69_31, ↓e69_32, ↓e69_35, ↓e69_38, ↓e69_39, ↓e69_42, ↓e69_44, ↓e69_45, ↓e69_47, ↓e69_50, ↓e69_51, ↓e69_53, ↓e69_56, ↓e69_57, ↓e69_60, ↓e69_61, ↓e69_63, ↓e69_64, ↓e69_67, ↓e69_69, ↓e69_70, ↓e69_72, ↓e69_75, ↓e69_76, ↓e69_77, ↓e69_80, ↓e69_81, ↓e69_83, ↓e69_86, ↓e69_87, ↓e69_90, ↓e69_91, ↓e69_93, ↓e69_95, ↓e69_98, ↓e69_100, ↓e69_103, ↓e69_105, ↓e69_106, ↓e69_108, ↓e69_111, ↓e69_112, ↓e69_114, ↓e69_117, ↓e69_120, ↓e69_121, ↓e69_123, ↓e69_124, ↓e69_127, ↓e69_129, ↓e69_131, ↓e69_133, ↓e69_136, ↓e69_138, ↓am_ilp, ↓am_iln, ↓am_iep, ↓am_ien, ↓am_zlp, ↓am_zln, ↓am_zep, ↓am_zen, ↓am_zgp, ↓am_zgn, ↓am_zhp, ↓am_zhn, ↓am_b01, true_or, true_and, and_true, or_true, if_true, if_false, ↓am_bdl_z, ↓am_bdl_s, ↓am_bsl_z, ↓am_bsl_s, ↓am_k1_i, ↓am_k1_r, ↓am_k1_e, ↓am_k1_n, ↓am_bd_s, am_k1_t, eq_self, am_nl_i, am_nl_r, am_nl_e, am_nl_n, Option.toList_some, Option.toList_none, Option.map_some, Option.map_none, List.cons_append, List.nil_append, List.length_cons, List.length_nil, List.set_cons_zero, List.set_cons_succ, List.getElem?_cons_zero, List.getElem?_cons_succ, am_bd_s, ↓am_bdf h0, ↓am_bra h1, ↓am_oc_of h0, ↓X8_sleeperFault_w l, n5, n6, c2.1, c4, a1, am_w_i, if_neg, if_pos, pl_pr, ne_eq, not_false_eq_true]
        · have e1 : (pl_pr X n (f + 1) p nb ns m).1 = p := by
            rw [pl_pr, if_neg q0, if_neg (by omega), if_neg c2]
          rw [e1]
          by_cases c3 : X.getD p.toNat 0 = 83
          · by_cases c4 : ns < 3
            · have c5 : m = 63 := by omega
              subst c5
              simp (disch := first | omega | (simp only [List.length_set]; omega) | rfl) only [↓e69_31, ↓e69_32, ↓e69_35, ↓e69_38, ↓e69_39, ↓e69_42, ↓e69_44, ↓e69_45, ↓e69_47, ↓e69_50, ↓e69_51, ↓e69_53, ↓e69_56, ↓e69_57, ↓e69_60, ↓e69_61, ↓e69_63, ↓e69_64, ↓e69_67, ↓e69_69, ↓e69_70, ↓e69_72, ↓e69_75, ↓e69_76, ↓e69_77, ↓e69_80, ↓e69_81, ↓e69_83, ↓e69_86, ↓e69_87, ↓e69_90, ↓e69_91, ↓e69_93, ↓e69_95, ↓e69_98, ↓e69_100, ↓e69_103, ↓e69_105, ↓am_ilp, ↓am_iln, ↓am_iep, ↓am_ien, ↓am_zlp, ↓am_zln, ↓am_zep, ↓am_zen, ↓am_zgp, ↓am_zgn, ↓am_zhp, ↓am_zhn, ↓am_b01, true_or, true_and, and_true, or_true, if_true, if_false, ↓am_bdl_z, ↓am_bdl_s, ↓am_bsl_z, ↓am_bsl_s, ↓am_k1_i, ↓am_k1_r, ↓am_k1_e, ↓am_k1_n, ↓am_bd_s, am_k1_t, eq_self, am_nl_i, am_nl_r, am_nl_e, am_nl_n, Option.toList_some, Option.toList_none, Option.map_some, Option.map_none, List.cons_append, List.nil_append, List.length_cons, List.length_nil, List.set_cons_zero, List.set_cons_succ, List.getElem?_cons_zero, List.getElem?_cons_succ, am_bd_s, ↓am_bdf h0, ↓am_bra h1, n5, n6, c3, am_w_i, if_neg, if_pos]
            · simp (disch := first | omega | (simp only [List.length_set]; omega) | rfl) only [↓e69_31, ↓e69_32, ↓e69_35, ↓e69_38, ↓e69_39, ↓e69_42, ↓e69_44, ↓e69_45, ↓e69_47, ↓e69_50, ↓e69_51, ↓e69_53, ↓e69_56, ↓e69_57, ↓e69_60, ↓e69_61, ↓e69_63, ↓e69_64, ↓e69_67, ↓e69_69, ↓e69_70, ↓e69_72, ↓e69_75, ↓e69_76, ↓e69_77, ↓e69_80, ↓e69_81, ↓e69_83, ↓e69_86, ↓e69_87, ↓e69_90, ↓e69_91, ↓e69_93, ↓e69_95, ↓e69_98, ↓e69_100, ↓e69_103, ↓e69_105, ↓am_ilp, ↓am_iln, ↓am_iep, ↓am_ien, ↓am_zlp, ↓am_zln, ↓am_zep, ↓am_zen, ↓am_zgp, ↓am_zgn, ↓am_zhp, ↓am_zhn, ↓am_b01, true_or, true_and, and_true, or_true, if_true, if_false, ↓am_bdl_z, ↓am_bdl_s, ↓am_bsl_z, ↓am_bsl_s, ↓am_k1_i, ↓am_k1_r, ↓am_k1_e, ↓am_k1_n, ↓am_bd_s, am_k1_t, eq_self, am_nl_i, am_nl_r, am_nl_e, am_nl_n, Option.toList_some, Option.toList_none, Option.map_some, Option.map_none, List.cons_append, List.nil_append, List.length_cons, List.length_nil, List.set_cons_zero, List.set_cons_succ, List.getElem?_cons_zero, List.getElem?_cons_succ, am_bd_s, ↓am_bdf h0, ↓am_bra h1, n5, n6, c3, am_w_i, if_neg, if_pos]
          · simp (disch := first | omega | (simp only [List.length_set]; omega) | rfl) only [↓e69_31, ↓e69_32, ↓e69_35, ↓e69_38, ↓e69_39, ↓e69_42, ↓e69_44, ↓e69_45, ↓e69_47, ↓e69_50, ↓e69_51, ↓e69_53, ↓e69_56, ↓e69_57, ↓e69_60, ↓e69_61, ↓e69_63, ↓e69_64, ↓e69_67, ↓e69_69, ↓e69_70, ↓e69_72, ↓e69_75, ↓e69_76, ↓e69_77, ↓e69_80, ↓e69_81, ↓e69_83, ↓e69_86, ↓e69_87, ↓e69_90, ↓e69_91, ↓e69_93, ↓e69_95, ↓e69_98, ↓e69_100, ↓e69_103, ↓e69_105, ↓am_ilp, ↓am_iln, ↓am_iep, ↓am_ien, ↓am_zlp, ↓am_zln, ↓am_zep, ↓am_zen, ↓am_zgp, ↓am_zgn, ↓am_zhp, ↓am_zhn, ↓am_b01, true_or, true_and, and_true, or_true, if_true, if_false, ↓am_bdl_z, ↓am_bdl_s, ↓am_bsl_z, ↓am_bsl_s, ↓am_k1_i, ↓am_k1_r, ↓am_k1_e, ↓am_k1_n, ↓am_bd_s, am_k1_t, eq_self, am_nl_i, am_nl_r, am_nl_e, am_nl_n, Option.toList_some, Option.toList_none, Option.map_some, Option.map_none, List.cons_append, List.nil_append, List.length_cons, List.length_nil, List.set_cons_zero, List.set_cons_succ, List.getElem?_cons_zero, List.getElem?_cons_succ, am_bd_s, ↓am_bdf h0, ↓am_bra h1, n5, n6, am_w_i, if_neg, if_pos]
theorem X8_firstFault_w (l : TextC h X n) : Wp E 69 0 [some (am_r (some 1)), none, none, none, none, none, none, none] [] h K = K (some (am_i (pl_text X n).1)) h := by
  obtain ⟨h0, h1, h2, h3, h4⟩ := id l
  have hv := h4 0 (by omega)
  have lw := X8_firstFault_l (E := E) (K := K) l 50 1 0 0 0 none none none rfl rfl (by omega) (by omega) (by omega) (by omega) (by omega) (by omega)
  by_cases q0 : n = 0
  · subst q0
    simp (disch := first | omega | (simp only [List.length_set]; omega) | rfl) only [↓e69_0, ↓e69_1, ↓e69_4, ↓e69_7, ↓e69_8, ↓e69_11, ↓e69_12, ↓e69_13, ↓e69_15, ↓e69_18, ↓e69_19, ↓am_ilp, ↓am_iln, ↓am_iep, ↓am_ien, ↓am_zlp, ↓am_zln, ↓am_zep, ↓am_zen, ↓am_zgp, ↓am_zgn, ↓am_zhp, ↓am_zhn, ↓am_b01, true_or, true_and, and_true, or_true, if_true, if_false, ↓am_bdl_z, ↓am_bdl_s, ↓am_bsl_z, ↓am_bsl_s, ↓am_k1_i, ↓am_k1_r, ↓am_k1_e, ↓am_k1_n, ↓am_bd_s, am_k1_t, eq_self, am_nl_i, am_nl_r, am_nl_e, am_nl_n, Option.toList_some, Option.toList_none, Option.map_some, Option.map_none, List.cons_append, List.nil_append, List.length_cons, List.length_nil, List.set_cons_zero, List.set_cons_succ, List.getElem?_cons_zero, List.getElem?_cons_succ, am_bd_s, ↓am_bdf h0, am_w_i, if_neg, if_pos, pl_text]
  · by_cases q1 : X.getD 0 0 = 66
    · have e : pl_text X n = pl_pr X n 50 1 0 0 0 := by rw [pl_text, if_neg (by omega)]
      rw [e]
      simp (disch := first | omega | (simp only [List.length_set]; omega) | rfl) only [↓e69_0, ↓e69_1, ↓e69_4, ↓e69_7, ↓e69_8, ↓e69_11, ↓e69_12, ↓e69_13, ↓e69_15, ↓e69_18, ↓e69_19, ↓e69_20, ↓e69_21, ↓e69_22, ↓e69_23, ↓e69_24, ↓e69_25, ↓e69_26, ↓e69_27, ↓am_ilp, ↓am_iln, ↓am_iep, ↓am_ien, ↓am_zlp, ↓am_zln, ↓am_zep, ↓am_zen, ↓am_zgp, ↓am_zgn, ↓am_zhp, ↓am_zhn, ↓am_b01, true_or, true_and, and_true, or_true, if_true, if_false, ↓am_bdl_z, ↓am_bdl_s, ↓am_bsl_z, ↓am_bsl_s, ↓am_k1_i, ↓am_k1_r, ↓am_k1_e, ↓am_k1_n, ↓am_bd_s, am_k1_t, eq_self, am_nl_i, am_nl_r, am_nl_e, am_nl_n, Option.toList_some, Option.toList_none, Option.map_some, Option.map_none, List.cons_append, List.nil_append, List.length_cons, List.length_nil, List.set_cons_zero, List.set_cons_succ, List.getElem?_cons_zero, List.getElem?_cons_succ, am_bd_s, ↓am_bdf h0, ↓am_bra h1, am_w_i, if_neg, if_pos, Int.toNat_zero, q1]
      exact lw
    · have e : pl_text X n = (0, [], []) := by rw [pl_text, if_pos (Or.inr q1)]
      rw [e]
      simp (disch := first | omega | (simp only [List.length_set]; omega) | rfl) only [↓e69_0, ↓e69_1, ↓e69_4, ↓e69_7, ↓e69_8, ↓e69_11, ↓e69_12, ↓e69_13, ↓e69_15, ↓e69_18, ↓e69_19, ↓e69_20, ↓e69_21, ↓e69_22, ↓e69_23, ↓e69_24, ↓e69_25, ↓e69_26, ↓e69_27, ↓am_ilp, ↓am_iln, ↓am_iep, ↓am_ien, ↓am_zlp, ↓am_zln, ↓am_zep, ↓am_zen, ↓am_zgp, ↓am_zgn, ↓am_zhp, ↓am_zhn, ↓am_b01, true_or, true_and, and_true, or_true, if_true, if_false, ↓am_bdl_z, ↓am_bdl_s, ↓am_bsl_z, ↓am_bsl_s, ↓am_k1_i, ↓am_k1_r, ↓am_k1_e, ↓am_k1_n, ↓am_bd_s, am_k1_t, eq_self, am_nl_i, am_nl_r, am_nl_e, am_nl_n, Option.toList_some, Option.toList_none, Option.map_some, Option.map_none, List.cons_append, List.nil_append, List.length_cons, List.length_nil, List.set_cons_zero, List.set_cons_succ, List.getElem?_cons_zero, List.getElem?_cons_succ, am_bd_s, ↓am_bdf h0, ↓am_bra h1, am_w_i, if_neg, if_pos, Int.toNat_zero]
end TX2
