/-! the class's Parts: cells r to r + 5: blankets fr..ki (six each), wi (three) -/
/-- nb blankets, ns sleepers; first cells, last cells, centuries, kinds; how wide -/
def PartsC (h : am_H) (r nb ns : Nat) (fr la ce ki wi : List Int) : Prop := h[r]? = some (am_o 4 [am_r (some (r + 1)), am_r (some (r + 2)), am_r (some (r + 3)), am_r (some (r + 4)), am_r (some (r + 5)), am_i (nb : Int), am_i (ns : Int)]) ∧ h[r + 1]? = some (am_a 0 fr) ∧ h[r + 2]? = some (am_a 0 la) ∧ h[r + 3]? = some (am_a 0 ce) ∧ h[r + 4]? = some (am_a 0 ki) ∧ h[r + 5]? = some (am_a 0 wi) ∧ fr.length = 6 ∧ la.length = 6 ∧ ce.length = 6 ∧ ki.length = 6 ∧ wi.length = 3 ∧ nb ≤ 6 ∧ ns ≤ 3
theorem PartsC.fr {h h' : am_H} {r q n nb ns : Nat} {fr la ce ki wi : List Int} (l : PartsC h r nb ns fr la ce ki wi) (f : Fr h h' q n) (d : r + 6 ≤ q ∨ q + n ≤ r) : PartsC h' r nb ns fr la ce ki wi := by
  obtain ⟨h0, h1, h2, h3, h4, h5, h6⟩ := l
  exact ⟨by rw [f.2 _ (by omega)]; exact h0, by rw [f.2 _ (by omega)]; exact h1, by rw [f.2 _ (by omega)]; exact h2, by rw [f.2 _ (by omega)]; exact h3, by rw [f.2 _ (by omega)]; exact h4, by rw [f.2 _ (by omega)]; exact h5, h6⟩
def pl_b (c : Prop) [Decidable c] : Int := if c then 1 else 0
theorem pl_b01 (c : Prop) [Decidable c] : pl_b c = 0 ∨ pl_b c = 1 := by unfold pl_b; split <;> simp
theorem pl_ba {a b : Prop} [Decidable a] [Decidable b] (h : a ↔ b) : pl_b a = pl_b b := by unfold pl_b; simp only [h]
section PRT
variable {E : List (List Int)} {h : am_H} {K : Option am_V → am_H → Prop} {r nb ns : Nat} {fr la ce ki wi : List Int}
theorem X4_hasBlanket_w {x : Int} (l : PartsC h r nb ns fr la ce ki wi) : Wp E 45 0 [some (am_r (some r)), some (am_i x)] [] h K = K (some (am_i (pl_b (0 ≤ am_w x ∧ am_w x < (nb : Int))))) h := by
  obtain ⟨h0, h1, h2, h3, h4, h5, h6⟩ := l
  have e : am_w (nb : Int) = (nb : Int) := am_w_nat (by omega)
  simp only [e45_0, e45_1, e45_4, e45_5, e45_6, e45_9, e45_12, e45_13, e45_16, e45_17, eq_self, am_k1_t, am_bd_s, am_bd_n, am_nl_i, am_nl_r, am_nl_e, am_nl_n, Option.toList_some, Option.toList_none, List.cons_append, List.nil_append, List.getElem?_cons_zero, List.getElem?_cons_succ, List.length_cons, List.length_nil, List.set_cons_zero, List.set_cons_succ, am_fd_of h0, e, pl_b]
  by_cases c0 : am_w x < 0
  · rw [if_pos c0, if_neg (show ¬ (0 ≤ am_w x ∧ am_w x < (nb : Int)) by omega)]
    simp
  · rw [if_neg c0]
    by_cases c1 : am_w x < (nb : Int)
    · rw [if_pos c1, if_pos (show 0 ≤ am_w x ∧ am_w x < (nb : Int) by omega)]
      simp
    · rw [if_neg c1, if_neg (show ¬ (0 ≤ am_w x ∧ am_w x < (nb : Int)) by omega)]
      simp
theorem X4_hasSleeper_w {x : Int} (l : PartsC h r nb ns fr la ce ki wi) : Wp E 46 0 [some (am_r (some r)), some (am_i x)] [] h K = K (some (am_i (pl_b (0 ≤ am_w x ∧ am_w x < (ns : Int))))) h := by
  obtain ⟨h0, h1, h2, h3, h4, h5, h6⟩ := l
  have e : am_w (ns : Int) = (ns : Int) := am_w_nat (by omega)
  simp only [e46_0, e46_1, e46_4, e46_5, e46_6, e46_9, e46_12, e46_13, e46_16, e46_17, eq_self, am_k1_t, am_bd_s, am_bd_n, am_nl_i, am_nl_r, am_nl_e, am_nl_n, Option.toList_some, Option.toList_none, List.cons_append, List.nil_append, List.getElem?_cons_zero, List.getElem?_cons_succ, List.length_cons, List.length_nil, List.set_cons_zero, List.set_cons_succ, am_fd_of h0, e, pl_b]
  by_cases c0 : am_w x < 0
  · rw [if_pos c0, if_neg (show ¬ (0 ≤ am_w x ∧ am_w x < (ns : Int)) by omega)]
    simp
  · rw [if_neg c0]
    by_cases c1 : am_w x < (ns : Int)
    · rw [if_pos c1, if_pos (show 0 ≤ am_w x ∧ am_w x < (ns : Int) by omega)]
      simp
    · rw [if_neg c1, if_neg (show ¬ (0 ≤ am_w x ∧ am_w x < (ns : Int)) by omega)]
      simp
theorem X4_reaches_w {b c : Nat} {f t : Int} (l : PartsC h r nb ns fr la ce ki wi) (hb : b < nb) (hc : c < 6) (e1 : fr[b]? = some f) (e2 : la[b]? = some t) (w1 : am_w f = f) (w2 : am_w t = t) : Wp E 47 0 [some (am_r (some r)), some (am_i (b : Int)), some (am_i (c : Int))] [] h K = K (some (am_i (pl_b (f ≤ (c : Int) ∧ (c : Int) ≤ t)))) h := by
  obtain ⟨h0, h1, h2, h3, h4, h5, h6⟩ := l
  have c0 : ¬ am_w (b : Int) < 0 := by rw [am_w_nat (by omega)]; omega
  have c1 : am_w (b : Int) < am_w (nb : Int) := by rw [am_w_nat (by omega), am_w_nat (by omega)]; omega
  have ec : am_w (c : Int) = (c : Int) := am_w_nat (by omega)
  simp only [e47_0, e47_1, e47_4, e47_5, e47_6, e47_9, e47_12, e47_13, e47_16, e47_17, e47_18, e47_19, e47_22, e47_23, e47_24, e47_27, e47_28, e47_29, e47_32, e47_33, e47_36, e47_37, eq_self, am_k1_t, am_bd_s, am_bd_n, am_nl_i, am_nl_r, am_nl_e, am_nl_n, Option.toList_some, Option.toList_none, List.cons_append, List.nil_append, List.getElem?_cons_zero, List.getElem?_cons_succ, List.length_cons, List.length_nil, List.set_cons_zero, List.set_cons_succ, am_fd_of h0, if_neg c0, if_pos c1, am_ra_of h1, am_ra_of h2, am_rd_at e1 (by omega), am_rd_at e2 (by omega), w1, w2, ec, pl_b]
  by_cases q1 : (c : Int) < f
  · rw [if_pos q1, if_neg (show ¬ (f ≤ (c : Int) ∧ (c : Int) ≤ t) by omega)]
    simp
  · rw [if_neg q1]
    by_cases q2 : t < (c : Int)
    · rw [if_pos q2, if_neg (show ¬ (f ≤ (c : Int) ∧ (c : Int) ≤ t) by omega)]
      simp
    · rw [if_neg q2, if_pos (show f ≤ (c : Int) ∧ (c : Int) ≤ t by omega)]
      simp
theorem X4_countsAmongOthers_w {b c : Nat} {k : Int} (l : PartsC h r nb ns fr la ce ki wi) (hb : b < 6) (hc : c < 6) (e1 : ki[b]? = some k) (w1 : am_w k = k) : Wp E 48 0 [some (am_r (some r)), some (am_i (b : Int)), some (am_i (c : Int))] [] h K = K (some (am_i (pl_b (k = 0 ∨ k = 2 ∨ (k = 3 ∧ c % 2 = 0))))) h := by
  obtain ⟨h0, h1, h2, h3, h4, h5, h6⟩ := l
  have er : am_w (am_rem (c : Int) 2) = ((c % 2 : Nat) : Int) := by
    have hd : ∀ c < 6, am_w (am_rem ((c : Nat) : Int) 2) = ((c % 2 : Nat) : Int) := by decide
    exact hd c hc
  simp only [e48_0, e48_1, e48_4, e48_5, e48_6, e48_9, e48_10, e48_13, e48_14, e48_15, e48_16, e48_19, e48_20, e48_23, e48_24, e48_25, e48_26, e48_29, e48_30, e48_31, e48_32, e48_35, e48_36, e48_39, e48_40, eq_self, am_k1_t, am_bd_s, am_bd_n, am_nl_i, am_nl_r, am_nl_e, am_nl_n, Option.toList_some, Option.toList_none, List.cons_append, List.nil_append, List.getElem?_cons_zero, List.getElem?_cons_succ, List.length_cons, List.length_nil, List.set_cons_zero, List.set_cons_succ, am_fd_of h0, am_ra_of h4, am_rd_at e1 (by omega), w1, am_w_l2, am_w_l3, er, pl_b]
  by_cases q0 : k = 0
  · simp [q0]
  · by_cases q2 : k = 2
    · simp [q2]
    · by_cases q3 : k = 3
      · rcases Nat.mod_two_eq_zero_or_one c with q | q <;> simp [q3, q]
      · simp [q0, q2, q3]
theorem X4_centuryOn_w {b c : Nat} {k t : Int} (l : PartsC h r nb ns fr la ce ki wi) (hb : b < 6) (e1 : ki[b]? = some k) (e2 : ce[b]? = some t) (w1 : am_w k = k) : Wp E 49 0 [some (am_r (some r)), some (am_i (b : Int)), some (am_i (c : Int)), none] [] h K = K (some (am_i (if k = 2 then am_rem (t + (c : Int)) 10 else t))) h := by
  obtain ⟨h0, h1, h2, h3, h4, h5, h6⟩ := l
  simp only [e49_0, e49_1, e49_4, e49_5, e49_6, e49_7, e49_8, e49_11, e49_12, e49_13, e49_14, e49_17, e49_18, e49_19, e49_20, e49_22, e49_23, e49_26, e49_27, eq_self, am_k1_t, am_bd_s, am_bd_n, am_nl_i, am_nl_r, am_nl_e, am_nl_n, Option.toList_some, Option.toList_none, List.cons_append, List.nil_append, List.getElem?_cons_zero, List.getElem?_cons_succ, List.length_cons, List.length_nil, List.set_cons_zero, List.set_cons_succ, am_fd_of h0, am_ra_of h3, am_ra_of h4, am_rd_at e1 (by omega), am_rd_at e2 (by omega), w1, am_w_l2, am_w_l10]
  by_cases q : k = 2
  · simp [q]
  · simp [q]
end PRT
