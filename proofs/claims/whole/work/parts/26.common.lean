/-! in which time one wakes -/
theorem am_al_of {E : List (List Int)} {h : am_H} {a t : Nat} {xs : List Int} (he : h[a]? = some (am_a t xs)) : am_al E h (am_r (some a)) = some (xs.length : Int) := by
  unfold am_al; dsimp only; rw [he]
/-- one more place is looked at -/
def pl_cs (ws : List Int) (bm : Int × Int) (x : Int) : Int × Int := if bm.2 < (ws.count x : Int) ∨ ((ws.count x : Int) = bm.2 ∧ x < bm.1) then (x, (ws.count x : Int)) else bm
/-- THE TIME THAT MOST OF THESE ARE, of like ones the least -/
def pl_cm (ws : List Int) : Int := (ws.foldl (pl_cs ws) (10, 0)).1
section COM
variable {E : List (List Int)} {h : am_H} {K : Option am_V → am_H → Prop} {a : Nat} {pre ws post : List Int}
theorem X1_commonest_i {l1 l2 l5 l6 : Option am_V} {x : Int} {i : Nat} (n5 : am_nl l5 = true) (n6 : am_nl l6 = true) (ha : h[a]? = some (am_a 0 (pre ++ (ws ++ post)))) (hl : pre.length + ws.length ≤ 6) (hw : ∀ v ∈ ws, am_w v = v) (hi : (pre ++ (ws ++ post))[i]? = some x) (hi6 : i ≤ 6) (hx : am_w x = x) :
    ∀ (S P : List Int) (n : Nat), ws = P ++ S → n ≤ P.length → Wp E 7 39 [some (am_r (some a)), l1, l2, some (am_i (pre.length : Int)), some (am_i ((pre.length + ws.length : Nat) : Int)), l5, l6, some (am_i (i : Int)), some (am_i (n : Int)), some (am_i ((pre.length + P.length : Nat) : Int))] [] h K = Wp E 7 66 [some (am_r (some a)), l1, l2, some (am_i (pre.length : Int)), some (am_i ((pre.length + ws.length : Nat) : Int)), l5, l6, some (am_i (i : Int)), some (am_i ((n + S.count x : Nat) : Int)), some (am_i ((pre.length + ws.length : Nat) : Int))] [] h K
  | [], P, n, e, hn => by
    have e1 : P.length = ws.length := by rw [e, List.append_nil]
    rw [e7_39, e1]
    simp only [e7_41, e7_43, Int.lt_irrefl, if_false, List.count_nil, Nat.add_zero]
  | y :: S, P, n, e, hn => by
    have e1 : ws.length = P.length + (S.length + 1) := by rw [e, List.length_append]; rfl
    have hy : am_w y = y := hw y (by rw [e]; simp)
    have k1 : am_w ((pre.length + P.length : Nat) : Int) < am_w ((pre.length + ws.length : Nat) : Int) := by rw [am_w_nat (by omega), am_w_nat (by omega)]; omega
    have r1 : am_rd (pre ++ (ws ++ post)) ((pre.length + P.length : Nat) : Int) = some y := am_rd_at (by rw [e]; simp) (by omega)
    have r2 : am_rd (pre ++ (ws ++ post)) (i : Int) = some x := am_rd_at hi (by omega)
    have ih1 := X1_commonest_i (l1 := l1) (l2 := l2) n5 n6 ha hl hw hi hi6 hx S (P ++ [y]) (n + 1) (by rw [e]; simp) (by simp; omega)
    have ih0 := X1_commonest_i (l1 := l1) (l2 := l2) n5 n6 ha hl hw hi hi6 hx S (P ++ [y]) n (by rw [e]; simp) (by simp; omega)
    rw [List.length_append, ← Nat.add_assoc] at ih0 ih1
    rw [e7_39]
    simp only [e7_41, e7_43, e7_46, e7_47, e7_49, e7_50, e7_51, e7_53, e7_54, e7_57, e7_60, e7_63, eq_self, am_k1_t, am_bd_s, am_bd_n, am_nl_i, am_nl_r, am_nl_e, am_nl_n, Option.toList_some, Option.toList_none, List.cons_append, List.nil_append, List.getElem?_cons_zero, List.getElem?_cons_succ, List.length_cons, List.length_nil, List.set_cons_zero, List.set_cons_succ, if_pos k1, am_ra_of ha, r1, r2, hy, hx, n5, n6]
    by_cases q : y = x
    · rw [if_pos q]
      refine Eq.trans ih1 ?_
      rw [q, List.count_cons_self, show n + 1 + S.count x = n + (S.count x + 1) by omega]
    · rw [if_neg q]
      refine Eq.trans ih0 ?_
      rw [List.count_cons_of_ne (by simpa using q)]
theorem X1_commonest_o {l1 l2 : Option am_V} (ha : h[a]? = some (am_a 0 (pre ++ (ws ++ post)))) (hl : pre.length + ws.length ≤ 6) (hw : ∀ v ∈ ws, am_w v = v) :
    ∀ (S P : List Int) (be mo : Int) (x8 x9 : Option am_V), ws = P ++ S → am_w be = be → 0 ≤ mo → mo ≤ 6 → Wp E 7 26 [some (am_r (some a)), l1, l2, some (am_i (pre.length : Int)), some (am_i ((pre.length + ws.length : Nat) : Int)), some (am_i be), some (am_i mo), some (am_i ((pre.length + P.length : Nat) : Int)), x8, x9] [] h K = K (some (am_i (S.foldl (pl_cs ws) (be, mo)).1)) h
  | [], P, be, mo, x8, x9, e, hb, h0, h6 => by
    have e1 : P.length = ws.length := by rw [e, List.append_nil]
    rw [e7_26, e1]
    simp only [e7_28, e7_30, Int.lt_irrefl, if_false, e7_105, e7_107, List.foldl_nil]
  | x :: S, P, be, mo, x8, x9, e, hb, h0, h6 => by
    have e1 : ws.length = P.length + (S.length + 1) := by rw [e, List.length_append]; rfl
    have hx : am_w x = x := hw x (by rw [e]; simp)
    have k1 : am_w ((pre.length + P.length : Nat) : Int) < am_w ((pre.length + ws.length : Nat) : Int) := by rw [am_w_nat (by omega), am_w_nat (by omega)]; omega
    have hi : (pre ++ (ws ++ post))[pre.length + P.length]? = some x := by rw [e]; simp
    have r1 : am_rd (pre ++ (ws ++ post)) ((pre.length + P.length : Nat) : Int) = some x := am_rd_at hi (by omega)
    have ii := fun (l5 l6 : Option am_V) (n5 : am_nl l5 = true) (n6 : am_nl l6 = true) => X1_commonest_i (E := E) (K := K) (l1 := l1) (l2 := l2) n5 n6 ha hl hw hi (by omega) hx ws [] 0 rfl (by simp)
    have hct : ws.count x ≤ 6 := Nat.le_trans List.count_le_length (by omega)
    have ih1 := X1_commonest_o (l1 := l1) (l2 := l2) ha hl hw S (P ++ [x]) x (ws.count x : Int) (some (am_i (ws.count x : Int))) (some (am_i ((pre.length + ws.length : Nat) : Int))) (by rw [e]; simp) hx (by omega) (by omega)
    have ih0 := X1_commonest_o (l1 := l1) (l2 := l2) ha hl hw S (P ++ [x]) be mo (some (am_i (ws.count x : Int))) (some (am_i ((pre.length + ws.length : Nat) : Int))) (by rw [e]; simp) hb h0 h6
    rw [List.length_append, ← Nat.add_assoc] at ih0 ih1
    have ec : am_w (ws.count x : Int) = (ws.count x : Int) := am_w_nat (by omega)
    have em : am_w mo = mo := am_w_id (by omega) (by omega)
    rw [e7_26]
    simp only [e7_28, e7_30, e7_33, e7_34, e7_36, e7_37, eq_self, am_k1_t, am_bd_s, am_bd_n, am_nl_i, am_nl_r, am_nl_e, am_nl_n, Option.toList_some, Option.toList_none, List.cons_append, List.nil_append, List.getElem?_cons_zero, List.getElem?_cons_succ, List.length_cons, List.length_nil, List.set_cons_zero, List.set_cons_succ, if_pos k1]
    have i2 := ii (some (am_i be)) (some (am_i mo)) rfl rfl
    simp only [List.length_nil, Nat.add_zero, Nat.zero_add] at i2
    refine Eq.trans i2 ?_
    simp only [e7_66, e7_68, e7_70, e7_73, e7_75, e7_77, e7_80, e7_81, e7_83, e7_84, e7_86, e7_89, e7_91, e7_93, e7_94, e7_96, e7_97, e7_99, e7_102, eq_self, am_k1_t, am_bd_s, am_bd_n, am_nl_i, am_nl_r, am_nl_e, am_nl_n, Option.toList_some, Option.toList_none, List.cons_append, List.nil_append, List.getElem?_cons_zero, List.getElem?_cons_succ, List.length_cons, List.length_nil, List.set_cons_zero, List.set_cons_succ, ec, em, am_ra_of ha, r1, hx, hb, List.foldl_cons, pl_cs]
    by_cases q1 : mo < (ws.count x : Int)
    · rw [if_pos q1, if_pos (Or.inl q1)]
      exact ih1
    · rw [if_neg q1]
      by_cases q2 : (ws.count x : Int) = mo
      · by_cases q3 : x < be
        · rw [if_pos q2, if_pos q3, if_pos (Or.inr ⟨q2, q3⟩)]
          exact ih1
        · rw [if_pos q2, if_neg q3, if_neg (show ¬ (mo < (ws.count x : Int) ∨ ((ws.count x : Int) = mo ∧ x < be)) by omega)]
          exact ih0
      · rw [if_neg q2, if_neg (show ¬ (mo < (ws.count x : Int) ∨ ((ws.count x : Int) = mo ∧ x < be)) by omega)]
        exact ih0
theorem X1_commonest_w {f w : Nat} {tm : List Int} (ha : h[a]? = some (am_a 0 tm)) (h6 : tm.length = 6) (hf : f ≤ 6) (hw3 : w ≤ 6) (hv : ∀ v ∈ tm, am_w v = v) : Wp E 7 0 [some (am_r (some a)), some (am_i (f : Int)), some (am_i (w : Int)), none, none, none, none, none, none, none] [] h K = K (some (am_i (pl_cm ((tm.drop f).take w)))) h := by
  have et : tm = tm.take f ++ ((tm.drop f).take w ++ (tm.drop f).drop w) := by rw [List.take_append_drop, List.take_append_drop]
  have lp : (tm.take f).length = f := by rw [List.length_take]; omega
  have lw : ((tm.drop f).take w).length = min w (6 - f) := by rw [List.length_take, List.length_drop, h6]
  have c0 : ¬ am_w (f : Int) < am_w 0 := by rw [am_w_nat (by omega), am_w_l0]; omega
  have ha2 : h[a]? = some (am_a 0 (tm.take f ++ ((tm.drop f).take w ++ (tm.drop f).drop w))) := by rw [← et]; exact ha
  have o := X1_commonest_o (E := E) (K := K) (l1 := some (am_i (f : Int))) (l2 := some (am_i (w : Int))) ha2 (by rw [lp, lw]; omega) (fun v hv2 => hv v (List.mem_of_mem_drop (List.mem_of_mem_take hv2))) ((tm.drop f).take w) [] 10 0 none none rfl am_w_l10 (by omega) (by omega)
  have ee : (if am_w (tm.length : Int) < am_w ((f : Int) + (w : Int)) then (tm.length : Int) else (f : Int) + (w : Int)) = ((f + min w (6 - f) : Nat) : Int) := by
    rw [h6, am_w_nat (by omega), am_w_id (by omega) (by omega)]
    split <;> omega
  simp only [e7_0, e7_1, e7_2, e7_5, e7_6, e7_7, e7_8, e7_9, e7_10, e7_11, e7_14, e7_16, e7_18, e7_20, e7_21, e7_23, e7_24, eq_self, am_k1_t, am_bd_s, am_bd_n, am_nl_i, am_nl_r, am_nl_e, am_nl_n, Option.toList_some, Option.toList_none, List.cons_append, List.nil_append, List.getElem?_cons_zero, List.getElem?_cons_succ, List.length_cons, List.length_nil, List.set_cons_zero, List.set_cons_succ, if_neg c0, am_al_of ha, ee]
  rw [lp, lw] at o
  simp only [List.length_nil, Nat.add_zero] at o
  exact o
end COM
