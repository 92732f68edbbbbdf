/-! the model: what was seen; where; counts; weeks -/
def MS (S : Nat → Int) (V : Nat → List Int) (Q : List (Nat × Nat)) : Prop := S 22 = (Q.length : Int) ∧ Q.length ≤ 6 ∧ (V 109).length = 6 ∧ (V 110).length = 6 ∧ (∀ i : Nat, i < Q.length → gi (V 109) (i : Int) = ((Q.getD i (0, 0)).1 : Int) ∧ gi (V 110) (i : Int) = ((Q.getD i (0, 0)).2 : Int)) ∧ ∀ x ∈ Q, x.1 < 3 ∧ x.2 ≤ 10
theorem pl_or7 : ∀ m < 128, ∀ x < 6, pl_ob ((m : Nat) : Int) x = ((m ||| 2 ^ x : Nat) : Int) ∧ m ||| 2 ^ x < 128 := by decide +kernel
theorem pl_or0 : ∀ m < 128, am_or ((m : Nat) : Int) 0 = ((m : Nat) : Int) := by decide +kernel
theorem pl_ob_l : ∀ (l : List Nat) (m : Nat), m < 128 → (∀ x ∈ l, x < 6) → l.foldl pl_ob (m : Int) = ((l.foldl (fun a x => a ||| 2 ^ x) m : Nat) : Int) ∧ l.foldl (fun a x => a ||| 2 ^ x) m < 128
  | [], m, hm, _ => ⟨rfl, hm⟩
  | x :: l, m, hm, hB => by
    obtain ⟨e1, e2⟩ := pl_or7 m hm x (hB x (by simp))
    rw [List.foldl_cons, List.foldl_cons, e1]
    exact pl_ob_l l _ e2 (fun y hy => hB y (by simp [hy]))
theorem pl_tb_l (q : Nat) : ∀ (l : List Nat) (m : Nat), (l.foldl (fun a x => a ||| 2 ^ x) m).testBit q = (m.testBit q || decide (q ∈ l))
  | [], m => by simp
  | x :: l, m => by
    rw [List.foldl_cons, pl_tb_l q l, Nat.testBit_or, Nat.testBit_two_pow]
    by_cases e : x = q
    · subst e; simp
    · have e2 : ¬ q = x := fun z => e z.symm
      simp [e, e2]
/-- the order does not matter -/
theorem pl_ob_eq {l1 l2 : List Nat} {m : Nat} (hm : m < 128) (h1 : ∀ x ∈ l1, x < 6) (h2 : ∀ x ∈ l2, x < 6) (h : ∀ x, x ∈ l1 ↔ x ∈ l2) : l1.foldl pl_ob (m : Int) = l2.foldl pl_ob (m : Int) := by
  rw [(pl_ob_l l1 m hm h1).1, (pl_ob_l l2 m hm h2).1]
  congr 1
  apply Nat.eq_of_testBit_eq
  intro q
  rw [pl_tb_l, pl_tb_l]
  congr 1
  exact decide_eq_decide.mpr (h q)
theorem pl_fold_if {p : Nat → Bool} : ∀ (l : List Nat) (y : Int), l.foldl (fun a x => if p x = true then pl_ob a x else a) y = (l.filter p).foldl pl_ob y
  | [], y => rfl
  | x :: l, y => by
    rw [List.foldl_cons, pl_fold_if l]
    by_cases q : p x = true
    · rw [if_pos q, List.filter_cons_of_pos q, List.foldl_cons]
    · rw [if_neg q, List.filter_cons_of_neg q]
section MSE
variable {C : Nat → am_C} {S : Nat → Int} {V : Nat → List Int} {nb ns : Nat} {L : pl_L} {Q : List (Nat × Nat)}
theorem MS.sc {V' : Nat → List Int} (ms : MS S V Q) (c : Sc V V') : MS S V' Q := by
  obtain ⟨h0, h1, h2, h3, h4, h5⟩ := ms
  have e1 : V' 109 = V 109 := c.at (by decide) (by decide)
  have e2 : V' 110 = V 110 := c.at (by decide) (by decide)
  exact ⟨h0, h1, by rw [e1]; exact h2, by rw [e2]; exact h3, by rw [e1, e2]; exact h4, h5⟩
theorem X10_see_no {s t : Int} (mp : MP S V nb ns) (hs : am_w s = s) (h : ¬ (0 ≤ s ∧ s < ns)) (E : List (List Int)) (K : Option am_V → am_H → Prop) : Wp E 162 0 [some (am_r (some 96)), some (am_i s), some (am_i t)] [] (mk C S V) K = K (some (am_i (-1))) (mk C S V) := by
  have q1 : ¬ (0 ≤ am_w s ∧ am_w s < (ns : Int)) := by rw [hs]; exact h
  simp (disch := first | omega | (simp (disch := omega) only [up_eq, up_ne, si_len, List.length_set]; omega)) only [↓e162_0, ↓e162_1, ↓e162_2, ↓e162_5, ↓e162_8, ↓e162_9, ↓am_ilp, ↓am_iln, ↓am_iep, ↓am_ien, ↓am_zlp, ↓am_zln, ↓am_zep, ↓am_zen, ↓am_zgp, ↓am_zgn, ↓am_zhp, ↓am_zhn, ↓am_b01, true_or, true_and, and_true, or_true, if_true, if_false, ↓am_bdl_z, ↓am_bdl_s, ↓am_bsl_z, ↓am_bsl_s, ↓am_k1_i, ↓am_k1_r, ↓am_k1_e, ↓am_k1_n, ↓am_bd_s, am_k1_t, eq_self, am_nl_i, am_nl_r, am_nl_e, am_nl_n, Option.toList_some, Option.toList_none, Option.map_some, Option.map_none, List.cons_append, List.nil_append, List.length_cons, List.length_nil, List.set_cons_zero, List.set_cons_succ, List.getElem?_cons_zero, List.getElem?_cons_succ, am_bd_s, ↓am_tls, ↓am_tln, ↓mk_oc, ↓ma_r, ↓ma_w, ↓mz_r, ↓mz_w, ↓mr0, ↓mr1, ↓mr2, ↓mr3, ↓mr4, ↓mr5, ↓mr6, ↓mr7, ↓mr8, ↓mr9, ↓mr10, ↓mr11, ↓mr12, ↓mr13, ↓mr14, ↓mr15, ↓mr16, ↓mr17, ↓mr18, ↓mr19, ↓mr20, ↓mr21, ↓mr22, ↓mr23, ↓mr24, ↓mr25, ↓mr26, ↓mr27, ↓mw0, ↓mw1, ↓mw11, ↓mw12, ↓mw13, ↓mw15, ↓mw16, ↓mw17, ↓mw19, ↓mw20, ↓mw22, ↓mw25, up_eq, up_ne, up_up, si_len, ↓X10_isSleeper_w mp, ↓am_ifb, ↓if_neg q1]
theorem X10_see_out {s t : Int} (mp : MP S V nb ns) (hs : am_w s = s) (h : 0 ≤ s ∧ s < ns) (ht : am_w t = t) (h2 : ¬ (0 ≤ t ∧ t ≤ 10)) (E : List (List Int)) (K : Option am_V → am_H → Prop) : Wp E 162 0 [some (am_r (some 96)), some (am_i s), some (am_i t)] [] (mk C S V) K = K (some (am_i (-2))) (mk C S V) := by
  have q1 : 0 ≤ am_w s ∧ am_w s < (ns : Int) := by rw [hs]; exact h
  simp (disch := first | omega | (simp (disch := omega) only [up_eq, up_ne, si_len, List.length_set]; omega)) only [↓e162_0, ↓e162_1, ↓e162_2, ↓e162_5, ↓e162_8, ↓e162_9, ↓e162_10, ↓e162_11, ↓e162_14, ↓e162_17, ↓e162_19, ↓am_ilp, ↓am_iln, ↓am_iep, ↓am_ien, ↓am_zlp, ↓am_zln, ↓am_zep, ↓am_zen, ↓am_zgp, ↓am_zgn, ↓am_zhp, ↓am_zhn, ↓am_b01, true_or, true_and, and_true, or_true, if_true, if_false, ↓am_bdl_z, ↓am_bdl_s, ↓am_bsl_z, ↓am_bsl_s, ↓am_k1_i, ↓am_k1_r, ↓am_k1_e, ↓am_k1_n, ↓am_bd_s, am_k1_t, eq_self, am_nl_i, am_nl_r, am_nl_e, am_nl_n, Option.toList_some, Option.toList_none, Option.map_some, Option.map_none, List.cons_append, List.nil_append, List.length_cons, List.length_nil, List.set_cons_zero, List.set_cons_succ, List.getElem?_cons_zero, List.getElem?_cons_succ, am_bd_s, ↓am_tls, ↓am_tln, ↓mk_oc, ↓ma_r, ↓ma_w, ↓mz_r, ↓mz_w, ↓mr0, ↓mr1, ↓mr2, ↓mr3, ↓mr4, ↓mr5, ↓mr6, ↓mr7, ↓mr8, ↓mr9, ↓mr10, ↓mr11, ↓mr12, ↓mr13, ↓mr14, ↓mr15, ↓mr16, ↓mr17, ↓mr18, ↓mr19, ↓mr20, ↓mr21, ↓mr22, ↓mr23, ↓mr24, ↓mr25, ↓mr26, ↓mr27, ↓mw0, ↓mw1, ↓mw11, ↓mw12, ↓mw13, ↓mw15, ↓mw16, ↓mw17, ↓mw19, ↓mw20, ↓mw22, ↓mw25, up_eq, up_ne, up_up, si_len, ↓X10_isSleeper_w mp, ↓X10_isTime_w ht, ↓am_ifb, ↓if_pos q1, ↓if_neg h2]
theorem X10_see_full {s t : Int} (mp : MP S V nb ns) (ms : MS S V Q) (h6 : Q.length = 6) (hs : am_w s = s) (h : 0 ≤ s ∧ s < ns) (ht : am_w t = t) (h2 : 0 ≤ t ∧ t ≤ 10) (E : List (List Int)) (K : Option am_V → am_H → Prop) : Wp E 162 0 [some (am_r (some 96)), some (am_i s), some (am_i t)] [] (mk C S V) K = K (some (am_i (-4))) (mk C S V) := by
  have q1 : 0 ≤ am_w s ∧ am_w s < (ns : Int) := by rw [hs]; exact h
  have h22 := ms.1
  simp (disch := first | omega | (simp (disch := omega) only [up_eq, up_ne, si_len, List.length_set]; omega)) only [↓e162_0, ↓e162_1, ↓e162_2, ↓e162_5, ↓e162_8, ↓e162_9, ↓e162_10, ↓e162_11, ↓e162_14, ↓e162_17, ↓e162_19, ↓e162_20, ↓e162_21, ↓e162_24, ↓e162_26, ↓e162_29, ↓e162_31, ↓am_ilp, ↓am_iln, ↓am_iep, ↓am_ien, ↓am_zlp, ↓am_zln, ↓am_zep, ↓am_zen, ↓am_zgp, ↓am_zgn, ↓am_zhp, ↓am_zhn, ↓am_b01, true_or, true_and, and_true, or_true, if_true, if_false, ↓am_bdl_z, ↓am_bdl_s, ↓am_bsl_z, ↓am_bsl_s, ↓am_k1_i, ↓am_k1_r, ↓am_k1_e, ↓am_k1_n, ↓am_bd_s, am_k1_t, eq_self, am_nl_i, am_nl_r, am_nl_e, am_nl_n, Option.toList_some, Option.toList_none, Option.map_some, Option.map_none, List.cons_append, List.nil_append, List.length_cons, List.length_nil, List.set_cons_zero, List.set_cons_succ, List.getElem?_cons_zero, List.getElem?_cons_succ, am_bd_s, ↓am_tls, ↓am_tln, ↓mk_oc, ↓ma_r, ↓ma_w, ↓mz_r, ↓mz_w, ↓mr0, ↓mr1, ↓mr2, ↓mr3, ↓mr4, ↓mr5, ↓mr6, ↓mr7, ↓mr8, ↓mr9, ↓mr10, ↓mr11, ↓mr12, ↓mr13, ↓mr14, ↓mr15, ↓mr16, ↓mr17, ↓mr18, ↓mr19, ↓mr20, ↓mr21, ↓mr22, ↓mr23, ↓mr24, ↓mr25, ↓mr26, ↓mr27, ↓mw0, ↓mw1, ↓mw11, ↓mw12, ↓mw13, ↓mw15, ↓mw16, ↓mw17, ↓mw19, ↓mw20, ↓mw22, ↓mw25, up_eq, up_ne, up_up, si_len, ↓X10_isSleeper_w mp, ↓X10_isTime_w ht, ↓am_ifb, ↓if_pos q1, ↓if_pos h2]
theorem X10_see_w {s t : Int} (mp : MP S V nb ns) (ms : MS S V Q) (h6 : Q.length < 6) (hs : am_w s = s) (h : 0 ≤ s ∧ s < ns) (ht : am_w t = t) (h2 : 0 ≤ t ∧ t ≤ 10) : ∃ A B, MS (up S 22 ((Q.length : Int) + 1)) (up (up V 109 A) 110 B) (Q ++ [(s.toNat, t.toNat)]) ∧ ∀ E K, Wp E 162 0 [some (am_r (some 96)), some (am_i s), some (am_i t)] [] (mk C S V) K = K (some (am_i ((Q.length : Int) + 1))) (mk C (up S 22 ((Q.length : Int) + 1)) (up (up V 109 A) 110 B)) := by
  have q1 : 0 ≤ am_w s ∧ am_w s < (ns : Int) := by rw [hs]; exact h
  have hns := mp.2.2.2.1
  obtain ⟨h22, h0, l1, l2, h4, h5⟩ := ms
  refine ⟨si (V 109) (Q.length : Int) s, si (V 110) (Q.length : Int) t, ⟨?_, ?_, ?_, ?_, fun i hi => ?_, fun x hx => ?_⟩, fun E K => ?_⟩
  · rw [up_eq, List.length_append, List.length_singleton]; rfl
  · rw [List.length_append, List.length_singleton]; omega
  · rw [up_ne (by decide), up_eq, si_len]; exact l1
  · rw [up_eq, si_len]; exact l2
  · rw [List.length_append, List.length_singleton] at hi
    rw [up_ne (show (109 : Nat) ≠ 110 by decide), up_eq, up_eq]
    by_cases q : i = Q.length
    · subst q
      rw [gi_eq (by omega), gi_eq (by omega), List.getD_eq_getElem?_getD, List.getElem?_append_right (by omega), Nat.sub_self]
      simp
      omega
    · rw [gi_ne (by omega), gi_ne (by omega), List.getD_eq_getElem?_getD, List.getElem?_append_left (by omega), ← List.getD_eq_getElem?_getD]
      exact h4 i (by omega)
  · rcases List.mem_append.mp hx with z | z
    · exact h5 x z
    · rw [List.mem_singleton.mp z]; dsimp only; omega
  · simp (disch := first | omega | (simp (disch := omega) only [up_eq, up_ne, si_len, List.length_set]; omega)) only [↓e162_0, ↓e162_1, ↓e162_2, ↓e162_5, ↓e162_8, ↓e162_9, ↓e162_10, ↓e162_11, ↓e162_14, ↓e162_17, ↓e162_19, ↓e162_20, ↓e162_21, ↓e162_24, ↓e162_26, ↓e162_29, ↓e162_31, ↓e162_32, ↓e162_33, ↓e162_36, ↓e162_37, ↓e162_40, ↓e162_41, ↓e162_42, ↓e162_43, ↓e162_46, ↓e162_47, ↓e162_50, ↓e162_51, ↓e162_52, ↓e162_53, ↓e162_54, ↓e162_57, ↓e162_58, ↓e162_59, ↓e162_62, ↓e162_63, ↓e162_66, ↓am_ilp, ↓am_iln, ↓am_iep, ↓am_ien, ↓am_zlp, ↓am_zln, ↓am_zep, ↓am_zen, ↓am_zgp, ↓am_zgn, ↓am_zhp, ↓am_zhn, ↓am_b01, true_or, true_and, and_true, or_true, if_true, if_false, ↓am_bdl_z, ↓am_bdl_s, ↓am_bsl_z, ↓am_bsl_s, ↓am_k1_i, ↓am_k1_r, ↓am_k1_e, ↓am_k1_n, ↓am_bd_s, am_k1_t, eq_self, am_nl_i, am_nl_r, am_nl_e, am_nl_n, Option.toList_some, Option.toList_none, Option.map_some, Option.map_none, List.cons_append, List.nil_append, List.length_cons, List.length_nil, List.set_cons_zero, List.set_cons_succ, List.getElem?_cons_zero, List.getElem?_cons_succ, am_bd_s, ↓am_tls, ↓am_tln, ↓mk_oc, ↓ma_r, ↓ma_w, ↓mz_r, ↓mz_w, ↓mr0, ↓mr1, ↓mr2, ↓mr3, ↓mr4, ↓mr5, ↓mr6, ↓mr7, ↓mr8, ↓mr9, ↓mr10, ↓mr11, ↓mr12, ↓mr13, ↓mr14, ↓mr15, ↓mr16, ↓mr17, ↓mr18, ↓mr19, ↓mr20, ↓mr21, ↓mr22, ↓mr23, ↓mr24, ↓mr25, ↓mr26, ↓mr27, ↓mw0, ↓mw1, ↓mw11, ↓mw12, ↓mw13, ↓mw15, ↓mw16, ↓mw17, ↓mw19, ↓mw20, ↓mw22, ↓mw25, up_eq, up_ne, up_up, si_len, ↓X10_isSleeper_w mp, ↓X10_isTime_w ht, ↓am_ifb, ↓if_pos q1, ↓if_pos h2, h22]
theorem X10_unsee_w (ms : MS S V Q) (E : List (List Int)) (K : Option am_V → am_H → Prop) : Wp E 163 0 [some (am_r (some 96)), none] [] (mk C S V) K = K (some (am_i (Q.length : Int))) (mk C (up S 22 0) V) := by
  have h22 := ms.1
  simp (disch := first | omega | (simp (disch := omega) only [up_eq, up_ne, si_len, List.length_set]; omega)) only [↓e163_0, ↓e163_1, ↓e163_4, ↓e163_5, ↓e163_6, ↓e163_7, ↓e163_10, ↓e163_11, ↓am_ilp, ↓am_iln, ↓am_iep, ↓am_ien, ↓am_zlp, ↓am_zln, ↓am_zep, ↓am_zen, ↓am_zgp, ↓am_zgn, ↓am_zhp, ↓am_zhn, ↓am_b01, true_or, true_and, and_true, or_true, if_true, if_false, ↓am_bdl_z, ↓am_bdl_s, ↓am_bsl_z, ↓am_bsl_s, ↓am_k1_i, ↓am_k1_r, ↓am_k1_e, ↓am_k1_n, ↓am_bd_s, am_k1_t, eq_self, am_nl_i, am_nl_r, am_nl_e, am_nl_n, Option.toList_some, Option.toList_none, Option.map_some, Option.map_none, List.cons_append, List.nil_append, List.length_cons, List.length_nil, List.set_cons_zero, List.set_cons_succ, List.getElem?_cons_zero, List.getElem?_cons_succ, am_bd_s, ↓am_tls, ↓am_tln, ↓mk_oc, ↓ma_r, ↓ma_w, ↓mz_r, ↓mz_w, ↓mr0, ↓mr1, ↓mr2, ↓mr3, ↓mr4, ↓mr5, ↓mr6, ↓mr7, ↓mr8, ↓mr9, ↓mr10, ↓mr11, ↓mr12, ↓mr13, ↓mr14, ↓mr15, ↓mr16, ↓mr17, ↓mr18, ↓mr19, ↓mr20, ↓mr21, ↓mr22, ↓mr23, ↓mr24, ↓mr25, ↓mr26, ↓mr27, ↓mw0, ↓mw1, ↓mw11, ↓mw12, ↓mw13, ↓mw15, ↓mw16, ↓mw17, ↓mw19, ↓mw20, ↓mw22, ↓mw25, up_eq, up_ne, up_up, si_len, h22]
theorem MS.un (ms : MS S V Q) : MS (up S 22 0) V [] := by
  obtain ⟨h22, h0, l1, l2, h4, h5⟩ := ms
  exact ⟨by rw [up_eq]; rfl, by simp, l1, l2, fun i hi => absurd hi (by simp), fun x hx => by cases hx⟩
theorem pl_so_snoc {fr la ce ki wi A : List Int} {B : List Nat} {P : List (Nat × Nat)} {x : Nat × Nat} : pl_so ns fr la ce ki wi B A (P ++ [x]) = (pl_so ns fr la ce ki wi B A P && decide (x.1 < ns → pl_wk fr la ce ki B (A.getD x.1 0).toNat (wi.getD x.1 0).toNat = (x.2 : Int))) := by
  unfold pl_so
  rw [List.all_append, List.all_cons, List.all_nil, Bool.and_true]
theorem X10_isSeen_w {g : Int} (mp : MP S V nb ns) (ly : Ly (V 102) 0 L) (wf : WfL nb ns (V 101) L) (ms : MS S V Q) (hg : 0 ≤ g ∧ g < 64) : ∃ V', Sc V V' ∧ ∀ E K, Wp E 164 0 [some (am_r (some 96)), some (am_i g), none, none] [] (mk C S V) K = K (some (am_i (pl_b (pl_so ns (V 97) (V 98) (V 99) (V 100) (V 101) (L.1.filter fun b => !g.toNat.testBit b) L.2.1 Q = true)))) (mk C S V') := by
  obtain ⟨V1, c1, l1, w1⟩ := X10_layWithout_w (C := C) mp ly wf hg
  obtain ⟨s0, s1, hnb, hns, l97, l98, l99, l100, l101, l102, l107, pv, wv⟩ := id mp
  have wfB : ∀ x ∈ L.1.filter (fun b => !g.toNat.testBit b), x < nb := fun x hx => wf.1 x (List.mem_filter.mp hx).1
  obtain ⟨⟨is, V2⟩, ⟨e2, c2, l2⟩, w2⟩ := am_loopz (X := List (List Int) × (Option am_V → am_H → Prop)) (α := Int × (Nat → List Int)) (W := fun x i a => Wp x.1 164 9 [some (am_r (some 96)), some (am_i g), some (am_i a.1), some (am_i i)] [] (mk C S a.2) x.2) (I := fun i a => a.1 = pl_b (pl_so ns (V 97) (V 98) (V 99) (V 100) (V 101) (L.1.filter fun b => !g.toNat.testBit b) L.2.1 (Q.take i.toNat) = true) ∧ Sc V a.2 ∧ Ly (a.2 102) 14 (L.1.filter (fun b => !g.toNat.testBit b), L.2)) (lo := 0) (N := (Q.length : Int)) (by
    rintro i ⟨is, V2⟩ h0 h1 ⟨e2, c2, l2⟩
    dsimp only at e2 c2 l2
    obtain ⟨n, rfl⟩ : ∃ n : Nat, i = (n : Int) := ⟨i.toNat, by omega⟩
    obtain ⟨h22, h6, k1, k2, h4, h5⟩ := ms.sc c2
    have hn : n < Q.length := by omega
    obtain ⟨x, hx⟩ : ∃ x, Q[n]? = some x := ⟨_, List.getElem?_eq_getElem hn⟩
    have hx0 : Q.getD n (0, 0) = x := by rw [List.getD_eq_getElem?_getD, hx]; rfl
    obtain ⟨g1, g2⟩ := h4 n hn
    rw [hx0] at g1 g2
    have hx5 := h5 x (List.mem_of_getElem? hx)
    have et : Q.take ((n : Int) + 1).toNat = Q.take n ++ [x] := by rw [show ((n : Int) + 1).toNat = n + 1 by omega, List.take_add_one, hx]; rfl
    rw [Int.toNat_natCast] at e2
    have m2 := c2.mp mp
    have ew : am_w (gi (V2 109) (n : Int)) = (x.1 : Int) := by rw [g1]; exact am_w_nat (by omega)
    by_cases q0 : pl_so ns (V 97) (V 98) (V 99) (V 100) (V 101) (L.1.filter fun b => !g.toNat.testBit b) L.2.1 (Q.take n) = true
    · rw [pl_b, if_pos q0] at e2
      by_cases q1 : 0 ≤ am_w (gi (V2 109) (n : Int)) ∧ am_w (gi (V2 109) (n : Int)) < (ns : Int)
      · have k101 : V2 101 = V 101 := c2.at (by decide) (by decide)
        have wf2 : WfL nb ns (V2 101) (L.1.filter (fun b => !g.toNat.testBit b), L.2) := by rw [k101]; exact ⟨wfB, wf.2.1.filter _, wf.2.2⟩
        obtain ⟨V3, c3, y3, w3⟩ := X10_wakes_s (C := C) (lv := 1) (s := gi (V2 109) (n : Int)) m2 l2 (by omega) wf2 (by omega)
        rw [c2.at (i := 97) (by decide) (by decide), c2.at (i := 98) (by decide) (by decide), c2.at (i := 99) (by decide) (by decide), c2.at (i := 100) (by decide) (by decide), k101] at w3
        have hr := pl_wk_rng (V := V) pv wfB (L.2.1.getD (gi (V2 109) (n : Int)).toNat 0).toNat ((V 101).getD (gi (V2 109) (n : Int)).toNat 0).toNat
        have g3 : gi (V3 110) (n : Int) = (x.2 : Int) := by rw [c3.at (by decide) (by decide)]; exact g2
        have k3 : (V3 110).length = 6 := by rw [c3.at (by decide) (by decide)]; exact k2
        have en : (gi (V2 109) (n : Int)).toNat = x.1 := by omega
        by_cases q2 : pl_wk (V 97) (V 98) (V 99) (V 100) (L.1.filter fun b => !g.toNat.testBit b) (L.2.1.getD (gi (V2 109) (n : Int)).toNat 0).toNat ((V 101).getD (gi (V2 109) (n : Int)).toNat 0).toNat = gi (V3 110) (n : Int)
        · refine ⟨(1, V3), ⟨?_, c2.trans c3, by dsimp only; rw [y3]; exact l2⟩, fun x => ?_⟩
          · dsimp only
            rw [et, pl_so_snoc, pl_b, if_pos (by rw [q0, Bool.true_and]; apply decide_eq_true; intro _; rw [← en, ← g3]; exact q2)]
          · dsimp only
            rw [e164_9]
            simp (disch := first | omega | (simp (disch := omega) only [up_eq, up_ne, si_len, List.length_set]; omega)) only [↓e164_10, ↓e164_11, ↓e164_14, ↓e164_17, ↓e164_18, ↓e164_21, ↓e164_22, ↓e164_23, ↓e164_26, ↓e164_27, ↓e164_28, ↓e164_31, ↓e164_34, ↓e164_35, ↓e164_36, ↓e164_37, ↓e164_40, ↓e164_41, ↓e164_42, ↓e164_45, ↓e164_46, ↓e164_49, ↓e164_50, ↓e164_51, ↓e164_54, ↓e164_55, ↓e164_58, ↓e164_59, ↓e164_60, ↓e164_63, ↓am_ilp, ↓am_iln, ↓am_iep, ↓am_ien, ↓am_zlp, ↓am_zln, ↓am_zep, ↓am_zen, ↓am_zgp, ↓am_zgn, ↓am_zhp, ↓am_zhn, ↓am_b01, true_or, true_and, and_true, or_true, if_true, if_false, ↓am_bdl_z, ↓am_bdl_s, ↓am_bsl_z, ↓am_bsl_s, ↓am_k1_i, ↓am_k1_r, ↓am_k1_e, ↓am_k1_n, ↓am_bd_s, am_k1_t, eq_self, am_nl_i, am_nl_r, am_nl_e, am_nl_n, Option.toList_some, Option.toList_none, Option.map_some, Option.map_none, List.cons_append, List.nil_append, List.length_cons, List.length_nil, List.set_cons_zero, List.set_cons_succ, List.getElem?_cons_zero, List.getElem?_cons_succ, am_bd_s, ↓am_tls, ↓am_tln, ↓mk_oc, ↓ma_r, ↓ma_w, ↓mz_r, ↓mz_w, ↓mr0, ↓mr1, ↓mr2, ↓mr3, ↓mr4, ↓mr5, ↓mr6, ↓mr7, ↓mr8, ↓mr9, ↓mr10, ↓mr11, ↓mr12, ↓mr13, ↓mr14, ↓mr15, ↓mr16, ↓mr17, ↓mr18, ↓mr19, ↓mr20, ↓mr21, ↓mr22, ↓mr23, ↓mr24, ↓mr25, ↓mr26, ↓mr27, ↓mw0, ↓mw1, ↓mw11, ↓mw12, ↓mw13, ↓mw15, ↓mw16, ↓mw17, ↓mw19, ↓mw20, ↓mw22, ↓mw25, up_eq, up_ne, up_up, si_len, ↓X10_isSleeper_w m2, ↓am_ifb, ↓if_pos q1, ↓w3]
        · refine ⟨(0, V3), ⟨?_, c2.trans c3, by dsimp only; rw [y3]; exact l2⟩, fun x => ?_⟩
          · dsimp only
            rw [et, pl_so_snoc, pl_b, if_neg (by rw [q0, Bool.true_and]; intro z; apply q2; rw [en, g3]; exact of_decide_eq_true z (by omega))]
          · dsimp only
            rw [e164_9]
            simp (disch := first | omega | (simp (disch := omega) only [up_eq, up_ne, si_len, List.length_set]; omega)) only [↓e164_10, ↓e164_11, ↓e164_14, ↓e164_17, ↓e164_18, ↓e164_21, ↓e164_22, ↓e164_23, ↓e164_26, ↓e164_27, ↓e164_28, ↓e164_31, ↓e164_34, ↓e164_35, ↓e164_36, ↓e164_37, ↓e164_40, ↓e164_41, ↓e164_42, ↓e164_45, ↓e164_46, ↓e164_49, ↓e164_50, ↓e164_51, ↓e164_54, ↓e164_55, ↓e164_58, ↓e164_59, ↓e164_60, ↓e164_63, ↓am_ilp, ↓am_iln, ↓am_iep, ↓am_ien, ↓am_zlp, ↓am_zln, ↓am_zep, ↓am_zen, ↓am_zgp, ↓am_zgn, ↓am_zhp, ↓am_zhn, ↓am_b01, true_or, true_and, and_true, or_true, if_true, if_false, ↓am_bdl_z, ↓am_bdl_s, ↓am_bsl_z, ↓am_bsl_s, ↓am_k1_i, ↓am_k1_r, ↓am_k1_e, ↓am_k1_n, ↓am_bd_s, am_k1_t, eq_self, am_nl_i, am_nl_r, am_nl_e, am_nl_n, Option.toList_some, Option.toList_none, Option.map_some, Option.map_none, List.cons_append, List.nil_append, List.length_cons, List.length_nil, List.set_cons_zero, List.set_cons_succ, List.getElem?_cons_zero, List.getElem?_cons_succ, am_bd_s, ↓am_tls, ↓am_tln, ↓mk_oc, ↓ma_r, ↓ma_w, ↓mz_r, ↓mz_w, ↓mr0, ↓mr1, ↓mr2, ↓mr3, ↓mr4, ↓mr5, ↓mr6, ↓mr7, ↓mr8, ↓mr9, ↓mr10, ↓mr11, ↓mr12, ↓mr13, ↓mr14, ↓mr15, ↓mr16, ↓mr17, ↓mr18, ↓mr19, ↓mr20, ↓mr21, ↓mr22, ↓mr23, ↓mr24, ↓mr25, ↓mr26, ↓mr27, ↓mw0, ↓mw1, ↓mw11, ↓mw12, ↓mw13, ↓mw15, ↓mw16, ↓mw17, ↓mw19, ↓mw20, ↓mw22, ↓mw25, up_eq, up_ne, up_up, si_len, ↓X10_isSleeper_w m2, ↓am_ifb, ↓if_pos q1, ↓w3]
      · refine ⟨(1, V2), ⟨?_, c2, l2⟩, fun x => ?_⟩
        · dsimp only
          rw [et, pl_so_snoc, pl_b, if_pos (by rw [q0, Bool.true_and]; apply decide_eq_true; intro z; exact absurd z (by omega))]
        · dsimp only
          rw [e164_9]
          simp (disch := first | omega | (simp (disch := omega) only [up_eq, up_ne, si_len, List.length_set]; omega)) only [↓e164_10, ↓e164_11, ↓e164_14, ↓e164_17, ↓e164_18, ↓e164_21, ↓e164_22, ↓e164_23, ↓e164_26, ↓e164_27, ↓e164_28, ↓e164_31, ↓e164_34, ↓e164_35, ↓e164_36, ↓e164_37, ↓e164_40, ↓e164_41, ↓e164_42, ↓e164_45, ↓e164_46, ↓e164_49, ↓e164_50, ↓e164_51, ↓e164_54, ↓e164_55, ↓e164_58, ↓e164_59, ↓e164_60, ↓e164_63, ↓am_ilp, ↓am_iln, ↓am_iep, ↓am_ien, ↓am_zlp, ↓am_zln, ↓am_zep, ↓am_zen, ↓am_zgp, ↓am_zgn, ↓am_zhp, ↓am_zhn, ↓am_b01, true_or, true_and, and_true, or_true, if_true, if_false, ↓am_bdl_z, ↓am_bdl_s, ↓am_bsl_z, ↓am_bsl_s, ↓am_k1_i, ↓am_k1_r, ↓am_k1_e, ↓am_k1_n, ↓am_bd_s, am_k1_t, eq_self, am_nl_i, am_nl_r, am_nl_e, am_nl_n, Option.toList_some, Option.toList_none, Option.map_some, Option.map_none, List.cons_append, List.nil_append, List.length_cons, List.length_nil, List.set_cons_zero, List.set_cons_succ, List.getElem?_cons_zero, List.getElem?_cons_succ, am_bd_s, ↓am_tls, ↓am_tln, ↓mk_oc, ↓ma_r, ↓ma_w, ↓mz_r, ↓mz_w, ↓mr0, ↓mr1, ↓mr2, ↓mr3, ↓mr4, ↓mr5, ↓mr6, ↓mr7, ↓mr8, ↓mr9, ↓mr10, ↓mr11, ↓mr12, ↓mr13, ↓mr14, ↓mr15, ↓mr16, ↓mr17, ↓mr18, ↓mr19, ↓mr20, ↓mr21, ↓mr22, ↓mr23, ↓mr24, ↓mr25, ↓mr26, ↓mr27, ↓mw0, ↓mw1, ↓mw11, ↓mw12, ↓mw13, ↓mw15, ↓mw16, ↓mw17, ↓mw19, ↓mw20, ↓mw22, ↓mw25, up_eq, up_ne, up_up, si_len, ↓X10_isSleeper_w m2, ↓am_ifb, ↓if_neg q1]
    · rw [pl_b, if_neg q0] at e2
      refine ⟨(0, V2), ⟨?_, c2, l2⟩, fun x => ?_⟩
      · dsimp only
        rw [et, pl_so_snoc, pl_b, if_neg (by rw [Bool.and_eq_true]; exact fun z => q0 z.1)]
      · dsimp only
        rw [e164_9]
        simp (disch := first | omega | (simp (disch := omega) only [up_eq, up_ne, si_len, List.length_set]; omega)) only [↓e164_10, ↓e164_11, ↓e164_14, ↓e164_17, ↓e164_18, ↓e164_21, ↓e164_22, ↓e164_23, ↓e164_26, ↓e164_27, ↓e164_28, ↓e164_31, ↓e164_34, ↓e164_35, ↓e164_36, ↓e164_37, ↓e164_40, ↓e164_41, ↓e164_42, ↓e164_45, ↓e164_46, ↓e164_49, ↓e164_50, ↓e164_51, ↓e164_54, ↓e164_55, ↓e164_58, ↓e164_59, ↓e164_60, ↓e164_63, ↓am_ilp, ↓am_iln, ↓am_iep, ↓am_ien, ↓am_zlp, ↓am_zln, ↓am_zep, ↓am_zen, ↓am_zgp, ↓am_zgn, ↓am_zhp, ↓am_zhn, ↓am_b01, true_or, true_and, and_true, or_true, if_true, if_false, ↓am_bdl_z, ↓am_bdl_s, ↓am_bsl_z, ↓am_bsl_s, ↓am_k1_i, ↓am_k1_r, ↓am_k1_e, ↓am_k1_n, ↓am_bd_s, am_k1_t, eq_self, am_nl_i, am_nl_r, am_nl_e, am_nl_n, Option.toList_some, Option.toList_none, Option.map_some, Option.map_none, List.cons_append, List.nil_append, List.length_cons, List.length_nil, List.set_cons_zero, List.set_cons_succ, List.getElem?_cons_zero, List.getElem?_cons_succ, am_bd_s, ↓am_tls, ↓am_tln, ↓mk_oc, ↓ma_r, ↓ma_w, ↓mz_r, ↓mz_w, ↓mr0, ↓mr1, ↓mr2, ↓mr3, ↓mr4, ↓mr5, ↓mr6, ↓mr7, ↓mr8, ↓mr9, ↓mr10, ↓mr11, ↓mr12, ↓mr13, ↓mr14, ↓mr15, ↓mr16, ↓mr17, ↓mr18, ↓mr19, ↓mr20, ↓mr21, ↓mr22, ↓mr23, ↓mr24, ↓mr25, ↓mr26, ↓mr27, ↓mw0, ↓mw1, ↓mw11, ↓mw12, ↓mw13, ↓mw15, ↓mw16, ↓mw17, ↓mw19, ↓mw20, ↓mw22, ↓mw25, up_eq, up_ne, up_up, si_len]) Q.length 0 (1, V1) (by omega) (by omega) ⟨by rw [pl_b, if_pos (by rfl)], c1, l1⟩
  dsimp only at e2 c2 l2 w2
  rw [Int.toNat_natCast, List.take_length] at e2
  refine ⟨V2, c2, fun E K => ?_⟩
  have w3 := w2 (E, K)
  dsimp only at w3
  have h22 := ms.1
  have h6 := ms.2.1
  rw [← e2]
  have b01 : is = 0 ∨ is = 1 := by rw [e2]; exact pl_b01 _
  simp (disch := first | omega | (simp (disch := omega) only [up_eq, up_ne, si_len, List.length_set]; omega)) only [↓e164_0, ↓e164_1, ↓e164_2, ↓e164_5, ↓e164_6, ↓e164_7, ↓e164_8, ↓am_ilp, ↓am_iln, ↓am_iep, ↓am_ien, ↓am_zlp, ↓am_zln, ↓am_zep, ↓am_zen, ↓am_zgp, ↓am_zgn, ↓am_zhp, ↓am_zhn, ↓am_b01, true_or, true_and, and_true, or_true, if_true, if_false, ↓am_bdl_z, ↓am_bdl_s, ↓am_bsl_z, ↓am_bsl_s, ↓am_k1_i, ↓am_k1_r, ↓am_k1_e, ↓am_k1_n, ↓am_bd_s, am_k1_t, eq_self, am_nl_i, am_nl_r, am_nl_e, am_nl_n, Option.toList_some, Option.toList_none, Option.map_some, Option.map_none, List.cons_append, List.nil_append, List.length_cons, List.length_nil, List.set_cons_zero, List.set_cons_succ, List.getElem?_cons_zero, List.getElem?_cons_succ, am_bd_s, ↓am_tls, ↓am_tln, ↓mk_oc, ↓ma_r, ↓ma_w, ↓mz_r, ↓mz_w, ↓mr0, ↓mr1, ↓mr2, ↓mr3, ↓mr4, ↓mr5, ↓mr6, ↓mr7, ↓mr8, ↓mr9, ↓mr10, ↓mr11, ↓mr12, ↓mr13, ↓mr14, ↓mr15, ↓mr16, ↓mr17, ↓mr18, ↓mr19, ↓mr20, ↓mr21, ↓mr22, ↓mr23, ↓mr24, ↓mr25, ↓mr26, ↓mr27, ↓mw0, ↓mw1, ↓mw11, ↓mw12, ↓mw13, ↓mw15, ↓mw16, ↓mw17, ↓mw19, ↓mw20, ↓mw22, ↓mw25, up_eq, up_ne, up_up, si_len, ↓w1]
  refine Eq.trans w3 ?_
  rw [e164_9]
  simp (disch := first | omega | (simp (disch := omega) only [up_eq, up_ne, si_len, List.length_set]; omega)) only [↓e164_10, ↓e164_11, ↓e164_14, ↓e164_66, ↓e164_67, ↓am_ilp, ↓am_iln, ↓am_iep, ↓am_ien, ↓am_zlp, ↓am_zln, ↓am_zep, ↓am_zen, ↓am_zgp, ↓am_zgn, ↓am_zhp, ↓am_zhn, ↓am_b01, true_or, true_and, and_true, or_true, if_true, if_false, ↓am_bdl_z, ↓am_bdl_s, ↓am_bsl_z, ↓am_bsl_s, ↓am_k1_i, ↓am_k1_r, ↓am_k1_e, ↓am_k1_n, ↓am_bd_s, am_k1_t, eq_self, am_nl_i, am_nl_r, am_nl_e, am_nl_n, Option.toList_some, Option.toList_none, Option.map_some, Option.map_none, List.cons_append, List.nil_append, List.length_cons, List.length_nil, List.set_cons_zero, List.set_cons_succ, List.getElem?_cons_zero, List.getElem?_cons_succ, am_bd_s, ↓am_tls, ↓am_tln, ↓mk_oc, ↓ma_r, ↓ma_w, ↓mz_r, ↓mz_w, ↓mr0, ↓mr1, ↓mr2, ↓mr3, ↓mr4, ↓mr5, ↓mr6, ↓mr7, ↓mr8, ↓mr9, ↓mr10, ↓mr11, ↓mr12, ↓mr13, ↓mr14, ↓mr15, ↓mr16, ↓mr17, ↓mr18, ↓mr19, ↓mr20, ↓mr21, ↓mr22, ↓mr23, ↓mr24, ↓mr25, ↓mr26, ↓mr27, ↓mw0, ↓mw1, ↓mw11, ↓mw12, ↓mw13, ↓mw15, ↓mw16, ↓mw17, ↓mw19, ↓mw20, ↓mw22, ↓mw25, up_eq, up_ne, up_up, si_len]
theorem X10_gone_w (mp : MP S V nb ns) (ly : Ly (V 102) 0 L) (wf : WfL nb ns (V 101) L) (ms : MS S V Q) : ∃ V', Sc V V' ∧ ∀ E K, Wp E 165 0 [some (am_r (some 96)), none, none] [] (mk C S V) K = K (some (am_i (L.1.foldl (pl_gs ns (V 97) (V 98) (V 99) (V 100) (V 101) L.1 L.2.1 Q) (if pl_so ns (V 97) (V 98) (V 99) (V 100) (V 101) L.1 L.2.1 Q = true then 64 else 0)))) (mk C S V') := by
  obtain ⟨s0, s1, hnb, hns, l97, l98, l99, l100, l101, l102, l107, pv, wv⟩ := id mp
  obtain ⟨V1, c1, w1⟩ := X10_isSeen_w (C := C) (g := 0) mp ly wf ms (by omega)
  rw [Int.toNat_zero, pl_f0] at w1
  obtain ⟨p, hp⟩ : ∃ p : Nat → Bool, p = fun x => pl_so ns (V 97) (V 98) (V 99) (V 100) (V 101) (L.1.filter fun b => !(2 ^ x : Nat).testBit b) L.2.1 Q := ⟨_, rfl⟩
  obtain ⟨y, hy⟩ : ∃ y : Nat, y = if pl_so ns (V 97) (V 98) (V 99) (V 100) (V 101) L.1 L.2.1 Q = true then 64 else 0 := ⟨_, rfl⟩
  have hy2 : (if pl_so ns (V 97) (V 98) (V 99) (V 100) (V 101) L.1 L.2.1 Q = true then (64 : Int) else 0) = (y : Int) := by rw [hy]; split <;> rfl
  have hy1 : y < 128 := by rw [hy]; split <;> omega
  have B6 : ∀ x ∈ L.1, x < 6 := fun x hx => by have := wf.1 x hx; omega
  obtain ⟨⟨z, V2⟩, ⟨e2, c2⟩, w2⟩ := am_loopz (X := List (List Int) × (Option am_V → am_H → Prop)) (α := Nat × (Nat → List Int)) (W := fun x i a => Wp x.1 165 17 [some (am_r (some 96)), some (am_i (a.1 : Int)), some (am_i i)] [] (mk C S a.2) x.2) (I := fun i a => a.1 = ((List.range i.toNat).filter (fun q => decide (q ∈ L.1) && p q)).foldl (fun a x => a ||| 2 ^ x) y ∧ Sc V a.2) (lo := 0) (N := (nb : Int)) (by
    rintro i ⟨z, V2⟩ h0 h1 ⟨e2, c2⟩
    dsimp only at e2 c2
    obtain ⟨n, rfl⟩ : ∃ n : Nat, i = (n : Int) := ⟨i.toNat, by omega⟩
    rw [Int.toNat_natCast] at e2
    have hn : n < 6 := by omega
    have hz : z < 128 := by
      rw [e2]
      exact (pl_ob_l _ y hy1 (fun x hx => by have := List.mem_range.mp (List.mem_filter.mp hx).1; omega)).2
    have m2 := c2.mp mp
    have y2 := c2.ly ly
    have k101 : V2 101 = V 101 := c2.at (by decide) (by decide)
    have wf2 : WfL nb ns (V2 101) L := by rw [k101]; exact wf
    have lw := fun E K => X10_lying_w (E := E) (K := K) (C := C) m2 y2 wf.1
    have hm := pl_mask_64 B6
    have hb := pl_mask_bit B6 hn
    have er : (List.range ((n : Int) + 1).toNat).filter (fun q => decide (q ∈ L.1) && p q) = (List.range n).filter (fun q => decide (q ∈ L.1) && p q) ++ (if (decide (n ∈ L.1) && p n) = true then [n] else []) := by
      rw [show ((n : Int) + 1).toNat = n + 1 by omega, List.range_succ, List.filter_append]
      congr 1
      by_cases q : (decide (n ∈ L.1) && p n) = true
      · rw [if_pos q, List.filter_cons_of_pos (p := fun q => decide (q ∈ L.1) && p q) q, List.filter_nil]
      · rw [if_neg q, List.filter_cons_of_neg (p := fun q => decide (q ∈ L.1) && p q) q, List.filter_nil]
    obtain ⟨o1, o2⟩ := pl_or7 z hz n hn
    unfold pl_ob at o1
    have o3 := pl_or0 z hz
    by_cases q1 : (pl_mask L.1 : Int).toNat.testBit (n : Int).toNat = true
    · have q1' : n ∈ L.1 := by rw [Int.toNat_natCast, Int.toNat_natCast, hb] at q1; exact of_decide_eq_true q1
      have sh := pl_sh1 n hn
      have p2 := pl_p2 n hn
      obtain ⟨V3, c3, w3⟩ := X10_isSeen_w (C := C) (g := am_shl 1 (n : Int)) m2 y2 wf2 (ms.sc c2) (by rw [sh]; exact ⟨Int.natCast_nonneg _, Int.ofNat_lt.mpr p2⟩)
      rw [c2.at (i := 97) (by decide) (by decide), c2.at (i := 98) (by decide) (by decide), c2.at (i := 99) (by decide) (by decide), c2.at (i := 100) (by decide) (by decide), k101] at w3
      have w4 : ∀ E K, Wp E 164 0 [some (am_r (some 96)), some (am_i (am_shl 1 (n : Int))), none, none] [] (mk C S V2) K = K (some (am_i (pl_b (p n = true)))) (mk C S V3) := by
        intro E K
        have e9 : (am_shl 1 (n : Int)).toNat = 2 ^ n := by rw [sh, Int.toNat_natCast]
        rw [w3, e9, hp]
      by_cases q2 : p n = true
      · refine ⟨(z ||| 2 ^ n, V3), ⟨?_, c2.trans c3⟩, fun x => ?_⟩
        · dsimp only
          rw [er, if_pos (by simp [q1', q2]), List.foldl_append, ← e2]
          rfl
        · dsimp only
          rw [e165_17]
          simp (disch := first | omega | (simp (disch := omega) only [up_eq, up_ne, si_len, List.length_set]; omega)) only [↓e165_18, ↓e165_19, ↓e165_22, ↓e165_25, ↓e165_26, ↓e165_27, ↓e165_30, ↓e165_31, ↓e165_34, ↓e165_37, ↓e165_38, ↓e165_39, ↓e165_40, ↓e165_41, ↓e165_44, ↓e165_47, ↓e165_48, ↓e165_49, ↓e165_50, ↓e165_53, ↓e165_54, ↓e165_55, ↓e165_56, ↓e165_59, ↓am_ilp, ↓am_iln, ↓am_iep, ↓am_ien, ↓am_zlp, ↓am_zln, ↓am_zep, ↓am_zen, ↓am_zgp, ↓am_zgn, ↓am_zhp, ↓am_zhn, ↓am_b01, true_or, true_and, and_true, or_true, if_true, if_false, ↓am_bdl_z, ↓am_bdl_s, ↓am_bsl_z, ↓am_bsl_s, ↓am_k1_i, ↓am_k1_r, ↓am_k1_e, ↓am_k1_n, ↓am_bd_s, am_k1_t, eq_self, am_nl_i, am_nl_r, am_nl_e, am_nl_n, Option.toList_some, Option.toList_none, Option.map_some, Option.map_none, List.cons_append, List.nil_append, List.length_cons, List.length_nil, List.set_cons_zero, List.set_cons_succ, List.getElem?_cons_zero, List.getElem?_cons_succ, am_bd_s, ↓am_tls, ↓am_tln, ↓mk_oc, ↓ma_r, ↓ma_w, ↓mz_r, ↓mz_w, ↓mr0, ↓mr1, ↓mr2, ↓mr3, ↓mr4, ↓mr5, ↓mr6, ↓mr7, ↓mr8, ↓mr9, ↓mr10, ↓mr11, ↓mr12, ↓mr13, ↓mr14, ↓mr15, ↓mr16, ↓mr17, ↓mr18, ↓mr19, ↓mr20, ↓mr21, ↓mr22, ↓mr23, ↓mr24, ↓mr25, ↓mr26, ↓mr27, ↓mw0, ↓mw1, ↓mw11, ↓mw12, ↓mw13, ↓mw15, ↓mw16, ↓mw17, ↓mw19, ↓mw20, ↓mw22, ↓mw25, up_eq, up_ne, up_up, si_len, ↓lw, ↓X10_has_w, ↓am_ifb, ↓if_pos q1, ↓w4, ↓if_pos q2, o1]
      · refine ⟨(z, V3), ⟨?_, c2.trans c3⟩, fun x => ?_⟩
        · dsimp only
          rw [er, if_neg (by simp [q2]), List.append_nil, ← e2]
        · dsimp only
          rw [e165_17]
          simp (disch := first | omega | (simp (disch := omega) only [up_eq, up_ne, si_len, List.length_set]; omega)) only [↓e165_18, ↓e165_19, ↓e165_22, ↓e165_25, ↓e165_26, ↓e165_27, ↓e165_30, ↓e165_31, ↓e165_34, ↓e165_37, ↓e165_38, ↓e165_39, ↓e165_40, ↓e165_41, ↓e165_44, ↓e165_47, ↓e165_48, ↓e165_49, ↓e165_50, ↓e165_53, ↓e165_54, ↓e165_55, ↓e165_56, ↓e165_59, ↓am_ilp, ↓am_iln, ↓am_iep, ↓am_ien, ↓am_zlp, ↓am_zln, ↓am_zep, ↓am_zen, ↓am_zgp, ↓am_zgn, ↓am_zhp, ↓am_zhn, ↓am_b01, true_or, true_and, and_true, or_true, if_true, if_false, ↓am_bdl_z, ↓am_bdl_s, ↓am_bsl_z, ↓am_bsl_s, ↓am_k1_i, ↓am_k1_r, ↓am_k1_e, ↓am_k1_n, ↓am_bd_s, am_k1_t, eq_self, am_nl_i, am_nl_r, am_nl_e, am_nl_n, Option.toList_some, Option.toList_none, Option.map_some, Option.map_none, List.cons_append, List.nil_append, List.length_cons, List.length_nil, List.set_cons_zero, List.set_cons_succ, List.getElem?_cons_zero, List.getElem?_cons_succ, am_bd_s, ↓am_tls, ↓am_tln, ↓mk_oc, ↓ma_r, ↓ma_w, ↓mz_r, ↓mz_w, ↓mr0, ↓mr1, ↓mr2, ↓mr3, ↓mr4, ↓mr5, ↓mr6, ↓mr7, ↓mr8, ↓mr9, ↓mr10, ↓mr11, ↓mr12, ↓mr13, ↓mr14, ↓mr15, ↓mr16, ↓mr17, ↓mr18, ↓mr19, ↓mr20, ↓mr21, ↓mr22, ↓mr23, ↓mr24, ↓mr25, ↓mr26, ↓mr27, ↓mw0, ↓mw1, ↓mw11, ↓mw12, ↓mw13, ↓mw15, ↓mw16, ↓mw17, ↓mw19, ↓mw20, ↓mw22, ↓mw25, up_eq, up_ne, up_up, si_len, ↓lw, ↓X10_has_w, ↓am_ifb, ↓if_pos q1, ↓w4, ↓if_neg q2, o3]
    · have q1' : ¬ n ∈ L.1 := by rw [Int.toNat_natCast, Int.toNat_natCast, hb] at q1; exact fun z => q1 (decide_eq_true z)
      refine ⟨(z, V2), ⟨?_, c2⟩, fun x => ?_⟩
      · dsimp only
        rw [er, if_neg (by simp [q1']), List.append_nil, ← e2]
      · dsimp only
        rw [e165_17]
        simp (disch := first | omega | (simp (disch := omega) only [up_eq, up_ne, si_len, List.length_set]; omega)) only [↓e165_18, ↓e165_19, ↓e165_22, ↓e165_25, ↓e165_26, ↓e165_27, ↓e165_30, ↓e165_31, ↓e165_34, ↓e165_37, ↓e165_38, ↓e165_39, ↓e165_40, ↓e165_41, ↓e165_44, ↓e165_47, ↓e165_48, ↓e165_49, ↓e165_50, ↓e165_53, ↓e165_54, ↓e165_55, ↓e165_56, ↓e165_59, ↓am_ilp, ↓am_iln, ↓am_iep, ↓am_ien, ↓am_zlp, ↓am_zln, ↓am_zep, ↓am_zen, ↓am_zgp, ↓am_zgn, ↓am_zhp, ↓am_zhn, ↓am_b01, true_or, true_and, and_true, or_true, if_true, if_false, ↓am_bdl_z, ↓am_bdl_s, ↓am_bsl_z, ↓am_bsl_s, ↓am_k1_i, ↓am_k1_r, ↓am_k1_e, ↓am_k1_n, ↓am_bd_s, am_k1_t, eq_self, am_nl_i, am_nl_r, am_nl_e, am_nl_n, Option.toList_some, Option.toList_none, Option.map_some, Option.map_none, List.cons_append, List.nil_append, List.length_cons, List.length_nil, List.set_cons_zero, List.set_cons_succ, List.getElem?_cons_zero, List.getElem?_cons_succ, am_bd_s, ↓am_tls, ↓am_tln, ↓mk_oc, ↓ma_r, ↓ma_w, ↓mz_r, ↓mz_w, ↓mr0, ↓mr1, ↓mr2, ↓mr3, ↓mr4, ↓mr5, ↓mr6, ↓mr7, ↓mr8, ↓mr9, ↓mr10, ↓mr11, ↓mr12, ↓mr13, ↓mr14, ↓mr15, ↓mr16, ↓mr17, ↓mr18, ↓mr19, ↓mr20, ↓mr21, ↓mr22, ↓mr23, ↓mr24, ↓mr25, ↓mr26, ↓mr27, ↓mw0, ↓mw1, ↓mw11, ↓mw12, ↓mw13, ↓mw15, ↓mw16, ↓mw17, ↓mw19, ↓mw20, ↓mw22, ↓mw25, up_eq, up_ne, up_up, si_len, ↓lw, ↓X10_has_w, ↓am_ifb, ↓if_neg q1, o3]) nb 0 (y, V1) (by omega) (by omega) ⟨rfl, c1⟩
  dsimp only at e2 c2 w2
  rw [Int.toNat_natCast] at e2
  have key : L.1.foldl (pl_gs ns (V 97) (V 98) (V 99) (V 100) (V 101) L.1 L.2.1 Q) (y : Int) = (z : Int) := by
    have e5 : pl_gs ns (V 97) (V 98) (V 99) (V 100) (V 101) L.1 L.2.1 Q = fun a x => if p x = true then pl_ob a x else a := by
      funext a x
      rw [hp]
      rfl
    rw [e5, pl_fold_if, e2, ← (pl_ob_l _ y hy1 (fun x hx => by have := List.mem_range.mp (List.mem_filter.mp hx).1; omega)).1]
    apply pl_ob_eq hy1
    · intro x hx; exact B6 x (List.mem_filter.mp hx).1
    · intro x hx; have := List.mem_range.mp (List.mem_filter.mp hx).1; omega
    · intro x
      simp only [List.mem_filter, List.mem_range, Bool.and_eq_true, decide_eq_true_eq]
      constructor
      · rintro ⟨a, b⟩; exact ⟨wf.1 x a, a, b⟩
      · rintro ⟨-, a, b⟩; exact ⟨a, b⟩
  refine ⟨V2, c2, fun E K => ?_⟩
  have w3 := w2 (E, K)
  dsimp only at w3
  rw [hy2, key]
  have fin : Wp E 165 17 [some (am_r (some 96)), some (am_i (y : Int)), some (am_i 0)] [] (mk C S V1) K = K (some (am_i (z : Int))) (mk C S V2) := by
    refine Eq.trans w3 ?_
    rw [e165_17]
    simp (disch := first | omega | (simp (disch := omega) only [up_eq, up_ne, si_len, List.length_set]; omega)) only [↓e165_18, ↓e165_19, ↓e165_22, ↓e165_62, ↓e165_63, ↓am_ilp, ↓am_iln, ↓am_iep, ↓am_ien, ↓am_zlp, ↓am_zln, ↓am_zep, ↓am_zen, ↓am_zgp, ↓am_zgn, ↓am_zhp, ↓am_zhn, ↓am_b01, true_or, true_and, and_true, or_true, if_true, if_false, ↓am_bdl_z, ↓am_bdl_s, ↓am_bsl_z, ↓am_bsl_s, ↓am_k1_i, ↓am_k1_r, ↓am_k1_e, ↓am_k1_n, ↓am_bd_s, am_k1_t, eq_self, am_nl_i, am_nl_r, am_nl_e, am_nl_n, Option.toList_some, Option.toList_none, Option.map_some, Option.map_none, List.cons_append, List.nil_append, List.length_cons, List.length_nil, List.set_cons_zero, List.set_cons_succ, List.getElem?_cons_zero, List.getElem?_cons_succ, am_bd_s, ↓am_tls, ↓am_tln, ↓mk_oc, ↓ma_r, ↓ma_w, ↓mz_r, ↓mz_w, ↓mr0, ↓mr1, ↓mr2, ↓mr3, ↓mr4, ↓mr5, ↓mr6, ↓mr7, ↓mr8, ↓mr9, ↓mr10, ↓mr11, ↓mr12, ↓mr13, ↓mr14, ↓mr15, ↓mr16, ↓mr17, ↓mr18, ↓mr19, ↓mr20, ↓mr21, ↓mr22, ↓mr23, ↓mr24, ↓mr25, ↓mr26, ↓mr27, ↓mw0, ↓mw1, ↓mw11, ↓mw12, ↓mw13, ↓mw15, ↓mw16, ↓mw17, ↓mw19, ↓mw20, ↓mw22, ↓mw25, up_eq, up_ne, up_up, si_len]
  rw [← hy2] at fin
  by_cases q : pl_so ns (V 97) (V 98) (V 99) (V 100) (V 101) L.1 L.2.1 Q = true
  · rw [if_pos q] at fin
    simp (disch := first | omega | (simp (disch := omega) only [up_eq, up_ne, si_len, List.length_set]; omega)) only [↓e165_0, ↓e165_1, ↓e165_2, ↓e165_5, ↓e165_8, ↓e165_10, ↓e165_13, ↓e165_14, ↓e165_15, ↓e165_16, ↓am_ilp, ↓am_iln, ↓am_iep, ↓am_ien, ↓am_zlp, ↓am_zln, ↓am_zep, ↓am_zen, ↓am_zgp, ↓am_zgn, ↓am_zhp, ↓am_zhn, ↓am_b01, true_or, true_and, and_true, or_true, if_true, if_false, ↓am_bdl_z, ↓am_bdl_s, ↓am_bsl_z, ↓am_bsl_s, ↓am_k1_i, ↓am_k1_r, ↓am_k1_e, ↓am_k1_n, ↓am_bd_s, am_k1_t, eq_self, am_nl_i, am_nl_r, am_nl_e, am_nl_n, Option.toList_some, Option.toList_none, Option.map_some, Option.map_none, List.cons_append, List.nil_append, List.length_cons, List.length_nil, List.set_cons_zero, List.set_cons_succ, List.getElem?_cons_zero, List.getElem?_cons_succ, am_bd_s, ↓am_tls, ↓am_tln, ↓mk_oc, ↓ma_r, ↓ma_w, ↓mz_r, ↓mz_w, ↓mr0, ↓mr1, ↓mr2, ↓mr3, ↓mr4, ↓mr5, ↓mr6, ↓mr7, ↓mr8, ↓mr9, ↓mr10, ↓mr11, ↓mr12, ↓mr13, ↓mr14, ↓mr15, ↓mr16, ↓mr17, ↓mr18, ↓mr19, ↓mr20, ↓mr21, ↓mr22, ↓mr23, ↓mr24, ↓mr25, ↓mr26, ↓mr27, ↓mw0, ↓mw1, ↓mw11, ↓mw12, ↓mw13, ↓mw15, ↓mw16, ↓mw17, ↓mw19, ↓mw20, ↓mw22, ↓mw25, up_eq, up_ne, up_up, si_len, ↓w1, ↓am_ifb, ↓if_pos q]
    exact fin
  · rw [if_neg q] at fin
    simp (disch := first | omega | (simp (disch := omega) only [up_eq, up_ne, si_len, List.length_set]; omega)) only [↓e165_0, ↓e165_1, ↓e165_2, ↓e165_5, ↓e165_8, ↓e165_10, ↓e165_13, ↓e165_14, ↓e165_15, ↓e165_16, ↓am_ilp, ↓am_iln, ↓am_iep, ↓am_ien, ↓am_zlp, ↓am_zln, ↓am_zep, ↓am_zen, ↓am_zgp, ↓am_zgn, ↓am_zhp, ↓am_zhn, ↓am_b01, true_or, true_and, and_true, or_true, if_true, if_false, ↓am_bdl_z, ↓am_bdl_s, ↓am_bsl_z, ↓am_bsl_s, ↓am_k1_i, ↓am_k1_r, ↓am_k1_e, ↓am_k1_n, ↓am_bd_s, am_k1_t, eq_self, am_nl_i, am_nl_r, am_nl_e, am_nl_n, Option.toList_some, Option.toList_none, Option.map_some, Option.map_none, List.cons_append, List.nil_append, List.length_cons, List.length_nil, List.set_cons_zero, List.set_cons_succ, List.getElem?_cons_zero, List.getElem?_cons_succ, am_bd_s, ↓am_tls, ↓am_tln, ↓mk_oc, ↓ma_r, ↓ma_w, ↓mz_r, ↓mz_w, ↓mr0, ↓mr1, ↓mr2, ↓mr3, ↓mr4, ↓mr5, ↓mr6, ↓mr7, ↓mr8, ↓mr9, ↓mr10, ↓mr11, ↓mr12, ↓mr13, ↓mr14, ↓mr15, ↓mr16, ↓mr17, ↓mr18, ↓mr19, ↓mr20, ↓mr21, ↓mr22, ↓mr23, ↓mr24, ↓mr25, ↓mr26, ↓mr27, ↓mw0, ↓mw1, ↓mw11, ↓mw12, ↓mw13, ↓mw15, ↓mw16, ↓mw17, ↓mw19, ↓mw20, ↓mw22, ↓mw25, up_eq, up_ne, up_up, si_len, ↓w1, ↓am_ifb, ↓if_neg q]
    exact fin
end MSE
