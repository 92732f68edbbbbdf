/-! the law, round by round -/
section LAW2
variable {xs : List Int}
theorem rd_of {F : List Int} {j : Int} (h0 : 0 ≤ j) (h1 : j < xs.length) (h2 : xs.length ≤ 384) : Rd [xs, F] j (xs.getD j.toNat 0) := by
  obtain ⟨k, rfl⟩ : ∃ k : Nat, j = (k : Int) := ⟨j.toNat, by omega⟩
  intro f
  show am_bd (am_rd xs (k : Int)) f = _
  rw [am_rd_nat (by omega) (by omega)]
  rfl
theorem rd_w {j : Int} (hx : ∀ x ∈ xs, -2147483648 ≤ x ∧ x ≤ 2147483647) : am_w (xs.getD j.toNat 0) = xs.getD j.toNat 0 := by
  refine am_w_i ?_
  by_cases c : j.toNat < xs.length
  · rw [List.getD_eq_getElem?_getD, List.getElem?_eq_getElem c]
    exact hx _ (List.getElem_mem c)
  · rw [List.getD_eq_getElem?_getD, List.getElem?_eq_none (by omega)]
    exact ⟨by decide, by decide⟩
theorem law_step {i : Int} {h : am_H} (hl : xs.length ≤ 384) (hx : ∀ x ∈ xs, -2147483648 ≤ x ∧ x ≤ 2147483647) (i0 : 0 ≤ i) (i1 : i + 6 ≤ xs.length) (rel : Rel h) : ∃ h', Rel h' ∧ ∀ K, Wp [xs, am_fac7] 182 27 [some (am_e 0), some (am_r (some 0)), some (am_r (some 96)), some (am_i i)] [] h K = Wp [xs, am_fac7] 182 1067 [some (am_e 0), some (am_r (some 0)), some (am_r (some 96)), some (am_i i)] [] h' K := by
  have r0 := rd_of (F := am_fac7) (j := i) i0 (by omega) hl
  have r1 := rd_of (F := am_fac7) (j := i + 1) (by omega) (by omega) hl
  have v1 := rd_w (j := i + 1) hx
  have r2 := rd_of (F := am_fac7) (j := i + 2) (by omega) (by omega) hl
  have v2 := rd_w (j := i + 2) hx
  have r3 := rd_of (F := am_fac7) (j := i + 3) (by omega) (by omega) hl
  have v3 := rd_w (j := i + 3) hx
  have r4 := rd_of (F := am_fac7) (j := i + 4) (by omega) (by omega) hl
  have v4 := rd_w (j := i + 4) hx
  have r5 := rd_of (F := am_fac7) (j := i + 5) (by omega) (by omega) hl
  have v5 := rd_w (j := i + 5) hx
  obtain ⟨C, S, V, n, nb, ns, L, nx, len, Ls, Q, Ks, rfl, cv, md⟩ := id rel
  have c0 := cv.1
  obtain ⟨d, hd⟩ : ∃ d, d = am_w (am_and (xs.getD i.toNat 0) 31) := ⟨_, rfl⟩
  have st : ∀ K, Wp [xs, am_fac7] 182 27 [some (am_e 0), some (am_r (some 0)), some (am_r (some 96)), some (am_i i)] [] (mk C S V) K = Wp [xs, am_fac7] 182 33 [some (am_e 0), some (am_r (some 0)), some (am_r (some 96)), some (am_i i)] [am_i (am_and (xs.getD i.toNat 0) 31)] (mk C S V) K := by
    intro K
    unfold Rd at r0
    simp (disch := first | omega | (simp only [List.length_set]; omega) | rfl) only [↓e182_27, ↓e182_28, ↓e182_29, ↓e182_30, ↓e182_32, ↓am_ilp, ↓am_iln, ↓am_iep, ↓am_ien, ↓am_zlp, ↓am_zln, ↓am_zep, ↓am_zen, ↓am_zgp, ↓am_zgn, ↓am_zhp, ↓am_zhn, ↓am_b01, true_or, true_and, and_true, or_true, if_true, if_false, ↓am_bdl_z, ↓am_bdl_s, ↓am_bsl_z, ↓am_bsl_s, ↓am_k1_i, ↓am_k1_r, ↓am_k1_e, ↓am_k1_n, ↓am_bd_s, am_k1_t, eq_self, am_nl_i, am_nl_r, am_nl_e, am_nl_n, Option.toList_some, Option.toList_none, Option.map_some, Option.map_none, List.cons_append, List.nil_append, List.length_cons, List.length_nil, List.set_cons_zero, List.set_cons_succ, List.getElem?_cons_zero, List.getElem?_cons_succ, am_bd_s, ↓r0]
  simp only [st, e182_33, ← hd]
  by_cases d0 : d = 0
  · simp only [if_pos d0]
    exact lc_0 c0 r1 (op_write cv md v1)
  simp only [if_neg d0]
  by_cases d1 : d = 1
  · simp only [if_pos d1]
    exact lc_1 c0 (op_wipe cv md)
  simp only [if_neg d1]
  by_cases d2 : d = 2
  · simp only [if_pos d2]
    exact lc_2 c0 (op_fault cv md)
  simp only [if_neg d2]
  by_cases d3 : d = 3
  · simp only [if_pos d3]
    exact lc_3 c0 (op_bed cv md)
  simp only [if_neg d3]
  by_cases d4 : d = 4
  · simp only [if_pos d4]
    exact lc_4 c0 r1 r2 (op_blanket cv md v1 v2)
  simp only [if_neg d4]
  by_cases d5 : d = 5
  · simp only [if_pos d5]
    exact lc_5 c0 r1 r2 (op_sleeper cv md v1 v2)
  simp only [if_neg d5]
  by_cases d6 : d = 6
  · simp only [if_pos d6]
    exact lc_6 c0 r1 r2 (op_cell cv md v1 v2)
  simp only [if_neg d6]
  by_cases d7 : d = 7
  · simp only [if_pos d7]
    exact lc_7 c0 r1 (op_take cv md v1)
  simp only [if_neg d7]
  by_cases d8 : d = 8
  · simp only [if_pos d8]
    exact lc_8 c0 r1 (op_lay cv md v1)
  simp only [if_neg d8]
  by_cases d9 : d = 9
  · simp only [if_pos d9]
    exact lc_9 c0 r1 (op_tuck cv md v1)
  simp only [if_neg d9]
  by_cases d10 : d = 10
  · simp only [if_pos d10]
    exact lc_10 c0 r1 r2 (op_turn cv md v1 v2)
  simp only [if_neg d10]
  by_cases d11 : d = 11
  · simp only [if_pos d11]
    exact lc_11 c0 (op_night cv md)
  simp only [if_neg d11]
  by_cases d12 : d = 12
  · simp only [if_pos d12]
    exact lc_12 c0 (op_undo cv md)
  simp only [if_neg d12]
  by_cases d13 : d = 13
  · simp only [if_pos d13]
    exact lc_13 c0 r1 r2 (op_toTake cv md v1 v2)
  simp only [if_neg d13]
  by_cases d14 : d = 14
  · simp only [if_pos d14]
    exact lc_14 c0 r1 r2 (op_toTurn cv md v1 v2)
  simp only [if_neg d14]
  by_cases d15 : d = 15
  · simp only [if_pos d15]
    exact lc_15 c0 r1 r2 (op_toTuck cv md v1 v2)
  simp only [if_neg d15]
  by_cases d16 : d = 16
  · simp only [if_pos d16]
    exact lc_16 c0 r1 r2 r3 (fun u => op_orders u cv md v1 v2)
  simp only [if_neg d16]
  by_cases d17 : d = 17
  · simp only [if_pos d17]
    exact lc_17 c0 r1 r2 (op_judge cv md v1 v2)
  simp only [if_neg d17]
  by_cases d18 : d = 18
  · simp only [if_pos d18]
    exact lc_18 c0 r1 r2 (op_see cv md v1 v2)
  simp only [if_neg d18]
  by_cases d19 : d = 19
  · simp only [if_pos d19]
    exact lc_19 c0 (op_unsee cv md)
  simp only [if_neg d19]
  by_cases d20 : d = 20
  · simp only [if_pos d20]
    exact lc_20 c0 (op_gone cv md)
  simp only [if_neg d20]
  by_cases d21 : d = 21
  · simp only [if_pos d21]
    exact lc_21 c0 r1 r2 (op_where cv md v1 v2)
  simp only [if_neg d21]
  by_cases d22 : d = 22
  · simp only [if_pos d22]
    exact lc_22 c0 r1 r2 (fun u => op_share u cv md v1 rfl)
  simp only [if_neg d22]
  by_cases d23 : d = 23
  · simp only [if_pos d23]
    exact lc_23 c0 r1 r2 r3 r4 r5 (op_rests cv md v1 v2 v3 v4 v5)
  simp only [if_neg d23]
  by_cases d24 : d = 24
  · simp only [if_pos d24]
    exact lc_24 c0 r1 r2 r3 r4 (fun u => op_kicked u cv md v1 v2 v3)
  simp only [if_neg d24]
  by_cases d25 : d = 25
  · simp only [if_pos d25]
    exact lc_25 c0 r1 r2 (op_seed cv md)
  simp only [if_neg d25]
  by_cases d26 : d = 26
  · simp only [if_pos d26]
    exact lc_26 c0 r1 (op_weeks cv md v1)
  simp only [if_neg d26]
  by_cases d27 : d = 27
  · simp only [if_pos d27]
    exact lc_27 c0 r1 (op_keep cv md v1)
  simp only [if_neg d27]
  by_cases d28 : d = 28
  · simp only [if_pos d28]
    exact lc_28 c0 r1 (op_again cv md v1)
  simp only [if_neg d28]
  by_cases d29 : d = 29
  · simp only [if_pos d29]
    exact lc_29 c0 r1 (op_count cv md v1)
  simp only [if_neg d29]
  exact ⟨_, rel, fun K => rfl⟩
theorem law_loop (hl : xs.length ≤ 384) (hx : ∀ x ∈ xs, -2147483648 ≤ x ∧ x ≤ 2147483647) : ∀ (f : Nat) (i : Int) (h : am_H), 0 ≤ i → i ≤ 400 → (xs.length : Int) - i < f → Rel h → ∃ h', Rel h' ∧ ∀ K, Wp [xs, am_fac7] 182 18 [some (am_e 0), some (am_r (some 0)), some (am_r (some 96)), some (am_i i)] [] h K = K (some (am_i 1)) h'
  | f, i, h, i0, i4, hf, rel => by
    have al : am_al [xs, am_fac7] h (am_e 0) = some (xs.length : Int) := rfl
    by_cases c : (xs.length : Int) - 6 < i
    · refine ⟨h, rel, fun K => ?_⟩
      simp (disch := first | omega | (simp only [List.length_set]; omega) | rfl) only [↓e182_18, ↓e182_19, ↓e182_20, ↓e182_21, ↓e182_23, ↓e182_24, ↓e182_1073, ↓e182_1074, ↓am_ilp, ↓am_iln, ↓am_iep, ↓am_ien, ↓am_zlp, ↓am_zln, ↓am_zep, ↓am_zen, ↓am_zgp, ↓am_zgn, ↓am_zhp, ↓am_zhn, ↓am_b01, true_or, true_and, and_true, or_true, if_true, if_false, ↓am_bdl_z, ↓am_bdl_s, ↓am_bsl_z, ↓am_bsl_s, ↓am_k1_i, ↓am_k1_r, ↓am_k1_e, ↓am_k1_n, ↓am_bd_s, am_k1_t, eq_self, am_nl_i, am_nl_r, am_nl_e, am_nl_n, Option.toList_some, Option.toList_none, Option.map_some, Option.map_none, List.cons_append, List.nil_append, List.length_cons, List.length_nil, List.set_cons_zero, List.set_cons_succ, List.getElem?_cons_zero, List.getElem?_cons_succ, am_bd_s, ↓al, al]
    · match f, hf with
      | 0, hf => omega
      | f + 1, hf =>
        obtain ⟨h1, rel1, w1⟩ := law_step hl hx i0 (by omega) rel
        obtain ⟨h2, rel2, w2⟩ := law_loop hl hx f (i + 6) h1 (by omega) (by omega) (by omega) rel1
        refine ⟨h2, rel2, fun K => ?_⟩
        have s1 : Wp [xs, am_fac7] 182 18 [some (am_e 0), some (am_r (some 0)), some (am_r (some 96)), some (am_i i)] [] h K = Wp [xs, am_fac7] 182 27 [some (am_e 0), some (am_r (some 0)), some (am_r (some 96)), some (am_i i)] [] h K := by
          simp (disch := first | omega | (simp only [List.length_set]; omega) | rfl) only [↓e182_18, ↓e182_19, ↓e182_20, ↓e182_21, ↓e182_23, ↓e182_24, ↓am_ilp, ↓am_iln, ↓am_iep, ↓am_ien, ↓am_zlp, ↓am_zln, ↓am_zep, ↓am_zen, ↓am_zgp, ↓am_zgn, ↓am_zhp, ↓am_zhn, ↓am_b01, true_or, true_and, and_true, or_true, if_true, if_false, ↓am_bdl_z, ↓am_bdl_s, ↓am_bsl_z, ↓am_bsl_s, ↓am_k1_i, ↓am_k1_r, ↓am_k1_e, ↓am_k1_n, ↓am_bd_s, am_k1_t, eq_self, am_nl_i, am_nl_r, am_nl_e, am_nl_n, Option.toList_some, Option.toList_none, Option.map_some, Option.map_none, List.cons_append, List.nil_append, List.length_cons, List.length_nil, List.set_cons_zero, List.set_cons_succ, List.getElem?_cons_zero, List.getElem?_cons_succ, am_bd_s, ↓al, al]
        rw [s1, w1]
        have s2 : Wp [xs, am_fac7] 182 1067 [some (am_e 0), some (am_r (some 0)), some (am_r (some 96)), some (am_i i)] [] h1 K = Wp [xs, am_fac7] 182 18 [some (am_e 0), some (am_r (some 0)), some (am_r (some 96)), some (am_i (i + 6))] [] h1 K := by
          simp (disch := first | omega | (simp only [List.length_set]; omega) | rfl) only [↓e182_1067, ↓e182_1070, ↓am_ilp, ↓am_iln, ↓am_iep, ↓am_ien, ↓am_zlp, ↓am_zln, ↓am_zep, ↓am_zen, ↓am_zgp, ↓am_zgn, ↓am_zhp, ↓am_zhn, ↓am_b01, true_or, true_and, and_true, or_true, if_true, if_false, ↓am_bdl_z, ↓am_bdl_s, ↓am_bsl_z, ↓am_bsl_s, ↓am_k1_i, ↓am_k1_r, ↓am_k1_e, ↓am_k1_n, ↓am_bd_s, am_k1_t, eq_self, am_nl_i, am_nl_r, am_nl_e, am_nl_n, Option.toList_some, Option.toList_none, Option.map_some, Option.map_none, List.cons_append, List.nil_append, List.length_cons, List.length_nil, List.set_cons_zero, List.set_cons_succ, List.getElem?_cons_zero, List.getElem?_cons_succ, am_bd_s]
        rw [s2, w2]
end LAW2
