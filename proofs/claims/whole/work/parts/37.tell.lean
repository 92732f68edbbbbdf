/-! a bed is told -/
section TEL
variable {h : am_H} {r nb ns : Nat} {B : List Nat} {A Wo fr la ce ki wi : List Int} {ni : Int}
theorem X3_clear_w (l : LayC h r B A Wo ni) : ∃ h', (∀ E K, Wp E 28 0 [some (am_r (some r)), none] [] h K = K none h') ∧ LayC h' r [] [0, 0, 0] [0, 0, 0] 0 ∧ Fr h h' r 4 := by
  obtain ⟨g, h0, h1, h2, h3, h4, h5, h6⟩ := l
  have l1 := am_lt h1
  have l2 := am_lt h2
  have l3 := am_lt h3
  have l4 := am_lt h4
  obtain ⟨a0, a1, a2, rfl⟩ : ∃ a0 a1 a2, A = [a0, a1, a2] := by
    match A, h5 with
    | [a0, a1, a2], _ => exact ⟨a0, a1, a2, rfl⟩
  obtain ⟨w0, w1, w2, rfl⟩ : ∃ a0 a1 a2, Wo = [a0, a1, a2] := by
    match Wo, h6 with
    | [a0, a1, a2], _ => exact ⟨a0, a1, a2, rfl⟩
  refine ⟨((h.set (r + 3) (am_a 0 [0, 0, 0])).set (r + 2) (am_a 0 [0, 0, 0])).set r (am_o 3 [am_r (some (r + 1)), am_i 0, am_r (some (r + 2)), am_r (some (r + 3)), am_i 0]), fun E K => ?_, ⟨pl_c B ++ g, by rw [List.length_append, pl_c_len]; simpa using h0, ?_, ?_, ?_, ?_, rfl, rfl⟩, ((Fr.rf.set (by omega) (by omega)).set (by omega) (by omega)).set (by omega) (by omega)⟩
  · simp (disch := first | omega | (simp only [List.length_set]; omega) | rfl) only [↓e28_0, ↓e28_1, ↓e28_2, ↓e28_5, ↓e28_6, ↓e28_7, ↓e28_10, ↓e28_11, ↓e28_12, ↓e28_13, ↓e28_14, ↓e28_17, ↓e28_18, ↓e28_21, ↓e28_22, ↓e28_23, ↓e28_24, ↓e28_25, ↓e28_28, ↓e28_29, ↓e28_30, ↓e28_31, ↓e28_34, ↓e28_37, ↓am_ilp, ↓am_iln, ↓am_iep, ↓am_ien, ↓am_zlp, ↓am_zln, ↓am_zep, ↓am_zen, ↓am_zgp, ↓am_zgn, ↓am_zhp, ↓am_zhn, ↓am_b01, true_or, true_and, and_true, or_true, if_true, if_false, ↓am_bdl_z, ↓am_bdl_s, ↓am_bsl_z, ↓am_bsl_s, ↓am_k1_i, ↓am_k1_r, ↓am_k1_e, ↓am_k1_n, ↓am_bd_s, am_k1_t, eq_self, am_nl_i, am_nl_r, am_nl_e, am_nl_n, Option.toList_some, Option.toList_none, Option.map_some, Option.map_none, List.cons_append, List.nil_append, List.length_cons, List.length_nil, List.set_cons_zero, List.set_cons_succ, List.getElem?_cons_zero, List.getElem?_cons_succ, am_bd_s, ↓am_bdf h1, am_bdf h1, ↓am_bfu h1, am_bfu h1, ↓am_oc_of h1, am_oc_of h1, ↓am_bra h3, am_bra h3, ↓am_bwa h3, am_bwa h3, ↓am_bra h4, am_bra h4, ↓am_bwa h4, am_bwa h4, ↓am_sra_ne, am_sra_ne, ↓am_sra_eq, am_sra_eq, ↓am_sfd_ne, am_sfd_ne, ↓am_sfd_eq, am_sfd_eq, ↓am_soc_ne, am_soc_ne, ↓am_soc_eq, am_soc_eq, ↓am_swa_ne, am_swa_ne, ↓am_swa_eq, am_swa_eq, ↓am_sfu_ne, am_sfu_ne, ↓am_sfu_eq, am_sfu_eq, List.length_set, am_w_i, if_neg, if_pos]
    rfl
  · rw [am_set_at (y := am_o 3 [am_r (some (r + 1)), am_i (B.length : Int), am_r (some (r + 2)), am_r (some (r + 3)), am_i ni]) (by rw [am_set_ne (by omega), am_set_ne (by omega)]; exact h1)]; rfl
  · rw [am_set_ne (by omega), am_set_ne (by omega), am_set_ne (by omega)]; exact h2
  · rw [am_set_ne (by omega), am_set_at (y := am_a 0 [a0, a1, a2]) (by rw [am_set_ne (by omega)]; exact h3)]
  · rw [am_set_ne (by omega), am_set_ne (by omega), am_set_at h4]
theorem X4_clear_w (l : PartsC h 3 nb ns fr la ce ki wi) : ∃ h', (∀ E K, Wp E 42 0 [some (am_r (some 3))] [] h K = K none h') ∧ PartsC h' 3 0 0 fr la ce ki wi ∧ Fr h h' 3 6 := by
  obtain ⟨h0, h1, h2, h3, h4, h5, h6⟩ := l
  have l0 := am_lt h0
  refine ⟨h.set 3 (am_o 4 [am_r (some (3 + 1)), am_r (some (3 + 2)), am_r (some (3 + 3)), am_r (some (3 + 4)), am_r (some (3 + 5)), am_i 0, am_i 0]), fun E K => ?_, ⟨am_set_at h0, ?_, ?_, ?_, ?_, ?_, h6.1, h6.2.1, h6.2.2.1, h6.2.2.2.1, h6.2.2.2.2.1, by omega, by omega⟩, Fr.rf.set (by omega) (by omega)⟩
  · simp (disch := first | omega | (simp only [List.length_set]; omega) | rfl) only [↓e42_0, ↓e42_1, ↓e42_2, ↓e42_5, ↓e42_6, ↓e42_7, ↓e42_10, ↓am_ilp, ↓am_iln, ↓am_iep, ↓am_ien, ↓am_zlp, ↓am_zln, ↓am_zep, ↓am_zen, ↓am_zgp, ↓am_zgn, ↓am_zhp, ↓am_zhn, ↓am_b01, true_or, true_and, and_true, or_true, if_true, if_false, ↓am_bdl_z, ↓am_bdl_s, ↓am_bsl_z, ↓am_bsl_s, ↓am_k1_i, ↓am_k1_r, ↓am_k1_e, ↓am_k1_n, ↓am_bd_s, am_k1_t, eq_self, am_nl_i, am_nl_r, am_nl_e, am_nl_n, Option.toList_some, Option.toList_none, Option.map_some, Option.map_none, List.cons_append, List.nil_append, List.length_cons, List.length_nil, List.set_cons_zero, List.set_cons_succ, List.getElem?_cons_zero, List.getElem?_cons_succ, am_bd_s, ↓am_bdf h0, am_bdf h0, ↓am_bfu h0, am_bfu h0, ↓am_oc_of h0, am_oc_of h0, ↓am_sra_ne, am_sra_ne, ↓am_sra_eq, am_sra_eq, ↓am_sfd_ne, am_sfd_ne, ↓am_sfd_eq, am_sfd_eq, ↓am_soc_ne, am_soc_ne, ↓am_soc_eq, am_soc_eq, ↓am_swa_ne, am_swa_ne, ↓am_swa_eq, am_swa_eq, ↓am_sfu_ne, am_sfu_ne, ↓am_sfu_eq, am_sfu_eq, List.length_set, am_w_i, if_neg, if_pos, List.set_set]
  · rw [am_set_ne (by omega)]; exact h1
  · rw [am_set_ne (by omega)]; exact h2
  · rw [am_set_ne (by omega)]; exact h3
  · rw [am_set_ne (by omega)]; exact h4
  · rw [am_set_ne (by omega)]; exact h5
theorem X4_addBlanket_w {a b c d : Int} (l : PartsC h 3 nb ns fr la ce ki wi) (hn : nb < 6) : ∃ h', (∀ E K, Wp E 43 0 [some (am_r (some 3)), some (am_i a), some (am_i b), some (am_i c), some (am_i d)] [] h K = K none h') ∧ PartsC h' 3 (nb + 1) ns (fr.set nb a) (la.set nb b) (ce.set nb c) (ki.set nb d) wi ∧ Fr h h' 3 6 := by
  obtain ⟨h0, h1, h2, h3, h4, h5, q1, q2, q3, q4, q5, q6, q7⟩ := l
  have l0 := am_lt h0
  have l1 := am_lt h1
  have l2 := am_lt h2
  have l3 := am_lt h3
  have l4 := am_lt h4
  refine ⟨((((h.set 3 (am_o 4 [am_r (some (3 + 1)), am_r (some (3 + 2)), am_r (some (3 + 3)), am_r (some (3 + 4)), am_r (some (3 + 5)), am_i ((nb : Int) + 1), am_i (ns : Int)])).set (3 + 4) (am_a 0 (ki.set nb d))).set (3 + 3) (am_a 0 (ce.set nb c))).set (3 + 2) (am_a 0 (la.set nb b))).set (3 + 1) (am_a 0 (fr.set nb a)), fun E K => ?_, ⟨?_, ?_, ?_, ?_, ?_, ?_, by rw [List.length_set]; omega, by rw [List.length_set]; omega, by rw [List.length_set]; omega, by rw [List.length_set]; omega, q5, by omega, q7⟩, ((((Fr.rf.set (by omega) (by omega)).set (by omega) (by omega)).set (by omega) (by omega)).set (by omega) (by omega)).set (by omega) (by omega)⟩
  · simp (disch := first | omega | (simp only [List.length_set]; omega) | rfl) only [↓e43_0, ↓e43_1, ↓e43_4, ↓e43_6, ↓e43_9, ↓e43_10, ↓e43_13, ↓e43_14, ↓e43_17, ↓e43_18, ↓e43_19, ↓e43_20, ↓e43_23, ↓e43_24, ↓e43_27, ↓e43_28, ↓e43_29, ↓e43_30, ↓e43_33, ↓e43_34, ↓e43_37, ↓e43_38, ↓e43_39, ↓e43_40, ↓e43_43, ↓e43_44, ↓e43_47, ↓e43_49, ↓e43_50, ↓e43_51, ↓e43_52, ↓e43_55, ↓e43_56, ↓e43_57, ↓e43_60, ↓am_ilp, ↓am_iln, ↓am_iep, ↓am_ien, ↓am_zlp, ↓am_zln, ↓am_zep, ↓am_zen, ↓am_zgp, ↓am_zgn, ↓am_zhp, ↓am_zhn, ↓am_b01, true_or, true_and, and_true, or_true, if_true, if_false, ↓am_bdl_z, ↓am_bdl_s, ↓am_bsl_z, ↓am_bsl_s, ↓am_k1_i, ↓am_k1_r, ↓am_k1_e, ↓am_k1_n, ↓am_bd_s, am_k1_t, eq_self, am_nl_i, am_nl_r, am_nl_e, am_nl_n, Option.toList_some, Option.toList_none, Option.map_some, Option.map_none, List.cons_append, List.nil_append, List.length_cons, List.length_nil, List.set_cons_zero, List.set_cons_succ, List.getElem?_cons_zero, List.getElem?_cons_succ, am_bd_s, ↓am_bdf h0, am_bdf h0, ↓am_bfu h0, am_bfu h0, ↓am_oc_of h0, am_oc_of h0, ↓am_bra h1, am_bra h1, ↓am_bwa h1, am_bwa h1, ↓am_bra h2, am_bra h2, ↓am_bwa h2, am_bwa h2, ↓am_bra h3, am_bra h3, ↓am_bwa h3, am_bwa h3, ↓am_bra h4, am_bra h4, ↓am_bwa h4, am_bwa h4, ↓am_sra_ne, am_sra_ne, ↓am_sra_eq, am_sra_eq, ↓am_sfd_ne, am_sfd_ne, ↓am_sfd_eq, am_sfd_eq, ↓am_soc_ne, am_soc_ne, ↓am_soc_eq, am_soc_eq, ↓am_swa_ne, am_swa_ne, ↓am_swa_eq, am_swa_eq, ↓am_sfu_ne, am_sfu_ne, ↓am_sfu_eq, am_sfu_eq, List.length_set, am_w_i, if_neg, if_pos, Int.toNat_natCast]
  · rw [am_set_ne (by omega), am_set_ne (by omega), am_set_ne (by omega), am_set_ne (by omega)]; exact List.getElem?_set_self (by omega)
  · exact List.getElem?_set_self (by simp only [List.length_set]; omega)
  · rw [am_set_ne (by omega)]; exact List.getElem?_set_self (by simp only [List.length_set]; omega)
  · rw [am_set_ne (by omega), am_set_ne (by omega)]; exact List.getElem?_set_self (by simp only [List.length_set]; omega)
  · rw [am_set_ne (by omega), am_set_ne (by omega), am_set_ne (by omega)]; exact List.getElem?_set_self (by simp only [List.length_set]; omega)
  · rw [am_set_ne (by omega), am_set_ne (by omega), am_set_ne (by omega), am_set_ne (by omega), am_set_ne (by omega)]; exact h5
theorem X4_addSleeper_w {a : Int} (l : PartsC h 3 nb ns fr la ce ki wi) (hn : ns < 3) : ∃ h', (∀ E K, Wp E 44 0 [some (am_r (some 3)), some (am_i a)] [] h K = K none h') ∧ PartsC h' 3 nb (ns + 1) fr la ce ki (wi.set ns a) ∧ Fr h h' 3 6 := by
  obtain ⟨h0, h1, h2, h3, h4, h5, q1, q2, q3, q4, q5, q6, q7⟩ := l
  have l0 := am_lt h0
  have l1 := am_lt h5
  refine ⟨(h.set (3 + 5) (am_a 0 (wi.set ns a))).set 3 (am_o 4 [am_r (some (3 + 1)), am_r (some (3 + 2)), am_r (some (3 + 3)), am_r (some (3 + 4)), am_r (some (3 + 5)), am_i (nb : Int), am_i ((ns : Int) + 1)]), fun E K => ?_, ⟨List.getElem?_set_self (by simp only [List.length_set]; omega), ?_, ?_, ?_, ?_, ?_, q1, q2, q3, q4, by rw [List.length_set]; omega, q6, by omega⟩, (Fr.rf.set (by omega) (by omega)).set (by omega) (by omega)⟩
  · simp (disch := first | omega | (simp only [List.length_set]; omega) | rfl) only [↓e44_0, ↓e44_1, ↓e44_4, ↓e44_5, ↓e44_8, ↓e44_9, ↓e44_12, ↓e44_13, ↓e44_16, ↓e44_17, ↓e44_18, ↓e44_19, ↓e44_20, ↓e44_23, ↓e44_24, ↓e44_25, ↓e44_28, ↓am_ilp, ↓am_iln, ↓am_iep, ↓am_ien, ↓am_zlp, ↓am_zln, ↓am_zep, ↓am_zen, ↓am_zgp, ↓am_zgn, ↓am_zhp, ↓am_zhn, ↓am_b01, true_or, true_and, and_true, or_true, if_true, if_false, ↓am_bdl_z, ↓am_bdl_s, ↓am_bsl_z, ↓am_bsl_s, ↓am_k1_i, ↓am_k1_r, ↓am_k1_e, ↓am_k1_n, ↓am_bd_s, am_k1_t, eq_self, am_nl_i, am_nl_r, am_nl_e, am_nl_n, Option.toList_some, Option.toList_none, Option.map_some, Option.map_none, List.cons_append, List.nil_append, List.length_cons, List.length_nil, List.set_cons_zero, List.set_cons_succ, List.getElem?_cons_zero, List.getElem?_cons_succ, am_bd_s, ↓am_bdf h0, am_bdf h0, ↓am_bfu h0, am_bfu h0, ↓am_oc_of h0, am_oc_of h0, ↓am_bra h5, am_bra h5, ↓am_bwa h5, am_bwa h5, ↓am_sra_ne, am_sra_ne, ↓am_sra_eq, am_sra_eq, ↓am_sfd_ne, am_sfd_ne, ↓am_sfd_eq, am_sfd_eq, ↓am_soc_ne, am_soc_ne, ↓am_soc_eq, am_soc_eq, ↓am_swa_ne, am_swa_ne, ↓am_swa_eq, am_swa_eq, ↓am_sfu_ne, am_sfu_ne, ↓am_sfu_eq, am_sfu_eq, List.length_set, am_w_i, if_neg, if_pos, Int.toNat_natCast]
    simp only [am_set_com (h := h) (a := 3) (b := 3 + 5) (by omega)]
  · rw [am_set_ne (by omega), am_set_ne (by omega)]; exact h1
  · rw [am_set_ne (by omega), am_set_ne (by omega)]; exact h2
  · rw [am_set_ne (by omega), am_set_ne (by omega)]; exact h3
  · rw [am_set_ne (by omega), am_set_ne (by omega)]; exact h4
  · rw [am_set_ne (by omega)]; exact List.getElem?_set_self (by omega)
/-- all but the parts and the bed is as it was -/
def FrB (h h' : am_H) : Prop := h'.length = h.length ∧ ∀ i : Nat, i < 3 ∨ (9 ≤ i ∧ i < 78) ∨ 82 ≤ i → h'[i]? = h[i]?
theorem FrB.trans {h h1 h2 : am_H} (f : FrB h h1) (g : FrB h1 h2) : FrB h h2 := ⟨g.1.trans f.1, fun i hi => (g.2 i hi).trans (f.2 i hi)⟩
theorem FrB.ofP {h h1 : am_H} (f : Fr h h1 3 6) : FrB h h1 := ⟨f.1, fun i hi => f.2 i (by omega)⟩
theorem FrB.ofL {h h1 : am_H} {q n : Nat} (f : Fr h h1 q n) (a : 78 ≤ q) (b : q + n ≤ 82) : FrB h h1 := ⟨f.1, fun i hi => f.2 i (by omega)⟩
theorem TextC.frB {h h' : am_H} {X : List Int} {n : Nat} (l : TextC h X n) (f : FrB h h') : TextC h' X n := by
  obtain ⟨h0, h1, h2, h3, h4⟩ := l
  exact ⟨by rw [f.2 _ (by omega)]; exact h0, by rw [f.2 _ (by omega)]; exact h1, h2, h3, h4⟩
theorem X8_tell_l {X : List Int} {n : Nat} : ∀ (f : Nat) (p : Int) (nb ns m : Nat) (h : am_H) (fr la ce ki wi A Wo : List Int) (Qr : List pl_Q) (Sr : List (Int × Int)), pl_pr X n f p nb ns m = (-9, Qr, Sr) → (n : Int) - p < f → 1 ≤ p → p ≤ 50 → m < 64 → TextC h X n → PartsC h 3 nb ns fr la ce ki wi → LayC h 78 (List.range nb) A Wo 0 → ∃ h', (∀ E K, Wp E 75 10 [some (am_r (some 1)), some (am_r (some 3)), some (am_r (some 78)), some (am_i p)] [] h K = K none h') ∧ PartsC h' 3 (nb + Qr.length) (ns + Sr.length) (pl_put fr nb (Qr.map fun q => q.1)) (pl_put la nb (Qr.map fun q => q.2.1)) (pl_put ce nb (Qr.map fun q => q.2.2.1)) (pl_put ki nb (Qr.map fun q => q.2.2.2)) (pl_put wi ns (Sr.map fun q => q.2)) ∧ LayC h' 78 (List.range (nb + Qr.length)) (pl_put A ns (Sr.map fun q => q.1)) Wo 0 ∧ FrB h h'
  | 0, p, nb, ns, m, h, fr, la, ce, ki, wi, A, Wo, Qr, Sr, e, hf, hp, hp5, hm, lt, lp, ll => by
    rw [pl_pr] at e
    obtain ⟨-, rfl, rfl⟩ : (-9 : Int) = -9 ∧ [] = Qr ∧ [] = Sr := by simpa using e
    have h3 := lt.2.2.2.1
    refine ⟨h, fun E K => ?_, lp, ll, rfl, fun _ _ => rfl⟩
    rw [e75_10]
    simp (disch := first | omega | (simp only [List.length_set]; omega) | rfl) only [↓e75_11, ↓e75_12, ↓e75_15, ↓e75_108, ↓am_ilp, ↓am_iln, ↓am_iep, ↓am_ien, ↓am_zlp, ↓am_zln, ↓am_zep, ↓am_zen, ↓am_zgp, ↓am_zgn, ↓am_zhp, ↓am_zhn, ↓am_b01, true_or, true_and, and_true, or_true, if_true, if_false, ↓am_bdl_z, ↓am_bdl_s, ↓am_bsl_z, ↓am_bsl_s, ↓am_k1_i, ↓am_k1_r, ↓am_k1_e, ↓am_k1_n, ↓am_bd_s, am_k1_t, eq_self, am_nl_i, am_nl_r, am_nl_e, am_nl_n, Option.toList_some, Option.toList_none, Option.map_some, Option.map_none, List.cons_append, List.nil_append, List.length_cons, List.length_nil, List.set_cons_zero, List.set_cons_succ, List.getElem?_cons_zero, List.getElem?_cons_succ, am_bd_s, ↓am_bdf lt.1, am_bdf lt.1, ↓am_bfu lt.1, am_bfu lt.1, ↓am_oc_of lt.1, am_oc_of lt.1]
  | f + 1, p, nb, ns, m, h, fr, la, ce, ki, wi, A, Wo, Qr, Sr, e, hf, hp, hp5, hm, lt, lp, ll => by
    rw [pl_pr] at e
    have h3 := lt.2.2.2.1
    obtain ⟨h0, h1, h2, -, h4⟩ := id lt
    have k6 := lp.2.2.2.2.2.2.2.2.2.2.2.1
    have k3 := lp.2.2.2.2.2.2.2.2.2.2.2.2
    by_cases q0 : (n : Int) ≤ p
    · rw [if_pos q0] at e
      obtain ⟨-, rfl, rfl⟩ : (-9 : Int) = -9 ∧ [] = Qr ∧ [] = Sr := by simpa using e
      refine ⟨h, fun E K => ?_, lp, ll, rfl, fun _ _ => rfl⟩
      rw [e75_10]
      simp (disch := first | omega | (simp only [List.length_set]; omega) | rfl) only [↓e75_11, ↓e75_12, ↓e75_15, ↓e75_108, ↓am_ilp, ↓am_iln, ↓am_iep, ↓am_ien, ↓am_zlp, ↓am_zln, ↓am_zep, ↓am_zen, ↓am_zgp, ↓am_zgn, ↓am_zhp, ↓am_zhn, ↓am_b01, true_or, true_and, and_true, or_true, if_true, if_false, ↓am_bdl_z, ↓am_bdl_s, ↓am_bsl_z, ↓am_bsl_s, ↓am_k1_i, ↓am_k1_r, ↓am_k1_e, ↓am_k1_n, ↓am_bd_s, am_k1_t, eq_self, am_nl_i, am_nl_r, am_nl_e, am_nl_n, Option.toList_some, Option.toList_none, Option.map_some, Option.map_none, List.cons_append, List.nil_append, List.length_cons, List.length_nil, List.set_cons_zero, List.set_cons_succ, List.getElem?_cons_zero, List.getElem?_cons_succ, am_bd_s, ↓am_bdf lt.1, am_bdf lt.1, ↓am_bfu lt.1, am_bfu lt.1, ↓am_oc_of lt.1, am_oc_of lt.1]
    · rw [if_neg q0] at e
      have hv := h4 p.toNat (by omega)
      by_cases q1 : X.getD p.toNat 0 = 81 ∧ nb < 6
      · rw [if_pos q1] at e
        by_cases q2 : pl_bf X n p = -9
        · rw [if_neg (by simpa using q2)] at e
          obtain ⟨c1, c2⟩ := q1
          have a1 := pl_bf_ok q2 (by omega)
          obtain ⟨z, ez⟩ : ∃ z, z = pl_pr X n f (p + 5) (nb + 1) ns m := ⟨_, rfl⟩
          rw [← ez] at e
          obtain ⟨z1, z2, z3⟩ := z
          obtain ⟨rfl, rfl, rfl⟩ : z1 = -9 ∧ _ = Qr ∧ z3 = Sr := by simpa using e
          have hr : ∀ x ∈ List.range nb, x < 6 := fun x hx => by have := List.mem_range.mp hx; omega
          obtain ⟨h1', w1, l1, f1⟩ := X3_layOnTop_w (b := nb) ll hr c2 (by simp) (by simpa using c2)
          have lp1 := lp.fr f1 (by omega)
          obtain ⟨h2', w2, l2, f2⟩ := X4_addBlanket_w (a := pl_fa X n (p + 1)) (b := pl_fa X n (p + 2)) (c := pl_fa X n (p + 3)) (d := pl_fa X n (p + 4)) lp1 c2
          have g1 : FrB h h1' := FrB.ofL f1 (by omega) (by omega)
          have g2 : FrB h1' h2' := FrB.ofP f2
          have lt1 := lt.frB g1
          have lt2 := lt1.frB g2
          have ll2 := l1.fr f2 (by omega)
          rw [← List.range_succ] at ll2
          obtain ⟨h3', w3, l3, l4, f3⟩ := X8_tell_l f (p + 5) (nb + 1) ns m h2' _ _ _ _ _ _ _ z2 z3 ez.symm (by omega) (by omega) (by omega) hm lt2 l2 ll2
          refine ⟨h3', fun E K => ?_, ?_, ?_, (g1.trans g2).trans f3⟩
          · rw [e75_10]
            have c1' : (X.getD p.toNat 0) = 81 := c1
            simp (disch := first | omega | (simp only [List.length_set]; omega) | rfl) only [↓e75_11, ↓e75_12, ↓e75_15, ↓e75_18, ↓e75_19, ↓e75_22, ↓e75_23, ↓e75_24, ↓e75_26, ↓e75_29, ↓e75_30, ↓e75_31, ↓e75_34, ↓e75_37, ↓e75_38, ↓e75_39, ↓e75_40, ↓e75_41, ↓e75_42, ↓e75_43, ↓e75_46, ↓e75_47, ↓e75_48, ↓e75_49, ↓e75_50, ↓e75_53, ↓e75_54, ↓e75_55, ↓e75_56, ↓e75_57, ↓e75_60, ↓e75_61, ↓e75_62, ↓e75_63, ↓e75_64, ↓e75_67, ↓e75_70, ↓e75_73, ↓am_ilp, ↓am_iln, ↓am_iep, ↓am_ien, ↓am_zlp, ↓am_zln, ↓am_zep, ↓am_zen, ↓am_zgp, ↓am_zgn, ↓am_zhp, ↓am_zhn, ↓am_b01, true_or, true_and, and_true, or_true, if_true, if_false, ↓am_bdl_z, ↓am_bdl_s, ↓am_bsl_z, ↓am_bsl_s, ↓am_k1_i, ↓am_k1_r, ↓am_k1_e, ↓am_k1_n, ↓am_bd_s, am_k1_t, eq_self, am_nl_i, am_nl_r, am_nl_e, am_nl_n, Option.toList_some, Option.toList_none, Option.map_some, Option.map_none, List.cons_append, List.nil_append, List.length_cons, List.length_nil, List.set_cons_zero, List.set_cons_succ, List.getElem?_cons_zero, List.getElem?_cons_succ, am_bd_s, ↓am_bdf h0, am_bdf h0, ↓am_bfu h0, am_bfu h0, ↓am_oc_of h0, am_oc_of h0, ↓am_bdf lp.1, am_bdf lp.1, ↓am_bfu lp.1, am_bfu lp.1, ↓am_oc_of lp.1, am_oc_of lp.1, ↓am_bdf lp1.1, am_bdf lp1.1, ↓am_bfu lp1.1, am_bfu lp1.1, ↓am_oc_of lp1.1, am_oc_of lp1.1, ↓am_bdf ll.obj.1, am_bdf ll.obj.1, ↓am_bfu ll.obj.1, am_bfu ll.obj.1, ↓am_oc_of ll.obj.1, am_oc_of ll.obj.1, ↓am_bra h1, am_bra h1, ↓am_bwa h1, am_bwa h1, c1', ↓w1, w1, ↓X8_figureAt_w lt1, X8_figureAt_w lt1, ↓am_oc_of lt1.1, am_oc_of lt1.1, ↓w2, w2, ↓w3, w3]
          · rw [show nb + 1 + z2.length = nb + (z2.length + 1) by omega] at l3
            exact l3
          · rw [show nb + 1 + z2.length = nb + (z2.length + 1) by omega] at l4
            exact l4
        · rw [if_pos q2] at e
          obtain ⟨e1, -, -⟩ : pl_bf X n p = -9 ∧ [] = Qr ∧ [] = Sr := by simpa using e
          exact absurd e1 q2
      · rw [if_neg q1] at e
        by_cases q3 : X.getD p.toNat 0 = 83 ∧ ns < 3 ∧ m ≠ 63
        · rw [if_pos q3] at e
          by_cases q2 : pl_sf X n p m = -9
          · rw [if_neg (by simpa using q2)] at e
            obtain ⟨c1, c2, -⟩ := q3
            have a1 := pl_sf_ok q2 (by omega)
            obtain ⟨mm, em⟩ : ∃ mm, mm = m ||| pl_cb (pl_fa X n (p + 1)).toNat (pl_fa X n (p + 2)).toNat := ⟨_, rfl⟩
            have hmm : mm < 64 := by rw [em]; exact pl_cb_64 m hm _ (by omega) _ (by omega) (by omega)
            rw [← em] at e
            obtain ⟨z, ez⟩ : ∃ z, z = pl_pr X n f (p + 3) nb (ns + 1) mm := ⟨_, rfl⟩
            rw [← ez] at e
            obtain ⟨z1, z2, z3⟩ := z
            obtain ⟨rfl, rfl, rfl⟩ : z1 = -9 ∧ z2 = Qr ∧ _ = Sr := by simpa using e
            obtain ⟨h1', w1, l1, f1⟩ := X3_place_w (s := ns) (f := pl_fa X n (p + 1)) ll c2
            have lp1 := lp.fr f1 (by omega)
            obtain ⟨h2', w2, l2, f2⟩ := X4_addSleeper_w (a := pl_fa X n (p + 2)) lp1 c2
            have g1 : FrB h h1' := FrB.ofL f1 (by omega) (by omega)
            have g2 : FrB h1' h2' := FrB.ofP f2
            have lt1 := lt.frB g1
            have lt2 := lt1.frB g2
            have ll2 := l1.fr f2 (by omega)
            obtain ⟨h3', w3, l3, l4, f3⟩ := X8_tell_l f (p + 3) nb (ns + 1) mm h2' _ _ _ _ _ _ _ z2 z3 ez.symm (by omega) (by omega) (by omega) hmm lt2 l2 ll2
            refine ⟨h3', fun E K => ?_, ?_, ?_, (g1.trans g2).trans f3⟩
            · rw [e75_10]
              simp (disch := first | omega | (simp only [List.length_set]; omega) | rfl) only [↓e75_11, ↓e75_12, ↓e75_15, ↓e75_18, ↓e75_19, ↓e75_22, ↓e75_23, ↓e75_24, ↓e75_26, ↓e75_76, ↓e75_77, ↓e75_78, ↓e75_81, ↓e75_82, ↓e75_83, ↓e75_84, ↓e75_85, ↓e75_88, ↓e75_91, ↓e75_92, ↓e75_93, ↓e75_94, ↓e75_95, ↓e75_96, ↓e75_99, ↓e75_102, ↓e75_105, ↓am_ilp, ↓am_iln, ↓am_iep, ↓am_ien, ↓am_zlp, ↓am_zln, ↓am_zep, ↓am_zen, ↓am_zgp, ↓am_zgn, ↓am_zhp, ↓am_zhn, ↓am_b01, true_or, true_and, and_true, or_true, if_true, if_false, ↓am_bdl_z, ↓am_bdl_s, ↓am_bsl_z, ↓am_bsl_s, ↓am_k1_i, ↓am_k1_r, ↓am_k1_e, ↓am_k1_n, ↓am_bd_s, am_k1_t, eq_self, am_nl_i, am_nl_r, am_nl_e, am_nl_n, Option.toList_some, Option.toList_none, Option.map_some, Option.map_none, List.cons_append, List.nil_append, List.length_cons, List.length_nil, List.set_cons_zero, List.set_cons_succ, List.getElem?_cons_zero, List.getElem?_cons_succ, am_bd_s, ↓am_bdf h0, am_bdf h0, ↓am_bfu h0, am_bfu h0, ↓am_oc_of h0, am_oc_of h0, ↓am_bdf lp.1, am_bdf lp.1, ↓am_bfu lp.1, am_bfu lp.1, ↓am_oc_of lp.1, am_oc_of lp.1, ↓am_bdf lp1.1, am_bdf lp1.1, ↓am_bfu lp1.1, am_bfu lp1.1, ↓am_oc_of lp1.1, am_oc_of lp1.1, ↓am_bdf ll.obj.1, am_bdf ll.obj.1, ↓am_bfu ll.obj.1, am_bfu ll.obj.1, ↓am_oc_of ll.obj.1, am_oc_of ll.obj.1, ↓am_bra h1, am_bra h1, ↓am_bwa h1, am_bwa h1, c1, ↓w1, w1, ↓X8_figureAt_w lt, X8_figureAt_w lt, ↓X8_figureAt_w lt1, X8_figureAt_w lt1, ↓am_oc_of lt1.1, am_oc_of lt1.1, ↓w2, w2, ↓w3, w3]
            · rw [show ns + 1 + z3.length = ns + (z3.length + 1) by omega] at l3
              exact l3
            · exact l4
          · rw [if_pos q2] at e
            obtain ⟨e1, -, -⟩ : pl_sf X n p m = -9 ∧ [] = Qr ∧ [] = Sr := by simpa using e
            exact absurd e1 q2
        · rw [if_neg q3] at e
          obtain ⟨e1, -, -⟩ : p = -9 ∧ [] = Qr ∧ [] = Sr := by simpa using e
          omega
theorem X8_tell_w {X : List Int} {n : Nat} {Q : List pl_Q} {S : List (Int × Int)} (e : pl_text X n = (-9, Q, S)) (lt : TextC h X n) (lp : PartsC h 3 nb ns fr la ce ki wi) (ll : LayC h 78 B A Wo ni) : ∃ h', (∀ E K, Wp E 75 0 [some (am_r (some 1)), some (am_r (some 3)), some (am_r (some 78)), none] [] h K = K none h') ∧ PartsC h' 3 Q.length S.length (pl_put fr 0 (Q.map fun q => q.1)) (pl_put la 0 (Q.map fun q => q.2.1)) (pl_put ce 0 (Q.map fun q => q.2.2.1)) (pl_put ki 0 (Q.map fun q => q.2.2.2)) (pl_put wi 0 (S.map fun q => q.2)) ∧ LayC h' 78 (List.range Q.length) (pl_put [0, 0, 0] 0 (S.map fun q => q.1)) [0, 0, 0] 0 ∧ FrB h h' := by
  have e2 : pl_pr X n 50 1 0 0 0 = (-9, Q, S) := by
    unfold pl_text at e
    split at e
    · simp at e
    · exact e
  obtain ⟨h1, w1, l1, f1⟩ := X4_clear_w lp
  have ll1 := ll.fr f1 (by omega)
  obtain ⟨h2, w2, l2, f2⟩ := X3_clear_w ll1
  have lp2 := l1.fr f2 (by omega)
  have g1 : FrB h h1 := FrB.ofP f1
  have g2 : FrB h1 h2 := FrB.ofL f2 (by omega) (by omega)
  have lt2 := (lt.frB g1).frB g2
  have h3 := lt.2.2.2.1
  obtain ⟨h3', w3, l3, l4, f3⟩ := X8_tell_l 50 1 0 0 0 h2 _ _ _ _ _ _ _ Q S e2 (by omega) (by omega) (by omega) (by omega) lt2 lp2 l2
  rw [Nat.zero_add, Nat.zero_add] at l3
  rw [Nat.zero_add] at l4
  refine ⟨h3', fun E K => ?_, l3, l4, (g1.trans g2).trans f3⟩
  simp (disch := first | omega | (simp only [List.length_set]; omega) | rfl) only [↓e75_0, ↓e75_1, ↓e75_4, ↓e75_5, ↓e75_8, ↓e75_9, ↓am_ilp, ↓am_iln, ↓am_iep, ↓am_ien, ↓am_zlp, ↓am_zln, ↓am_zep, ↓am_zen, ↓am_zgp, ↓am_zgn, ↓am_zhp, ↓am_zhn, ↓am_b01, true_or, true_and, and_true, or_true, if_true, if_false, ↓am_bdl_z, ↓am_bdl_s, ↓am_bsl_z, ↓am_bsl_s, ↓am_k1_i, ↓am_k1_r, ↓am_k1_e, ↓am_k1_n, ↓am_bd_s, am_k1_t, eq_self, am_nl_i, am_nl_r, am_nl_e, am_nl_n, Option.toList_some, Option.toList_none, Option.map_some, Option.map_none, List.cons_append, List.nil_append, List.length_cons, List.length_nil, List.set_cons_zero, List.set_cons_succ, List.getElem?_cons_zero, List.getElem?_cons_succ, am_bd_s, ↓am_bdf lp.1, am_bdf lp.1, ↓am_bfu lp.1, am_bfu lp.1, ↓am_oc_of lp.1, am_oc_of lp.1, ↓am_bdf ll1.obj.1, am_bdf ll1.obj.1, ↓am_bfu ll1.obj.1, am_bfu ll1.obj.1, ↓am_oc_of ll1.obj.1, am_oc_of ll1.obj.1, ↓w1, ↓w2, ↓w3]
end TEL
