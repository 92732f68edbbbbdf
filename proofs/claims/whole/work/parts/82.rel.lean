/-! the two side by side -/
section ML
variable {C : Nat → am_C} {S : Nat → Int} {V : Nat → List Int} {nb ns : Nat}
theorem X10_toTake_no {s t : Int} (mp : MP S V nb ns) (hs : am_w s = s) (h : ¬ (0 ≤ s ∧ s < ns)) (E : List (List Int)) (K : Option am_V → am_H → Prop) : Wp E 151 0 [some (am_r (some 96)), some (am_i s), some (am_i t), none, none, none] [] (mk C S V) K = K (some (am_i (-1))) (mk C S V) := by
  have q1 : ¬ (0 ≤ am_w s ∧ am_w s < (ns : Int)) := by rw [hs]; exact h
  simp (disch := first | omega | (simp (disch := omega) only [up_eq, up_ne, si_len, List.length_set]; omega)) only [↓e151_0, ↓e151_1, ↓e151_2, ↓e151_5, ↓e151_8, ↓e151_9, ↓am_ilp, ↓am_iln, ↓am_iep, ↓am_ien, ↓am_zlp, ↓am_zln, ↓am_zep, ↓am_zen, ↓am_zgp, ↓am_zgn, ↓am_zhp, ↓am_zhn, ↓am_b01, true_or, true_and, and_true, or_true, if_true, if_false, ↓am_bdl_z, ↓am_bdl_s, ↓am_bsl_z, ↓am_bsl_s, ↓am_k1_i, ↓am_k1_r, ↓am_k1_e, ↓am_k1_n, ↓am_bd_s, am_k1_t, eq_self, am_nl_i, am_nl_r, am_nl_e, am_nl_n, Option.toList_some, Option.toList_none, Option.map_some, Option.map_none, List.cons_append, List.nil_append, List.length_cons, List.length_nil, List.set_cons_zero, List.set_cons_succ, List.getElem?_cons_zero, List.getElem?_cons_succ, am_bd_s, ↓am_tls, ↓am_tln, ↓mk_oc, ↓ma_r, ↓ma_w, ↓mz_r, ↓mz_w, ↓mr0, ↓mr1, ↓mr2, ↓mr3, ↓mr4, ↓mr5, ↓mr6, ↓mr7, ↓mr8, ↓mr9, ↓mr10, ↓mr11, ↓mr12, ↓mr13, ↓mr14, ↓mr15, ↓mr16, ↓mr17, ↓mr18, ↓mr19, ↓mr20, ↓mr21, ↓mr22, ↓mr23, ↓mr24, ↓mr25, ↓mr26, ↓mr27, ↓mw0, ↓mw1, ↓mw11, ↓mw12, ↓mw13, ↓mw15, ↓mw16, ↓mw17, ↓mw19, ↓mw20, ↓mw22, ↓mw25, up_eq, up_ne, up_up, si_len, ↓X10_isSleeper_w mp, ↓am_ifb, ↓if_neg q1]
theorem X10_toTake_out {s t : Int} (mp : MP S V nb ns) (hs : am_w s = s) (h : 0 ≤ s ∧ s < ns) (ht : am_w t = t) (h2 : ¬ (0 ≤ t ∧ t ≤ 10)) (E : List (List Int)) (K : Option am_V → am_H → Prop) : Wp E 151 0 [some (am_r (some 96)), some (am_i s), some (am_i t), none, none, none] [] (mk C S V) K = K (some (am_i (-2))) (mk C S V) := by
  have q1 : 0 ≤ am_w s ∧ am_w s < (ns : Int) := by rw [hs]; exact h
  simp (disch := first | omega | (simp (disch := omega) only [up_eq, up_ne, si_len, List.length_set]; omega)) only [↓e151_0, ↓e151_1, ↓e151_2, ↓e151_5, ↓e151_8, ↓e151_9, ↓e151_10, ↓e151_11, ↓e151_14, ↓e151_17, ↓e151_19, ↓am_ilp, ↓am_iln, ↓am_iep, ↓am_ien, ↓am_zlp, ↓am_zln, ↓am_zep, ↓am_zen, ↓am_zgp, ↓am_zgn, ↓am_zhp, ↓am_zhn, ↓am_b01, true_or, true_and, and_true, or_true, if_true, if_false, ↓am_bdl_z, ↓am_bdl_s, ↓am_bsl_z, ↓am_bsl_s, ↓am_k1_i, ↓am_k1_r, ↓am_k1_e, ↓am_k1_n, ↓am_bd_s, am_k1_t, eq_self, am_nl_i, am_nl_r, am_nl_e, am_nl_n, Option.toList_some, Option.toList_none, Option.map_some, Option.map_none, List.cons_append, List.nil_append, List.length_cons, List.length_nil, List.set_cons_zero, List.set_cons_succ, List.getElem?_cons_zero, List.getElem?_cons_succ, am_bd_s, ↓am_tls, ↓am_tln, ↓mk_oc, ↓ma_r, ↓ma_w, ↓mz_r, ↓mz_w, ↓mr0, ↓mr1, ↓mr2, ↓mr3, ↓mr4, ↓mr5, ↓mr6, ↓mr7, ↓mr8, ↓mr9, ↓mr10, ↓mr11, ↓mr12, ↓mr13, ↓mr14, ↓mr15, ↓mr16, ↓mr17, ↓mr18, ↓mr19, ↓mr20, ↓mr21, ↓mr22, ↓mr23, ↓mr24, ↓mr25, ↓mr26, ↓mr27, ↓mw0, ↓mw1, ↓mw11, ↓mw12, ↓mw13, ↓mw15, ↓mw16, ↓mw17, ↓mw19, ↓mw20, ↓mw22, ↓mw25, up_eq, up_ne, up_up, si_len, ↓X10_isSleeper_w mp, ↓am_ifb, ↓if_pos q1, ↓X10_isTime_w ht, ↓if_neg h2]
theorem X10_toTurn_no {s t : Int} (mp : MP S V nb ns) (hs : am_w s = s) (h : ¬ (0 ≤ s ∧ s < ns)) (E : List (List Int)) (K : Option am_V → am_H → Prop) : Wp E 153 0 [some (am_r (some 96)), some (am_i s), some (am_i t), none] [] (mk C S V) K = K (some (am_i (-1))) (mk C S V) := by
  have q1 : ¬ (0 ≤ am_w s ∧ am_w s < (ns : Int)) := by rw [hs]; exact h
  simp (disch := first | omega | (simp (disch := omega) only [up_eq, up_ne, si_len, List.length_set]; omega)) only [↓e153_0, ↓e153_1, ↓e153_2, ↓e153_5, ↓e153_8, ↓e153_9, ↓am_ilp, ↓am_iln, ↓am_iep, ↓am_ien, ↓am_zlp, ↓am_zln, ↓am_zep, ↓am_zen, ↓am_zgp, ↓am_zgn, ↓am_zhp, ↓am_zhn, ↓am_b01, true_or, true_and, and_true, or_true, if_true, if_false, ↓am_bdl_z, ↓am_bdl_s, ↓am_bsl_z, ↓am_bsl_s, ↓am_k1_i, ↓am_k1_r, ↓am_k1_e, ↓am_k1_n, ↓am_bd_s, am_k1_t, eq_self, am_nl_i, am_nl_r, am_nl_e, am_nl_n, Option.toList_some, Option.toList_none, Option.map_some, Option.map_none, List.cons_append, List.nil_append, List.length_cons, List.length_nil, List.set_cons_zero, List.set_cons_succ, List.getElem?_cons_zero, List.getElem?_cons_succ, am_bd_s, ↓am_tls, ↓am_tln, ↓mk_oc, ↓ma_r, ↓ma_w, ↓mz_r, ↓mz_w, ↓mr0, ↓mr1, ↓mr2, ↓mr3, ↓mr4, ↓mr5, ↓mr6, ↓mr7, ↓mr8, ↓mr9, ↓mr10, ↓mr11, ↓mr12, ↓mr13, ↓mr14, ↓mr15, ↓mr16, ↓mr17, ↓mr18, ↓mr19, ↓mr20, ↓mr21, ↓mr22, ↓mr23, ↓mr24, ↓mr25, ↓mr26, ↓mr27, ↓mw0, ↓mw1, ↓mw11, ↓mw12, ↓mw13, ↓mw15, ↓mw16, ↓mw17, ↓mw19, ↓mw20, ↓mw22, ↓mw25, up_eq, up_ne, up_up, si_len, ↓X10_isSleeper_w mp, ↓am_ifb, ↓if_neg q1]
theorem X10_toTurn_out {s t : Int} (mp : MP S V nb ns) (hs : am_w s = s) (h : 0 ≤ s ∧ s < ns) (ht : am_w t = t) (h2 : ¬ (0 ≤ t ∧ t ≤ 10)) (E : List (List Int)) (K : Option am_V → am_H → Prop) : Wp E 153 0 [some (am_r (some 96)), some (am_i s), some (am_i t), none] [] (mk C S V) K = K (some (am_i (-2))) (mk C S V) := by
  have q1 : 0 ≤ am_w s ∧ am_w s < (ns : Int) := by rw [hs]; exact h
  simp (disch := first | omega | (simp (disch := omega) only [up_eq, up_ne, si_len, List.length_set]; omega)) only [↓e153_0, ↓e153_1, ↓e153_2, ↓e153_5, ↓e153_8, ↓e153_9, ↓e153_10, ↓e153_11, ↓e153_14, ↓e153_17, ↓e153_19, ↓am_ilp, ↓am_iln, ↓am_iep, ↓am_ien, ↓am_zlp, ↓am_zln, ↓am_zep, ↓am_zen, ↓am_zgp, ↓am_zgn, ↓am_zhp, ↓am_zhn, ↓am_b01, true_or, true_and, and_true, or_true, if_true, if_false, ↓am_bdl_z, ↓am_bdl_s, ↓am_bsl_z, ↓am_bsl_s, ↓am_k1_i, ↓am_k1_r, ↓am_k1_e, ↓am_k1_n, ↓am_bd_s, am_k1_t, eq_self, am_nl_i, am_nl_r, am_nl_e, am_nl_n, Option.toList_some, Option.toList_none, Option.map_some, Option.map_none, List.cons_append, List.nil_append, List.length_cons, List.length_nil, List.set_cons_zero, List.set_cons_succ, List.getElem?_cons_zero, List.getElem?_cons_succ, am_bd_s, ↓am_tls, ↓am_tln, ↓mk_oc, ↓ma_r, ↓ma_w, ↓mz_r, ↓mz_w, ↓mr0, ↓mr1, ↓mr2, ↓mr3, ↓mr4, ↓mr5, ↓mr6, ↓mr7, ↓mr8, ↓mr9, ↓mr10, ↓mr11, ↓mr12, ↓mr13, ↓mr14, ↓mr15, ↓mr16, ↓mr17, ↓mr18, ↓mr19, ↓mr20, ↓mr21, ↓mr22, ↓mr23, ↓mr24, ↓mr25, ↓mr26, ↓mr27, ↓mw0, ↓mw1, ↓mw11, ↓mw12, ↓mw13, ↓mw15, ↓mw16, ↓mw17, ↓mw19, ↓mw20, ↓mw22, ↓mw25, up_eq, up_ne, up_up, si_len, ↓X10_isSleeper_w mp, ↓am_ifb, ↓if_pos q1, ↓X10_isTime_w ht, ↓if_neg h2]
theorem X10_toTuck_no {s t : Int} (mp : MP S V nb ns) (hs : am_w s = s) (h : ¬ (0 ≤ s ∧ s < ns)) (E : List (List Int)) (K : Option am_V → am_H → Prop) : Wp E 154 0 [some (am_r (some 96)), some (am_i s), some (am_i t), none, none] [] (mk C S V) K = K (some (am_i (-1))) (mk C S V) := by
  have q1 : ¬ (0 ≤ am_w s ∧ am_w s < (ns : Int)) := by rw [hs]; exact h
  simp (disch := first | omega | (simp (disch := omega) only [up_eq, up_ne, si_len, List.length_set]; omega)) only [↓e154_0, ↓e154_1, ↓e154_2, ↓e154_5, ↓e154_8, ↓e154_9, ↓am_ilp, ↓am_iln, ↓am_iep, ↓am_ien, ↓am_zlp, ↓am_zln, ↓am_zep, ↓am_zen, ↓am_zgp, ↓am_zgn, ↓am_zhp, ↓am_zhn, ↓am_b01, true_or, true_and, and_true, or_true, if_true, if_false, ↓am_bdl_z, ↓am_bdl_s, ↓am_bsl_z, ↓am_bsl_s, ↓am_k1_i, ↓am_k1_r, ↓am_k1_e, ↓am_k1_n, ↓am_bd_s, am_k1_t, eq_self, am_nl_i, am_nl_r, am_nl_e, am_nl_n, Option.toList_some, Option.toList_none, Option.map_some, Option.map_none, List.cons_append, List.nil_append, List.length_cons, List.length_nil, List.set_cons_zero, List.set_cons_succ, List.getElem?_cons_zero, List.getElem?_cons_succ, am_bd_s, ↓am_tls, ↓am_tln, ↓mk_oc, ↓ma_r, ↓ma_w, ↓mz_r, ↓mz_w, ↓mr0, ↓mr1, ↓mr2, ↓mr3, ↓mr4, ↓mr5, ↓mr6, ↓mr7, ↓mr8, ↓mr9, ↓mr10, ↓mr11, ↓mr12, ↓mr13, ↓mr14, ↓mr15, ↓mr16, ↓mr17, ↓mr18, ↓mr19, ↓mr20, ↓mr21, ↓mr22, ↓mr23, ↓mr24, ↓mr25, ↓mr26, ↓mr27, ↓mw0, ↓mw1, ↓mw11, ↓mw12, ↓mw13, ↓mw15, ↓mw16, ↓mw17, ↓mw19, ↓mw20, ↓mw22, ↓mw25, up_eq, up_ne, up_up, si_len, ↓X10_isSleeper_w mp, ↓am_ifb, ↓if_neg q1]
theorem X10_toTuck_out {s t : Int} (mp : MP S V nb ns) (hs : am_w s = s) (h : 0 ≤ s ∧ s < ns) (ht : am_w t = t) (h2 : ¬ (0 ≤ t ∧ t ≤ 9)) (E : List (List Int)) (K : Option am_V → am_H → Prop) : Wp E 154 0 [some (am_r (some 96)), some (am_i s), some (am_i t), none, none] [] (mk C S V) K = K (some (am_i (-2))) (mk C S V) := by
  have r := am_w_rng t
  have q0 : 0 ≤ am_w s ∧ am_w s < (ns : Int) := by rw [hs]; exact h
  have q1 : ¬ (0 ≤ am_w t ∧ am_w t ≤ 9) := by rw [ht]; exact h2
  simp (disch := first | omega | (simp (disch := omega) only [up_eq, up_ne, si_len, List.length_set]; omega)) only [↓e154_0, ↓e154_1, ↓e154_2, ↓e154_5, ↓e154_8, ↓e154_9, ↓e154_10, ↓e154_11, ↓e154_12, ↓e154_13, ↓e154_16, ↓e154_19, ↓e154_22, ↓e154_24, ↓am_ilp, ↓am_iln, ↓am_iep, ↓am_ien, ↓am_zlp, ↓am_zln, ↓am_zep, ↓am_zen, ↓am_zgp, ↓am_zgn, ↓am_zhp, ↓am_zhn, ↓am_b01, true_or, true_and, and_true, or_true, if_true, if_false, ↓am_bdl_z, ↓am_bdl_s, ↓am_bsl_z, ↓am_bsl_s, ↓am_k1_i, ↓am_k1_r, ↓am_k1_e, ↓am_k1_n, ↓am_bd_s, am_k1_t, eq_self, am_nl_i, am_nl_r, am_nl_e, am_nl_n, Option.toList_some, Option.toList_none, Option.map_some, Option.map_none, List.cons_append, List.nil_append, List.length_cons, List.length_nil, List.set_cons_zero, List.set_cons_succ, List.getElem?_cons_zero, List.getElem?_cons_succ, am_bd_s, ↓am_tls, ↓am_tln, ↓mk_oc, ↓ma_r, ↓ma_w, ↓mz_r, ↓mz_w, ↓mr0, ↓mr1, ↓mr2, ↓mr3, ↓mr4, ↓mr5, ↓mr6, ↓mr7, ↓mr8, ↓mr9, ↓mr10, ↓mr11, ↓mr12, ↓mr13, ↓mr14, ↓mr15, ↓mr16, ↓mr17, ↓mr18, ↓mr19, ↓mr20, ↓mr21, ↓mr22, ↓mr23, ↓mr24, ↓mr25, ↓mr26, ↓mr27, ↓mw0, ↓mw1, ↓mw11, ↓mw12, ↓mw13, ↓mw15, ↓mw16, ↓mw17, ↓mw19, ↓mw20, ↓mw22, ↓mw25, up_eq, up_ne, up_up, si_len, ↓X10_isSleeper_w mp, ↓X10_in_w, ↓am_ifb, ↓if_pos q0, ↓if_neg q1]
theorem X10_lay_e {h h' : am_H} {fs : List am_V} {q a : Int} (c : h[96]? = some (am_o 10 fs)) (w : ∀ E K, Wp E 141 0 [some (am_r (some 96)), some (am_i q), some (am_i 0)] [] h K = K (some (am_i a)) h') (E : List (List Int)) (K : Option am_V → am_H → Prop) : Wp E 142 0 [some (am_r (some 96)), some (am_i q)] [] h K = K (some (am_i a)) h' := by
  simp (disch := first | omega | (simp only [List.length_set]; omega) | rfl) only [↓e142_0, ↓e142_1, ↓e142_2, ↓e142_3, ↓e142_6, ↓am_ilp, ↓am_iln, ↓am_iep, ↓am_ien, ↓am_zlp, ↓am_zln, ↓am_zep, ↓am_zen, ↓am_zgp, ↓am_zgn, ↓am_zhp, ↓am_zhn, ↓am_b01, true_or, true_and, and_true, or_true, if_true, if_false, ↓am_bdl_z, ↓am_bdl_s, ↓am_bsl_z, ↓am_bsl_s, ↓am_k1_i, ↓am_k1_r, ↓am_k1_e, ↓am_k1_n, ↓am_bd_s, am_k1_t, eq_self, am_nl_i, am_nl_r, am_nl_e, am_nl_n, Option.toList_some, Option.toList_none, Option.map_some, Option.map_none, List.cons_append, List.nil_append, List.length_cons, List.length_nil, List.set_cons_zero, List.set_cons_succ, List.getElem?_cons_zero, List.getElem?_cons_succ, am_bd_s, ↓am_tls, ↓am_bdf c, am_bdf c, ↓am_bfu c, am_bfu c, ↓am_oc_of c, am_oc_of c, ↓w]
theorem X10_tuck_e {h h' : am_H} {fs : List am_V} {q a : Int} (c : h[96]? = some (am_o 10 fs)) (w : ∀ E K, Wp E 141 0 [some (am_r (some 96)), some (am_i q), some (am_i 1)] [] h K = K (some (am_i a)) h') (E : List (List Int)) (K : Option am_V → am_H → Prop) : Wp E 143 0 [some (am_r (some 96)), some (am_i q)] [] h K = K (some (am_i a)) h' := by
  simp (disch := first | omega | (simp only [List.length_set]; omega) | rfl) only [↓e143_0, ↓e143_1, ↓e143_2, ↓e143_3, ↓e143_6, ↓am_ilp, ↓am_iln, ↓am_iep, ↓am_ien, ↓am_zlp, ↓am_zln, ↓am_zep, ↓am_zen, ↓am_zgp, ↓am_zgn, ↓am_zhp, ↓am_zhn, ↓am_b01, true_or, true_and, and_true, or_true, if_true, if_false, ↓am_bdl_z, ↓am_bdl_s, ↓am_bsl_z, ↓am_bsl_s, ↓am_k1_i, ↓am_k1_r, ↓am_k1_e, ↓am_k1_n, ↓am_bd_s, am_k1_t, eq_self, am_nl_i, am_nl_r, am_nl_e, am_nl_n, Option.toList_some, Option.toList_none, Option.map_some, Option.map_none, List.cons_append, List.nil_append, List.length_cons, List.length_nil, List.set_cons_zero, List.set_cons_succ, List.getElem?_cons_zero, List.getElem?_cons_succ, am_bd_s, ↓am_tls, ↓am_bdf c, am_bdf c, ↓am_bfu c, am_bfu c, ↓am_oc_of c, am_oc_of c, ↓w]
end ML
section RE
variable {C : Nat → am_C} {S S' : Nat → Int} {V V' : Nat → List Int} {n nb ns nx len : Nat} {L : pl_L} {Ls Ks : List pl_L} {Q : List (Nat × Nat)} {X fr la ce ki wi kf : List Int} {sd : Int}
/-- every bed of the row and of what is kept is a bed -/
def Gb (nb ns : Nat) (wi : List Int) (M : pl_L) : Prop := WfL nb ns wi M ∧ Dj ns wi M.2.1
def Gw (nb ns : Nat) (wi : List Int) (L : pl_L) (nx len : Nat) (Ls : List pl_L) (kf : List Int) (Ks : List pl_L) : Prop := Gb nb ns wi L ∧ (∀ j < len, ∀ M, Ls[(nx + 13 - j) % 14]? = some M → Gb nb ns wi M) ∧ ∀ (i : Nat) (M : pl_L), kf.getD i 0 = 1 → Ks[i]? = some M → Gb nb ns wi M
def Md (S : Nat → Int) (V : Nat → List Int) (n nb ns : Nat) (L : pl_L) (nx len : Nat) (Ls : List pl_L) (Q : List (Nat × Nat)) (Ks : List pl_L) : Prop := MP S V nb ns ∧ Ly (V 102) 0 L ∧ MT S V n ∧ MW S V nx len Ls ∧ MS S V Q ∧ MK V Ks ∧ Gw nb ns (V 101) L nx len Ls (V 111) Ks
def CV (h : am_H) (S : Nat → Int) (V : Nat → List Int) (n nb ns : Nat) (L : pl_L) (nx len : Nat) (Ls : List pl_L) (Q : List (Nat × Nat)) (Ks : List pl_L) : Prop := CI h (V 106) n nb ns (V 97) (V 98) (V 99) (V 100) (V 101) L nx len Ls Q (V 111) Ks (S 25)
def Rel (h : am_H) : Prop := ∃ C S V n nb ns L nx len Ls Q Ks, h = mk C S V ∧ CV (mk C S V) S V n nb ns L nx len Ls Q Ks ∧ Md S V n nb ns L nx len Ls Q Ks
def Op (E : List (List Int)) (kc km : Nat) (a b : am_L) (h : am_H) : Prop := ∃ (x : Int) (C : Nat → am_C) (S : Nat → Int) (V : Nat → List Int) (h2 : am_H), (∀ K, Wp E kc 0 (some (am_r (some 0)) :: a) [] h K = K (some (am_i x)) (mk C S V)) ∧ (∀ K, Wp E km 0 (some (am_r (some 96)) :: b) [] (mk C S V) K = K (some (am_i x)) h2) ∧ Rel h2
def OpL (E : List (List Int)) (kc km : Nat) (a b : am_L) (h : am_H) : Prop := ∃ (x : Int) (C : Nat → am_C) (S : Nat → Int) (V : Nat → List Int) (h2 : am_H), (∀ K, Wp E kc 0 (some (am_r (some 0)) :: a) [] h K = K (some (am_l x)) (mk C S V)) ∧ (∀ K, Wp E km 0 (some (am_r (some 96)) :: b) [] (mk C S V) K = K (some (am_l x)) h2) ∧ Rel h2
theorem mk_lt {i : Nat} (h : i < 96) : (mk C S' V')[i]? = (mk C S V)[i]? := by rw [mk_c h, mk_c h]
theorem mk_ag {a b : Nat} (h : b ≤ 96) : Ag (mk C S V) (mk C S' V') a b := fun i i0 i1 => mk_lt (by omega)
theorem Up.mk {h' : am_H} (u : Up (mk C S V) h') : ∃ C', h' = mk C' S V := by
  refine ⟨fun i => h'.getD i (am_a 0 []), List.ext_getElem? fun i => ?_⟩
  have l : h'.length = 113 := u.1.trans mk_len
  by_cases c : i < 96
  · rw [mk_c c, List.getD_eq_getElem?_getD, List.getElem?_eq_getElem (by omega)]
    rfl
  · by_cases d : i < 113
    · rw [u.2 i (by omega), mk_at d, mk_at d, if_neg c, if_neg c]
    · rw [List.getElem?_eq_none (by omega), List.getElem?_eq_none (by rw [mk_len]; omega)]
theorem CI.mk (ci : CI (mk C S V) X n nb ns fr la ce ki wi L nx len Ls Q kf Ks sd) : CI (mk C S' V') X n nb ns fr la ce ki wi L nx len Ls Q kf Ks sd := by
  obtain ⟨c0, ct, ⟨tm, lf⟩, ⟨tk, lp⟩, ⟨o1, o2, w1, w2, lc⟩, cs, cr, cl, ⟨M, lm⟩, c86, c87, k1, k2, k3⟩ := ci
  refine ⟨(mk_lt (by omega)).trans c0, ct.ag (mk_ag (by omega)), ⟨tm, lf.ag (mk_ag (by omega))⟩, ⟨tk, lp.ag (mk_ag (by omega))⟩, ⟨o1, o2, w1, w2, lc.ag (mk_ag (by omega))⟩, cs.ag (mk_ag (by omega)), cr.ag (mk_ag (by omega)), cl.ag (mk_ag (by omega)), ⟨M, lm.ag (mk_ag (by omega))⟩, (mk_lt (by omega)).trans c86, (mk_lt (by omega)).trans c87, k1, k2, fun i M' e => (k3 i M' e).ag (mk_ag ?_)⟩
  have := (List.getElem?_eq_some_iff.mp e).1
  omega
theorem MT.eq (mt : MT S V n) (e1 : S' 15 = S 15) (e2 : V' 106 = V 106) (e3 : V' 103 = V 103) (e4 : V' 104 = V 104) (e5 : V' 105 = V 105) : MT S' V' n := by
  unfold MT at mt ⊢
  rw [e1, e2, e3, e4, e5]
  exact mt
theorem MS.eq (ms : MS S V Q) (e1 : S' 22 = S 22) (e2 : V' 109 = V 109) (e3 : V' 110 = V 110) : MS S' V' Q := by
  unfold MS at ms ⊢
  rw [e1, e2, e3]
  exact ms
theorem MW.eq (mw : MW S V nx len Ls) (e1 : S' 19 = S 19) (e2 : S' 20 = S 20) (e3 : V' 108 = V 108) : MW S' V' nx len Ls := by
  unfold MW at mw ⊢
  rw [e1, e2, e3]
  exact mw
theorem MK.eq (mk' : MK V Ks) (e1 : V' 111 = V 111) (e2 : V' 112 = V 112) : MK V' Ks := by
  unfold MK at mk' ⊢
  rw [e1, e2]
  exact mk'
theorem MP.eq (mp : MP S V nb ns) (e0 : S' 0 = S 0) (e1 : S' 1 = S 1) (a1 : V' 97 = V 97) (a2 : V' 98 = V 98) (a3 : V' 99 = V 99) (a4 : V' 100 = V 100) (a5 : V' 101 = V 101) (a6 : V' 102 = V 102) (a7 : V' 107 = V 107) : MP S' V' nb ns := by
  unfold MP at mp ⊢
  rw [e0, e1, a1, a2, a3, a4, a5, a6, a7]
  exact mp
theorem Md.sc (md : Md S V n nb ns L nx len Ls Q Ks) (c : Sc V V') : Md S V' n nb ns L nx len Ls Q Ks := by
  obtain ⟨mp, ly, mt, mw, ms, mk', gw⟩ := md
  refine ⟨c.mp mp, c.ly ly, mt.eq rfl (c.at (by omega) (by omega)) (c.at (by omega) (by omega)) (c.at (by omega) (by omega)) (c.at (by omega) (by omega)), mw.eq rfl rfl (c.at (by omega) (by omega)), ms.sc c, mk'.eq (c.at (by omega) (by omega)) (c.at (by omega) (by omega)), ?_⟩
  rw [c.at (by omega) (by omega), c.at (by omega) (by omega)]
  exact gw
theorem CV.sc {h : am_H} (cv : CV h S V n nb ns L nx len Ls Q Ks) (c : Sc V V') : CV h S V' n nb ns L nx len Ls Q Ks := by
  unfold CV at cv ⊢
  rw [c.at (i := 106) (by omega) (by omega), c.at (i := 97) (by omega) (by omega), c.at (i := 98) (by omega) (by omega), c.at (i := 99) (by omega) (by omega), c.at (i := 100) (by omega) (by omega), c.at (i := 101) (by omega) (by omega), c.at (i := 111) (by omega) (by omega)]
  exact cv
variable {E : List (List Int)} {kc km : Nat} {a b : am_L} {x : Int}
theorem Op.of {h1 : am_H} (u : Up (mk C S V) h1) (w9 : ∀ K, Wp E kc 0 (some (am_r (some 0)) :: a) [] (mk C S V) K = K (some (am_i x)) h1) (m : ∀ C1, h1 = mk C1 S V → ∃ S' V' n nb ns L nx len Ls Q Ks, (∀ K, Wp E km 0 (some (am_r (some 96)) :: b) [] (mk C1 S V) K = K (some (am_i x)) (mk C1 S' V')) ∧ CV (mk C1 S V) S' V' n nb ns L nx len Ls Q Ks ∧ Md S' V' n nb ns L nx len Ls Q Ks) : Op E kc km a b (mk C S V) := by
  obtain ⟨C1, rfl⟩ := u.mk
  obtain ⟨S', V', n, nb, ns, L, nx, len, Ls, Q, Ks, w, cv, md⟩ := m C1 rfl
  exact ⟨x, C1, S, V, _, w9, w, C1, S', V', n, nb, ns, L, nx, len, Ls, Q, Ks, rfl, CI.mk cv, md⟩
/-- the model reckons only -/
theorem Op.sc {h1 : am_H} (md : Md S V n nb ns L nx len Ls Q Ks) (w9 : ∀ E K, Wp E kc 0 (some (am_r (some 0)) :: a) [] (mk C S V) K = K (some (am_i x)) h1) (cv : CI h1 (V 106) n nb ns (V 97) (V 98) (V 99) (V 100) (V 101) L nx len Ls Q (V 111) Ks (S 25)) (u : Up (mk C S V) h1) (m : ∀ C1 : Nat → am_C, ∃ V', Sc V V' ∧ ∀ E K, Wp E km 0 (some (am_r (some 96)) :: b) [] (mk C1 S V) K = K (some (am_i x)) (mk C1 S V')) : Op E kc km a b (mk C S V) := by
  refine Op.of u (w9 E) fun C1 e => ?_
  obtain ⟨V', c, w⟩ := m C1
  exact ⟨S, V', n, nb, ns, L, nx, len, Ls, Q, Ks, w E, CV.sc (e ▸ cv) c, md.sc c⟩
/-- neither changes a thing -/
theorem Op.rf (cv : CV (mk C S V) S V n nb ns L nx len Ls Q Ks) (md : Md S V n nb ns L nx len Ls Q Ks) (w9 : ∀ K, Wp E kc 0 (some (am_r (some 0)) :: a) [] (mk C S V) K = K (some (am_i x)) (mk C S V)) (m : ∀ K, Wp E km 0 (some (am_r (some 96)) :: b) [] (mk C S V) K = K (some (am_i x)) (mk C S V)) : Op E kc km a b (mk C S V) := ⟨x, C, S, V, _, w9, m, C, S, V, n, nb, ns, L, nx, len, Ls, Q, Ks, rfl, cv, md⟩
/-- an act -/
theorem Gw.act {L' : pl_L} (gw : Gw nb ns wi L nx len Ls kf Ks) (hn : nx < 14) (ln : len ≤ 14) (g' : Gb nb ns wi L') : Gw nb ns wi L' ((nx + 1) % 14) (min (len + 1) 14) (Ls.set nx L) kf Ks := by
  obtain ⟨g0, g1, g2⟩ := gw
  refine ⟨g', fun j hj M e => ?_, g2⟩
  have hj' : j < 14 ∧ j < len + 1 := by omega
  by_cases c : j = 0
  · subst c
    rw [show ((nx + 1) % 14 + 13 - 0) % 14 = nx by omega, List.getElem?_set] at e
    rw [if_pos rfl] at e
    split at e
    · injection e with e
      subst e
      exact g0
    · cases e
  · rw [List.getElem?_set_ne (by omega)] at e
    refine g1 (j - 1) (by omega) M ?_
    rw [← e]
    congr 1
    omega
theorem Op.ar {k q : Nat} {ans : pl_L → Int} (cv : CV (mk C S V) S V n nb ns L nx len Ls Q Ks) (md : Md S V n nb ns L nx len Ls Q Ks) (no : pl_do nb ns (V 97) (V 98) (V 99) (V 100) (V 101) L k q = none → ∃ h1, (∀ E K, Wp E kc 0 (some (am_r (some 0)) :: a) [] (mk C S V) K = K (some (am_i (-3))) h1) ∧ CI h1 (V 106) n nb ns (V 97) (V 98) (V 99) (V 100) (V 101) L nx len Ls Q (V 111) Ks (S 25) ∧ Up (mk C S V) h1) (so : ∀ L', pl_do nb ns (V 97) (V 98) (V 99) (V 100) (V 101) L k q = some L' → ∃ h1, (∀ E K, Wp E kc 0 (some (am_r (some 0)) :: a) [] (mk C S V) K = K (some (am_i (ans L'))) h1) ∧ CI h1 (V 106) n nb ns (V 97) (V 98) (V 99) (V 100) (V 101) L' ((nx + 1) % 14) (min (len + 1) 14) (Ls.set nx L) Q (V 111) Ks (S 25) ∧ Up (mk C S V) h1) (ar : ∀ C1, AR C1 S V nb ns L nx len Ls (fun E K => Wp E km 0 (some (am_r (some 96)) :: b) [] (mk C1 S V) K) ans (pl_do nb ns (V 97) (V 98) (V 99) (V 100) (V 101) L k q)) : Op E kc km a b (mk C S V) := by
  cases e : pl_do nb ns (V 97) (V 98) (V 99) (V 100) (V 101) L k q with
  | none =>
    obtain ⟨h1, w9, ci, u⟩ := no e
    rw [e] at ar
    exact Op.of u (w9 E) fun C1 e1 => ⟨S, V, n, nb, ns, L, nx, len, Ls, Q, Ks, (ar C1) E, (e1 ▸ ci : CI (mk C1 S V) _ _ _ _ _ _ _ _ _ _ _ _ _ _ _ _ _), md⟩
  | some L' =>
    obtain ⟨h1, w9, ci, u⟩ := so L' e
    rw [e] at ar
    refine Op.of u (w9 E) fun C1 e1 => ?_
    obtain ⟨S', V', w, mp', ly', mw', k1, k2⟩ := ar C1
    obtain ⟨mp, ly, mt, mw, ms, mk', gw⟩ := md
    have g0 := gw.1
    have l3 := ly.2.2.2.1
    have gb : Gb nb ns (V 101) L' := ⟨pl_do_wf l3 mp.2.2.2.1 g0.1 e, pl_do_dj l3 mp.2.2.2.1 g0.1 mp.2.2.2.2.2.2.2.2.2.2.2.2 g0.2 e⟩
    have v1 : V' 101 = V 101 := k2 101 (by decide)
    have v2 : V' 111 = V 111 := k2 111 (by decide)
    refine ⟨S', V', n, nb, ns, L', _, _, _, Q, Ks, w E, ?_, mp', ly', mt.eq (k1 _ (by decide)) (k2 _ (by decide)) (k2 _ (by decide)) (k2 _ (by decide)) (k2 _ (by decide)), mw', ms.eq (k1 _ (by decide)) (k2 _ (by decide)) (k2 _ (by decide)), mk'.eq v2 (k2 _ (by decide)), ?_⟩
    · unfold CV
      rw [v1, v2, k2 106 (by decide), k2 97 (by decide), k2 98 (by decide), k2 99 (by decide), k2 100 (by decide), k1 25 (by decide), ← e1]
      exact ci
    · rw [v1, v2]
      exact gw.act mw.2.2.1 mw.2.2.2.1 gb
end RE
