/-! the model: the time of a cell, where one wakes -/
theorem pl_len_filter {p : Nat → Bool} : ∀ (B : List Nat) (a : Int), B.foldl (fun a x => a + pl_b (p x = true)) a = a + ((B.filter p).length : Int)
  | [], a => by simp
  | x :: B, a => by
    rw [List.foldl_cons, pl_len_filter B]
    by_cases q : p x = true
    · rw [List.filter_cons_of_pos q, List.length_cons, pl_b, if_pos q]
      omega
    · rw [List.filter_cons_of_neg q, pl_b, if_neg q]
      omega
/-- the first that counts -/
def m_tm (p : Nat → Bool) (cen : Nat → Int) : List Nat → Int
  | [] => 10
  | x :: S => if p x = true then cen x else m_tm p cen S
theorem m_tm_eq {fr la ce ki : List Int} {B : List Nat} {c : Nat} : m_tm (fun q => pl_cov fr la c q && (!(decide (ki.getD q 0 = 1) && decide (1 < (B.filter (pl_cov fr la c)).length)) && !(decide (ki.getD q 0 = 3) && decide (c % 2 = 1)))) (pl_cen ce ki c) B = pl_tm fr la ce ki B c := by
  unfold pl_tm
  rw [List.find?_filter]
  simp only [Bool.decide_and, Bool.decide_eq_true]
  generalize (B.filter (pl_cov fr la c)).length = n
  induction B with
  | nil => rfl
  | cons x B ih =>
    rw [m_tm, List.find?_cons]
    by_cases q : (pl_cov fr la c x && (!(decide (ki.getD x 0 = 1) && decide (1 < n)) && !(decide (ki.getD x 0 = 3) && decide (c % 2 = 1)))) = true
    · rw [if_pos q, q]
    · rw [if_neg q, ih, Bool.eq_false_iff.mpr q]
section MTM
variable {E : List (List Int)} {K : Option am_V → am_H → Prop} {C : Nat → am_C} {S : Nat → Int} {V : Nat → List Int} {nb ns : Nat} {L : pl_L}
theorem X10_lieOn_w {lv c : Int} (mp : MP S V nb ns) (ly : Ly (V 102) (14 * lv) L) (hlv : 0 ≤ lv ∧ lv ≤ 1) (hx : ∀ x ∈ L.1, x < nb) (hc : 0 ≤ c ∧ c < 6) : Wp E 126 0 [some (am_r (some 96)), some (am_i lv), some (am_i c), none, none] [] (mk C S V) K = K (some (am_i ((L.1.filter (pl_cov (V 97) (V 98) c.toNat)).length : Int))) (mk C S V) := by
  obtain ⟨s0, s1, hnb, hns, l97, l98, l99, l100, l101, l102, l107, pv, wv⟩ := id mp
  have h6 := ly.1
  have hh := ly.2.1
  have lo := am_foldz (W := fun i a => Wp E 126 5 [some (am_r (some 96)), some (am_i lv), some (am_i c), some (am_i a), some (am_i i)] [] (mk C S V) K) (f := fun a i => a + pl_b (pl_cov (V 97) (V 98) c.toNat (gi (V 102) (14 * lv + i)).toNat = true)) (I := fun _ _ => True) (lo := 0) (N := (L.1.length : Int)) (by
    intro i a h0 h1 _
    refine ⟨trivial, ?_⟩
    have hg := ly.at h0 h1
    have hg2 := pl_gm hx (show i.toNat < L.1.length by omega)
    try dsimp only
    rw [e126_5]
    by_cases q1 : pl_cov (V 97) (V 98) c.toNat (gi (V 102) (14 * lv + i)).toNat = true
    · simp (disch := first | omega | (simp (disch := omega) only [up_eq, up_ne, si_len, List.length_set]; omega)) only [↓e126_7, ↓e126_8, ↓e126_11, ↓e126_13, ↓e126_14, ↓e126_15, ↓e126_17, ↓e126_18, ↓e126_19, ↓e126_22, ↓e126_23, ↓e126_24, ↓e126_25, ↓e126_28, ↓e126_30, ↓e126_31, ↓e126_32, ↓e126_34, ↓e126_35, ↓e126_36, ↓e126_37, ↓e126_40, ↓e126_43, ↓e126_44, ↓e126_47, ↓e126_48, ↓e126_49, ↓e126_50, ↓e126_53, ↓am_ilp, ↓am_iln, ↓am_iep, ↓am_ien, ↓am_zlp, ↓am_zln, ↓am_zep, ↓am_zen, ↓am_zgp, ↓am_zgn, ↓am_zhp, ↓am_zhn, ↓am_b01, true_or, true_and, and_true, or_true, if_true, if_false, ↓am_bdl_z, ↓am_bdl_s, ↓am_bsl_z, ↓am_bsl_s, ↓am_k1_i, ↓am_k1_r, ↓am_k1_e, ↓am_k1_n, ↓am_bd_s, am_k1_t, eq_self, am_nl_i, am_nl_r, am_nl_e, am_nl_n, Option.toList_some, Option.toList_none, Option.map_some, Option.map_none, List.cons_append, List.nil_append, List.length_cons, List.length_nil, List.set_cons_zero, List.set_cons_succ, List.getElem?_cons_zero, List.getElem?_cons_succ, am_bd_s, ↓am_tls, ↓am_tln, ↓mk_oc, ↓ma_r, ↓ma_w, ↓mz_r, ↓mz_w, ↓mr0, ↓mr1, ↓mr2, ↓mr3, ↓mr4, ↓mr5, ↓mr6, ↓mr7, ↓mr8, ↓mr9, ↓mr10, ↓mr11, ↓mr12, ↓mr13, ↓mr14, ↓mr15, ↓mr16, ↓mr17, ↓mr18, ↓mr19, ↓mr20, ↓mr21, ↓mr22, ↓mr23, ↓mr24, ↓mr25, ↓mr26, ↓mr27, ↓mw0, ↓mw1, ↓mw11, ↓mw12, ↓mw13, ↓mw15, ↓mw16, ↓mw17, ↓mw19, ↓mw20, ↓mw22, ↓mw25, up_eq, up_ne, up_up, si_len, ↓X10_covers_w mp, ↓am_ifb, ↓if_pos q1, pl_b]
    · simp (disch := first | omega | (simp (disch := omega) only [up_eq, up_ne, si_len, List.length_set]; omega)) only [↓e126_7, ↓e126_8, ↓e126_11, ↓e126_13, ↓e126_14, ↓e126_15, ↓e126_17, ↓e126_18, ↓e126_19, ↓e126_22, ↓e126_23, ↓e126_24, ↓e126_25, ↓e126_28, ↓e126_30, ↓e126_31, ↓e126_32, ↓e126_34, ↓e126_35, ↓e126_36, ↓e126_37, ↓e126_40, ↓e126_43, ↓e126_44, ↓e126_47, ↓e126_48, ↓e126_49, ↓e126_50, ↓e126_53, ↓am_ilp, ↓am_iln, ↓am_iep, ↓am_ien, ↓am_zlp, ↓am_zln, ↓am_zep, ↓am_zen, ↓am_zgp, ↓am_zgn, ↓am_zhp, ↓am_zhn, ↓am_b01, true_or, true_and, and_true, or_true, if_true, if_false, ↓am_bdl_z, ↓am_bdl_s, ↓am_bsl_z, ↓am_bsl_s, ↓am_k1_i, ↓am_k1_r, ↓am_k1_e, ↓am_k1_n, ↓am_bd_s, am_k1_t, eq_self, am_nl_i, am_nl_r, am_nl_e, am_nl_n, Option.toList_some, Option.toList_none, Option.map_some, Option.map_none, List.cons_append, List.nil_append, List.length_cons, List.length_nil, List.set_cons_zero, List.set_cons_succ, List.getElem?_cons_zero, List.getElem?_cons_succ, am_bd_s, ↓am_tls, ↓am_tln, ↓mk_oc, ↓ma_r, ↓ma_w, ↓mz_r, ↓mz_w, ↓mr0, ↓mr1, ↓mr2, ↓mr3, ↓mr4, ↓mr5, ↓mr6, ↓mr7, ↓mr8, ↓mr9, ↓mr10, ↓mr11, ↓mr12, ↓mr13, ↓mr14, ↓mr15, ↓mr16, ↓mr17, ↓mr18, ↓mr19, ↓mr20, ↓mr21, ↓mr22, ↓mr23, ↓mr24, ↓mr25, ↓mr26, ↓mr27, ↓mw0, ↓mw1, ↓mw11, ↓mw12, ↓mw13, ↓mw15, ↓mw16, ↓mw17, ↓mw19, ↓mw20, ↓mw22, ↓mw25, up_eq, up_ne, up_up, si_len, ↓X10_covers_w mp, ↓am_ifb, ↓if_neg q1, pl_b]) L.1.length 0 0 (by omega) (by omega) trivial
  have e1 : pl_fz (fun a i => a + pl_b (pl_cov (V 97) (V 98) c.toNat (gi (V 102) (14 * lv + i)).toNat = true)) 0 L.1.length 0 = ((L.1.filter (pl_cov (V 97) (V 98) c.toNat)).length : Int) := by
    have h1 := pl_len_filter (p := pl_cov (V 97) (V 98) c.toNat) L.1 0
    rw [Int.zero_add] at h1
    rw [← h1]
    apply pl_fz_list
    intro k hk a
    rw [Int.zero_add, ly.2.2.1 k hk, Int.toNat_natCast]
  rw [← e1]
  simp (disch := first | omega | (simp (disch := omega) only [up_eq, up_ne, si_len, List.length_set]; omega)) only [↓e126_0, ↓e126_1, ↓e126_2, ↓e126_3, ↓am_ilp, ↓am_iln, ↓am_iep, ↓am_ien, ↓am_zlp, ↓am_zln, ↓am_zep, ↓am_zen, ↓am_zgp, ↓am_zgn, ↓am_zhp, ↓am_zhn, ↓am_b01, true_or, true_and, and_true, or_true, if_true, if_false, ↓am_bdl_z, ↓am_bdl_s, ↓am_bsl_z, ↓am_bsl_s, ↓am_k1_i, ↓am_k1_r, ↓am_k1_e, ↓am_k1_n, ↓am_bd_s, am_k1_t, eq_self, am_nl_i, am_nl_r, am_nl_e, am_nl_n, Option.toList_some, Option.toList_none, Option.map_some, Option.map_none, List.cons_append, List.nil_append, List.length_cons, List.length_nil, List.set_cons_zero, List.set_cons_succ, List.getElem?_cons_zero, List.getElem?_cons_succ, am_bd_s]
  refine Eq.trans lo.1 ?_
  try dsimp only
  rw [e126_5]
  simp (disch := first | omega | (simp (disch := omega) only [up_eq, up_ne, si_len, List.length_set]; omega)) only [↓e126_7, ↓e126_8, ↓e126_11, ↓e126_13, ↓e126_14, ↓e126_15, ↓e126_17, ↓e126_18, ↓e126_19, ↓e126_56, ↓e126_57, ↓am_ilp, ↓am_iln, ↓am_iep, ↓am_ien, ↓am_zlp, ↓am_zln, ↓am_zep, ↓am_zen, ↓am_zgp, ↓am_zgn, ↓am_zhp, ↓am_zhn, ↓am_b01, true_or, true_and, and_true, or_true, if_true, if_false, ↓am_bdl_z, ↓am_bdl_s, ↓am_bsl_z, ↓am_bsl_s, ↓am_k1_i, ↓am_k1_r, ↓am_k1_e, ↓am_k1_n, ↓am_bd_s, am_k1_t, eq_self, am_nl_i, am_nl_r, am_nl_e, am_nl_n, Option.toList_some, Option.toList_none, Option.map_some, Option.map_none, List.cons_append, List.nil_append, List.length_cons, List.length_nil, List.set_cons_zero, List.set_cons_succ, List.getElem?_cons_zero, List.getElem?_cons_succ, am_bd_s, ↓am_tls, ↓am_tln, ↓mk_oc, ↓ma_r, ↓ma_w, ↓mz_r, ↓mz_w, ↓mr0, ↓mr1, ↓mr2, ↓mr3, ↓mr4, ↓mr5, ↓mr6, ↓mr7, ↓mr8, ↓mr9, ↓mr10, ↓mr11, ↓mr12, ↓mr13, ↓mr14, ↓mr15, ↓mr16, ↓mr17, ↓mr18, ↓mr19, ↓mr20, ↓mr21, ↓mr22, ↓mr23, ↓mr24, ↓mr25, ↓mr26, ↓mr27, ↓mw0, ↓mw1, ↓mw11, ↓mw12, ↓mw13, ↓mw15, ↓mw16, ↓mw17, ↓mw19, ↓mw20, ↓mw22, ↓mw25, up_eq, up_ne, up_up, si_len]
theorem X10_timeOf_l {lv : Int} {c m : Nat} (mp : MP S V nb ns) (ly : Ly (V 102) (14 * lv) L) (hlv : 0 ≤ lv ∧ lv ≤ 1) (hx : ∀ x ∈ L.1, x < nb) (hc : c < 6) (hm : m ≤ 6) :
    ∀ (n : Nat) (i : Int) (x5 x6 : Option am_V), 0 ≤ i → i + n = L.1.length → Wp E 127 10 [some (am_r (some 96)), some (am_i lv), some (am_i (c : Int)), some (am_i (m : Int)), some (am_i i), x5, x6] [] (mk C S V) K = K (some (am_i (m_tm (fun q => pl_cov (V 97) (V 98) c q && (!(decide ((V 100).getD q 0 = 1) && decide (1 < m)) && !(decide ((V 100).getD q 0 = 3) && decide (c % 2 = 1)))) (pl_cen (V 99) (V 100) c) (L.1.drop i.toNat)))) (mk C S V)
  | 0, i, x5, x6, h0, e => by
    obtain ⟨s0, s1, hnb, hns, l97, l98, l99, l100, l101, l102, l107, pv, wv⟩ := id mp
    have h6 := ly.1
    have hh := ly.2.1
    rw [List.drop_of_length_le (by omega), m_tm, e127_10]
    simp (disch := first | omega | (simp (disch := omega) only [up_eq, up_ne, si_len, List.length_set]; omega)) only [↓e127_12, ↓e127_13, ↓e127_16, ↓e127_18, ↓e127_19, ↓e127_20, ↓e127_22, ↓e127_23, ↓e127_24, ↓e127_137, ↓e127_139, ↓am_ilp, ↓am_iln, ↓am_iep, ↓am_ien, ↓am_zlp, ↓am_zln, ↓am_zep, ↓am_zen, ↓am_zgp, ↓am_zgn, ↓am_zhp, ↓am_zhn, ↓am_b01, true_or, true_and, and_true, or_true, if_true, if_false, ↓am_bdl_z, ↓am_bdl_s, ↓am_bsl_z, ↓am_bsl_s, ↓am_k1_i, ↓am_k1_r, ↓am_k1_e, ↓am_k1_n, ↓am_bd_s, am_k1_t, eq_self, am_nl_i, am_nl_r, am_nl_e, am_nl_n, Option.toList_some, Option.toList_none, Option.map_some, Option.map_none, List.cons_append, List.nil_append, List.length_cons, List.length_nil, List.set_cons_zero, List.set_cons_succ, List.getElem?_cons_zero, List.getElem?_cons_succ, am_bd_s, ↓am_tls, ↓am_tln, ↓mk_oc, ↓ma_r, ↓ma_w, ↓mz_r, ↓mz_w, ↓mr0, ↓mr1, ↓mr2, ↓mr3, ↓mr4, ↓mr5, ↓mr6, ↓mr7, ↓mr8, ↓mr9, ↓mr10, ↓mr11, ↓mr12, ↓mr13, ↓mr14, ↓mr15, ↓mr16, ↓mr17, ↓mr18, ↓mr19, ↓mr20, ↓mr21, ↓mr22, ↓mr23, ↓mr24, ↓mr25, ↓mr26, ↓mr27, ↓mw0, ↓mw1, ↓mw11, ↓mw12, ↓mw13, ↓mw15, ↓mw16, ↓mw17, ↓mw19, ↓mw20, ↓mw22, ↓mw25, up_eq, up_ne, up_up, si_len]
  | n + 1, i, x5, x6, h0, e => by
    obtain ⟨s0, s1, hnb, hns, l97, l98, l99, l100, l101, l102, l107, pv, wv⟩ := id mp
    have h6 := ly.1
    have hh := ly.2.1
    have hg := ly.at h0 (by omega)
    have hg2 := pl_gm hx (show i.toNat < L.1.length by omega)
    have ih := fun x5 x6 => X10_timeOf_l mp ly hlv hx hc hm n (i + 1) x5 x6 (by omega) (by omega)
    have ed : L.1.drop i.toNat = L.1.getD i.toNat 0 :: L.1.drop (i + 1).toNat := by
      rw [List.drop_eq_getElem_cons (by omega), List.getD_eq_getElem?_getD, List.getElem?_eq_getElem (by omega), show (i + 1).toNat = i.toNat + 1 by omega]
      rfl
    have eg : (gi (V 102) (14 * lv + i)).toNat = L.1.getD i.toNat 0 := by omega
    obtain ⟨q, hq⟩ : ∃ q : Nat, q = L.1.getD i.toNat 0 := ⟨_, rfl⟩
    rw [← hq] at ed eg hg hg2
    have ek : gi (V 100) (gi (V 102) (14 * lv + i)) = (V 100).getD q 0 := by rw [hg]; rfl
    have et : gi (V 99) (gi (V 102) (14 * lv + i)) = (V 99).getD q 0 := by rw [hg]; rfl
    have pq := pv q hg2
    have er : am_rem (c : Int) 2 = (c : Int) % 2 := am_rem_n (by omega) (by omega) (by omega) (by omega)
    rw [ed, m_tm, e127_10]
    by_cases q1 : pl_cov (V 97) (V 98) (c : Int).toNat (gi (V 102) (14 * lv + i)).toNat = true
    · have q1' : pl_cov (V 97) (V 98) c q = true := by rw [eg] at q1; exact q1
      by_cases k1 : (V 100).getD q 0 = 1
      · by_cases m1 : 1 < m
        · rw [if_neg (by simp [k1, m1, -List.getD_eq_getElem?_getD])]
          simp (disch := first | omega | (simp (disch := omega) only [up_eq, up_ne, si_len, List.length_set]; omega)) only [↓e127_12, ↓e127_13, ↓e127_16, ↓e127_18, ↓e127_19, ↓e127_20, ↓e127_22, ↓e127_23, ↓e127_24, ↓e127_27, ↓e127_28, ↓e127_31, ↓e127_33, ↓e127_34, ↓e127_35, ↓e127_37, ↓e127_38, ↓e127_39, ↓e127_41, ↓e127_42, ↓e127_44, ↓e127_45, ↓e127_48, ↓e127_51, ↓e127_52, ↓e127_55, ↓e127_57, ↓e127_58, ↓e127_59, ↓e127_62, ↓e127_63, ↓e127_64, ↓e127_67, ↓e127_68, ↓e127_71, ↓e127_73, ↓e127_74, ↓e127_75, ↓e127_78, ↓e127_79, ↓e127_80, ↓e127_81, ↓e127_82, ↓e127_85, ↓e127_86, ↓e127_89, ↓e127_90, ↓e127_92, ↓e127_94, ↓e127_97, ↓e127_98, ↓e127_101, ↓e127_103, ↓e127_104, ↓e127_105, ↓e127_108, ↓e127_109, ↓e127_112, ↓e127_114, ↓e127_115, ↓e127_116, ↓e127_117, ↓e127_119, ↓e127_120, ↓e127_123, ↓e127_124, ↓e127_127, ↓e127_129, ↓e127_130, ↓e127_131, ↓e127_134, ↓am_ilp, ↓am_iln, ↓am_iep, ↓am_ien, ↓am_zlp, ↓am_zln, ↓am_zep, ↓am_zen, ↓am_zgp, ↓am_zgn, ↓am_zhp, ↓am_zhn, ↓am_b01, true_or, true_and, and_true, or_true, if_true, if_false, ↓am_bdl_z, ↓am_bdl_s, ↓am_bsl_z, ↓am_bsl_s, ↓am_k1_i, ↓am_k1_r, ↓am_k1_e, ↓am_k1_n, ↓am_bd_s, am_k1_t, eq_self, am_nl_i, am_nl_r, am_nl_e, am_nl_n, Option.toList_some, Option.toList_none, Option.map_some, Option.map_none, List.cons_append, List.nil_append, List.length_cons, List.length_nil, List.set_cons_zero, List.set_cons_succ, List.getElem?_cons_zero, List.getElem?_cons_succ, am_bd_s, ↓am_tls, ↓am_tln, ↓mk_oc, ↓ma_r, ↓ma_w, ↓mz_r, ↓mz_w, ↓mr0, ↓mr1, ↓mr2, ↓mr3, ↓mr4, ↓mr5, ↓mr6, ↓mr7, ↓mr8, ↓mr9, ↓mr10, ↓mr11, ↓mr12, ↓mr13, ↓mr14, ↓mr15, ↓mr16, ↓mr17, ↓mr18, ↓mr19, ↓mr20, ↓mr21, ↓mr22, ↓mr23, ↓mr24, ↓mr25, ↓mr26, ↓mr27, ↓mw0, ↓mw1, ↓mw11, ↓mw12, ↓mw13, ↓mw15, ↓mw16, ↓mw17, ↓mw19, ↓mw20, ↓mw22, ↓mw25, up_eq, up_ne, up_up, si_len, ↓X10_covers_w mp, ↓am_ifb, ↓if_pos q1]
          exact ih _ _
        · rw [if_pos (by simp [q1', k1, m1, -List.getD_eq_getElem?_getD])]
          simp (disch := first | omega | (simp (disch := omega) only [up_eq, up_ne, si_len, List.length_set]; omega)) only [↓e127_12, ↓e127_13, ↓e127_16, ↓e127_18, ↓e127_19, ↓e127_20, ↓e127_22, ↓e127_23, ↓e127_24, ↓e127_27, ↓e127_28, ↓e127_31, ↓e127_33, ↓e127_34, ↓e127_35, ↓e127_37, ↓e127_38, ↓e127_39, ↓e127_41, ↓e127_42, ↓e127_44, ↓e127_45, ↓e127_48, ↓e127_51, ↓e127_52, ↓e127_55, ↓e127_57, ↓e127_58, ↓e127_59, ↓e127_62, ↓e127_63, ↓e127_64, ↓e127_67, ↓e127_68, ↓e127_71, ↓e127_73, ↓e127_74, ↓e127_75, ↓e127_78, ↓e127_79, ↓e127_80, ↓e127_81, ↓e127_82, ↓e127_85, ↓e127_86, ↓e127_89, ↓e127_90, ↓e127_92, ↓e127_94, ↓e127_97, ↓e127_98, ↓e127_101, ↓e127_103, ↓e127_104, ↓e127_105, ↓e127_108, ↓e127_109, ↓e127_112, ↓e127_114, ↓e127_115, ↓e127_116, ↓e127_117, ↓e127_119, ↓e127_120, ↓e127_123, ↓e127_124, ↓e127_127, ↓e127_129, ↓e127_130, ↓e127_131, ↓e127_134, ↓am_ilp, ↓am_iln, ↓am_iep, ↓am_ien, ↓am_zlp, ↓am_zln, ↓am_zep, ↓am_zen, ↓am_zgp, ↓am_zgn, ↓am_zhp, ↓am_zhn, ↓am_b01, true_or, true_and, and_true, or_true, if_true, if_false, ↓am_bdl_z, ↓am_bdl_s, ↓am_bsl_z, ↓am_bsl_s, ↓am_k1_i, ↓am_k1_r, ↓am_k1_e, ↓am_k1_n, ↓am_bd_s, am_k1_t, eq_self, am_nl_i, am_nl_r, am_nl_e, am_nl_n, Option.toList_some, Option.toList_none, Option.map_some, Option.map_none, List.cons_append, List.nil_append, List.length_cons, List.length_nil, List.set_cons_zero, List.set_cons_succ, List.getElem?_cons_zero, List.getElem?_cons_succ, am_bd_s, ↓am_tls, ↓am_tln, ↓mk_oc, ↓ma_r, ↓ma_w, ↓mz_r, ↓mz_w, ↓mr0, ↓mr1, ↓mr2, ↓mr3, ↓mr4, ↓mr5, ↓mr6, ↓mr7, ↓mr8, ↓mr9, ↓mr10, ↓mr11, ↓mr12, ↓mr13, ↓mr14, ↓mr15, ↓mr16, ↓mr17, ↓mr18, ↓mr19, ↓mr20, ↓mr21, ↓mr22, ↓mr23, ↓mr24, ↓mr25, ↓mr26, ↓mr27, ↓mw0, ↓mw1, ↓mw11, ↓mw12, ↓mw13, ↓mw15, ↓mw16, ↓mw17, ↓mw19, ↓mw20, ↓mw22, ↓mw25, up_eq, up_ne, up_up, si_len, ↓X10_covers_w mp, ↓am_ifb, ↓if_pos q1, et, pl_cen, if_neg]
      · by_cases k3 : (V 100).getD q 0 = 3
        · by_cases c1 : c % 2 = 1
          · rw [if_neg (by simp [k3, c1, -List.getD_eq_getElem?_getD])]
            simp (disch := first | omega | (simp (disch := omega) only [up_eq, up_ne, si_len, List.length_set]; omega)) only [↓e127_12, ↓e127_13, ↓e127_16, ↓e127_18, ↓e127_19, ↓e127_20, ↓e127_22, ↓e127_23, ↓e127_24, ↓e127_27, ↓e127_28, ↓e127_31, ↓e127_33, ↓e127_34, ↓e127_35, ↓e127_37, ↓e127_38, ↓e127_39, ↓e127_41, ↓e127_42, ↓e127_44, ↓e127_45, ↓e127_48, ↓e127_51, ↓e127_52, ↓e127_55, ↓e127_57, ↓e127_58, ↓e127_59, ↓e127_62, ↓e127_63, ↓e127_64, ↓e127_67, ↓e127_68, ↓e127_71, ↓e127_73, ↓e127_74, ↓e127_75, ↓e127_78, ↓e127_79, ↓e127_80, ↓e127_81, ↓e127_82, ↓e127_85, ↓e127_86, ↓e127_89, ↓e127_90, ↓e127_92, ↓e127_94, ↓e127_97, ↓e127_98, ↓e127_101, ↓e127_103, ↓e127_104, ↓e127_105, ↓e127_108, ↓e127_109, ↓e127_112, ↓e127_114, ↓e127_115, ↓e127_116, ↓e127_117, ↓e127_119, ↓e127_120, ↓e127_123, ↓e127_124, ↓e127_127, ↓e127_129, ↓e127_130, ↓e127_131, ↓e127_134, ↓am_ilp, ↓am_iln, ↓am_iep, ↓am_ien, ↓am_zlp, ↓am_zln, ↓am_zep, ↓am_zen, ↓am_zgp, ↓am_zgn, ↓am_zhp, ↓am_zhn, ↓am_b01, true_or, true_and, and_true, or_true, if_true, if_false, ↓am_bdl_z, ↓am_bdl_s, ↓am_bsl_z, ↓am_bsl_s, ↓am_k1_i, ↓am_k1_r, ↓am_k1_e, ↓am_k1_n, ↓am_bd_s, am_k1_t, eq_self, am_nl_i, am_nl_r, am_nl_e, am_nl_n, Option.toList_some, Option.toList_none, Option.map_some, Option.map_none, List.cons_append, List.nil_append, List.length_cons, List.length_nil, List.set_cons_zero, List.set_cons_succ, List.getElem?_cons_zero, List.getElem?_cons_succ, am_bd_s, ↓am_tls, ↓am_tln, ↓mk_oc, ↓ma_r, ↓ma_w, ↓mz_r, ↓mz_w, ↓mr0, ↓mr1, ↓mr2, ↓mr3, ↓mr4, ↓mr5, ↓mr6, ↓mr7, ↓mr8, ↓mr9, ↓mr10, ↓mr11, ↓mr12, ↓mr13, ↓mr14, ↓mr15, ↓mr16, ↓mr17, ↓mr18, ↓mr19, ↓mr20, ↓mr21, ↓mr22, ↓mr23, ↓mr24, ↓mr25, ↓mr26, ↓mr27, ↓mw0, ↓mw1, ↓mw11, ↓mw12, ↓mw13, ↓mw15, ↓mw16, ↓mw17, ↓mw19, ↓mw20, ↓mw22, ↓mw25, up_eq, up_ne, up_up, si_len, ↓X10_covers_w mp, ↓am_ifb, ↓if_pos q1]
            exact ih _ _
          · rw [if_pos (by simp [q1', k3, c1, -List.getD_eq_getElem?_getD])]
            simp (disch := first | omega | (simp (disch := omega) only [up_eq, up_ne, si_len, List.length_set]; omega)) only [↓e127_12, ↓e127_13, ↓e127_16, ↓e127_18, ↓e127_19, ↓e127_20, ↓e127_22, ↓e127_23, ↓e127_24, ↓e127_27, ↓e127_28, ↓e127_31, ↓e127_33, ↓e127_34, ↓e127_35, ↓e127_37, ↓e127_38, ↓e127_39, ↓e127_41, ↓e127_42, ↓e127_44, ↓e127_45, ↓e127_48, ↓e127_51, ↓e127_52, ↓e127_55, ↓e127_57, ↓e127_58, ↓e127_59, ↓e127_62, ↓e127_63, ↓e127_64, ↓e127_67, ↓e127_68, ↓e127_71, ↓e127_73, ↓e127_74, ↓e127_75, ↓e127_78, ↓e127_79, ↓e127_80, ↓e127_81, ↓e127_82, ↓e127_85, ↓e127_86, ↓e127_89, ↓e127_90, ↓e127_92, ↓e127_94, ↓e127_97, ↓e127_98, ↓e127_101, ↓e127_103, ↓e127_104, ↓e127_105, ↓e127_108, ↓e127_109, ↓e127_112, ↓e127_114, ↓e127_115, ↓e127_116, ↓e127_117, ↓e127_119, ↓e127_120, ↓e127_123, ↓e127_124, ↓e127_127, ↓e127_129, ↓e127_130, ↓e127_131, ↓e127_134, ↓am_ilp, ↓am_iln, ↓am_iep, ↓am_ien, ↓am_zlp, ↓am_zln, ↓am_zep, ↓am_zen, ↓am_zgp, ↓am_zgn, ↓am_zhp, ↓am_zhn, ↓am_b01, true_or, true_and, and_true, or_true, if_true, if_false, ↓am_bdl_z, ↓am_bdl_s, ↓am_bsl_z, ↓am_bsl_s, ↓am_k1_i, ↓am_k1_r, ↓am_k1_e, ↓am_k1_n, ↓am_bd_s, am_k1_t, eq_self, am_nl_i, am_nl_r, am_nl_e, am_nl_n, Option.toList_some, Option.toList_none, Option.map_some, Option.map_none, List.cons_append, List.nil_append, List.length_cons, List.length_nil, List.set_cons_zero, List.set_cons_succ, List.getElem?_cons_zero, List.getElem?_cons_succ, am_bd_s, ↓am_tls, ↓am_tln, ↓mk_oc, ↓ma_r, ↓ma_w, ↓mz_r, ↓mz_w, ↓mr0, ↓mr1, ↓mr2, ↓mr3, ↓mr4, ↓mr5, ↓mr6, ↓mr7, ↓mr8, ↓mr9, ↓mr10, ↓mr11, ↓mr12, ↓mr13, ↓mr14, ↓mr15, ↓mr16, ↓mr17, ↓mr18, ↓mr19, ↓mr20, ↓mr21, ↓mr22, ↓mr23, ↓mr24, ↓mr25, ↓mr26, ↓mr27, ↓mw0, ↓mw1, ↓mw11, ↓mw12, ↓mw13, ↓mw15, ↓mw16, ↓mw17, ↓mw19, ↓mw20, ↓mw22, ↓mw25, up_eq, up_ne, up_up, si_len, ↓X10_covers_w mp, ↓am_ifb, ↓if_pos q1, et, pl_cen, if_neg]
        · rw [if_pos (by simp [q1', k1, k3, -List.getD_eq_getElem?_getD])]
          by_cases k2 : (V 100).getD q 0 = 2
          · simp (disch := first | omega | (simp (disch := omega) only [up_eq, up_ne, si_len, List.length_set]; omega)) only [↓e127_12, ↓e127_13, ↓e127_16, ↓e127_18, ↓e127_19, ↓e127_20, ↓e127_22, ↓e127_23, ↓e127_24, ↓e127_27, ↓e127_28, ↓e127_31, ↓e127_33, ↓e127_34, ↓e127_35, ↓e127_37, ↓e127_38, ↓e127_39, ↓e127_41, ↓e127_42, ↓e127_44, ↓e127_45, ↓e127_48, ↓e127_51, ↓e127_52, ↓e127_55, ↓e127_57, ↓e127_58, ↓e127_59, ↓e127_62, ↓e127_63, ↓e127_64, ↓e127_67, ↓e127_68, ↓e127_71, ↓e127_73, ↓e127_74, ↓e127_75, ↓e127_78, ↓e127_79, ↓e127_80, ↓e127_81, ↓e127_82, ↓e127_85, ↓e127_86, ↓e127_89, ↓e127_90, ↓e127_92, ↓e127_94, ↓e127_97, ↓e127_98, ↓e127_101, ↓e127_103, ↓e127_104, ↓e127_105, ↓e127_108, ↓e127_109, ↓e127_112, ↓e127_114, ↓e127_115, ↓e127_116, ↓e127_117, ↓e127_119, ↓e127_120, ↓e127_123, ↓e127_124, ↓e127_127, ↓e127_129, ↓e127_130, ↓e127_131, ↓e127_134, ↓am_ilp, ↓am_iln, ↓am_iep, ↓am_ien, ↓am_zlp, ↓am_zln, ↓am_zep, ↓am_zen, ↓am_zgp, ↓am_zgn, ↓am_zhp, ↓am_zhn, ↓am_b01, true_or, true_and, and_true, or_true, if_true, if_false, ↓am_bdl_z, ↓am_bdl_s, ↓am_bsl_z, ↓am_bsl_s, ↓am_k1_i, ↓am_k1_r, ↓am_k1_e, ↓am_k1_n, ↓am_bd_s, am_k1_t, eq_self, am_nl_i, am_nl_r, am_nl_e, am_nl_n, Option.toList_some, Option.toList_none, Option.map_some, Option.map_none, List.cons_append, List.nil_append, List.length_cons, List.length_nil, List.set_cons_zero, List.set_cons_succ, List.getElem?_cons_zero, List.getElem?_cons_succ, am_bd_s, ↓am_tls, ↓am_tln, ↓mk_oc, ↓ma_r, ↓ma_w, ↓mz_r, ↓mz_w, ↓mr0, ↓mr1, ↓mr2, ↓mr3, ↓mr4, ↓mr5, ↓mr6, ↓mr7, ↓mr8, ↓mr9, ↓mr10, ↓mr11, ↓mr12, ↓mr13, ↓mr14, ↓mr15, ↓mr16, ↓mr17, ↓mr18, ↓mr19, ↓mr20, ↓mr21, ↓mr22, ↓mr23, ↓mr24, ↓mr25, ↓mr26, ↓mr27, ↓mw0, ↓mw1, ↓mw11, ↓mw12, ↓mw13, ↓mw15, ↓mw16, ↓mw17, ↓mw19, ↓mw20, ↓mw22, ↓mw25, up_eq, up_ne, up_up, si_len, ↓X10_covers_w mp, ↓am_ifb, ↓if_pos q1, et, pl_cen, if_pos]
          · simp (disch := first | omega | (simp (disch := omega) only [up_eq, up_ne, si_len, List.length_set]; omega)) only [↓e127_12, ↓e127_13, ↓e127_16, ↓e127_18, ↓e127_19, ↓e127_20, ↓e127_22, ↓e127_23, ↓e127_24, ↓e127_27, ↓e127_28, ↓e127_31, ↓e127_33, ↓e127_34, ↓e127_35, ↓e127_37, ↓e127_38, ↓e127_39, ↓e127_41, ↓e127_42, ↓e127_44, ↓e127_45, ↓e127_48, ↓e127_51, ↓e127_52, ↓e127_55, ↓e127_57, ↓e127_58, ↓e127_59, ↓e127_62, ↓e127_63, ↓e127_64, ↓e127_67, ↓e127_68, ↓e127_71, ↓e127_73, ↓e127_74, ↓e127_75, ↓e127_78, ↓e127_79, ↓e127_80, ↓e127_81, ↓e127_82, ↓e127_85, ↓e127_86, ↓e127_89, ↓e127_90, ↓e127_92, ↓e127_94, ↓e127_97, ↓e127_98, ↓e127_101, ↓e127_103, ↓e127_104, ↓e127_105, ↓e127_108, ↓e127_109, ↓e127_112, ↓e127_114, ↓e127_115, ↓e127_116, ↓e127_117, ↓e127_119, ↓e127_120, ↓e127_123, ↓e127_124, ↓e127_127, ↓e127_129, ↓e127_130, ↓e127_131, ↓e127_134, ↓am_ilp, ↓am_iln, ↓am_iep, ↓am_ien, ↓am_zlp, ↓am_zln, ↓am_zep, ↓am_zen, ↓am_zgp, ↓am_zgn, ↓am_zhp, ↓am_zhn, ↓am_b01, true_or, true_and, and_true, or_true, if_true, if_false, ↓am_bdl_z, ↓am_bdl_s, ↓am_bsl_z, ↓am_bsl_s, ↓am_k1_i, ↓am_k1_r, ↓am_k1_e, ↓am_k1_n, ↓am_bd_s, am_k1_t, eq_self, am_nl_i, am_nl_r, am_nl_e, am_nl_n, Option.toList_some, Option.toList_none, Option.map_some, Option.map_none, List.cons_append, List.nil_append, List.length_cons, List.length_nil, List.set_cons_zero, List.set_cons_succ, List.getElem?_cons_zero, List.getElem?_cons_succ, am_bd_s, ↓am_tls, ↓am_tln, ↓mk_oc, ↓ma_r, ↓ma_w, ↓mz_r, ↓mz_w, ↓mr0, ↓mr1, ↓mr2, ↓mr3, ↓mr4, ↓mr5, ↓mr6, ↓mr7, ↓mr8, ↓mr9, ↓mr10, ↓mr11, ↓mr12, ↓mr13, ↓mr14, ↓mr15, ↓mr16, ↓mr17, ↓mr18, ↓mr19, ↓mr20, ↓mr21, ↓mr22, ↓mr23, ↓mr24, ↓mr25, ↓mr26, ↓mr27, ↓mw0, ↓mw1, ↓mw11, ↓mw12, ↓mw13, ↓mw15, ↓mw16, ↓mw17, ↓mw19, ↓mw20, ↓mw22, ↓mw25, up_eq, up_ne, up_up, si_len, ↓X10_covers_w mp, ↓am_ifb, ↓if_pos q1, et, pl_cen, if_neg]
    · have q1' : ¬ pl_cov (V 97) (V 98) c q = true := by rw [eg] at q1; exact q1
      rw [if_neg (by simp [q1'])]
      simp (disch := first | omega | (simp (disch := omega) only [up_eq, up_ne, si_len, List.length_set]; omega)) only [↓e127_12, ↓e127_13, ↓e127_16, ↓e127_18, ↓e127_19, ↓e127_20, ↓e127_22, ↓e127_23, ↓e127_24, ↓e127_27, ↓e127_28, ↓e127_31, ↓e127_33, ↓e127_34, ↓e127_35, ↓e127_37, ↓e127_38, ↓e127_39, ↓e127_41, ↓e127_42, ↓e127_44, ↓e127_45, ↓e127_48, ↓e127_51, ↓e127_52, ↓e127_55, ↓e127_57, ↓e127_58, ↓e127_59, ↓e127_62, ↓e127_63, ↓e127_64, ↓e127_67, ↓e127_68, ↓e127_71, ↓e127_73, ↓e127_74, ↓e127_75, ↓e127_78, ↓e127_79, ↓e127_80, ↓e127_81, ↓e127_82, ↓e127_85, ↓e127_86, ↓e127_89, ↓e127_90, ↓e127_92, ↓e127_94, ↓e127_97, ↓e127_98, ↓e127_101, ↓e127_103, ↓e127_104, ↓e127_105, ↓e127_108, ↓e127_109, ↓e127_112, ↓e127_114, ↓e127_115, ↓e127_116, ↓e127_117, ↓e127_119, ↓e127_120, ↓e127_123, ↓e127_124, ↓e127_127, ↓e127_129, ↓e127_130, ↓e127_131, ↓e127_134, ↓am_ilp, ↓am_iln, ↓am_iep, ↓am_ien, ↓am_zlp, ↓am_zln, ↓am_zep, ↓am_zen, ↓am_zgp, ↓am_zgn, ↓am_zhp, ↓am_zhn, ↓am_b01, true_or, true_and, and_true, or_true, if_true, if_false, ↓am_bdl_z, ↓am_bdl_s, ↓am_bsl_z, ↓am_bsl_s, ↓am_k1_i, ↓am_k1_r, ↓am_k1_e, ↓am_k1_n, ↓am_bd_s, am_k1_t, eq_self, am_nl_i, am_nl_r, am_nl_e, am_nl_n, Option.toList_some, Option.toList_none, Option.map_some, Option.map_none, List.cons_append, List.nil_append, List.length_cons, List.length_nil, List.set_cons_zero, List.set_cons_succ, List.getElem?_cons_zero, List.getElem?_cons_succ, am_bd_s, ↓am_tls, ↓am_tln, ↓mk_oc, ↓ma_r, ↓ma_w, ↓mz_r, ↓mz_w, ↓mr0, ↓mr1, ↓mr2, ↓mr3, ↓mr4, ↓mr5, ↓mr6, ↓mr7, ↓mr8, ↓mr9, ↓mr10, ↓mr11, ↓mr12, ↓mr13, ↓mr14, ↓mr15, ↓mr16, ↓mr17, ↓mr18, ↓mr19, ↓mr20, ↓mr21, ↓mr22, ↓mr23, ↓mr24, ↓mr25, ↓mr26, ↓mr27, ↓mw0, ↓mw1, ↓mw11, ↓mw12, ↓mw13, ↓mw15, ↓mw16, ↓mw17, ↓mw19, ↓mw20, ↓mw22, ↓mw25, up_eq, up_ne, up_up, si_len, ↓X10_covers_w mp, ↓am_ifb, ↓if_neg q1]
      exact ih _ _
theorem X10_timeOf_w {lv c : Int} (mp : MP S V nb ns) (ly : Ly (V 102) (14 * lv) L) (hlv : 0 ≤ lv ∧ lv ≤ 1) (hx : ∀ x ∈ L.1, x < nb) (hc : 0 ≤ c ∧ c < 6) : Wp E 127 0 [some (am_r (some 96)), some (am_i lv), some (am_i c), none, none, none, none] [] (mk C S V) K = K (some (am_i (pl_tm (V 97) (V 98) (V 99) (V 100) L.1 c.toNat))) (mk C S V) := by
  obtain ⟨c, rfl⟩ : ∃ n : Nat, c = (n : Int) := ⟨c.toNat, by omega⟩
  have h6 := ly.1
  have hl := List.length_filter_le (pl_cov (V 97) (V 98) c) L.1
  have lw := X10_timeOf_l (E := E) (K := K) (C := C) (c := c) (m := (L.1.filter (pl_cov (V 97) (V 98) c)).length) mp ly hlv hx (by omega) (by omega) L.1.length 0 none none (by omega) (by omega)
  rw [Int.toNat_zero, List.drop_zero, m_tm_eq] at lw
  rw [Int.toNat_natCast, ← lw]
  simp (disch := first | omega | (simp (disch := omega) only [up_eq, up_ne, si_len, List.length_set]; omega)) only [↓e127_0, ↓e127_1, ↓e127_2, ↓e127_3, ↓e127_6, ↓e127_7, ↓e127_8, ↓am_ilp, ↓am_iln, ↓am_iep, ↓am_ien, ↓am_zlp, ↓am_zln, ↓am_zep, ↓am_zen, ↓am_zgp, ↓am_zgn, ↓am_zhp, ↓am_zhn, ↓am_b01, true_or, true_and, and_true, or_true, if_true, if_false, ↓am_bdl_z, ↓am_bdl_s, ↓am_bsl_z, ↓am_bsl_s, ↓am_k1_i, ↓am_k1_r, ↓am_k1_e, ↓am_k1_n, ↓am_bd_s, am_k1_t, eq_self, am_nl_i, am_nl_r, am_nl_e, am_nl_n, Option.toList_some, Option.toList_none, Option.map_some, Option.map_none, List.cons_append, List.nil_append, List.length_cons, List.length_nil, List.set_cons_zero, List.set_cons_succ, List.getElem?_cons_zero, List.getElem?_cons_succ, am_bd_s, ↓am_tls, ↓am_tln, ↓mk_oc, ↓ma_r, ↓ma_w, ↓mz_r, ↓mz_w, ↓mr0, ↓mr1, ↓mr2, ↓mr3, ↓mr4, ↓mr5, ↓mr6, ↓mr7, ↓mr8, ↓mr9, ↓mr10, ↓mr11, ↓mr12, ↓mr13, ↓mr14, ↓mr15, ↓mr16, ↓mr17, ↓mr18, ↓mr19, ↓mr20, ↓mr21, ↓mr22, ↓mr23, ↓mr24, ↓mr25, ↓mr26, ↓mr27, ↓mw0, ↓mw1, ↓mw11, ↓mw12, ↓mw13, ↓mw15, ↓mw16, ↓mw17, ↓mw19, ↓mw20, ↓mw22, ↓mw25, up_eq, up_ne, up_up, si_len, ↓X10_lieOn_w mp ly hlv hx, Int.toNat_natCast]
end MTM
/-- how often -/
def m_of (ws : List Int) (o : List Int) : List Int := ws.foldl (fun o x => si o x (gi o x + 1)) o
theorem m_of_rng {n : Int} : ∀ (ws o : List Int), o.length = 11 → (∀ x ∈ ws, 0 ≤ x ∧ x ≤ 10) → (∀ t : Int, 0 ≤ t → t ≤ 10 → 0 ≤ gi o t ∧ gi o t ≤ n) → (m_of ws o).length = 11 ∧ ∀ t : Int, 0 ≤ t → t ≤ 10 → 0 ≤ gi (m_of ws o) t ∧ gi (m_of ws o) t ≤ n + ws.length
  | [], o, ho, hw, h => ⟨ho, fun t h0 h1 => by have := h t h0 h1; simp only [m_of, List.foldl_nil, List.length_nil]; omega⟩
  | x :: ws, o, ho, hw, h => by
    have hx := hw x List.mem_cons_self
    obtain ⟨i1, i2⟩ := m_of_rng (n := n + 1) ws (si o x (gi o x + 1)) (by rw [si_len]; exact ho) (fun y hy => hw y (List.mem_cons_of_mem _ hy)) (by
      intro t h0 h1
      by_cases q : t = x
      · subst q
        rw [gi_eq (by omega)]
        have := h t h0 h1
        omega
      · rw [gi_ne (by omega)]
        have := h t h0 h1
        omega)
    refine ⟨i1, fun t h0 h1 => ?_⟩
    have := i2 t h0 h1
    rw [List.length_cons]
    unfold m_of at this ⊢
    rw [List.foldl_cons]
    omega
def m_z : List Int := [0, 0, 0, 0, 0, 0, 0, 0, 0, 0, 0]
theorem m_best1 : ∀ a < 11, pl_fz (fun b t => if gi (m_of [((a : Nat) : Int)] m_z) b < gi (m_of [((a : Nat) : Int)] m_z) t then t else b) 1 10 0 = pl_cm [((a : Nat) : Int)] := by decide +kernel
theorem m_best2 : ∀ a < 11, ∀ b < 11, pl_fz (fun y t => if gi (m_of [((a : Nat) : Int), ((b : Nat) : Int)] m_z) y < gi (m_of [((a : Nat) : Int), ((b : Nat) : Int)] m_z) t then t else y) 1 10 0 = pl_cm [((a : Nat) : Int), ((b : Nat) : Int)] := by decide +kernel
theorem m_best3 : ∀ a < 11, ∀ b < 11, ∀ c < 11, pl_fz (fun y t => if gi (m_of [((a : Nat) : Int), ((b : Nat) : Int), ((c : Nat) : Int)] m_z) y < gi (m_of [((a : Nat) : Int), ((b : Nat) : Int), ((c : Nat) : Int)] m_z) t then t else y) 1 10 0 = pl_cm [((a : Nat) : Int), ((b : Nat) : Int), ((c : Nat) : Int)] := by decide +kernel
theorem pl_nat {x : Int} (h : 0 ≤ x ∧ x ≤ 10) : ∃ n : Nat, n < 11 ∧ x = (n : Int) := ⟨x.toNat, by omega, by omega⟩
theorem m_best {ws : List Int} (h : ∀ x ∈ ws, 0 ≤ x ∧ x ≤ 10) (h1 : 1 ≤ ws.length) (h3 : ws.length ≤ 3) : pl_fz (fun b t => if gi (m_of ws m_z) b < gi (m_of ws m_z) t then t else b) 1 10 0 = pl_cm ws := by
  match ws, h, h1, h3 with
  | [], _, h1, _ => exact absurd h1 (by simp)
  | [a], h, _, _ =>
    obtain ⟨a, ha, rfl⟩ := pl_nat (h a (by simp))
    exact m_best1 a ha
  | [a, b], h, _, _ =>
    obtain ⟨a, ha, rfl⟩ := pl_nat (h a (by simp))
    obtain ⟨b, hb, rfl⟩ := pl_nat (h b (by simp))
    exact m_best2 a ha b hb
  | [a, b, c], h, _, _ =>
    obtain ⟨a, ha, rfl⟩ := pl_nat (h a (by simp))
    obtain ⟨b, hb, rfl⟩ := pl_nat (h b (by simp))
    obtain ⟨c, hc, rfl⟩ := pl_nat (h c (by simp))
    exact m_best3 a ha b hb c hc
  | _ :: _ :: _ :: _ :: _, _, _, h3 => exact absurd h3 (by simp)
