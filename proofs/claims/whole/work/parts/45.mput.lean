/-! the model: blankets taken off and put on -/
theorem Ly.fr {N N' : List Int} {b : Int} {L : pl_L} (l : Ly N b L) (h : ∀ i : Int, b ≤ i → i < b + 14 → gi N' i = gi N i) : Ly N' b L := by
  obtain ⟨h0, h1, h2, h3, h4, h5, h6, h7⟩ := l
  refine ⟨h0, by rw [h _ (by omega) (by omega)]; exact h1, fun i hi => ?_, h3, h4, fun s hs => ?_, fun s hs => ?_, by rw [h _ (by omega) (by omega)]; exact h7⟩
  · rw [h _ (by omega) (by omega)]; exact h2 i hi
  · rw [h _ (by omega) (by omega)]; exact h5 s hs
  · rw [h _ (by omega) (by omega)]; exact h6 s hs
/-- another array of layouts, like the old one but for one level -/
def Af (N N' : List Int) (b : Int) : Prop := N'.length = N.length ∧ ∀ i : Int, 0 ≤ i → i < b ∨ b + 14 ≤ i → gi N' i = gi N i
theorem Af.rf {N : List Int} {b : Int} : Af N N b := ⟨rfl, fun _ _ _ => rfl⟩
theorem Af.trans {N N1 N2 : List Int} {b : Int} (f : Af N N1 b) (g : Af N1 N2 b) : Af N N2 b := ⟨g.1.trans f.1, fun i h0 h1 => (g.2 i h0 h1).trans (f.2 i h0 h1)⟩
theorem Af.ly {N N' : List Int} {b d : Int} {L : pl_L} (f : Af N N' b) (l : Ly N d L) (h0 : 0 ≤ d) (h : d + 14 ≤ b ∨ b + 14 ≤ d) : Ly N' d L := l.fr (fun i h1 h2 => f.2 i (by omega) (by omega))
theorem MP.n {S : Nat → Int} {V : Nat → List Int} {nb ns : Nat} {N : List Int} (mp : MP S V nb ns) (hN : N.length = 28) : MP S (up V 102 N) nb ns := by
  obtain ⟨s0, s1, hnb, hns, l97, l98, l99, l100, l101, l102, l107, pv, wv⟩ := mp
  exact ⟨s0, s1, hnb, hns, l97, l98, l99, l100, l101, hN, l107, pv, wv⟩
theorem pl_er_at {P S : List Nat} {q i : Nat} : (P ++ S).getD i 0 = if i < P.length then (P ++ q :: S).getD i 0 else (P ++ q :: S).getD (i + 1) 0 := by
  rw [List.getD_eq_getElem?_getD, List.getD_eq_getElem?_getD, List.getD_eq_getElem?_getD]
  split
  · rename_i h
    rw [List.getElem?_append_left h, List.getElem?_append_left h]
  · rename_i h
    rw [List.getElem?_append_right (by omega), List.getElem?_append_right (by omega), show i + 1 - P.length = (i - P.length) + 1 by omega, List.getElem?_cons_succ]
section MPT
variable {C : Nat → am_C} {S : Nat → Int} {V : Nat → List Int} {nb ns : Nat} {L : pl_L}
theorem X10_takeOn_w {lv q : Int} (mp : MP S V nb ns) (ly : Ly (V 102) (14 * lv) L) (hlv : 0 ≤ lv ∧ lv ≤ 1) (hx : ∀ x ∈ L.1, x < nb) (hn : L.1.Nodup) (hq : 0 ≤ q ∧ q < 100) : ∃ N, Af (V 102) N (14 * lv) ∧ Ly N (14 * lv) (L.1.erase q.toNat, L.2) ∧ ∀ E K, Wp E 134 0 [some (am_r (some 96)), some (am_i lv), some (am_i q), none, none, none] [] (mk C S V) K = K (some (am_i (pl_b (q.toNat ∈ L.1)))) (mk C S (up V 102 N)) := by
  obtain ⟨s0, s1, hnb, hns, l97, l98, l99, l100, l101, l102, l107, pv, wv⟩ := id mp
  obtain ⟨h0, h1, h2, h3, h4, h5, h6, h7⟩ := id ly
  have hw := fun E K => X10_heightOf_w (E := E) (K := K) (C := C) mp ly hlv hx hn hq
  by_cases hm : q.toNat ∈ L.1
  · obtain ⟨P, S', e, hP⟩ := pl_split hm
    have e9 : pl_ix q.toNat L.1 0 = (P.length : Int) := by rw [e, pl_ix_at hP, Nat.zero_add]
    rw [e9] at hw
    have el : L.1.length = P.length + (S'.length + 1) := by rw [e, List.length_append, List.length_cons]
    have ee : L.1.erase q.toNat = P ++ S' := by rw [e]; exact pl_erase hP
    have er : (P ++ S').length = P.length + S'.length := by rw [List.length_append]
    have lo := fun (E : List (List Int)) (K : Option am_V → am_H → Prop) => am_foldz (W := fun k N => Wp E 134 39 [some (am_r (some 96)), some (am_i lv), some (am_i q), some (am_i (14 * lv)), some (am_i (P.length : Int)), some (am_i k)] [] (mk C S (up V 102 N)) K) (f := fun N k => si N (14 * lv + k) (gi N (14 * lv + k + 1))) (I := fun k N => N.length = 28 ∧ ∀ i : Int, 0 ≤ i → gi N i = if i = 14 * lv + 6 then (L.1.length : Int) - 1 else if 14 * lv + P.length ≤ i ∧ i < 14 * lv + k then gi (V 102) (i + 1) else gi (V 102) i) (lo := P.length) (N := (L.1.length : Int) - 1) (by
      intro k N k0 k1 hI
      obtain ⟨i1, i2⟩ := hI
      have g6 := i2 (14 * lv + 6) (by omega)
      rw [if_pos rfl] at g6
      refine ⟨⟨by rw [si_len]; exact i1, fun i hi => ?_⟩, ?_⟩
      · by_cases c1 : i = 14 * lv + k
        · subst c1
          rw [gi_eq (by omega), i2 _ (by omega), if_neg (by omega), if_neg (by omega), if_neg (by omega), if_pos (by omega)]
        · rw [gi_ne (by omega), i2 i hi]
          by_cases c2 : i = 14 * lv + 6
          · rw [if_pos c2, if_pos c2]
          · rw [if_neg c2, if_neg c2]
            by_cases c3 : 14 * lv + P.length ≤ i ∧ i < 14 * lv + k
            · rw [if_pos c3, if_pos (by omega)]
            · rw [if_neg c3, if_neg (by omega)]
      · rw [e134_39]
        simp (disch := first | omega | (simp (disch := omega) only [up_eq, up_ne, si_len, List.length_set]; omega)) only [↓e134_41, ↓e134_42, ↓e134_45, ↓e134_46, ↓e134_48, ↓e134_49, ↓e134_50, ↓e134_53, ↓e134_54, ↓e134_57, ↓e134_58, ↓e134_60, ↓e134_61, ↓e134_62, ↓e134_65, ↓e134_66, ↓e134_68, ↓e134_69, ↓e134_70, ↓e134_71, ↓e134_72, ↓e134_73, ↓e134_76, ↓am_ilp, ↓am_iln, ↓am_iep, ↓am_ien, ↓am_zlp, ↓am_zln, ↓am_zep, ↓am_zen, ↓am_zgp, ↓am_zgn, ↓am_zhp, ↓am_zhn, ↓am_b01, true_or, true_and, and_true, or_true, if_true, if_false, ↓am_bdl_z, ↓am_bdl_s, ↓am_bsl_z, ↓am_bsl_s, ↓am_k1_i, ↓am_k1_r, ↓am_k1_e, ↓am_k1_n, ↓am_bd_s, am_k1_t, eq_self, am_nl_i, am_nl_r, am_nl_e, am_nl_n, Option.toList_some, Option.toList_none, Option.map_some, Option.map_none, List.cons_append, List.nil_append, List.length_cons, List.length_nil, List.set_cons_zero, List.set_cons_succ, List.getElem?_cons_zero, List.getElem?_cons_succ, am_bd_s, ↓am_tls, ↓am_tln, ↓mk_oc, ↓ma_r, ↓ma_w, ↓mz_r, ↓mz_w, ↓mr0, ↓mr1, ↓mr2, ↓mr3, ↓mr4, ↓mr5, ↓mr6, ↓mr7, ↓mr8, ↓mr9, ↓mr10, ↓mr11, ↓mr12, ↓mr13, ↓mr14, ↓mr15, ↓mr16, ↓mr17, ↓mr18, ↓mr19, ↓mr20, ↓mr21, ↓mr22, ↓mr23, ↓mr24, ↓mr25, ↓mr26, ↓mr27, ↓mw0, ↓mw1, ↓mw11, ↓mw12, ↓mw13, ↓mw15, ↓mw16, ↓mw17, ↓mw19, ↓mw20, ↓mw22, ↓mw25, up_eq, up_ne, up_up, si_len]) S'.length (P.length : Int) (si (V 102) (14 * lv + 6) (gi (V 102) (14 * lv + 6) - 1)) (by omega) (by omega) ⟨by rw [si_len]; exact l102, fun i hi => by
        by_cases c1 : i = 14 * lv + 6
        · subst c1
          rw [gi_eq (by omega), if_pos rfl, h1]
        · rw [gi_ne (by omega), if_neg c1, if_neg (by omega)]⟩
    obtain ⟨N, hN⟩ : ∃ N, N = pl_fz (fun N k => si N (14 * lv + k) (gi N (14 * lv + k + 1))) (P.length : Int) S'.length (si (V 102) (14 * lv + 6) (gi (V 102) (14 * lv + 6) - 1)) := ⟨_, rfl⟩
    rw [← hN] at lo
    obtain ⟨i1, i2⟩ := (lo [] (fun _ _ => True)).2
    refine ⟨N, ⟨by omega, fun i hi ho => by rw [i2 i hi, if_neg (by omega), if_neg (by omega)]⟩, ?_, fun E K => ?_⟩
    · rw [ee]
      refine ⟨by dsimp only; omega, ?_, fun i hi => ?_, h3, h4, fun s hs => ?_, fun s hs => ?_, ?_⟩
      · rw [i2 _ (by omega), if_pos rfl]; dsimp only; omega
      · dsimp only at hi ⊢
        rw [i2 _ (by omega), if_neg (by omega), pl_er_at (q := q.toNat), ← e]
        by_cases c1 : i < P.length
        · rw [if_pos c1, if_neg (by omega)]
          exact h2 i (by omega)
        · rw [if_neg c1, if_pos (by omega)]
          have := h2 (i + 1) (by omega)
          rw [← this]
          congr 1
          omega
      · rw [i2 _ (by omega), if_neg (by omega), if_neg (by omega)]; exact h5 s hs
      · rw [i2 _ (by omega), if_neg (by omega), if_neg (by omega)]; exact h6 s hs
      · rw [i2 _ (by omega), if_neg (by omega), if_neg (by omega)]; exact h7
    · have g6 := i2 (14 * lv + 6) (by omega)
      rw [if_pos rfl] at g6
      rw [pl_b, if_pos hm]
      simp (disch := first | omega | (simp (disch := omega) only [up_eq, up_ne, si_len, List.length_set]; omega)) only [↓e134_0, ↓e134_2, ↓e134_3, ↓e134_4, ↓e134_5, ↓e134_6, ↓e134_7, ↓e134_8, ↓e134_11, ↓e134_13, ↓e134_15, ↓e134_17, ↓e134_20, ↓e134_21, ↓e134_22, ↓e134_23, ↓e134_26, ↓e134_27, ↓e134_29, ↓e134_30, ↓e134_31, ↓e134_32, ↓e134_33, ↓e134_34, ↓e134_35, ↓e134_37, ↓am_ilp, ↓am_iln, ↓am_iep, ↓am_ien, ↓am_zlp, ↓am_zln, ↓am_zep, ↓am_zen, ↓am_zgp, ↓am_zgn, ↓am_zhp, ↓am_zhn, ↓am_b01, true_or, true_and, and_true, or_true, if_true, if_false, ↓am_bdl_z, ↓am_bdl_s, ↓am_bsl_z, ↓am_bsl_s, ↓am_k1_i, ↓am_k1_r, ↓am_k1_e, ↓am_k1_n, ↓am_bd_s, am_k1_t, eq_self, am_nl_i, am_nl_r, am_nl_e, am_nl_n, Option.toList_some, Option.toList_none, Option.map_some, Option.map_none, List.cons_append, List.nil_append, List.length_cons, List.length_nil, List.set_cons_zero, List.set_cons_succ, List.getElem?_cons_zero, List.getElem?_cons_succ, am_bd_s, ↓am_tls, ↓am_tln, ↓mk_oc, ↓ma_r, ↓ma_w, ↓mz_r, ↓mz_w, ↓mr0, ↓mr1, ↓mr2, ↓mr3, ↓mr4, ↓mr5, ↓mr6, ↓mr7, ↓mr8, ↓mr9, ↓mr10, ↓mr11, ↓mr12, ↓mr13, ↓mr14, ↓mr15, ↓mr16, ↓mr17, ↓mr18, ↓mr19, ↓mr20, ↓mr21, ↓mr22, ↓mr23, ↓mr24, ↓mr25, ↓mr26, ↓mr27, ↓mw0, ↓mw1, ↓mw11, ↓mw12, ↓mw13, ↓mw15, ↓mw16, ↓mw17, ↓mw19, ↓mw20, ↓mw22, ↓mw25, up_eq, up_ne, up_up, si_len, ↓hw]
      refine Eq.trans (lo E K).1 ?_
      rw [e134_39]
      simp (disch := first | omega | (simp (disch := omega) only [up_eq, up_ne, si_len, List.length_set]; omega)) only [↓e134_41, ↓e134_42, ↓e134_45, ↓e134_46, ↓e134_48, ↓e134_49, ↓e134_50, ↓e134_79, ↓e134_80, ↓am_ilp, ↓am_iln, ↓am_iep, ↓am_ien, ↓am_zlp, ↓am_zln, ↓am_zep, ↓am_zen, ↓am_zgp, ↓am_zgn, ↓am_zhp, ↓am_zhn, ↓am_b01, true_or, true_and, and_true, or_true, if_true, if_false, ↓am_bdl_z, ↓am_bdl_s, ↓am_bsl_z, ↓am_bsl_s, ↓am_k1_i, ↓am_k1_r, ↓am_k1_e, ↓am_k1_n, ↓am_bd_s, am_k1_t, eq_self, am_nl_i, am_nl_r, am_nl_e, am_nl_n, Option.toList_some, Option.toList_none, Option.map_some, Option.map_none, List.cons_append, List.nil_append, List.length_cons, List.length_nil, List.set_cons_zero, List.set_cons_succ, List.getElem?_cons_zero, List.getElem?_cons_succ, am_bd_s, ↓am_tls, ↓am_tln, ↓mk_oc, ↓ma_r, ↓ma_w, ↓mz_r, ↓mz_w, ↓mr0, ↓mr1, ↓mr2, ↓mr3, ↓mr4, ↓mr5, ↓mr6, ↓mr7, ↓mr8, ↓mr9, ↓mr10, ↓mr11, ↓mr12, ↓mr13, ↓mr14, ↓mr15, ↓mr16, ↓mr17, ↓mr18, ↓mr19, ↓mr20, ↓mr21, ↓mr22, ↓mr23, ↓mr24, ↓mr25, ↓mr26, ↓mr27, ↓mw0, ↓mw1, ↓mw11, ↓mw12, ↓mw13, ↓mw15, ↓mw16, ↓mw17, ↓mw19, ↓mw20, ↓mw22, ↓mw25, up_eq, up_ne, up_up, si_len]
  · rw [pl_ix_no hm] at hw
    refine ⟨V 102, Af.rf, by rw [List.erase_of_not_mem hm]; exact ly, fun E K => ?_⟩
    rw [pl_b, if_neg hm, up_same]
    simp (disch := first | omega | (simp (disch := omega) only [up_eq, up_ne, si_len, List.length_set]; omega)) only [↓e134_0, ↓e134_2, ↓e134_3, ↓e134_4, ↓e134_5, ↓e134_6, ↓e134_7, ↓e134_8, ↓e134_11, ↓e134_13, ↓e134_15, ↓e134_17, ↓e134_20, ↓e134_21, ↓am_ilp, ↓am_iln, ↓am_iep, ↓am_ien, ↓am_zlp, ↓am_zln, ↓am_zep, ↓am_zen, ↓am_zgp, ↓am_zgn, ↓am_zhp, ↓am_zhn, ↓am_b01, true_or, true_and, and_true, or_true, if_true, if_false, ↓am_bdl_z, ↓am_bdl_s, ↓am_bsl_z, ↓am_bsl_s, ↓am_k1_i, ↓am_k1_r, ↓am_k1_e, ↓am_k1_n, ↓am_bd_s, am_k1_t, eq_self, am_nl_i, am_nl_r, am_nl_e, am_nl_n, Option.toList_some, Option.toList_none, Option.map_some, Option.map_none, List.cons_append, List.nil_append, List.length_cons, List.length_nil, List.set_cons_zero, List.set_cons_succ, List.getElem?_cons_zero, List.getElem?_cons_succ, am_bd_s, ↓am_tls, ↓am_tln, ↓mk_oc, ↓ma_r, ↓ma_w, ↓mz_r, ↓mz_w, ↓mr0, ↓mr1, ↓mr2, ↓mr3, ↓mr4, ↓mr5, ↓mr6, ↓mr7, ↓mr8, ↓mr9, ↓mr10, ↓mr11, ↓mr12, ↓mr13, ↓mr14, ↓mr15, ↓mr16, ↓mr17, ↓mr18, ↓mr19, ↓mr20, ↓mr21, ↓mr22, ↓mr23, ↓mr24, ↓mr25, ↓mr26, ↓mr27, ↓mw0, ↓mw1, ↓mw11, ↓mw12, ↓mw13, ↓mw15, ↓mw16, ↓mw17, ↓mw19, ↓mw20, ↓mw22, ↓mw25, up_eq, up_ne, up_up, si_len, ↓hw]
theorem X10_putOn_no {lv q bl : Int} (mp : MP S V nb ns) (ly : Ly (V 102) (14 * lv) L) (hlv : 0 ≤ lv ∧ lv ≤ 1) (hx : ∀ x ∈ L.1, x < nb) (hn : L.1.Nodup) (hq : 0 ≤ q ∧ q < 100) (hm : q.toNat ∈ L.1) (E : List (List Int)) (K : Option am_V → am_H → Prop) : Wp E 135 0 [some (am_r (some 96)), some (am_i lv), some (am_i q), some (am_i bl), none, none] [] (mk C S V) K = K (some (am_i 0)) (mk C S V) := by
  have hw := fun E K => X10_heightOf_w (E := E) (K := K) (C := C) mp ly hlv hx hn hq
  have h0 := ly.1
  obtain ⟨P, S', e, hP⟩ := pl_split hm
  have e9 : pl_ix q.toNat L.1 0 = (P.length : Int) := by rw [e, pl_ix_at hP, Nat.zero_add]
  rw [e9] at hw
  have el : L.1.length = P.length + (S'.length + 1) := by rw [e, List.length_append, List.length_cons]
  simp (disch := first | omega | (simp (disch := omega) only [up_eq, up_ne, si_len, List.length_set]; omega)) only [↓e135_0, ↓e135_2, ↓e135_3, ↓e135_4, ↓e135_6, ↓e135_7, ↓e135_8, ↓e135_9, ↓e135_12, ↓e135_14, ↓e135_17, ↓e135_18, ↓am_ilp, ↓am_iln, ↓am_iep, ↓am_ien, ↓am_zlp, ↓am_zln, ↓am_zep, ↓am_zen, ↓am_zgp, ↓am_zgn, ↓am_zhp, ↓am_zhn, ↓am_b01, true_or, true_and, and_true, or_true, if_true, if_false, ↓am_bdl_z, ↓am_bdl_s, ↓am_bsl_z, ↓am_bsl_s, ↓am_k1_i, ↓am_k1_r, ↓am_k1_e, ↓am_k1_n, ↓am_bd_s, am_k1_t, eq_self, am_nl_i, am_nl_r, am_nl_e, am_nl_n, Option.toList_some, Option.toList_none, Option.map_some, Option.map_none, List.cons_append, List.nil_append, List.length_cons, List.length_nil, List.set_cons_zero, List.set_cons_succ, List.getElem?_cons_zero, List.getElem?_cons_succ, am_bd_s, ↓am_tls, ↓am_tln, ↓mk_oc, ↓ma_r, ↓ma_w, ↓mz_r, ↓mz_w, ↓mr0, ↓mr1, ↓mr2, ↓mr3, ↓mr4, ↓mr5, ↓mr6, ↓mr7, ↓mr8, ↓mr9, ↓mr10, ↓mr11, ↓mr12, ↓mr13, ↓mr14, ↓mr15, ↓mr16, ↓mr17, ↓mr18, ↓mr19, ↓mr20, ↓mr21, ↓mr22, ↓mr23, ↓mr24, ↓mr25, ↓mr26, ↓mr27, ↓mw0, ↓mw1, ↓mw11, ↓mw12, ↓mw13, ↓mw15, ↓mw16, ↓mw17, ↓mw19, ↓mw20, ↓mw22, ↓mw25, up_eq, up_ne, up_up, si_len, ↓hw]
theorem X10_putOn_0 {lv q : Int} (mp : MP S V nb ns) (ly : Ly (V 102) (14 * lv) L) (hlv : 0 ≤ lv ∧ lv ≤ 1) (hx : ∀ x ∈ L.1, x < nb) (hn : L.1.Nodup) (hq : 0 ≤ q ∧ q < nb) (hm : q.toNat ∉ L.1) : ∃ N, Af (V 102) N (14 * lv) ∧ Ly N (14 * lv) (L.1 ++ [q.toNat], L.2) ∧ ∀ E K, Wp E 135 0 [some (am_r (some 96)), some (am_i lv), some (am_i q), some (am_i 0), none, none] [] (mk C S V) K = K (some (am_i 1)) (mk C S (up V 102 N)) := by
  obtain ⟨s0, s1, hnb, hns, l97, l98, l99, l100, l101, l102, l107, pv, wv⟩ := id mp
  obtain ⟨h0, h1, h2, h3, h4, h5, h6, h7⟩ := id ly
  have hw := fun E K => X10_heightOf_w (E := E) (K := K) (C := C) mp ly hlv hx hn (show 0 ≤ q ∧ q < 100 by omega)
  rw [pl_ix_no hm] at hw
  have hl := pl_few hn hx (show q.toNat < nb by omega) hm hnb
  have hd : ∀ i : Int, 0 ≤ i → gi (si (si (V 102) (14 * lv + L.1.length) q) (14 * lv + 6) ((L.1.length : Int) + 1)) i = if i = 14 * lv + 6 then (L.1.length : Int) + 1 else if i = 14 * lv + L.1.length then q else gi (V 102) i := by
    intro i hi
    by_cases c1 : i = 14 * lv + 6
    · subst c1
      rw [gi_eq (by rw [si_len]; omega), if_pos rfl]
    · rw [gi_ne (by omega), if_neg c1]
      by_cases c2 : i = 14 * lv + L.1.length
      · subst c2
        rw [gi_eq (by omega), if_pos rfl]
      · rw [gi_ne (by omega), if_neg c2]
  refine ⟨si (si (V 102) (14 * lv + L.1.length) q) (14 * lv + 6) ((L.1.length : Int) + 1), ⟨by rw [si_len, si_len], fun i hi ho => by rw [hd i hi, if_neg (by omega), if_neg (by omega)]⟩, ?_, fun E K => ?_⟩
  · have el : (L.1 ++ [q.toNat]).length = L.1.length + 1 := by simp
    refine ⟨by dsimp only; omega, ?_, fun i hi => ?_, h3, h4, fun s hs => ?_, fun s hs => ?_, ?_⟩
    · rw [hd _ (by omega), if_pos rfl]; dsimp only; omega
    · dsimp only at hi ⊢
      rw [hd _ (by omega), if_neg (by omega)]
      by_cases c1 : i = L.1.length
      · rw [if_pos (by omega), c1, List.getD_eq_getElem?_getD, List.getElem?_append_right (by omega), Nat.sub_self]
        simp
        omega
      · rw [if_neg (by omega), h2 i (by omega), List.getD_eq_getElem?_getD, List.getD_eq_getElem?_getD, List.getElem?_append_left (by omega)]
    · rw [hd _ (by omega), if_neg (by omega), if_neg (by omega)]; exact h5 s hs
    · rw [hd _ (by omega), if_neg (by omega), if_neg (by omega)]; exact h6 s hs
    · rw [hd _ (by omega), if_neg (by omega), if_neg (by omega)]; exact h7
  · have g1 : gi (si (V 102) (14 * lv + L.1.length) q) (14 * lv + 6) = (L.1.length : Int) := by rw [gi_ne (by omega), h1]
    by_cases c0 : L.1.length = 0
    · simp (disch := first | omega | (simp (disch := omega) only [up_eq, up_ne, si_len, List.length_set]; omega)) only [↓e135_0, ↓e135_2, ↓e135_3, ↓e135_4, ↓e135_6, ↓e135_7, ↓e135_8, ↓e135_9, ↓e135_12, ↓e135_14, ↓e135_17, ↓e135_18, ↓e135_19, ↓e135_20, ↓e135_23, ↓e135_25, ↓e135_27, ↓e135_28, ↓e135_29, ↓e135_31, ↓e135_33, ↓e135_36, ↓e135_37, ↓e135_40, ↓e135_41, ↓e135_44, ↓e135_46, ↓e135_48, ↓e135_49, ↓e135_50, ↓e135_53, ↓e135_55, ↓e135_57, ↓e135_58, ↓e135_59, ↓e135_60, ↓e135_61, ↓e135_62, ↓e135_65, ↓e135_68, ↓e135_69, ↓e135_72, ↓e135_74, ↓e135_75, ↓e135_78, ↓e135_79, ↓e135_82, ↓e135_83, ↓e135_86, ↓e135_88, ↓e135_90, ↓e135_91, ↓e135_92, ↓e135_93, ↓e135_94, ↓e135_95, ↓e135_96, ↓e135_99, ↓e135_101, ↓e135_103, ↓e135_104, ↓e135_105, ↓e135_106, ↓e135_107, ↓e135_108, ↓e135_109, ↓e135_110, ↓am_ilp, ↓am_iln, ↓am_iep, ↓am_ien, ↓am_zlp, ↓am_zln, ↓am_zep, ↓am_zen, ↓am_zgp, ↓am_zgn, ↓am_zhp, ↓am_zhn, ↓am_b01, true_or, true_and, and_true, or_true, if_true, if_false, ↓am_bdl_z, ↓am_bdl_s, ↓am_bsl_z, ↓am_bsl_s, ↓am_k1_i, ↓am_k1_r, ↓am_k1_e, ↓am_k1_n, ↓am_bd_s, am_k1_t, eq_self, am_nl_i, am_nl_r, am_nl_e, am_nl_n, Option.toList_some, Option.toList_none, Option.map_some, Option.map_none, List.cons_append, List.nil_append, List.length_cons, List.length_nil, List.set_cons_zero, List.set_cons_succ, List.getElem?_cons_zero, List.getElem?_cons_succ, am_bd_s, ↓am_tls, ↓am_tln, ↓mk_oc, ↓ma_r, ↓ma_w, ↓mz_r, ↓mz_w, ↓mr0, ↓mr1, ↓mr2, ↓mr3, ↓mr4, ↓mr5, ↓mr6, ↓mr7, ↓mr8, ↓mr9, ↓mr10, ↓mr11, ↓mr12, ↓mr13, ↓mr14, ↓mr15, ↓mr16, ↓mr17, ↓mr18, ↓mr19, ↓mr20, ↓mr21, ↓mr22, ↓mr23, ↓mr24, ↓mr25, ↓mr26, ↓mr27, ↓mw0, ↓mw1, ↓mw11, ↓mw12, ↓mw13, ↓mw15, ↓mw16, ↓mw17, ↓mw19, ↓mw20, ↓mw22, ↓mw25, up_eq, up_ne, up_up, si_len, ↓hw, h1, g1]
    · simp (disch := first | omega | (simp (disch := omega) only [up_eq, up_ne, si_len, List.length_set]; omega)) only [↓e135_0, ↓e135_2, ↓e135_3, ↓e135_4, ↓e135_6, ↓e135_7, ↓e135_8, ↓e135_9, ↓e135_12, ↓e135_14, ↓e135_17, ↓e135_18, ↓e135_19, ↓e135_20, ↓e135_23, ↓e135_25, ↓e135_27, ↓e135_28, ↓e135_29, ↓e135_31, ↓e135_33, ↓e135_36, ↓e135_37, ↓e135_40, ↓e135_41, ↓e135_44, ↓e135_46, ↓e135_48, ↓e135_49, ↓e135_50, ↓e135_53, ↓e135_55, ↓e135_57, ↓e135_58, ↓e135_59, ↓e135_60, ↓e135_61, ↓e135_62, ↓e135_65, ↓e135_68, ↓e135_69, ↓e135_72, ↓e135_74, ↓e135_75, ↓e135_78, ↓e135_79, ↓e135_82, ↓e135_83, ↓e135_86, ↓e135_88, ↓e135_90, ↓e135_91, ↓e135_92, ↓e135_93, ↓e135_94, ↓e135_95, ↓e135_96, ↓e135_99, ↓e135_101, ↓e135_103, ↓e135_104, ↓e135_105, ↓e135_106, ↓e135_107, ↓e135_108, ↓e135_109, ↓e135_110, ↓am_ilp, ↓am_iln, ↓am_iep, ↓am_ien, ↓am_zlp, ↓am_zln, ↓am_zep, ↓am_zen, ↓am_zgp, ↓am_zgn, ↓am_zhp, ↓am_zhn, ↓am_b01, true_or, true_and, and_true, or_true, if_true, if_false, ↓am_bdl_z, ↓am_bdl_s, ↓am_bsl_z, ↓am_bsl_s, ↓am_k1_i, ↓am_k1_r, ↓am_k1_e, ↓am_k1_n, ↓am_bd_s, am_k1_t, eq_self, am_nl_i, am_nl_r, am_nl_e, am_nl_n, Option.toList_some, Option.toList_none, Option.map_some, Option.map_none, List.cons_append, List.nil_append, List.length_cons, List.length_nil, List.set_cons_zero, List.set_cons_succ, List.getElem?_cons_zero, List.getElem?_cons_succ, am_bd_s, ↓am_tls, ↓am_tln, ↓mk_oc, ↓ma_r, ↓ma_w, ↓mz_r, ↓mz_w, ↓mr0, ↓mr1, ↓mr2, ↓mr3, ↓mr4, ↓mr5, ↓mr6, ↓mr7, ↓mr8, ↓mr9, ↓mr10, ↓mr11, ↓mr12, ↓mr13, ↓mr14, ↓mr15, ↓mr16, ↓mr17, ↓mr18, ↓mr19, ↓mr20, ↓mr21, ↓mr22, ↓mr23, ↓mr24, ↓mr25, ↓mr26, ↓mr27, ↓mw0, ↓mw1, ↓mw11, ↓mw12, ↓mw13, ↓mw15, ↓mw16, ↓mw17, ↓mw19, ↓mw20, ↓mw22, ↓mw25, up_eq, up_ne, up_up, si_len, ↓hw, h1, g1]
theorem X10_putOn_1 {lv q : Int} (mp : MP S V nb ns) (ly : Ly (V 102) (14 * lv) L) (hlv : 0 ≤ lv ∧ lv ≤ 1) (hx : ∀ x ∈ L.1, x < nb) (hn : L.1.Nodup) (hq : 0 ≤ q ∧ q < nb) (hm : q.toNat ∉ L.1) : ∃ N, Af (V 102) N (14 * lv) ∧ Ly N (14 * lv) (q.toNat :: L.1, L.2) ∧ ∀ E K, Wp E 135 0 [some (am_r (some 96)), some (am_i lv), some (am_i q), some (am_i 1), none, none] [] (mk C S V) K = K (some (am_i 1)) (mk C S (up V 102 N)) := by
  obtain ⟨s0, s1, hnb, hns, l97, l98, l99, l100, l101, l102, l107, pv, wv⟩ := id mp
  obtain ⟨h0, h1, h2, h3, h4, h5, h6, h7⟩ := id ly
  have hw := fun E K => X10_heightOf_w (E := E) (K := K) (C := C) mp ly hlv hx hn (show 0 ≤ q ∧ q < 100 by omega)
  rw [pl_ix_no hm] at hw
  have hl := pl_few hn hx (show q.toNat < nb by omega) hm hnb
  have lo := fun (E : List (List Int)) (K : Option am_V → am_H → Prop) => am_foldz (W := fun k N => Wp E 135 31 [some (am_r (some 96)), some (am_i lv), some (am_i q), some (am_i 1), some (am_i (14 * lv)), some (am_i ((L.1.length : Int) - k))] [] (mk C S (up V 102 N)) K) (f := fun N k => si N (14 * lv + ((L.1.length : Int) - k)) (gi N (14 * lv + ((L.1.length : Int) - k) - 1))) (I := fun k N => N.length = 28 ∧ ∀ i : Int, 0 ≤ i → gi N i = if 14 * lv + L.1.length - k < i ∧ i ≤ 14 * lv + L.1.length then gi (V 102) (i - 1) else gi (V 102) i) (lo := 0) (N := (L.1.length : Int)) (by
    intro k N k0 k1 hI
    obtain ⟨i1, i2⟩ := hI
    refine ⟨⟨by rw [si_len]; exact i1, fun i hi => ?_⟩, ?_⟩
    · by_cases c1 : i = 14 * lv + ((L.1.length : Int) - k)
      · rw [c1, gi_eq (by omega), i2 _ (by omega), if_neg (by omega), if_pos (by omega)]
      · rw [gi_ne (by omega), i2 i hi]
        by_cases c3 : 14 * lv + L.1.length - k < i ∧ i ≤ 14 * lv + L.1.length
        · rw [if_pos c3, if_pos (by omega)]
        · rw [if_neg c3, if_neg (by omega)]
    · have ed : (L.1.length : Int) - k + -1 = (L.1.length : Int) - (k + 1) := by omega
      rw [e135_31]
      simp (disch := first | omega | (simp (disch := omega) only [up_eq, up_ne, si_len, List.length_set]; omega)) only [↓e135_33, ↓e135_36, ↓e135_37, ↓e135_40, ↓e135_41, ↓e135_44, ↓e135_46, ↓e135_48, ↓e135_49, ↓e135_50, ↓e135_53, ↓e135_55, ↓e135_57, ↓e135_58, ↓e135_59, ↓e135_60, ↓e135_61, ↓e135_62, ↓e135_65, ↓am_ilp, ↓am_iln, ↓am_iep, ↓am_ien, ↓am_zlp, ↓am_zln, ↓am_zep, ↓am_zen, ↓am_zgp, ↓am_zgn, ↓am_zhp, ↓am_zhn, ↓am_b01, true_or, true_and, and_true, or_true, if_true, if_false, ↓am_bdl_z, ↓am_bdl_s, ↓am_bsl_z, ↓am_bsl_s, ↓am_k1_i, ↓am_k1_r, ↓am_k1_e, ↓am_k1_n, ↓am_bd_s, am_k1_t, eq_self, am_nl_i, am_nl_r, am_nl_e, am_nl_n, Option.toList_some, Option.toList_none, Option.map_some, Option.map_none, List.cons_append, List.nil_append, List.length_cons, List.length_nil, List.set_cons_zero, List.set_cons_succ, List.getElem?_cons_zero, List.getElem?_cons_succ, am_bd_s, ↓am_tls, ↓am_tln, ↓mk_oc, ↓ma_r, ↓ma_w, ↓mz_r, ↓mz_w, ↓mr0, ↓mr1, ↓mr2, ↓mr3, ↓mr4, ↓mr5, ↓mr6, ↓mr7, ↓mr8, ↓mr9, ↓mr10, ↓mr11, ↓mr12, ↓mr13, ↓mr14, ↓mr15, ↓mr16, ↓mr17, ↓mr18, ↓mr19, ↓mr20, ↓mr21, ↓mr22, ↓mr23, ↓mr24, ↓mr25, ↓mr26, ↓mr27, ↓mw0, ↓mw1, ↓mw11, ↓mw12, ↓mw13, ↓mw15, ↓mw16, ↓mw17, ↓mw19, ↓mw20, ↓mw22, ↓mw25, up_eq, up_ne, up_up, si_len, ed]) L.1.length 0 (V 102) (by omega) (by omega) ⟨l102, fun i hi => by rw [if_neg (by omega)]⟩
  obtain ⟨N, hN⟩ : ∃ N, N = pl_fz (fun N k => si N (14 * lv + ((L.1.length : Int) - k)) (gi N (14 * lv + ((L.1.length : Int) - k) - 1))) 0 L.1.length (V 102) := ⟨_, rfl⟩
  rw [← hN, up_same] at lo
  obtain ⟨i1, i2⟩ := (lo [] (fun _ _ => True)).2
  have hd : ∀ i : Int, 0 ≤ i → gi (si (si N (14 * lv) q) (14 * lv + 6) ((L.1.length : Int) + 1)) i = if i = 14 * lv + 6 then (L.1.length : Int) + 1 else if i = 14 * lv then q else if 14 * lv < i ∧ i ≤ 14 * lv + L.1.length then gi (V 102) (i - 1) else gi (V 102) i := by
    intro i hi
    by_cases c1 : i = 14 * lv + 6
    · subst c1
      rw [gi_eq (by rw [si_len]; omega), if_pos rfl]
    · rw [gi_ne (by omega), if_neg c1]
      by_cases c2 : i = 14 * lv
      · subst c2
        rw [gi_eq (by omega), if_pos rfl]
      · rw [gi_ne (by omega), if_neg c2, i2 i hi]
        by_cases c3 : 14 * lv < i ∧ i ≤ 14 * lv + L.1.length
        · rw [if_pos c3, if_pos (by omega)]
        · rw [if_neg c3, if_neg (by omega)]
  refine ⟨si (si N (14 * lv) q) (14 * lv + 6) ((L.1.length : Int) + 1), ⟨by rw [si_len, si_len]; omega, fun i hi ho => by rw [hd i hi, if_neg (by omega), if_neg (by omega), if_neg (by omega)]⟩, ?_, fun E K => ?_⟩
  · refine ⟨by rw [List.length_cons]; omega, ?_, fun i hi => ?_, h3, h4, fun s hs => ?_, fun s hs => ?_, ?_⟩
    · rw [hd _ (by omega), if_pos rfl, List.length_cons]; omega
    · rw [List.length_cons] at hi
      rw [hd _ (by omega), if_neg (by omega)]
      match i, hi with
      | 0, _ =>
        rw [if_pos (by omega), List.getD_cons_zero]
        omega
      | i + 1, hi =>
        rw [if_neg (by omega), if_pos (by omega), List.getD_cons_succ, ← h2 i (by omega)]
        congr 1
        omega
    · rw [hd _ (by omega), if_neg (by omega), if_neg (by omega), if_neg (by omega)]; exact h5 s hs
    · rw [hd _ (by omega), if_neg (by omega), if_neg (by omega), if_neg (by omega)]; exact h6 s hs
    · rw [hd _ (by omega), if_neg (by omega), if_neg (by omega), if_neg (by omega)]; exact h7
  · have g1 : gi N (14 * lv + 6) = (L.1.length : Int) := by rw [i2 _ (by omega), if_neg (by omega), h1]
    have g2 : gi (si N (14 * lv) q) (14 * lv + 6) = (L.1.length : Int) := by rw [gi_ne (by omega), g1]
    have l2 := (lo E K).1
    rw [Int.sub_zero, Int.sub_self] at l2
    have e0 : 14 * lv + 0 = 14 * lv := by omega
    simp (disch := first | omega | (simp (disch := omega) only [up_eq, up_ne, si_len, List.length_set]; omega)) only [↓e135_0, ↓e135_2, ↓e135_3, ↓e135_4, ↓e135_6, ↓e135_7, ↓e135_8, ↓e135_9, ↓e135_12, ↓e135_14, ↓e135_17, ↓e135_18, ↓e135_19, ↓e135_20, ↓e135_23, ↓e135_25, ↓e135_27, ↓e135_28, ↓e135_29, ↓am_ilp, ↓am_iln, ↓am_iep, ↓am_ien, ↓am_zlp, ↓am_zln, ↓am_zep, ↓am_zen, ↓am_zgp, ↓am_zgn, ↓am_zhp, ↓am_zhn, ↓am_b01, true_or, true_and, and_true, or_true, if_true, if_false, ↓am_bdl_z, ↓am_bdl_s, ↓am_bsl_z, ↓am_bsl_s, ↓am_k1_i, ↓am_k1_r, ↓am_k1_e, ↓am_k1_n, ↓am_bd_s, am_k1_t, eq_self, am_nl_i, am_nl_r, am_nl_e, am_nl_n, Option.toList_some, Option.toList_none, Option.map_some, Option.map_none, List.cons_append, List.nil_append, List.length_cons, List.length_nil, List.set_cons_zero, List.set_cons_succ, List.getElem?_cons_zero, List.getElem?_cons_succ, am_bd_s, ↓am_tls, ↓am_tln, ↓mk_oc, ↓ma_r, ↓ma_w, ↓mz_r, ↓mz_w, ↓mr0, ↓mr1, ↓mr2, ↓mr3, ↓mr4, ↓mr5, ↓mr6, ↓mr7, ↓mr8, ↓mr9, ↓mr10, ↓mr11, ↓mr12, ↓mr13, ↓mr14, ↓mr15, ↓mr16, ↓mr17, ↓mr18, ↓mr19, ↓mr20, ↓mr21, ↓mr22, ↓mr23, ↓mr24, ↓mr25, ↓mr26, ↓mr27, ↓mw0, ↓mw1, ↓mw11, ↓mw12, ↓mw13, ↓mw15, ↓mw16, ↓mw17, ↓mw19, ↓mw20, ↓mw22, ↓mw25, up_eq, up_ne, up_up, si_len, ↓hw, h1]
    refine Eq.trans l2 ?_
    rw [e135_31]
    simp (disch := first | omega | (simp (disch := omega) only [up_eq, up_ne, si_len, List.length_set]; omega)) only [↓e135_33, ↓e135_36, ↓e135_37, ↓e135_40, ↓e135_41, ↓e135_44, ↓e135_46, ↓e135_48, ↓e135_49, ↓e135_50, ↓e135_53, ↓e135_55, ↓e135_57, ↓e135_58, ↓e135_59, ↓e135_60, ↓e135_61, ↓e135_62, ↓e135_65, ↓e135_68, ↓e135_69, ↓e135_72, ↓e135_74, ↓e135_75, ↓e135_78, ↓e135_79, ↓e135_82, ↓e135_83, ↓e135_86, ↓e135_88, ↓e135_90, ↓e135_91, ↓e135_92, ↓e135_93, ↓e135_94, ↓e135_95, ↓e135_96, ↓e135_99, ↓e135_101, ↓e135_103, ↓e135_104, ↓e135_105, ↓e135_106, ↓e135_107, ↓e135_108, ↓e135_109, ↓e135_110, ↓am_ilp, ↓am_iln, ↓am_iep, ↓am_ien, ↓am_zlp, ↓am_zln, ↓am_zep, ↓am_zen, ↓am_zgp, ↓am_zgn, ↓am_zhp, ↓am_zhn, ↓am_b01, true_or, true_and, and_true, or_true, if_true, if_false, ↓am_bdl_z, ↓am_bdl_s, ↓am_bsl_z, ↓am_bsl_s, ↓am_k1_i, ↓am_k1_r, ↓am_k1_e, ↓am_k1_n, ↓am_bd_s, am_k1_t, eq_self, am_nl_i, am_nl_r, am_nl_e, am_nl_n, Option.toList_some, Option.toList_none, Option.map_some, Option.map_none, List.cons_append, List.nil_append, List.length_cons, List.length_nil, List.set_cons_zero, List.set_cons_succ, List.getElem?_cons_zero, List.getElem?_cons_succ, am_bd_s, ↓am_tls, ↓am_tln, ↓mk_oc, ↓ma_r, ↓ma_w, ↓mz_r, ↓mz_w, ↓mr0, ↓mr1, ↓mr2, ↓mr3, ↓mr4, ↓mr5, ↓mr6, ↓mr7, ↓mr8, ↓mr9, ↓mr10, ↓mr11, ↓mr12, ↓mr13, ↓mr14, ↓mr15, ↓mr16, ↓mr17, ↓mr18, ↓mr19, ↓mr20, ↓mr21, ↓mr22, ↓mr23, ↓mr24, ↓mr25, ↓mr26, ↓mr27, ↓mw0, ↓mw1, ↓mw11, ↓mw12, ↓mw13, ↓mw15, ↓mw16, ↓mw17, ↓mw19, ↓mw20, ↓mw22, ↓mw25, up_eq, up_ne, up_up, si_len, g1, g2, e0]
end MPT
