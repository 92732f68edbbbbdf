/-! the model: the row of acts -/
theorem Ly.cp {N R : List Int} {b d : Int} {L : pl_L} (ly : Ly N b L) (h : ∀ k : Int, 0 ≤ k → k < 14 → gi R (d + k) = gi N (b + k)) : Ly R d L := by
  obtain ⟨h0, h1, h2, h3, h4, h5, h6, h7⟩ := ly
  refine ⟨h0, by rw [h 6 (by omega) (by omega)]; exact h1, fun i hi => by rw [h _ (by omega) (by omega)]; exact h2 i hi, h3, h4, fun s hs => ?_, fun s hs => ?_, by rw [h 13 (by omega) (by omega)]; exact h7⟩
  · rw [show d + 7 + (s : Int) = d + (7 + s) by omega, h _ (by omega) (by omega), show b + (7 + (s : Int)) = b + 7 + s by omega]; exact h5 s hs
  · rw [show d + 10 + (s : Int) = d + (10 + s) by omega, h _ (by omega) (by omega), show b + (10 + (s : Int)) = b + 10 + s by omega]; exact h6 s hs
/-- fourteen numbers are copied -/
theorem m_cp {g : Int → Int} {d : Int} (R : List Int) (hd : 0 ≤ d) (hl : d + 14 ≤ R.length) : (pl_fz (fun R k => si R (d + k) (g k)) 0 14 R).length = R.length ∧ ∀ i : Int, 0 ≤ i → gi (pl_fz (fun R k => si R (d + k) (g k)) 0 14 R) i = if d ≤ i ∧ i < d + 14 then g (i - d) else gi R i := by
  have lo := am_foldz (W := fun _ _ => True) (f := fun R k => si R (d + k) (g k)) (I := fun k R' => R'.length = R.length ∧ ∀ i : Int, 0 ≤ i → gi R' i = if d ≤ i ∧ i < d + k then g (i - d) else gi R i) (lo := 0) (N := 14) (by
    intro k R' k0 k1 hI
    obtain ⟨i1, i2⟩ := hI
    refine ⟨⟨by rw [si_len]; exact i1, fun i hi => ?_⟩, rfl⟩
    by_cases c1 : i = d + k
    · subst c1
      rw [gi_eq (by omega), if_pos (by omega)]
      congr 1
      omega
    · rw [gi_ne (by omega), i2 i hi]
      by_cases c3 : d ≤ i ∧ i < d + k
      · rw [if_pos c3, if_pos (by omega)]
      · rw [if_neg c3, if_neg (by omega)]) 14 0 R (by omega) (by omega) ⟨rfl, fun i hi => by rw [if_neg (by omega)]⟩
  exact lo.2
/-- fields and arrays that are as they were -/
def Kp (A B : List Nat) (S S' : Nat → Int) (V V' : Nat → List Int) : Prop := (∀ i, i ∉ A → S' i = S i) ∧ (∀ i, i ∉ B → V' i = V i)
theorem up_nm {α : Type} {S : Nat → α} {i j : Nat} {v : α} {A : List Nat} (h : i ∉ A) (hj : j ∈ A) : up S j v i = S i := up_ne (fun e => h (by rw [e]; exact hj))
def MW (S : Nat → Int) (V : Nat → List Int) (nx len : Nat) (Ls : List pl_L) : Prop := S 19 = (len : Int) ∧ S 20 = (nx : Int) ∧ nx < 14 ∧ len ≤ 14 ∧ (V 108).length = 196 ∧ Ls.length = 14 ∧ ∀ (i : Nat) (M : pl_L), Ls[i]? = some M → Ly (V 108) (14 * (i : Int)) M
section MRW
variable {C : Nat → am_C} {S : Nat → Int} {V : Nat → List Int} {nb ns nx len : Nat} {L : pl_L} {Ls : List pl_L}
theorem X10_keepAct_w (mp : MP S V nb ns) (ly : Ly (V 102) 0 L) (mw : MW S V nx len Ls) : ∃ S' R, S' = up (up S 20 (((nx + 1) % 14 : Nat) : Int)) 19 ((min (len + 1) 14 : Nat) : Int) ∧ MW S' (up V 108 R) ((nx + 1) % 14) (min (len + 1) 14) (Ls.set nx L) ∧ MP S' (up V 108 R) nb ns ∧ ∀ E K, Wp E 139 0 [some (am_r (some 96)), none] [] (mk C S V) K = K none (mk C S' (up V 108 R)) := by
  obtain ⟨s0, s1, hnb, hns, l97, l98, l99, l100, l101, l102, l107, pv, wv⟩ := id mp
  obtain ⟨a19, a20, hnx, hlen, l108, lL, hLs⟩ := mw
  obtain ⟨i1, i2⟩ := m_cp (g := fun k => gi (V 102) k) (d := 14 * S 20) (V 108) (by omega) (by omega)
  have lo := fun (E : List (List Int)) (K : Option am_V → am_H → Prop) => am_foldz (W := fun k R => Wp E 139 2 [some (am_r (some 96)), some (am_i k)] [] (mk C S (up V 108 R)) K) (f := fun R k => si R (14 * S 20 + k) (gi (V 102) k)) (I := fun _ R => R.length = 196) (lo := 0) (N := 14) (by
    intro k R k0 k1 hI
    refine ⟨by rw [si_len]; exact hI, ?_⟩
    rw [e139_2]
    simp (disch := first | omega | (simp (disch := omega) only [up_eq, up_ne, si_len, List.length_set]; omega)) only [↓e139_3, ↓e139_5, ↓e139_8, ↓e139_9, ↓e139_12, ↓e139_14, ↓e139_15, ↓e139_18, ↓e139_19, ↓e139_20, ↓e139_21, ↓e139_22, ↓e139_25, ↓e139_26, ↓e139_27, ↓e139_28, ↓e139_31, ↓am_ilp, ↓am_iln, ↓am_iep, ↓am_ien, ↓am_zlp, ↓am_zln, ↓am_zep, ↓am_zen, ↓am_zgp, ↓am_zgn, ↓am_zhp, ↓am_zhn, ↓am_b01, true_or, true_and, and_true, or_true, if_true, if_false, ↓am_bdl_z, ↓am_bdl_s, ↓am_bsl_z, ↓am_bsl_s, ↓am_k1_i, ↓am_k1_r, ↓am_k1_e, ↓am_k1_n, ↓am_bd_s, am_k1_t, eq_self, am_nl_i, am_nl_r, am_nl_e, am_nl_n, Option.toList_some, Option.toList_none, Option.map_some, Option.map_none, List.cons_append, List.nil_append, List.length_cons, List.length_nil, List.set_cons_zero, List.set_cons_succ, List.getElem?_cons_zero, List.getElem?_cons_succ, am_bd_s, ↓am_tls, ↓am_tln, ↓mk_oc, ↓ma_r, ↓ma_w, ↓mz_r, ↓mz_w, ↓mr0, ↓mr1, ↓mr2, ↓mr3, ↓mr4, ↓mr5, ↓mr6, ↓mr7, ↓mr8, ↓mr9, ↓mr10, ↓mr11, ↓mr12, ↓mr13, ↓mr14, ↓mr15, ↓mr16, ↓mr17, ↓mr18, ↓mr19, ↓mr20, ↓mr21, ↓mr22, ↓mr23, ↓mr24, ↓mr25, ↓mr26, ↓mr27, ↓mw0, ↓mw1, ↓mw11, ↓mw12, ↓mw13, ↓mw15, ↓mw16, ↓mw17, ↓mw19, ↓mw20, ↓mw22, ↓mw25, up_eq, up_ne, up_up, si_len]) 14 0 (V 108) (by omega) (by omega) l108
  obtain ⟨R, hR⟩ : ∃ R, R = pl_fz (fun R k => si R (14 * S 20 + k) (gi (V 102) k)) 0 14 (V 108) := ⟨_, rfl⟩
  rw [← hR] at i1 i2 lo
  rw [up_same] at lo
  refine ⟨_, R, rfl, ⟨by rw [up_eq], by rw [up_ne (by decide), up_eq], Nat.mod_lt _ (by omega), by omega, by rw [up_eq]; omega, by rw [List.length_set]; exact lL, fun i M e => ?_⟩, ⟨s0, s1, hnb, hns, l97, l98, l99, l100, l101, l102, l107, pv, wv⟩, fun E K => ?_⟩
  · rw [up_eq]
    by_cases q : nx = i
    · subst q
      rw [List.getElem?_set_self (by omega)] at e
      cases e
      exact ly.cp (fun k k0 k1 => by
        rw [i2 _ (by omega), if_pos (by omega)]
        congr 1
        omega)
    · rw [List.getElem?_set_ne q] at e
      have hi : i < 14 := by rw [← lL]; exact (List.getElem?_eq_some_iff.mp e).1
      exact (hLs i M e).fr (fun j h1 h2 => by rw [i2 _ (by omega), if_neg (by omega)])
  · have er : am_rem (S 20 + 1) 14 = (((nx + 1) % 14 : Nat) : Int) := by
      rw [a20]
      have hd : ∀ n < 14, am_rem (((n : Nat) : Int) + 1) 14 = (((n + 1) % 14 : Nat) : Int) := by decide +kernel
      exact hd nx hnx
    simp (disch := first | omega | (simp (disch := omega) only [up_eq, up_ne, si_len, List.length_set]; omega)) only [↓e139_0, ↓e139_1, ↓am_ilp, ↓am_iln, ↓am_iep, ↓am_ien, ↓am_zlp, ↓am_zln, ↓am_zep, ↓am_zen, ↓am_zgp, ↓am_zgn, ↓am_zhp, ↓am_zhn, ↓am_b01, true_or, true_and, and_true, or_true, if_true, if_false, ↓am_bdl_z, ↓am_bdl_s, ↓am_bsl_z, ↓am_bsl_s, ↓am_k1_i, ↓am_k1_r, ↓am_k1_e, ↓am_k1_n, ↓am_bd_s, am_k1_t, eq_self, am_nl_i, am_nl_r, am_nl_e, am_nl_n, Option.toList_some, Option.toList_none, Option.map_some, Option.map_none, List.cons_append, List.nil_append, List.length_cons, List.length_nil, List.set_cons_zero, List.set_cons_succ, List.getElem?_cons_zero, List.getElem?_cons_succ, am_bd_s]
    refine Eq.trans (lo E K).1 ?_
    rw [e139_2]
    by_cases q : len < 14
    · rw [show ((min (len + 1) 14 : Nat) : Int) = S 19 + 1 by omega]
      simp (disch := first | omega | (simp (disch := omega) only [up_eq, up_ne, si_len, List.length_set]; omega)) only [↓e139_3, ↓e139_5, ↓e139_34, ↓e139_35, ↓e139_36, ↓e139_39, ↓e139_40, ↓e139_41, ↓e139_43, ↓e139_44, ↓e139_47, ↓e139_48, ↓e139_49, ↓e139_52, ↓e139_54, ↓e139_57, ↓e139_58, ↓e139_61, ↓e139_62, ↓e139_63, ↓e139_66, ↓e139_68, ↓e139_71, ↓am_ilp, ↓am_iln, ↓am_iep, ↓am_ien, ↓am_zlp, ↓am_zln, ↓am_zep, ↓am_zen, ↓am_zgp, ↓am_zgn, ↓am_zhp, ↓am_zhn, ↓am_b01, true_or, true_and, and_true, or_true, if_true, if_false, ↓am_bdl_z, ↓am_bdl_s, ↓am_bsl_z, ↓am_bsl_s, ↓am_k1_i, ↓am_k1_r, ↓am_k1_e, ↓am_k1_n, ↓am_bd_s, am_k1_t, eq_self, am_nl_i, am_nl_r, am_nl_e, am_nl_n, Option.toList_some, Option.toList_none, Option.map_some, Option.map_none, List.cons_append, List.nil_append, List.length_cons, List.length_nil, List.set_cons_zero, List.set_cons_succ, List.getElem?_cons_zero, List.getElem?_cons_succ, am_bd_s, ↓am_tls, ↓am_tln, ↓mk_oc, ↓ma_r, ↓ma_w, ↓mz_r, ↓mz_w, ↓mr0, ↓mr1, ↓mr2, ↓mr3, ↓mr4, ↓mr5, ↓mr6, ↓mr7, ↓mr8, ↓mr9, ↓mr10, ↓mr11, ↓mr12, ↓mr13, ↓mr14, ↓mr15, ↓mr16, ↓mr17, ↓mr18, ↓mr19, ↓mr20, ↓mr21, ↓mr22, ↓mr23, ↓mr24, ↓mr25, ↓mr26, ↓mr27, ↓mw0, ↓mw1, ↓mw11, ↓mw12, ↓mw13, ↓mw15, ↓mw16, ↓mw17, ↓mw19, ↓mw20, ↓mw22, ↓mw25, up_eq, up_ne, up_up, si_len, er, if_neg, ↓am_zen]
    · rw [show ((min (len + 1) 14 : Nat) : Int) = 14 by omega]
      simp (disch := first | omega | (simp (disch := omega) only [up_eq, up_ne, si_len, List.length_set]; omega)) only [↓e139_3, ↓e139_5, ↓e139_34, ↓e139_35, ↓e139_36, ↓e139_39, ↓e139_40, ↓e139_41, ↓e139_43, ↓e139_44, ↓e139_47, ↓e139_48, ↓e139_49, ↓e139_52, ↓e139_54, ↓e139_57, ↓e139_58, ↓e139_61, ↓e139_62, ↓e139_63, ↓e139_66, ↓e139_68, ↓e139_71, ↓am_ilp, ↓am_iln, ↓am_iep, ↓am_ien, ↓am_zlp, ↓am_zln, ↓am_zep, ↓am_zen, ↓am_zgp, ↓am_zgn, ↓am_zhp, ↓am_zhn, ↓am_b01, true_or, true_and, and_true, or_true, if_true, if_false, ↓am_bdl_z, ↓am_bdl_s, ↓am_bsl_z, ↓am_bsl_s, ↓am_k1_i, ↓am_k1_r, ↓am_k1_e, ↓am_k1_n, ↓am_bd_s, am_k1_t, eq_self, am_nl_i, am_nl_r, am_nl_e, am_nl_n, Option.toList_some, Option.toList_none, Option.map_some, Option.map_none, List.cons_append, List.nil_append, List.length_cons, List.length_nil, List.set_cons_zero, List.set_cons_succ, List.getElem?_cons_zero, List.getElem?_cons_succ, am_bd_s, ↓am_tls, ↓am_tln, ↓mk_oc, ↓ma_r, ↓ma_w, ↓mz_r, ↓mz_w, ↓mr0, ↓mr1, ↓mr2, ↓mr3, ↓mr4, ↓mr5, ↓mr6, ↓mr7, ↓mr8, ↓mr9, ↓mr10, ↓mr11, ↓mr12, ↓mr13, ↓mr14, ↓mr15, ↓mr16, ↓mr17, ↓mr18, ↓mr19, ↓mr20, ↓mr21, ↓mr22, ↓mr23, ↓mr24, ↓mr25, ↓mr26, ↓mr27, ↓mw0, ↓mw1, ↓mw11, ↓mw12, ↓mw13, ↓mw15, ↓mw16, ↓mw17, ↓mw19, ↓mw20, ↓mw22, ↓mw25, up_eq, up_ne, up_up, si_len, er, if_neg, ↓am_zen]
theorem X10_undo_no (mw : MW S V nx 0 Ls) (E : List (List Int)) (K : Option am_V → am_H → Prop) : Wp E 146 0 [some (am_r (some 96)), none] [] (mk C S V) K = K (some (am_i (-3))) (mk C S V) := by
  obtain ⟨a19, -⟩ := mw
  simp (disch := first | omega | (simp (disch := omega) only [up_eq, up_ne, si_len, List.length_set]; omega)) only [↓e146_0, ↓e146_1, ↓e146_4, ↓e146_7, ↓e146_9, ↓am_ilp, ↓am_iln, ↓am_iep, ↓am_ien, ↓am_zlp, ↓am_zln, ↓am_zep, ↓am_zen, ↓am_zgp, ↓am_zgn, ↓am_zhp, ↓am_zhn, ↓am_b01, true_or, true_and, and_true, or_true, if_true, if_false, ↓am_bdl_z, ↓am_bdl_s, ↓am_bsl_z, ↓am_bsl_s, ↓am_k1_i, ↓am_k1_r, ↓am_k1_e, ↓am_k1_n, ↓am_bd_s, am_k1_t, eq_self, am_nl_i, am_nl_r, am_nl_e, am_nl_n, Option.toList_some, Option.toList_none, Option.map_some, Option.map_none, List.cons_append, List.nil_append, List.length_cons, List.length_nil, List.set_cons_zero, List.set_cons_succ, List.getElem?_cons_zero, List.getElem?_cons_succ, am_bd_s, ↓am_tls, ↓am_tln, ↓mk_oc, ↓ma_r, ↓ma_w, ↓mz_r, ↓mz_w, ↓mr0, ↓mr1, ↓mr2, ↓mr3, ↓mr4, ↓mr5, ↓mr6, ↓mr7, ↓mr8, ↓mr9, ↓mr10, ↓mr11, ↓mr12, ↓mr13, ↓mr14, ↓mr15, ↓mr16, ↓mr17, ↓mr18, ↓mr19, ↓mr20, ↓mr21, ↓mr22, ↓mr23, ↓mr24, ↓mr25, ↓mr26, ↓mr27, ↓mw0, ↓mw1, ↓mw11, ↓mw12, ↓mw13, ↓mw15, ↓mw16, ↓mw17, ↓mw19, ↓mw20, ↓mw22, ↓mw25, up_eq, up_ne, up_up, si_len]
theorem X10_undo_w (mp : MP S V nb ns) (mw : MW S V nx (len + 1) Ls) : ∃ S' N, S' = up (up S 19 (len : Int)) 20 (((nx + 13) % 14 : Nat) : Int) ∧ Af (V 102) N 0 ∧ Ly N 0 (Ls.getD ((nx + 13) % 14) L) ∧ MW S' (up V 102 N) ((nx + 13) % 14) len Ls ∧ MP S' (up V 102 N) nb ns ∧ ∀ E K, Wp E 146 0 [some (am_r (some 96)), none] [] (mk C S V) K = K (some (am_i (len : Int))) (mk C S' (up V 102 N)) := by
  obtain ⟨s0, s1, hnb, hns, l97, l98, l99, l100, l101, l102, l107, pv, wv⟩ := id mp
  obtain ⟨a19, a20, hnx, hlen, l108, lL, hLs⟩ := mw
  have hm : (nx + 13) % 14 < 14 := Nat.mod_lt _ (by omega)
  obtain ⟨i1, i2⟩ := m_cp (g := fun k => gi (V 108) (14 * (((nx + 13) % 14 : Nat) : Int) + k)) (d := 0) (V 102) (by omega) (by omega)
  simp only [Int.zero_add] at i1 i2
  have er : am_rem (S 20 + 13) 14 = (((nx + 13) % 14 : Nat) : Int) := by
    rw [a20]
    have hd : ∀ n < 14, am_rem (((n : Nat) : Int) + 13) 14 = (((n + 13) % 14 : Nat) : Int) := by decide +kernel
    exact hd nx hnx
  have e9 : S 19 - 1 = (len : Int) := by omega
  have lo := fun (E : List (List Int)) (K : Option am_V → am_H → Prop) => am_foldz (W := fun k R => Wp E 146 36 [some (am_r (some 96)), some (am_i k)] [] (mk C (up (up S 19 (len : Int)) 20 (((nx + 13) % 14 : Nat) : Int)) (up V 102 R)) K) (f := fun R k => si R k (gi (V 108) (14 * (((nx + 13) % 14 : Nat) : Int) + k))) (I := fun _ R => R.length = 28) (lo := 0) (N := 14) (by
    intro k R k0 k1 hI
    refine ⟨by rw [si_len]; exact hI, ?_⟩
    rw [e146_36]
    simp (disch := first | omega | (simp (disch := omega) only [up_eq, up_ne, si_len, List.length_set]; omega)) only [↓e146_37, ↓e146_39, ↓e146_42, ↓e146_43, ↓e146_46, ↓e146_47, ↓e146_48, ↓e146_51, ↓e146_53, ↓e146_54, ↓e146_57, ↓e146_58, ↓e146_59, ↓e146_60, ↓e146_61, ↓e146_62, ↓e146_65, ↓am_ilp, ↓am_iln, ↓am_iep, ↓am_ien, ↓am_zlp, ↓am_zln, ↓am_zep, ↓am_zen, ↓am_zgp, ↓am_zgn, ↓am_zhp, ↓am_zhn, ↓am_b01, true_or, true_and, and_true, or_true, if_true, if_false, ↓am_bdl_z, ↓am_bdl_s, ↓am_bsl_z, ↓am_bsl_s, ↓am_k1_i, ↓am_k1_r, ↓am_k1_e, ↓am_k1_n, ↓am_bd_s, am_k1_t, eq_self, am_nl_i, am_nl_r, am_nl_e, am_nl_n, Option.toList_some, Option.toList_none, Option.map_some, Option.map_none, List.cons_append, List.nil_append, List.length_cons, List.length_nil, List.set_cons_zero, List.set_cons_succ, List.getElem?_cons_zero, List.getElem?_cons_succ, am_bd_s, ↓am_tls, ↓am_tln, ↓mk_oc, ↓ma_r, ↓ma_w, ↓mz_r, ↓mz_w, ↓mr0, ↓mr1, ↓mr2, ↓mr3, ↓mr4, ↓mr5, ↓mr6, ↓mr7, ↓mr8, ↓mr9, ↓mr10, ↓mr11, ↓mr12, ↓mr13, ↓mr14, ↓mr15, ↓mr16, ↓mr17, ↓mr18, ↓mr19, ↓mr20, ↓mr21, ↓mr22, ↓mr23, ↓mr24, ↓mr25, ↓mr26, ↓mr27, ↓mw0, ↓mw1, ↓mw11, ↓mw12, ↓mw13, ↓mw15, ↓mw16, ↓mw17, ↓mw19, ↓mw20, ↓mw22, ↓mw25, up_eq, up_ne, up_up, si_len]) 14 0 (V 102) (by omega) (by omega) l102
  obtain ⟨N, hN⟩ : ∃ N, N = pl_fz (fun R k => si R k (gi (V 108) (14 * (((nx + 13) % 14 : Nat) : Int) + k))) 0 14 (V 102) := ⟨_, rfl⟩
  rw [← hN] at i1 i2 lo
  rw [up_same] at lo
  obtain ⟨M, hM⟩ : ∃ M, Ls[(nx + 13) % 14]? = some M := ⟨_, List.getElem?_eq_getElem (by omega)⟩
  refine ⟨_, N, rfl, ⟨i1, fun i h0 h1 => by rw [i2 i h0, if_neg (by omega)]⟩, ?_, ⟨by rw [up_ne (by decide), up_eq], by rw [up_eq], hm, by omega, l108, lL, hLs⟩, ⟨s0, s1, hnb, hns, l97, l98, l99, l100, l101, by rw [up_eq]; omega, l107, pv, wv⟩, fun E K => ?_⟩
  · rw [List.getD_eq_getElem?_getD, hM]
    exact (hLs _ M hM).cp (fun k k0 k1 => by
      rw [Int.zero_add, i2 _ (by omega), if_pos (by omega)]
      congr 2
      omega)
  · simp (disch := first | omega | (simp (disch := omega) only [up_eq, up_ne, si_len, List.length_set]; omega)) only [↓e146_0, ↓e146_1, ↓e146_4, ↓e146_7, ↓e146_9, ↓e146_10, ↓e146_11, ↓e146_12, ↓e146_15, ↓e146_16, ↓e146_17, ↓e146_20, ↓e146_21, ↓e146_22, ↓e146_25, ↓e146_27, ↓e146_28, ↓e146_30, ↓e146_31, ↓e146_34, ↓e146_35, ↓am_ilp, ↓am_iln, ↓am_iep, ↓am_ien, ↓am_zlp, ↓am_zln, ↓am_zep, ↓am_zen, ↓am_zgp, ↓am_zgn, ↓am_zhp, ↓am_zhn, ↓am_b01, true_or, true_and, and_true, or_true, if_true, if_false, ↓am_bdl_z, ↓am_bdl_s, ↓am_bsl_z, ↓am_bsl_s, ↓am_k1_i, ↓am_k1_r, ↓am_k1_e, ↓am_k1_n, ↓am_bd_s, am_k1_t, eq_self, am_nl_i, am_nl_r, am_nl_e, am_nl_n, Option.toList_some, Option.toList_none, Option.map_some, Option.map_none, List.cons_append, List.nil_append, List.length_cons, List.length_nil, List.set_cons_zero, List.set_cons_succ, List.getElem?_cons_zero, List.getElem?_cons_succ, am_bd_s, ↓am_tls, ↓am_tln, ↓mk_oc, ↓ma_r, ↓ma_w, ↓mz_r, ↓mz_w, ↓mr0, ↓mr1, ↓mr2, ↓mr3, ↓mr4, ↓mr5, ↓mr6, ↓mr7, ↓mr8, ↓mr9, ↓mr10, ↓mr11, ↓mr12, ↓mr13, ↓mr14, ↓mr15, ↓mr16, ↓mr17, ↓mr18, ↓mr19, ↓mr20, ↓mr21, ↓mr22, ↓mr23, ↓mr24, ↓mr25, ↓mr26, ↓mr27, ↓mw0, ↓mw1, ↓mw11, ↓mw12, ↓mw13, ↓mw15, ↓mw16, ↓mw17, ↓mw19, ↓mw20, ↓mw22, ↓mw25, up_eq, up_ne, up_up, si_len, er, e9]
    refine Eq.trans (lo E K).1 ?_
    rw [e146_36]
    simp (disch := first | omega | (simp (disch := omega) only [up_eq, up_ne, si_len, List.length_set]; omega)) only [↓e146_37, ↓e146_39, ↓e146_42, ↓e146_43, ↓e146_46, ↓e146_47, ↓e146_48, ↓e146_51, ↓e146_53, ↓e146_54, ↓e146_57, ↓e146_58, ↓e146_59, ↓e146_60, ↓e146_61, ↓e146_62, ↓e146_65, ↓e146_68, ↓e146_69, ↓e146_72, ↓am_ilp, ↓am_iln, ↓am_iep, ↓am_ien, ↓am_zlp, ↓am_zln, ↓am_zep, ↓am_zen, ↓am_zgp, ↓am_zgn, ↓am_zhp, ↓am_zhn, ↓am_b01, true_or, true_and, and_true, or_true, if_true, if_false, ↓am_bdl_z, ↓am_bdl_s, ↓am_bsl_z, ↓am_bsl_s, ↓am_k1_i, ↓am_k1_r, ↓am_k1_e, ↓am_k1_n, ↓am_bd_s, am_k1_t, eq_self, am_nl_i, am_nl_r, am_nl_e, am_nl_n, Option.toList_some, Option.toList_none, Option.map_some, Option.map_none, List.cons_append, List.nil_append, List.length_cons, List.length_nil, List.set_cons_zero, List.set_cons_succ, List.getElem?_cons_zero, List.getElem?_cons_succ, am_bd_s, ↓am_tls, ↓am_tln, ↓mk_oc, ↓ma_r, ↓ma_w, ↓mz_r, ↓mz_w, ↓mr0, ↓mr1, ↓mr2, ↓mr3, ↓mr4, ↓mr5, ↓mr6, ↓mr7, ↓mr8, ↓mr9, ↓mr10, ↓mr11, ↓mr12, ↓mr13, ↓mr14, ↓mr15, ↓mr16, ↓mr17, ↓mr18, ↓mr19, ↓mr20, ↓mr21, ↓mr22, ↓mr23, ↓mr24, ↓mr25, ↓mr26, ↓mr27, ↓mw0, ↓mw1, ↓mw11, ↓mw12, ↓mw13, ↓mw15, ↓mw16, ↓mw17, ↓mw19, ↓mw20, ↓mw22, ↓mw25, up_eq, up_ne, up_up, si_len]
end MRW
