/-! the model: orders of laying -/
def m_pk (left : Nat) (a : Int × Int) (q : Int) : Int × Int := if left.testBit q.toNat = true then (if a.2 = 0 then q else a.1, a.2 - 1) else a
def m_pick (nb left : Nat) (which : Int) : Int := (pl_fz (m_pk left) 0 nb (-9, which)).1
theorem m_pick_nb : ∀ nb < 7, ∀ left < 64, left < 2 ^ nb → ∀ wh < 6, m_pick nb left ((wh : Nat) : Int) = m_pick 6 left ((wh : Nat) : Int) := by decide +kernel
theorem m_pick_ok : ∀ left < 64, ∀ wh < 6, wh < pl_pop left → m_pick 6 left ((wh : Nat) : Int) = (((m_pick 6 left ((wh : Nat) : Int)).toNat : Nat) : Int) ∧ (m_pick 6 left ((wh : Nat) : Int)).toNat < 6 ∧ left.testBit (m_pick 6 left ((wh : Nat) : Int)).toNat = true ∧ pl_wo left (2 ^ (m_pick 6 left ((wh : Nat) : Int)).toNat) < 64 ∧ pl_wo left (2 ^ (m_pick 6 left ((wh : Nat) : Int)).toNat) ≤ left ∧ pl_pop (pl_wo left (2 ^ (m_pick 6 left ((wh : Nat) : Int)).toNat)) + 1 = pl_pop left := by decide +kernel
/-- the order of this number, of those that are left -/
def m_un : Nat → Nat → Nat → List Nat
  | 0, _, _ => []
  | r + 1, left, rest => (m_pick 6 left ((rest / pl_fct r : Nat) : Int)).toNat :: m_un r (pl_wo left (2 ^ (m_pick 6 left ((rest / pl_fct r : Nat) : Int)).toNat)) (rest % pl_fct r)
theorem m_un_len : ∀ (r left rest : Nat), (m_un r left rest).length = r
  | 0, _, _ => rfl
  | r + 1, left, rest => by rw [m_un, List.length_cons, m_un_len]
theorem pl_fct_s : ∀ r < 6, pl_fct (r + 1) = (r + 1) * pl_fct r := by decide
section MOR
variable {C : Nat → am_C} {S : Nat → Int} {V : Nat → List Int} {nb ns : Nat} {L : pl_L}
theorem X10_layOrder_i {E : List (List Int)} {K : Option am_V → am_H → Prop} {n rest k unit : Int} {left wh : Nat} {N : List Int} (s0 : S 0 = (nb : Int)) (hnb : nb ≤ 6) (hl : left < 64) (hw : wh ≤ 1000) (x8 : Option am_V) : Wp E 156 54 [some (am_r (some 96)), some (am_i n), some (am_i (left : Int)), some (am_i rest), some (am_i k), some (am_i unit), some (am_i (wh : Int)), some (am_i (-9)), x8] [] (mk C S (up V 102 N)) K = Wp E 156 114 [some (am_r (some 96)), some (am_i n), some (am_i (left : Int)), some (am_i rest), some (am_i k), some (am_i unit), some (am_i (pl_fz (m_pk left) 0 nb (-9, (wh : Int))).2), some (am_i (m_pick nb left (wh : Int))), some (am_i (nb : Int))] [] (mk C S (up V 102 N)) K := by
  have lo := am_foldz (W := fun i a => Wp E 156 57 [some (am_r (some 96)), some (am_i n), some (am_i (left : Int)), some (am_i rest), some (am_i k), some (am_i unit), some (am_i a.2), some (am_i a.1), some (am_i i)] [] (mk C S (up V 102 N)) K) (f := m_pk left) (I := fun i a => (wh : Int) - i ≤ a.2 ∧ a.2 ≤ wh) (lo := 0) (N := (nb : Int)) (by
    rintro i ⟨a, b⟩ h0 h1 hI
    dsimp only at hI
    unfold m_pk
    by_cases q : left.testBit i.toNat = true
    · have q' : (left : Int).toNat.testBit i.toNat = true := by rw [Int.toNat_natCast]; exact q
      rw [if_pos q]
      by_cases q2 : b = 0
      · rw [if_pos q2]
        refine ⟨by dsimp only; omega, ?_⟩
        dsimp only
        rw [e156_57]
        simp (disch := first | omega | (simp (disch := omega) only [up_eq, up_ne, si_len, List.length_set]; omega)) only [↓e156_59, ↓e156_60, ↓e156_63, ↓e156_66, ↓e156_67, ↓e156_69, ↓e156_72, ↓e156_75, ↓e156_77, ↓e156_80, ↓e156_82, ↓e156_85, ↓e156_87, ↓e156_89, ↓e156_91, ↓e156_92, ↓e156_94, ↓e156_97, ↓e156_100, ↓e156_101, ↓e156_104, ↓e156_105, ↓e156_106, ↓e156_108, ↓e156_111, ↓am_ilp, ↓am_iln, ↓am_iep, ↓am_ien, ↓am_zlp, ↓am_zln, ↓am_zep, ↓am_zen, ↓am_zgp, ↓am_zgn, ↓am_zhp, ↓am_zhn, ↓am_b01, true_or, true_and, and_true, or_true, if_true, if_false, ↓am_bdl_z, ↓am_bdl_s, ↓am_bsl_z, ↓am_bsl_s, ↓am_k1_i, ↓am_k1_r, ↓am_k1_e, ↓am_k1_n, ↓am_bd_s, am_k1_t, eq_self, am_nl_i, am_nl_r, am_nl_e, am_nl_n, Option.toList_some, Option.toList_none, Option.map_some, Option.map_none, List.cons_append, List.nil_append, List.length_cons, List.length_nil, List.set_cons_zero, List.set_cons_succ, List.getElem?_cons_zero, List.getElem?_cons_succ, am_bd_s, ↓am_tls, ↓am_tln, ↓mk_oc, ↓ma_r, ↓ma_w, ↓mz_r, ↓mz_w, ↓mr0, ↓mr1, ↓mr2, ↓mr3, ↓mr4, ↓mr5, ↓mr6, ↓mr7, ↓mr8, ↓mr9, ↓mr10, ↓mr11, ↓mr12, ↓mr13, ↓mr14, ↓mr15, ↓mr16, ↓mr17, ↓mr18, ↓mr19, ↓mr20, ↓mr21, ↓mr22, ↓mr23, ↓mr24, ↓mr25, ↓mr26, ↓mr27, ↓mw0, ↓mw1, ↓mw11, ↓mw12, ↓mw13, ↓mw15, ↓mw16, ↓mw17, ↓mw19, ↓mw20, ↓mw22, ↓mw25, up_eq, up_ne, up_up, si_len, ↓X10_has_w, ↓am_ifb, ↓if_pos q']
      · rw [if_neg q2]
        refine ⟨by dsimp only; omega, ?_⟩
        dsimp only
        rw [e156_57]
        simp (disch := first | omega | (simp (disch := omega) only [up_eq, up_ne, si_len, List.length_set]; omega)) only [↓e156_59, ↓e156_60, ↓e156_63, ↓e156_66, ↓e156_67, ↓e156_69, ↓e156_72, ↓e156_75, ↓e156_77, ↓e156_80, ↓e156_82, ↓e156_85, ↓e156_87, ↓e156_89, ↓e156_91, ↓e156_92, ↓e156_94, ↓e156_97, ↓e156_100, ↓e156_101, ↓e156_104, ↓e156_105, ↓e156_106, ↓e156_108, ↓e156_111, ↓am_ilp, ↓am_iln, ↓am_iep, ↓am_ien, ↓am_zlp, ↓am_zln, ↓am_zep, ↓am_zen, ↓am_zgp, ↓am_zgn, ↓am_zhp, ↓am_zhn, ↓am_b01, true_or, true_and, and_true, or_true, if_true, if_false, ↓am_bdl_z, ↓am_bdl_s, ↓am_bsl_z, ↓am_bsl_s, ↓am_k1_i, ↓am_k1_r, ↓am_k1_e, ↓am_k1_n, ↓am_bd_s, am_k1_t, eq_self, am_nl_i, am_nl_r, am_nl_e, am_nl_n, Option.toList_some, Option.toList_none, Option.map_some, Option.map_none, List.cons_append, List.nil_append, List.length_cons, List.length_nil, List.set_cons_zero, List.set_cons_succ, List.getElem?_cons_zero, List.getElem?_cons_succ, am_bd_s, ↓am_tls, ↓am_tln, ↓mk_oc, ↓ma_r, ↓ma_w, ↓mz_r, ↓mz_w, ↓mr0, ↓mr1, ↓mr2, ↓mr3, ↓mr4, ↓mr5, ↓mr6, ↓mr7, ↓mr8, ↓mr9, ↓mr10, ↓mr11, ↓mr12, ↓mr13, ↓mr14, ↓mr15, ↓mr16, ↓mr17, ↓mr18, ↓mr19, ↓mr20, ↓mr21, ↓mr22, ↓mr23, ↓mr24, ↓mr25, ↓mr26, ↓mr27, ↓mw0, ↓mw1, ↓mw11, ↓mw12, ↓mw13, ↓mw15, ↓mw16, ↓mw17, ↓mw19, ↓mw20, ↓mw22, ↓mw25, up_eq, up_ne, up_up, si_len, ↓X10_has_w, ↓am_ifb, ↓if_pos q']
    · have q' : ¬ (left : Int).toNat.testBit i.toNat = true := by rw [Int.toNat_natCast]; exact q
      rw [if_neg q]
      refine ⟨by dsimp only; omega, ?_⟩
      dsimp only
      rw [e156_57]
      simp (disch := first | omega | (simp (disch := omega) only [up_eq, up_ne, si_len, List.length_set]; omega)) only [↓e156_59, ↓e156_60, ↓e156_63, ↓e156_66, ↓e156_67, ↓e156_69, ↓e156_72, ↓e156_75, ↓e156_77, ↓e156_80, ↓e156_82, ↓e156_85, ↓e156_87, ↓e156_89, ↓e156_91, ↓e156_92, ↓e156_94, ↓e156_97, ↓e156_100, ↓e156_101, ↓e156_104, ↓e156_105, ↓e156_106, ↓e156_108, ↓e156_111, ↓am_ilp, ↓am_iln, ↓am_iep, ↓am_ien, ↓am_zlp, ↓am_zln, ↓am_zep, ↓am_zen, ↓am_zgp, ↓am_zgn, ↓am_zhp, ↓am_zhn, ↓am_b01, true_or, true_and, and_true, or_true, if_true, if_false, ↓am_bdl_z, ↓am_bdl_s, ↓am_bsl_z, ↓am_bsl_s, ↓am_k1_i, ↓am_k1_r, ↓am_k1_e, ↓am_k1_n, ↓am_bd_s, am_k1_t, eq_self, am_nl_i, am_nl_r, am_nl_e, am_nl_n, Option.toList_some, Option.toList_none, Option.map_some, Option.map_none, List.cons_append, List.nil_append, List.length_cons, List.length_nil, List.set_cons_zero, List.set_cons_succ, List.getElem?_cons_zero, List.getElem?_cons_succ, am_bd_s, ↓am_tls, ↓am_tln, ↓mk_oc, ↓ma_r, ↓ma_w, ↓mz_r, ↓mz_w, ↓mr0, ↓mr1, ↓mr2, ↓mr3, ↓mr4, ↓mr5, ↓mr6, ↓mr7, ↓mr8, ↓mr9, ↓mr10, ↓mr11, ↓mr12, ↓mr13, ↓mr14, ↓mr15, ↓mr16, ↓mr17, ↓mr18, ↓mr19, ↓mr20, ↓mr21, ↓mr22, ↓mr23, ↓mr24, ↓mr25, ↓mr26, ↓mr27, ↓mw0, ↓mw1, ↓mw11, ↓mw12, ↓mw13, ↓mw15, ↓mw16, ↓mw17, ↓mw19, ↓mw20, ↓mw22, ↓mw25, up_eq, up_ne, up_up, si_len, ↓X10_has_w, ↓am_ifb, ↓if_neg q', Int.sub_zero]) nb 0 (-9, (wh : Int)) (by omega) (by omega) (by dsimp only; omega)
  simp (disch := first | omega | (simp (disch := omega) only [up_eq, up_ne, si_len, List.length_set]; omega)) only [↓e156_54, ↓e156_55, ↓am_ilp, ↓am_iln, ↓am_iep, ↓am_ien, ↓am_zlp, ↓am_zln, ↓am_zep, ↓am_zen, ↓am_zgp, ↓am_zgn, ↓am_zhp, ↓am_zhn, ↓am_b01, true_or, true_and, and_true, or_true, if_true, if_false, ↓am_bdl_z, ↓am_bdl_s, ↓am_bsl_z, ↓am_bsl_s, ↓am_k1_i, ↓am_k1_r, ↓am_k1_e, ↓am_k1_n, ↓am_bd_s, am_k1_t, eq_self, am_nl_i, am_nl_r, am_nl_e, am_nl_n, Option.toList_some, Option.toList_none, Option.map_some, Option.map_none, List.cons_append, List.nil_append, List.length_cons, List.length_nil, List.set_cons_zero, List.set_cons_succ, List.getElem?_cons_zero, List.getElem?_cons_succ, am_bd_s]
  refine Eq.trans lo.1 ?_
  rw [e156_57]
  simp (disch := first | omega | (simp (disch := omega) only [up_eq, up_ne, si_len, List.length_set]; omega)) only [↓e156_59, ↓e156_60, ↓e156_63, ↓am_ilp, ↓am_iln, ↓am_iep, ↓am_ien, ↓am_zlp, ↓am_zln, ↓am_zep, ↓am_zen, ↓am_zgp, ↓am_zgn, ↓am_zhp, ↓am_zhn, ↓am_b01, true_or, true_and, and_true, or_true, if_true, if_false, ↓am_bdl_z, ↓am_bdl_s, ↓am_bsl_z, ↓am_bsl_s, ↓am_k1_i, ↓am_k1_r, ↓am_k1_e, ↓am_k1_n, ↓am_bd_s, am_k1_t, eq_self, am_nl_i, am_nl_r, am_nl_e, am_nl_n, Option.toList_some, Option.toList_none, Option.map_some, Option.map_none, List.cons_append, List.nil_append, List.length_cons, List.length_nil, List.set_cons_zero, List.set_cons_succ, List.getElem?_cons_zero, List.getElem?_cons_succ, am_bd_s, ↓am_tls, ↓am_tln, ↓mk_oc, ↓ma_r, ↓ma_w, ↓mz_r, ↓mz_w, ↓mr0, ↓mr1, ↓mr2, ↓mr3, ↓mr4, ↓mr5, ↓mr6, ↓mr7, ↓mr8, ↓mr9, ↓mr10, ↓mr11, ↓mr12, ↓mr13, ↓mr14, ↓mr15, ↓mr16, ↓mr17, ↓mr18, ↓mr19, ↓mr20, ↓mr21, ↓mr22, ↓mr23, ↓mr24, ↓mr25, ↓mr26, ↓mr27, ↓mw0, ↓mw1, ↓mw11, ↓mw12, ↓mw13, ↓mw15, ↓mw16, ↓mw17, ↓mw19, ↓mw20, ↓mw22, ↓mw25, up_eq, up_ne, up_up, si_len, s0]
  rfl
theorem X10_layOrder_l {n : Int} (mp : MP S V nb ns) (hlen : L.1.length ≤ 6) :
    ∀ (r k left rest : Nat) (N : List Int) (x5 x6 x7 x8 : Option am_V), k + r = L.1.length → left < 64 → left < 2 ^ nb → pl_pop left = r → rest < pl_fct r → N.length = 28 → gi N 6 = (L.1.length : Int) → ∃ N', N'.length = 28 ∧ (∀ i : Int, 0 ≤ i → gi N' i = if 14 + (k : Int) ≤ i ∧ i < 14 + (L.1.length : Int) then (((m_un r left rest).getD (i - 14 - k).toNat 0 : Nat) : Int) else gi N i) ∧ ∀ E K, Wp E 156 10 [some (am_r (some 96)), some (am_i n), some (am_i (left : Int)), some (am_i (rest : Int)), some (am_i (k : Int)), x5, x6, x7, x8] [] (mk C S (up V 102 N)) K = K none (mk C S (up V 102 N'))
  | 0, k, left, rest, N, x5, x6, x7, x8, e, hl, hl2, hp, hr, hN, g6 => by
    refine ⟨N, hN, fun i hi => by rw [if_neg (by omega)], fun E K => ?_⟩
    rw [e156_10]
    simp (disch := first | omega | (simp (disch := omega) only [up_eq, up_ne, si_len, List.length_set]; omega)) only [↓e156_12, ↓e156_13, ↓e156_16, ↓e156_18, ↓e156_19, ↓e156_141, ↓am_ilp, ↓am_iln, ↓am_iep, ↓am_ien, ↓am_zlp, ↓am_zln, ↓am_zep, ↓am_zen, ↓am_zgp, ↓am_zgn, ↓am_zhp, ↓am_zhn, ↓am_b01, true_or, true_and, and_true, or_true, if_true, if_false, ↓am_bdl_z, ↓am_bdl_s, ↓am_bsl_z, ↓am_bsl_s, ↓am_k1_i, ↓am_k1_r, ↓am_k1_e, ↓am_k1_n, ↓am_bd_s, am_k1_t, eq_self, am_nl_i, am_nl_r, am_nl_e, am_nl_n, Option.toList_some, Option.toList_none, Option.map_some, Option.map_none, List.cons_append, List.nil_append, List.length_cons, List.length_nil, List.set_cons_zero, List.set_cons_succ, List.getElem?_cons_zero, List.getElem?_cons_succ, am_bd_s, ↓am_tls, ↓am_tln, ↓mk_oc, ↓ma_r, ↓ma_w, ↓mz_r, ↓mz_w, ↓mr0, ↓mr1, ↓mr2, ↓mr3, ↓mr4, ↓mr5, ↓mr6, ↓mr7, ↓mr8, ↓mr9, ↓mr10, ↓mr11, ↓mr12, ↓mr13, ↓mr14, ↓mr15, ↓mr16, ↓mr17, ↓mr18, ↓mr19, ↓mr20, ↓mr21, ↓mr22, ↓mr23, ↓mr24, ↓mr25, ↓mr26, ↓mr27, ↓mw0, ↓mw1, ↓mw11, ↓mw12, ↓mw13, ↓mw15, ↓mw16, ↓mw17, ↓mw19, ↓mw20, ↓mw22, ↓mw25, up_eq, up_ne, up_up, si_len]
  | r + 1, k, left, rest, N, x5, x6, x7, x8, e, hl, hl2, hp, hr, hN, g6 => by
    obtain ⟨s0, s1, hnb, hns, l97, l98, l99, l100, l101, l102, l107, pv, wv⟩ := id mp
    have fr := pl_fct_rng r
    have fs := pl_fct_s r (by omega)
    obtain ⟨wh, hwh⟩ : ∃ wh, wh = rest / pl_fct r := ⟨_, rfl⟩
    have hw : wh < r + 1 := by rw [hwh]; exact Nat.div_lt_of_lt_mul (by rw [Nat.mul_comm, ← fs]; exact hr)
    obtain ⟨p1, p2, p3, p4, p5, p6⟩ := m_pick_ok left hl wh (by omega) (by omega)
    have pn := m_pick_nb nb (by omega) left hl hl2 wh (by omega)
    obtain ⟨w, hwq⟩ : ∃ w : Nat, w = (m_pick 6 left (wh : Int)).toNat := ⟨_, rfl⟩
    rw [← hwq] at p1 p2 p3 p4 p5 p6
    rw [p1] at pn
    have hrest : rest < 1000 := by have := pl_fct_rng (r + 1); omega
    have ed : am_div (rest : Int) (pl_fct r : Int) = (wh : Int) := by
      rw [am_div_n (by omega) (by omega) (by omega) (by omega), hwh]
      rfl
    have em : am_rem (rest : Int) (pl_fct r : Int) = ((rest % pl_fct r : Nat) : Int) := by
      rw [am_rem_n (by omega) (by omega) (by omega) (by omega)]
      rfl
    have hm := Nat.mod_lt rest (show 0 < pl_fct r by omega)
    obtain ⟨c1, c2⟩ := pl_wo_64 left hl (2 ^ w) (pl_p2 w p2)
    have ec : am_and (left : Int) (am_xor (am_shl 1 (w : Int)) (-1)) = ((pl_wo left (2 ^ w) : Nat) : Int) := by rw [pl_sh1 w p2]; exact c1
    obtain ⟨N', n1, n2, n3⟩ := X10_layOrder_l (n := n) mp hlen r (k + 1) (pl_wo left (2 ^ w)) (rest % pl_fct r) (si N (14 + (k : Int)) (w : Int)) (some (am_i (pl_fct r : Int))) (some (am_i (pl_fz (m_pk left) 0 nb (-9, (wh : Int))).2)) (some (am_i (w : Int))) (some (am_i (nb : Int))) (by omega) p4 (by omega) (by omega) hm (by rw [si_len]; exact hN) (by rw [gi_ne (by omega)]; exact g6)
    refine ⟨N', n1, fun i hi => ?_, fun E K => ?_⟩
    · rw [n2 i hi, m_un, ← hwh, ← hwq]
      by_cases q : i = 14 + (k : Int)
      · rw [if_neg (by omega), q, gi_eq (by omega), if_pos (by omega), show (14 + (k : Int) - 14 - (k : Int)).toNat = 0 by omega, List.getD_cons_zero]
      · rw [gi_ne (by omega)]
        by_cases q2 : 14 + (k : Int) ≤ i ∧ i < 14 + (L.1.length : Int)
        · rw [if_pos (by omega), if_pos q2, show (i - 14 - (k : Int)).toNat = (i - 14 - ((k + 1 : Nat) : Int)).toNat + 1 by omega, List.getD_cons_succ]
        · rw [if_neg (by omega), if_neg q2]
    · have w3 := n3 E K
      have li := fun E K => X10_layOrder_i (E := E) (K := K) (C := C) (S := S) (V := V) (n := n) (rest := ((rest % pl_fct r : Nat) : Int)) (k := (k : Int)) (unit := (pl_fct r : Int)) (left := left) (wh := wh) (N := N) s0 hnb hl (by omega)
      rw [pn] at li
      have fw : ∀ E K h, Wp E 155 0 [some (am_i (gi N 6 - 1 - (k : Int))), none, none] [] h K = K (some (am_i (pl_fct r : Int))) h := by
        intro E K h
        rw [X10_factorial_w (by omega), show (gi N 6 - 1 - (k : Int)).toNat = r by omega]
      rw [e156_10]
      simp (disch := first | omega | (simp (disch := omega) only [up_eq, up_ne, si_len, List.length_set]; omega)) only [↓e156_12, ↓e156_13, ↓e156_16, ↓e156_18, ↓e156_19, ↓e156_22, ↓e156_23, ↓e156_26, ↓e156_28, ↓e156_29, ↓e156_30, ↓e156_31, ↓e156_33, ↓e156_34, ↓e156_37, ↓e156_39, ↓e156_40, ↓e156_42, ↓e156_43, ↓e156_45, ↓e156_46, ↓e156_48, ↓e156_49, ↓e156_50, ↓e156_52, ↓am_ilp, ↓am_iln, ↓am_iep, ↓am_ien, ↓am_zlp, ↓am_zln, ↓am_zep, ↓am_zen, ↓am_zgp, ↓am_zgn, ↓am_zhp, ↓am_zhn, ↓am_b01, true_or, true_and, and_true, or_true, if_true, if_false, ↓am_bdl_z, ↓am_bdl_s, ↓am_bsl_z, ↓am_bsl_s, ↓am_k1_i, ↓am_k1_r, ↓am_k1_e, ↓am_k1_n, ↓am_bd_s, am_k1_t, eq_self, am_nl_i, am_nl_r, am_nl_e, am_nl_n, Option.toList_some, Option.toList_none, Option.map_some, Option.map_none, List.cons_append, List.nil_append, List.length_cons, List.length_nil, List.set_cons_zero, List.set_cons_succ, List.getElem?_cons_zero, List.getElem?_cons_succ, am_bd_s, ↓am_tls, ↓am_tln, ↓mk_oc, ↓ma_r, ↓ma_w, ↓mz_r, ↓mz_w, ↓mr0, ↓mr1, ↓mr2, ↓mr3, ↓mr4, ↓mr5, ↓mr6, ↓mr7, ↓mr8, ↓mr9, ↓mr10, ↓mr11, ↓mr12, ↓mr13, ↓mr14, ↓mr15, ↓mr16, ↓mr17, ↓mr18, ↓mr19, ↓mr20, ↓mr21, ↓mr22, ↓mr23, ↓mr24, ↓mr25, ↓mr26, ↓mr27, ↓mw0, ↓mw1, ↓mw11, ↓mw12, ↓mw13, ↓mw15, ↓mw16, ↓mw17, ↓mw19, ↓mw20, ↓mw22, ↓mw25, up_eq, up_ne, up_up, si_len, ↓fw, ed, em]
      rw [li]
      simp (disch := first | omega | (simp (disch := omega) only [up_eq, up_ne, si_len, List.length_set]; omega)) only [↓e156_114, ↓e156_115, ↓e156_116, ↓e156_118, ↓e156_119, ↓e156_120, ↓e156_121, ↓e156_122, ↓e156_123, ↓e156_124, ↓e156_127, ↓e156_129, ↓e156_131, ↓e156_132, ↓e156_134, ↓e156_135, ↓e156_138, ↓am_ilp, ↓am_iln, ↓am_iep, ↓am_ien, ↓am_zlp, ↓am_zln, ↓am_zep, ↓am_zen, ↓am_zgp, ↓am_zgn, ↓am_zhp, ↓am_zhn, ↓am_b01, true_or, true_and, and_true, or_true, if_true, if_false, ↓am_bdl_z, ↓am_bdl_s, ↓am_bsl_z, ↓am_bsl_s, ↓am_k1_i, ↓am_k1_r, ↓am_k1_e, ↓am_k1_n, ↓am_bd_s, am_k1_t, eq_self, am_nl_i, am_nl_r, am_nl_e, am_nl_n, Option.toList_some, Option.toList_none, Option.map_some, Option.map_none, List.cons_append, List.nil_append, List.length_cons, List.length_nil, List.set_cons_zero, List.set_cons_succ, List.getElem?_cons_zero, List.getElem?_cons_succ, am_bd_s, ↓am_tls, ↓am_tln, ↓mk_oc, ↓ma_r, ↓ma_w, ↓mz_r, ↓mz_w, ↓mr0, ↓mr1, ↓mr2, ↓mr3, ↓mr4, ↓mr5, ↓mr6, ↓mr7, ↓mr8, ↓mr9, ↓mr10, ↓mr11, ↓mr12, ↓mr13, ↓mr14, ↓mr15, ↓mr16, ↓mr17, ↓mr18, ↓mr19, ↓mr20, ↓mr21, ↓mr22, ↓mr23, ↓mr24, ↓mr25, ↓mr26, ↓mr27, ↓mw0, ↓mw1, ↓mw11, ↓mw12, ↓mw13, ↓mw15, ↓mw16, ↓mw17, ↓mw19, ↓mw20, ↓mw22, ↓mw25, up_eq, up_ne, up_up, si_len, ec]
      exact w3
theorem X10_layOrder_w {n : Nat} {L1 : pl_L} (mp : MP S V nb ns) (ly : Ly (V 102) 0 L) (wf : WfL nb ns (V 101) L) (l1 : Ly (V 102) 14 L1) (h1 : L1.1.length = L.1.length) (hn : n < pl_fct L.1.length) : ∃ V', Sc V V' ∧ Ly (V' 102) 14 (m_un L.1.length (pl_mask L.1) n, L1.2) ∧ ∀ E K, Wp E 156 0 [some (am_r (some 96)), some (am_i (n : Int)), none, none, none, none, none, none, none] [] (mk C S V) K = K none (mk C S V') := by
  obtain ⟨s0, s1, hnb, hns, l97, l98, l99, l100, l101, l102, l107, pv, wv⟩ := id mp
  have B6 : ∀ x ∈ L.1, x < 6 := fun x hx => by have := wf.1 x hx; omega
  have hm := pl_mask_64 B6
  have hm2 : pl_mask L.1 < 2 ^ nb := by
    apply Nat.lt_pow_two_of_testBit
    intro i hi
    by_cases q : i < 6
    · rw [pl_mask_bit B6 q]
      apply decide_eq_false
      intro z
      have := wf.1 i z
      omega
    · exact Nat.testBit_lt_two_pow (Nat.lt_of_lt_of_le hm (by rw [show 64 = 2 ^ 6 from rfl]; exact Nat.pow_le_pow_right (by omega) (by omega)))
  have lw := fun E K => X10_lying_w (E := E) (K := K) (C := C) mp ly wf.1
  have g6 : gi (V 102) 6 = (L.1.length : Int) := ly.2.1
  have hl6 := ly.1
  have hpl := pl_pop_len B6 wf.2.1
  obtain ⟨N, n1, n2, n3⟩ := X10_layOrder_l (C := C) (n := (n : Int)) mp hl6 L.1.length 0 (pl_mask L.1) n (V 102) none none none none (by omega) hm hm2 hpl hn l102 g6
  rw [up_same] at n3
  have nl := m_un_len L.1.length (pl_mask L.1) n
  obtain ⟨h0, a1, a2, a3, a4, a5, a6, a7⟩ := l1
  refine ⟨_, Sc.n (N := N) l107 ⟨by omega, fun i h0 h1 => by rw [n2 i h0, if_neg (by omega)]⟩, ?_, fun E K => ?_⟩
  · rw [up_eq]
    refine ⟨by rw [nl]; exact hl6, ?_, fun i hi => ?_, a3, a4, fun s hs => ?_, fun s hs => ?_, ?_⟩
    · rw [n2 _ (by omega), if_neg (by omega), nl, ← h1]; exact a1
    · dsimp only at hi ⊢
      rw [nl] at hi
      rw [n2 _ (by omega), if_pos (by omega), show (14 + (i : Int) - 14 - ((0 : Nat) : Int)).toNat = i by omega]
    · rw [n2 _ (by omega), if_neg (by omega)]; exact a5 s hs
    · rw [n2 _ (by omega), if_neg (by omega)]; exact a6 s hs
    · rw [n2 _ (by omega), if_neg (by omega)]; exact a7
  · have w3 := n3 E K
    simp (disch := first | omega | (simp (disch := omega) only [up_eq, up_ne, si_len, List.length_set]; omega)) only [↓e156_0, ↓e156_1, ↓e156_4, ↓e156_5, ↓e156_6, ↓e156_7, ↓e156_8, ↓am_ilp, ↓am_iln, ↓am_iep, ↓am_ien, ↓am_zlp, ↓am_zln, ↓am_zep, ↓am_zen, ↓am_zgp, ↓am_zgn, ↓am_zhp, ↓am_zhn, ↓am_b01, true_or, true_and, and_true, or_true, if_true, if_false, ↓am_bdl_z, ↓am_bdl_s, ↓am_bsl_z, ↓am_bsl_s, ↓am_k1_i, ↓am_k1_r, ↓am_k1_e, ↓am_k1_n, ↓am_bd_s, am_k1_t, eq_self, am_nl_i, am_nl_r, am_nl_e, am_nl_n, Option.toList_some, Option.toList_none, Option.map_some, Option.map_none, List.cons_append, List.nil_append, List.length_cons, List.length_nil, List.set_cons_zero, List.set_cons_succ, List.getElem?_cons_zero, List.getElem?_cons_succ, am_bd_s, ↓am_tls, ↓am_tln, ↓mk_oc, ↓ma_r, ↓ma_w, ↓mz_r, ↓mz_w, ↓mr0, ↓mr1, ↓mr2, ↓mr3, ↓mr4, ↓mr5, ↓mr6, ↓mr7, ↓mr8, ↓mr9, ↓mr10, ↓mr11, ↓mr12, ↓mr13, ↓mr14, ↓mr15, ↓mr16, ↓mr17, ↓mr18, ↓mr19, ↓mr20, ↓mr21, ↓mr22, ↓mr23, ↓mr24, ↓mr25, ↓mr26, ↓mr27, ↓mw0, ↓mw1, ↓mw11, ↓mw12, ↓mw13, ↓mw15, ↓mw16, ↓mw17, ↓mw19, ↓mw20, ↓mw22, ↓mw25, up_eq, up_ne, up_up, si_len, ↓lw]
    exact w3
end MOR
