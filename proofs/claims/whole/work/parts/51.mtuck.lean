/-! the model: the shortest blanket to tuck under; rows of things -/
theorem pl_told : ∀ n < 7, ∀ a < 7, n + a ≤ 6 → am_shl (am_shl 1 ((n : Nat) : Int) - 1) ((a : Nat) : Int) = ((pl_cb a n : Nat) : Int) ∧ pl_cb a n < 64 := by decide +kernel
theorem pl_toldb : ∀ n < 7, ∀ a < 7, n + a ≤ 6 → ∀ c < 6, (pl_cb a n).testBit c = decide (a ≤ c ∧ c < a + n) := by decide +kernel
/-- does one wake in t then -/
def m_tp (T : Nat → Int) (f w : Nat) (t : Int) (n a : Nat) : Bool := decide (pl_cm ((List.range' f w).map (m_ws T (pl_cb a n) t)) = t)
def m_out (p : Nat → Nat → Bool) : Nat → Nat → Int
  | 0, _ => -9
  | k + 1, n => match pl_in (p n) (7 - n) 0 with
    | some a => if n = 0 then 0 else ((10 * n + a : Nat) : Int)
    | none => m_out p k (n + 1)
theorem m_tp_eq {fr la ce ki : List Int} {B : List Nat} {f w n a : Nat} {t : Int} (hf : f + w ≤ 6) (hn : n < 7) (ha : n + a ≤ 6) : m_tp (pl_tm fr la ce ki B) f w t n a = pl_tp (pl_tms fr la ce ki B) (f : Int) (w : Int) t n a := by
  unfold m_tp pl_tp
  have e : (List.range' f w).map (m_ws (pl_tm fr la ce ki B) (pl_cb a n) t) = ((pl_tuk (pl_tms fr la ce ki B) a n t).drop (f : Int).toNat).take (w : Int).toNat := by
    rw [Int.toNat_natCast, Int.toNat_natCast]
    apply List.ext_getElem?
    intro i
    rw [List.getElem?_take, List.getElem?_map]
    by_cases q : i < w
    · rw [if_pos q, List.getElem?_drop, List.getElem?_range' q]
      have hb := pl_toldb n hn a (by omega) ha (f + i) (by omega)
      unfold m_ws pl_tuk
      rw [List.getElem?_map, List.getElem?_range (by omega), Option.map_some, Option.map_some, Nat.one_mul, hb]
      by_cases q2 : a ≤ f + i ∧ f + i < a + n
      · rw [if_pos (decide_eq_true q2), if_pos q2]
      · rw [if_neg (by simpa using q2), if_neg q2]
        simp [pl_tms, show f + i < 6 by omega]
    · rw [if_neg q, List.getElem?_eq_none (by simp; omega)]
      rfl
  rw [e]
theorem pl_in_congr {p q : Nat → Bool} : ∀ (k a : Nat), (∀ i, a ≤ i → i < a + k → p i = q i) → pl_in p k a = pl_in q k a
  | 0, _, _ => rfl
  | k + 1, a, h => by
    rw [pl_in, pl_in, h a (by omega) (by omega), pl_in_congr k (a + 1) (fun i h1 h2 => h i (by omega) (by omega))]
theorem m_out_eq {p q : Nat → Nat → Bool} : ∀ (k n : Nat), 1 ≤ n → n + k = 7 → (∀ n a, 1 ≤ n → n + a ≤ 6 → p n a = q n a) → m_out p k n = pl_out q k n
  | 0, _, _, _, _ => rfl
  | k + 1, n, hn, e, h => by
    rw [m_out, pl_out, pl_in_congr (7 - n) 0 (fun i h1 h2 => h n i hn (by omega)), m_out_eq k (n + 1) (by omega) (by omega) h]
    cases pl_in (q n) (7 - n) 0 with
    | none => rfl
    | some a => dsimp only; rw [if_neg (by omega)]
theorem m_out_0 {fr la ce ki : List Int} {B : List Nat} {f w : Nat} {t : Int} (hf : f + w ≤ 6) : m_out (m_tp (pl_tm fr la ce ki B) f w t) 7 0 = if pl_wk fr la ce ki B f w = t then 0 else pl_out (pl_tp (pl_tms fr la ce ki B) (f : Int) (w : Int) t) 6 1 := by
  have e0 : ∀ a, m_tp (pl_tm fr la ce ki B) f w t 0 a = decide (pl_wk fr la ce ki B f w = t) := by
    intro a
    unfold m_tp
    rw [show pl_cb a 0 = 0 by simp [pl_cb], m_ws_0, pl_wk_eq hf]
  rw [m_out]
  by_cases q : pl_wk fr la ce ki B f w = t
  · have e1 : pl_in (m_tp (pl_tm fr la ce ki B) f w t 0) (7 - 0) 0 = some 0 := by
      rw [show 7 - 0 = 6 + 1 from rfl, pl_in, if_pos (by rw [e0]; exact decide_eq_true q)]
    rw [e1, if_pos q]
    rfl
  · have e1 : ∀ k a, pl_in (m_tp (pl_tm fr la ce ki B) f w t 0) k a = none := by
      intro k
      induction k with
      | zero => intro a; rfl
      | succ k ih => intro a; rw [pl_in, if_neg (by rw [e0]; simpa using q), ih]
    rw [e1, if_neg q]
    exact m_out_eq 6 1 (by omega) (by omega) (fun n a h1 h2 => m_tp_eq hf (by omega) h2)
section MTK
variable {C : Nat → am_C} {S : Nat → Int} {nb ns : Nat} {L : pl_L}
theorem X10_toTuck_i {s t : Int} {n : Nat} (h : 0 ≤ s ∧ s < ns) (h2 : 0 ≤ t ∧ t ≤ 9) (hn : n ≤ 6) :
    ∀ (k a : Nat) (V : Nat → List Int), a + k = 7 - n → MP S V nb ns → Ly (V 102) 0 L → WfL nb ns (V 101) L → ∃ V', Sc V V' ∧ ∀ E K, Wp E 154 36 [some (am_r (some 96)), some (am_i s), some (am_i t), some (am_i (n : Int)), some (am_i (a : Int))] [] (mk C S V) K = match pl_in (m_tp (pl_tm (V 97) (V 98) (V 99) (V 100) L.1) (L.2.1.getD s.toNat 0).toNat ((V 101).getD s.toNat 0).toNat t n) k a with
      | some x => K (some (am_i (if n = 0 then 0 else ((10 * n + x : Nat) : Int)))) (mk C S V')
      | none => Wp E 154 27 [some (am_r (some 96)), some (am_i s), some (am_i t), some (am_i ((n + 1 : Nat) : Int)), some (am_i ((7 - n : Nat) : Int))] [] (mk C S V') K
  | 0, a, V, e, mp, ly, wf => by
    refine ⟨V, Sc.rf mp.2.2.2.2.2.2.2.2.2.2.1, fun E K => ?_⟩
    rw [e154_36]
    simp (disch := first | omega | (simp (disch := omega) only [up_eq, up_ne, si_len, List.length_set]; omega)) only [↓e154_38, ↓e154_40, ↓e154_41, ↓e154_42, ↓e154_100, ↓e154_103, ↓am_ilp, ↓am_iln, ↓am_iep, ↓am_ien, ↓am_zlp, ↓am_zln, ↓am_zep, ↓am_zen, ↓am_zgp, ↓am_zgn, ↓am_zhp, ↓am_zhn, ↓am_b01, true_or, true_and, and_true, or_true, if_true, if_false, ↓am_bdl_z, ↓am_bdl_s, ↓am_bsl_z, ↓am_bsl_s, ↓am_k1_i, ↓am_k1_r, ↓am_k1_e, ↓am_k1_n, ↓am_bd_s, am_k1_t, eq_self, am_nl_i, am_nl_r, am_nl_e, am_nl_n, Option.toList_some, Option.toList_none, Option.map_some, Option.map_none, List.cons_append, List.nil_append, List.length_cons, List.length_nil, List.set_cons_zero, List.set_cons_succ, List.getElem?_cons_zero, List.getElem?_cons_succ, am_bd_s, pl_in]
    rw [show 7 - n = a by omega]
    rfl
  | k + 1, a, V, e, mp, ly, wf => by
    have hns := mp.2.2.2.1
    have l101 := mp.2.2.2.2.2.2.2.2.1
    have l102 := mp.2.2.2.2.2.2.2.2.2.1
    have pv := mp.2.2.2.2.2.2.2.2.2.2.2.1
    have z := wf.2.2 s.toNat (by omega)
    have zw := mp.2.2.2.2.2.2.2.2.2.2.2.2 s.toNat (by omega)
    have h3 := ly.2.2.2.2.2.1 s.toNat (by omega)
    rw [show (0 : Int) + 7 + ((s.toNat : Nat) : Int) = 7 + s by omega] at h3
    have g1 : gi (V 101) s = (V 101).getD s.toNat 0 := rfl
    obtain ⟨t1, t2⟩ := pl_told n (by omega) a (by omega) (by omega)
    obtain ⟨o, ho, w⟩ := X10_wakesIn_w (C := C) (lv := 0) (p := gi (V 102) (7 + s)) (w := gi (V 101) s) (told := am_shl (am_shl 1 (n : Int) - 1) (a : Int)) (time := t) mp ly (by omega) wf.1 (by omega) (by omega) (by omega) (by rw [t1]; omega) (by omega)
    have et : (am_shl (am_shl 1 (n : Int) - 1) (a : Int)).toNat = pl_cb a n := by rw [t1, Int.toNat_natCast]
    rw [et] at w
    obtain ⟨x, hx⟩ : ∃ x, x = pl_cm ((List.range' (gi (V 102) (7 + s)).toNat (gi (V 101) s).toNat).map (m_ws (pl_tm (V 97) (V 98) (V 99) (V 100) L.1) (pl_cb a n) t)) := ⟨_, rfl⟩
    have hr : 0 ≤ x ∧ x ≤ 10 := by
      rw [hx]
      apply pl_cm_rng
      intro v hv
      obtain ⟨c, hc, rfl⟩ := List.mem_map.mp hv
      rw [List.mem_range'_1] at hc
      unfold m_ws
      split
      · omega
      · exact pl_tm_rng pv wf.1 (by omega)
    rw [← hx] at w
    have c1 := Sc.o (V := V) ho
    have m1 := c1.mp mp
    have y1 := c1.ly ly
    obtain ⟨V2, c2, w2⟩ := X10_toTuck_i h h2 hn k (a + 1) (up V 107 o) (by omega) m1 y1 wf
    by_cases q : x = t
    · refine ⟨_, c1, fun E K => ?_⟩
      rw [pl_in, if_pos (by unfold m_tp; rw [← h3, ← g1, ← hx]; exact decide_eq_true q), e154_36]
      by_cases q0 : n = 0
      · simp (disch := first | omega | (simp (disch := omega) only [up_eq, up_ne, si_len, List.length_set]; omega)) only [↓e154_38, ↓e154_40, ↓e154_41, ↓e154_42, ↓e154_45, ↓e154_46, ↓e154_47, ↓e154_48, ↓e154_51, ↓e154_53, ↓e154_54, ↓e154_55, ↓e154_56, ↓e154_57, ↓e154_60, ↓e154_61, ↓e154_62, ↓e154_63, ↓e154_64, ↓e154_65, ↓e154_66, ↓e154_67, ↓e154_69, ↓e154_70, ↓e154_71, ↓e154_74, ↓e154_75, ↓e154_78, ↓e154_79, ↓e154_82, ↓e154_83, ↓e154_86, ↓e154_88, ↓e154_89, ↓e154_90, ↓e154_92, ↓e154_93, ↓am_ilp, ↓am_iln, ↓am_iep, ↓am_ien, ↓am_zlp, ↓am_zln, ↓am_zep, ↓am_zen, ↓am_zgp, ↓am_zgn, ↓am_zhp, ↓am_zhn, ↓am_b01, true_or, true_and, and_true, or_true, if_true, if_false, ↓am_bdl_z, ↓am_bdl_s, ↓am_bsl_z, ↓am_bsl_s, ↓am_k1_i, ↓am_k1_r, ↓am_k1_e, ↓am_k1_n, ↓am_bd_s, am_k1_t, eq_self, am_nl_i, am_nl_r, am_nl_e, am_nl_n, Option.toList_some, Option.toList_none, Option.map_some, Option.map_none, List.cons_append, List.nil_append, List.length_cons, List.length_nil, List.set_cons_zero, List.set_cons_succ, List.getElem?_cons_zero, List.getElem?_cons_succ, am_bd_s, ↓am_tls, ↓am_tln, ↓mk_oc, ↓ma_r, ↓ma_w, ↓mz_r, ↓mz_w, ↓mr0, ↓mr1, ↓mr2, ↓mr3, ↓mr4, ↓mr5, ↓mr6, ↓mr7, ↓mr8, ↓mr9, ↓mr10, ↓mr11, ↓mr12, ↓mr13, ↓mr14, ↓mr15, ↓mr16, ↓mr17, ↓mr18, ↓mr19, ↓mr20, ↓mr21, ↓mr22, ↓mr23, ↓mr24, ↓mr25, ↓mr26, ↓mr27, ↓mw0, ↓mw1, ↓mw11, ↓mw12, ↓mw13, ↓mw15, ↓mw16, ↓mw17, ↓mw19, ↓mw20, ↓mw22, ↓mw25, up_eq, up_ne, up_up, si_len, ↓w, if_pos q0]
      · simp (disch := first | omega | (simp (disch := omega) only [up_eq, up_ne, si_len, List.length_set]; omega)) only [↓e154_38, ↓e154_40, ↓e154_41, ↓e154_42, ↓e154_45, ↓e154_46, ↓e154_47, ↓e154_48, ↓e154_51, ↓e154_53, ↓e154_54, ↓e154_55, ↓e154_56, ↓e154_57, ↓e154_60, ↓e154_61, ↓e154_62, ↓e154_63, ↓e154_64, ↓e154_65, ↓e154_66, ↓e154_67, ↓e154_69, ↓e154_70, ↓e154_71, ↓e154_74, ↓e154_75, ↓e154_78, ↓e154_79, ↓e154_82, ↓e154_83, ↓e154_86, ↓e154_88, ↓e154_89, ↓e154_90, ↓e154_92, ↓e154_93, ↓am_ilp, ↓am_iln, ↓am_iep, ↓am_ien, ↓am_zlp, ↓am_zln, ↓am_zep, ↓am_zen, ↓am_zgp, ↓am_zgn, ↓am_zhp, ↓am_zhn, ↓am_b01, true_or, true_and, and_true, or_true, if_true, if_false, ↓am_bdl_z, ↓am_bdl_s, ↓am_bsl_z, ↓am_bsl_s, ↓am_k1_i, ↓am_k1_r, ↓am_k1_e, ↓am_k1_n, ↓am_bd_s, am_k1_t, eq_self, am_nl_i, am_nl_r, am_nl_e, am_nl_n, Option.toList_some, Option.toList_none, Option.map_some, Option.map_none, List.cons_append, List.nil_append, List.length_cons, List.length_nil, List.set_cons_zero, List.set_cons_succ, List.getElem?_cons_zero, List.getElem?_cons_succ, am_bd_s, ↓am_tls, ↓am_tln, ↓mk_oc, ↓ma_r, ↓ma_w, ↓mz_r, ↓mz_w, ↓mr0, ↓mr1, ↓mr2, ↓mr3, ↓mr4, ↓mr5, ↓mr6, ↓mr7, ↓mr8, ↓mr9, ↓mr10, ↓mr11, ↓mr12, ↓mr13, ↓mr14, ↓mr15, ↓mr16, ↓mr17, ↓mr18, ↓mr19, ↓mr20, ↓mr21, ↓mr22, ↓mr23, ↓mr24, ↓mr25, ↓mr26, ↓mr27, ↓mw0, ↓mw1, ↓mw11, ↓mw12, ↓mw13, ↓mw15, ↓mw16, ↓mw17, ↓mw19, ↓mw20, ↓mw22, ↓mw25, up_eq, up_ne, up_up, si_len, ↓w, if_neg q0]
        rfl
    · refine ⟨V2, c1.trans c2, fun E K => ?_⟩
      rw [pl_in, if_neg (by unfold m_tp; rw [← h3, ← g1, ← hx]; simpa using q), e154_36]
      simp (disch := first | omega | (simp (disch := omega) only [up_eq, up_ne, si_len, List.length_set]; omega)) only [↓e154_38, ↓e154_40, ↓e154_41, ↓e154_42, ↓e154_45, ↓e154_46, ↓e154_47, ↓e154_48, ↓e154_51, ↓e154_53, ↓e154_54, ↓e154_55, ↓e154_56, ↓e154_57, ↓e154_60, ↓e154_61, ↓e154_62, ↓e154_63, ↓e154_64, ↓e154_65, ↓e154_66, ↓e154_67, ↓e154_69, ↓e154_70, ↓e154_71, ↓e154_74, ↓e154_75, ↓e154_78, ↓e154_79, ↓e154_82, ↓e154_83, ↓e154_86, ↓e154_88, ↓e154_89, ↓e154_90, ↓e154_92, ↓e154_93, ↓e154_94, ↓e154_97, ↓am_ilp, ↓am_iln, ↓am_iep, ↓am_ien, ↓am_zlp, ↓am_zln, ↓am_zep, ↓am_zen, ↓am_zgp, ↓am_zgn, ↓am_zhp, ↓am_zhn, ↓am_b01, true_or, true_and, and_true, or_true, if_true, if_false, ↓am_bdl_z, ↓am_bdl_s, ↓am_bsl_z, ↓am_bsl_s, ↓am_k1_i, ↓am_k1_r, ↓am_k1_e, ↓am_k1_n, ↓am_bd_s, am_k1_t, eq_self, am_nl_i, am_nl_r, am_nl_e, am_nl_n, Option.toList_some, Option.toList_none, Option.map_some, Option.map_none, List.cons_append, List.nil_append, List.length_cons, List.length_nil, List.set_cons_zero, List.set_cons_succ, List.getElem?_cons_zero, List.getElem?_cons_succ, am_bd_s, ↓am_tls, ↓am_tln, ↓mk_oc, ↓ma_r, ↓ma_w, ↓mz_r, ↓mz_w, ↓mr0, ↓mr1, ↓mr2, ↓mr3, ↓mr4, ↓mr5, ↓mr6, ↓mr7, ↓mr8, ↓mr9, ↓mr10, ↓mr11, ↓mr12, ↓mr13, ↓mr14, ↓mr15, ↓mr16, ↓mr17, ↓mr18, ↓mr19, ↓mr20, ↓mr21, ↓mr22, ↓mr23, ↓mr24, ↓mr25, ↓mr26, ↓mr27, ↓mw0, ↓mw1, ↓mw11, ↓mw12, ↓mw13, ↓mw15, ↓mw16, ↓mw17, ↓mw19, ↓mw20, ↓mw22, ↓mw25, up_eq, up_ne, up_up, si_len, ↓w]
      exact w2 E K
theorem X10_toTuck_o {s t : Int} (h : 0 ≤ s ∧ s < ns) (h2 : 0 ≤ t ∧ t ≤ 9) :
    ∀ (k n : Nat) (V : Nat → List Int) (x4 : Option am_V), n + k = 7 → MP S V nb ns → Ly (V 102) 0 L → WfL nb ns (V 101) L → ∃ V', Sc V V' ∧ ∀ E K, Wp E 154 27 [some (am_r (some 96)), some (am_i s), some (am_i t), some (am_i (n : Int)), x4] [] (mk C S V) K = K (some (am_i (m_out (m_tp (pl_tm (V 97) (V 98) (V 99) (V 100) L.1) (L.2.1.getD s.toNat 0).toNat ((V 101).getD s.toNat 0).toNat t) k n))) (mk C S V')
  | 0, n, V, x4, e, mp, ly, wf => by
    refine ⟨V, Sc.rf mp.2.2.2.2.2.2.2.2.2.2.1, fun E K => ?_⟩
    rw [e154_27, m_out]
    simp (disch := first | omega | (simp (disch := omega) only [up_eq, up_ne, si_len, List.length_set]; omega)) only [↓e154_28, ↓e154_30, ↓e154_106, ↓e154_108, ↓am_ilp, ↓am_iln, ↓am_iep, ↓am_ien, ↓am_zlp, ↓am_zln, ↓am_zep, ↓am_zen, ↓am_zgp, ↓am_zgn, ↓am_zhp, ↓am_zhn, ↓am_b01, true_or, true_and, and_true, or_true, if_true, if_false, ↓am_bdl_z, ↓am_bdl_s, ↓am_bsl_z, ↓am_bsl_s, ↓am_k1_i, ↓am_k1_r, ↓am_k1_e, ↓am_k1_n, ↓am_bd_s, am_k1_t, eq_self, am_nl_i, am_nl_r, am_nl_e, am_nl_n, Option.toList_some, Option.toList_none, Option.map_some, Option.map_none, List.cons_append, List.nil_append, List.length_cons, List.length_nil, List.set_cons_zero, List.set_cons_succ, List.getElem?_cons_zero, List.getElem?_cons_succ, am_bd_s]
  | k + 1, n, V, x4, e, mp, ly, wf => by
    obtain ⟨V1, c1, w1⟩ := X10_toTuck_i (C := C) (n := n) h h2 (by omega) (7 - n) 0 V (by omega) mp ly wf
    have m1 := c1.mp mp
    have y1 := c1.ly ly
    have wf1 : WfL nb ns (V1 101) L := by rw [c1.at (by decide) (by decide)]; exact wf
    obtain ⟨V2, c2, w2⟩ := X10_toTuck_o h h2 k (n + 1) V1 (some (am_i ((7 - n : Nat) : Int))) (by omega) m1 y1 wf1
    rw [c1.at (i := 97) (by decide) (by decide), c1.at (i := 98) (by decide) (by decide), c1.at (i := 99) (by decide) (by decide), c1.at (i := 100) (by decide) (by decide), c1.at (i := 101) (by decide) (by decide)] at w2
    have st : ∀ E K, Wp E 154 27 [some (am_r (some 96)), some (am_i s), some (am_i t), some (am_i (n : Int)), x4] [] (mk C S V) K = Wp E 154 36 [some (am_r (some 96)), some (am_i s), some (am_i t), some (am_i (n : Int)), some (am_i ((0 : Nat) : Int))] [] (mk C S V) K := by
      intro E K
      rw [e154_27]
      simp (disch := first | omega | (simp (disch := omega) only [up_eq, up_ne, si_len, List.length_set]; omega)) only [↓e154_28, ↓e154_30, ↓e154_33, ↓e154_34, ↓am_ilp, ↓am_iln, ↓am_iep, ↓am_ien, ↓am_zlp, ↓am_zln, ↓am_zep, ↓am_zen, ↓am_zgp, ↓am_zgn, ↓am_zhp, ↓am_zhn, ↓am_b01, true_or, true_and, and_true, or_true, if_true, if_false, ↓am_bdl_z, ↓am_bdl_s, ↓am_bsl_z, ↓am_bsl_s, ↓am_k1_i, ↓am_k1_r, ↓am_k1_e, ↓am_k1_n, ↓am_bd_s, am_k1_t, eq_self, am_nl_i, am_nl_r, am_nl_e, am_nl_n, Option.toList_some, Option.toList_none, Option.map_some, Option.map_none, List.cons_append, List.nil_append, List.length_cons, List.length_nil, List.set_cons_zero, List.set_cons_succ, List.getElem?_cons_zero, List.getElem?_cons_succ, am_bd_s]
      rfl
    rw [m_out]
    cases q : pl_in (m_tp (pl_tm (V 97) (V 98) (V 99) (V 100) L.1) (L.2.1.getD s.toNat 0).toNat ((V 101).getD s.toNat 0).toNat t n) (7 - n) 0 with
    | some x =>
      refine ⟨V1, c1, fun E K => ?_⟩
      rw [st, w1, q]
    | none =>
      refine ⟨V2, c1.trans c2, fun E K => ?_⟩
      rw [st, w1, q]
      exact w2 E K
theorem X10_toTuck_w {V : Nat → List Int} {s t : Int} (mp : MP S V nb ns) (ly : Ly (V 102) 0 L) (wf : WfL nb ns (V 101) L) (hs : am_w s = s) (h : 0 ≤ s ∧ s < ns) (ht : am_w t = t) (h2 : 0 ≤ t ∧ t ≤ 9) : ∃ V', Sc V V' ∧ ∀ E K, Wp E 154 0 [some (am_r (some 96)), some (am_i s), some (am_i t), none, none] [] (mk C S V) K = K (some (am_i (if pl_wk (V 97) (V 98) (V 99) (V 100) L.1 (L.2.1.getD s.toNat 0).toNat ((V 101).getD s.toNat 0).toNat = t then 0 else pl_out (pl_tp (pl_tms (V 97) (V 98) (V 99) (V 100) L.1) (L.2.1.getD s.toNat 0) ((V 101).getD s.toNat 0) t) 6 1))) (mk C S V') := by
  have q0 : 0 ≤ am_w s ∧ am_w s < (ns : Int) := by rw [hs]; exact h
  have q1 : 0 ≤ am_w t ∧ am_w t ≤ 9 := by rw [ht]; exact h2
  have hns := mp.2.2.2.1
  have r := am_w_rng t
  have z := wf.2.2 s.toNat (by omega)
  have zw := mp.2.2.2.2.2.2.2.2.2.2.2.2 s.toNat (by omega)
  obtain ⟨V1, c1, w1⟩ := X10_toTuck_o (C := C) h h2 7 0 V none (by omega) mp ly wf
  rw [m_out_0 (by omega), show (((L.2.1.getD s.toNat 0).toNat : Nat) : Int) = L.2.1.getD s.toNat 0 by omega, show ((((V 101).getD s.toNat 0).toNat : Nat) : Int) = (V 101).getD s.toNat 0 by omega] at w1
  refine ⟨V1, c1, fun E K => ?_⟩
  have w2 := w1 E K
  simp (disch := first | omega | (simp (disch := omega) only [up_eq, up_ne, si_len, List.length_set]; omega)) only [↓e154_0, ↓e154_1, ↓e154_2, ↓e154_5, ↓e154_8, ↓e154_9, ↓e154_10, ↓e154_11, ↓e154_12, ↓e154_13, ↓e154_16, ↓e154_19, ↓e154_22, ↓e154_24, ↓e154_25, ↓e154_26, ↓am_ilp, ↓am_iln, ↓am_iep, ↓am_ien, ↓am_zlp, ↓am_zln, ↓am_zep, ↓am_zen, ↓am_zgp, ↓am_zgn, ↓am_zhp, ↓am_zhn, ↓am_b01, true_or, true_and, and_true, or_true, if_true, if_false, ↓am_bdl_z, ↓am_bdl_s, ↓am_bsl_z, ↓am_bsl_s, ↓am_k1_i, ↓am_k1_r, ↓am_k1_e, ↓am_k1_n, ↓am_bd_s, am_k1_t, eq_self, am_nl_i, am_nl_r, am_nl_e, am_nl_n, Option.toList_some, Option.toList_none, Option.map_some, Option.map_none, List.cons_append, List.nil_append, List.length_cons, List.length_nil, List.set_cons_zero, List.set_cons_succ, List.getElem?_cons_zero, List.getElem?_cons_succ, am_bd_s, ↓am_tls, ↓am_tln, ↓mk_oc, ↓ma_r, ↓ma_w, ↓mz_r, ↓mz_w, ↓mr0, ↓mr1, ↓mr2, ↓mr3, ↓mr4, ↓mr5, ↓mr6, ↓mr7, ↓mr8, ↓mr9, ↓mr10, ↓mr11, ↓mr12, ↓mr13, ↓mr14, ↓mr15, ↓mr16, ↓mr17, ↓mr18, ↓mr19, ↓mr20, ↓mr21, ↓mr22, ↓mr23, ↓mr24, ↓mr25, ↓mr26, ↓mr27, ↓mw0, ↓mw1, ↓mw11, ↓mw12, ↓mw13, ↓mw15, ↓mw16, ↓mw17, ↓mw19, ↓mw20, ↓mw22, ↓mw25, up_eq, up_ne, up_up, si_len, ↓X10_isSleeper_w mp, ↓X10_in_w, ↓am_ifb, ↓if_pos q0, ↓if_pos q1]
  exact w2
theorem X10_tenTo_w {E : List (List Int)} {K : Option am_V → am_H → Prop} {h : am_H} {n : Int} (hn : 0 ≤ n ∧ n ≤ 100) : Wp E 159 0 [some (am_i n), none, none] [] h K = K (some (am_i ((10 : Int) ^ n.toNat))) h := by
  have lo := am_foldz (W := fun i v => Wp E 159 4 [some (am_i n), some (am_i v), some (am_i i)] [] h K) (f := fun v _ => v * 10) (I := fun _ _ => True) (lo := 0) (N := n) (by
    intro i v h0 h1 _
    refine ⟨trivial, ?_⟩
    rw [e159_4]
    simp (disch := first | omega | (simp (disch := omega) only [up_eq, up_ne, si_len, List.length_set]; omega)) only [↓e159_5, ↓e159_6, ↓e159_9, ↓e159_10, ↓e159_12, ↓e159_13, ↓e159_14, ↓e159_17, ↓am_ilp, ↓am_iln, ↓am_iep, ↓am_ien, ↓am_zlp, ↓am_zln, ↓am_zep, ↓am_zen, ↓am_zgp, ↓am_zgn, ↓am_zhp, ↓am_zhn, ↓am_b01, true_or, true_and, and_true, or_true, if_true, if_false, ↓am_bdl_z, ↓am_bdl_s, ↓am_bsl_z, ↓am_bsl_s, ↓am_k1_i, ↓am_k1_r, ↓am_k1_e, ↓am_k1_n, ↓am_bd_s, am_k1_t, eq_self, am_nl_i, am_nl_r, am_nl_e, am_nl_n, Option.toList_some, Option.toList_none, Option.map_some, Option.map_none, List.cons_append, List.nil_append, List.length_cons, List.length_nil, List.set_cons_zero, List.set_cons_succ, List.getElem?_cons_zero, List.getElem?_cons_succ, am_bd_s]) n.toNat 0 1 (by omega) (by omega) trivial
  have e1 : ∀ (k : Nat) (i v : Int), pl_fz (fun v _ => v * 10) i k v = v * 10 ^ k := by
    intro k
    induction k with
    | zero => intro i v; rw [pl_fz, Int.pow_zero, Int.mul_one]
    | succ k ih => intro i v; rw [pl_fz, ih, Int.pow_succ, Int.mul_assoc, Int.mul_comm 10]
  have e2 := e1 n.toNat 0 1
  rw [Int.one_mul] at e2
  rw [← e2]
  simp (disch := first | omega | (simp (disch := omega) only [up_eq, up_ne, si_len, List.length_set]; omega)) only [↓e159_0, ↓e159_1, ↓e159_2, ↓e159_3, ↓am_ilp, ↓am_iln, ↓am_iep, ↓am_ien, ↓am_zlp, ↓am_zln, ↓am_zep, ↓am_zen, ↓am_zgp, ↓am_zgn, ↓am_zhp, ↓am_zhn, ↓am_b01, true_or, true_and, and_true, or_true, if_true, if_false, ↓am_bdl_z, ↓am_bdl_s, ↓am_bsl_z, ↓am_bsl_s, ↓am_k1_i, ↓am_k1_r, ↓am_k1_e, ↓am_k1_n, ↓am_bd_s, am_k1_t, eq_self, am_nl_i, am_nl_r, am_nl_e, am_nl_n, Option.toList_some, Option.toList_none, Option.map_some, Option.map_none, List.cons_append, List.nil_append, List.length_cons, List.length_nil, List.set_cons_zero, List.set_cons_succ, List.getElem?_cons_zero, List.getElem?_cons_succ, am_bd_s]
  refine Eq.trans lo.1 ?_
  rw [e159_4]
  simp (disch := first | omega | (simp (disch := omega) only [up_eq, up_ne, si_len, List.length_set]; omega)) only [↓e159_5, ↓e159_6, ↓e159_20, ↓e159_21, ↓am_ilp, ↓am_iln, ↓am_iep, ↓am_ien, ↓am_zlp, ↓am_zln, ↓am_zep, ↓am_zen, ↓am_zgp, ↓am_zgn, ↓am_zhp, ↓am_zhn, ↓am_b01, true_or, true_and, and_true, or_true, if_true, if_false, ↓am_bdl_z, ↓am_bdl_s, ↓am_bsl_z, ↓am_bsl_s, ↓am_k1_i, ↓am_k1_r, ↓am_k1_e, ↓am_k1_n, ↓am_bd_s, am_k1_t, eq_self, am_nl_i, am_nl_r, am_nl_e, am_nl_n, Option.toList_some, Option.toList_none, Option.map_some, Option.map_none, List.cons_append, List.nil_append, List.length_cons, List.length_nil, List.set_cons_zero, List.set_cons_succ, List.getElem?_cons_zero, List.getElem?_cons_succ, am_bd_s]
/-- the first of r things from k on that can not be -/
def pl_jg (D : Nat → Nat) (dt : pl_L → Nat → Nat → Option pl_L) : Nat → Nat → pl_L → Int
  | 0, _, _ => -9
  | r + 1, k, L => match dt L (D k / 10) (D k % 10) with
    | none => (k : Int)
    | some L' => pl_jg D dt r (k + 1) L'
def pl_dg (n row k : Nat) : Nat := row / 100 ^ (n - 1 - k) % 100
theorem pl_ten {e : Nat} (h : e ≤ 3) : 1 ≤ (10 : Int) ^ (2 * e) ∧ (10 : Int) ^ (2 * e) ≤ 1000000 ∧ (10 : Int) ^ (2 * e) = ((100 ^ e : Nat) : Int) := by
  match e, h with
  | 0, _ => decide
  | 1, _ => decide
  | 2, _ => decide
  | 3, _ => decide
  | e + 4, h => omega
theorem X10_judge_l {n row : Nat} (hn : n ≤ 4) (hrow : row < 100000000) :
    ∀ (r k : Nat) (V : Nat → List Int) (L : pl_L) (x4 : Option am_V), k + r = n → MP S V nb ns → Ly (V 102) 14 L → WfL nb ns (V 101) L → Dj ns (V 101) L.2.1 → ∃ V', Sc V V' ∧ ∀ E K, Wp E 161 39 [some (am_r (some 96)), some (am_i (n : Int)), some (am_i (row : Int)), some (am_i (k : Int)), x4] [] (mk C S V) K = K (some (am_i (pl_jg (pl_dg n row) (pl_do nb ns (V 97) (V 98) (V 99) (V 100) (V 101)) r k L))) (mk C S V')
  | 0, k, V, L, x4, e, mp, ly, wf, dj => by
    refine ⟨V, Sc.rf mp.2.2.2.2.2.2.2.2.2.2.1, fun E K => ?_⟩
    rw [e161_39, pl_jg]
    simp (disch := first | omega | (simp (disch := omega) only [up_eq, up_ne, si_len, List.length_set]; omega)) only [↓e161_40, ↓e161_41, ↓e161_86, ↓e161_88, ↓am_ilp, ↓am_iln, ↓am_iep, ↓am_ien, ↓am_zlp, ↓am_zln, ↓am_zep, ↓am_zen, ↓am_zgp, ↓am_zgn, ↓am_zhp, ↓am_zhn, ↓am_b01, true_or, true_and, and_true, or_true, if_true, if_false, ↓am_bdl_z, ↓am_bdl_s, ↓am_bsl_z, ↓am_bsl_s, ↓am_k1_i, ↓am_k1_r, ↓am_k1_e, ↓am_k1_n, ↓am_bd_s, am_k1_t, eq_self, am_nl_i, am_nl_r, am_nl_e, am_nl_n, Option.toList_some, Option.toList_none, Option.map_some, Option.map_none, List.cons_append, List.nil_append, List.length_cons, List.length_nil, List.set_cons_zero, List.set_cons_succ, List.getElem?_cons_zero, List.getElem?_cons_succ, am_bd_s]
  | r + 1, k, V, L, x4, e, mp, ly, wf, dj => by
    obtain ⟨p1, p2, p3⟩ := pl_ten (e := n - 1 - k) (by omega)
    have e0 : (2 * ((n : Int) - 1 - (k : Int))).toNat = 2 * (n - 1 - k) := by omega
    have d1 : am_div (row : Int) ((10 : Int) ^ (2 * ((n : Int) - 1 - (k : Int))).toNat) = ((row / 100 ^ (n - 1 - k) : Nat) : Int) := by
      rw [e0, am_div_n (by omega) (by omega) (by omega) (by omega), p3]
      exact Int.ofNat_ediv_ofNat
    have b1 : row / 100 ^ (n - 1 - k) ≤ row := Nat.div_le_self _ _
    have d0 : ∀ z : Nat, z ≤ 100000000 → am_rem (z : Int) 100 = ((z % 100 : Nat) : Int) := fun z hz => by
      rw [am_rem_n (by omega) (by omega) (by omega) (by omega)]
      rfl
    have d2 : am_rem ((row / 100 ^ (n - 1 - k) : Nat) : Int) 100 = ((pl_dg n row k : Nat) : Int) := d0 _ (Nat.le_trans b1 (by omega))
    have b2 : pl_dg n row k < 100 := Nat.mod_lt _ (by omega)
    have d3 : am_div ((pl_dg n row k : Nat) : Int) 10 = ((pl_dg n row k / 10 : Nat) : Int) := by
      rw [am_div_n (by omega) (by omega) (by omega) (by omega)]
      rfl
    have d4 : am_rem ((pl_dg n row k : Nat) : Int) 10 = ((pl_dg n row k % 10 : Nat) : Int) := by
      rw [am_rem_n (by omega) (by omega) (by omega) (by omega)]
      rfl
    obtain ⟨V1, c1, l1, w1⟩ := X10_tryThing_w (C := C) (hw := pl_dg n row k / 10) (k := pl_dg n row k % 10) mp ly wf dj (by omega) (by omega)
    rw [← d3, ← d4, ← d2, ← d1] at w1
    have p4 : (10 : Int) ^ (2 * ((n : Int) - 1 - (k : Int))).toNat = 10 ^ (2 * (n - 1 - k)) := by rw [e0]
    have m1 := c1.mp mp
    rw [pl_jg]
    cases q : pl_do nb ns (V 97) (V 98) (V 99) (V 100) (V 101) L (pl_dg n row k / 10) (pl_dg n row k % 10) with
    | none =>
      rw [q] at w1
      refine ⟨V1, c1, fun E K => ?_⟩
      have q2 : ¬ (none : Option pl_L).isSome = true := by simp
      rw [e161_39]
      simp (disch := first | omega | (simp (disch := omega) only [up_eq, up_ne, si_len, List.length_set]; omega)) only [↓e161_40, ↓e161_41, ↓e161_44, ↓e161_45, ↓e161_46, ↓e161_47, ↓e161_48, ↓e161_49, ↓e161_50, ↓e161_51, ↓e161_52, ↓e161_55, ↓e161_56, ↓e161_58, ↓e161_59, ↓e161_61, ↓e161_62, ↓e161_64, ↓e161_66, ↓e161_67, ↓e161_69, ↓e161_71, ↓e161_72, ↓e161_75, ↓e161_78, ↓e161_79, ↓e161_80, ↓e161_83, ↓am_ilp, ↓am_iln, ↓am_iep, ↓am_ien, ↓am_zlp, ↓am_zln, ↓am_zep, ↓am_zen, ↓am_zgp, ↓am_zgn, ↓am_zhp, ↓am_zhn, ↓am_b01, true_or, true_and, and_true, or_true, if_true, if_false, ↓am_bdl_z, ↓am_bdl_s, ↓am_bsl_z, ↓am_bsl_s, ↓am_k1_i, ↓am_k1_r, ↓am_k1_e, ↓am_k1_n, ↓am_bd_s, am_k1_t, eq_self, am_nl_i, am_nl_r, am_nl_e, am_nl_n, Option.toList_some, Option.toList_none, Option.map_some, Option.map_none, List.cons_append, List.nil_append, List.length_cons, List.length_nil, List.set_cons_zero, List.set_cons_succ, List.getElem?_cons_zero, List.getElem?_cons_succ, am_bd_s, ↓am_tls, ↓am_tln, ↓mk_oc, ↓ma_r, ↓ma_w, ↓mz_r, ↓mz_w, ↓mr0, ↓mr1, ↓mr2, ↓mr3, ↓mr4, ↓mr5, ↓mr6, ↓mr7, ↓mr8, ↓mr9, ↓mr10, ↓mr11, ↓mr12, ↓mr13, ↓mr14, ↓mr15, ↓mr16, ↓mr17, ↓mr18, ↓mr19, ↓mr20, ↓mr21, ↓mr22, ↓mr23, ↓mr24, ↓mr25, ↓mr26, ↓mr27, ↓mw0, ↓mw1, ↓mw11, ↓mw12, ↓mw13, ↓mw15, ↓mw16, ↓mw17, ↓mw19, ↓mw20, ↓mw22, ↓mw25, up_eq, up_ne, up_up, si_len, ↓X10_tenTo_w, ↓w1, ↓am_ifb, ↓if_neg q2]
    | some L1 =>
      rw [q] at w1 l1
      have k101 : V1 101 = V 101 := c1.at (by decide) (by decide)
      obtain ⟨V2, c2, w2⟩ := X10_judge_l hn hrow r (k + 1) V1 L1 (some (am_i (am_rem (am_div (row : Int) ((10 : Int) ^ (2 * ((n : Int) - 1 - (k : Int))).toNat)) 100))) (by omega) m1 l1 (by rw [k101]; exact pl_do_wf ly.2.2.2.1 mp.2.2.2.1 wf q) (by rw [k101]; exact pl_do_dj ly.2.2.2.1 mp.2.2.2.1 wf mp.2.2.2.2.2.2.2.2.2.2.2.2 dj q)
      rw [c1.at (i := 97) (by decide) (by decide), c1.at (i := 98) (by decide) (by decide), c1.at (i := 99) (by decide) (by decide), c1.at (i := 100) (by decide) (by decide), k101] at w2
      refine ⟨V2, c1.trans c2, fun E K => ?_⟩
      have q2 : (some L1 : Option pl_L).isSome = true := rfl
      rw [e161_39]
      simp (disch := first | omega | (simp (disch := omega) only [up_eq, up_ne, si_len, List.length_set]; omega)) only [↓e161_40, ↓e161_41, ↓e161_44, ↓e161_45, ↓e161_46, ↓e161_47, ↓e161_48, ↓e161_49, ↓e161_50, ↓e161_51, ↓e161_52, ↓e161_55, ↓e161_56, ↓e161_58, ↓e161_59, ↓e161_61, ↓e161_62, ↓e161_64, ↓e161_66, ↓e161_67, ↓e161_69, ↓e161_71, ↓e161_72, ↓e161_75, ↓e161_78, ↓e161_79, ↓e161_80, ↓e161_83, ↓am_ilp, ↓am_iln, ↓am_iep, ↓am_ien, ↓am_zlp, ↓am_zln, ↓am_zep, ↓am_zen, ↓am_zgp, ↓am_zgn, ↓am_zhp, ↓am_zhn, ↓am_b01, true_or, true_and, and_true, or_true, if_true, if_false, ↓am_bdl_z, ↓am_bdl_s, ↓am_bsl_z, ↓am_bsl_s, ↓am_k1_i, ↓am_k1_r, ↓am_k1_e, ↓am_k1_n, ↓am_bd_s, am_k1_t, eq_self, am_nl_i, am_nl_r, am_nl_e, am_nl_n, Option.toList_some, Option.toList_none, Option.map_some, Option.map_none, List.cons_append, List.nil_append, List.length_cons, List.length_nil, List.set_cons_zero, List.set_cons_succ, List.getElem?_cons_zero, List.getElem?_cons_succ, am_bd_s, ↓am_tls, ↓am_tln, ↓mk_oc, ↓ma_r, ↓ma_w, ↓mz_r, ↓mz_w, ↓mr0, ↓mr1, ↓mr2, ↓mr3, ↓mr4, ↓mr5, ↓mr6, ↓mr7, ↓mr8, ↓mr9, ↓mr10, ↓mr11, ↓mr12, ↓mr13, ↓mr14, ↓mr15, ↓mr16, ↓mr17, ↓mr18, ↓mr19, ↓mr20, ↓mr21, ↓mr22, ↓mr23, ↓mr24, ↓mr25, ↓mr26, ↓mr27, ↓mw0, ↓mw1, ↓mw11, ↓mw12, ↓mw13, ↓mw15, ↓mw16, ↓mw17, ↓mw19, ↓mw20, ↓mw22, ↓mw25, up_eq, up_ne, up_up, si_len, ↓X10_tenTo_w, ↓w1, ↓am_ifb, ↓if_pos q2]
      exact w2 E K
theorem X10_judge_out {V : Nat → List Int} {n row : Int} (hn : am_w n = n) (hr : am_w row = row) (h : ¬ (1 ≤ n ∧ n ≤ 4 ∧ 0 ≤ row ∧ row < (10 : Int) ^ (2 * n).toNat)) (E : List (List Int)) (K : Option am_V → am_H → Prop) : Wp E 161 0 [some (am_r (some 96)), some (am_i n), some (am_i row), none, none] [] (mk C S V) K = K (some (am_i (-2))) (mk C S V) := by
  have r1 := am_w_rng n
  have r2 := am_w_rng row
  by_cases q : 1 ≤ am_w n ∧ am_w n ≤ 4
  · have e : ∃ m : Nat, m ≤ 4 ∧ n = (m : Int) := ⟨n.toNat, by omega, by omega⟩
    obtain ⟨m, hm, rfl⟩ := e
    have hp : 1 ≤ (10 : Int) ^ (2 * (m : Int)).toNat ∧ (10 : Int) ^ (2 * (m : Int)).toNat ≤ 100000000 := by
      rw [show (2 * (m : Int)).toNat = 2 * m by omega]
      match m, hm with
      | 0, _ => decide
      | 1, _ => decide
      | 2, _ => decide
      | 3, _ => decide
      | 4, _ => decide
      | m + 5, h => omega
    have r3 := am_w_rng ((10 : Int) ^ (2 * (m : Int)).toNat - 1)
    have e3 : am_w ((10 : Int) ^ (2 * (m : Int)).toNat - 1) = (10 : Int) ^ (2 * (m : Int)).toNat - 1 := am_w_id (by omega) (by omega)
    have q2 : ¬ (0 ≤ am_w row ∧ am_w row ≤ am_w ((10 : Int) ^ (2 * (m : Int)).toNat - 1)) := by omega
    simp (disch := first | omega | (simp (disch := omega) only [up_eq, up_ne, si_len, List.length_set]; omega)) only [↓e161_0, ↓e161_1, ↓e161_2, ↓e161_3, ↓e161_6, ↓e161_9, ↓e161_12, ↓e161_13, ↓e161_14, ↓e161_15, ↓e161_16, ↓e161_17, ↓e161_18, ↓e161_21, ↓e161_22, ↓e161_23, ↓e161_24, ↓e161_27, ↓e161_30, ↓e161_32, ↓am_ilp, ↓am_iln, ↓am_iep, ↓am_ien, ↓am_zlp, ↓am_zln, ↓am_zep, ↓am_zen, ↓am_zgp, ↓am_zgn, ↓am_zhp, ↓am_zhn, ↓am_b01, true_or, true_and, and_true, or_true, if_true, if_false, ↓am_bdl_z, ↓am_bdl_s, ↓am_bsl_z, ↓am_bsl_s, ↓am_k1_i, ↓am_k1_r, ↓am_k1_e, ↓am_k1_n, ↓am_bd_s, am_k1_t, eq_self, am_nl_i, am_nl_r, am_nl_e, am_nl_n, Option.toList_some, Option.toList_none, Option.map_some, Option.map_none, List.cons_append, List.nil_append, List.length_cons, List.length_nil, List.set_cons_zero, List.set_cons_succ, List.getElem?_cons_zero, List.getElem?_cons_succ, am_bd_s, ↓am_tls, ↓am_tln, ↓mk_oc, ↓ma_r, ↓ma_w, ↓mz_r, ↓mz_w, ↓mr0, ↓mr1, ↓mr2, ↓mr3, ↓mr4, ↓mr5, ↓mr6, ↓mr7, ↓mr8, ↓mr9, ↓mr10, ↓mr11, ↓mr12, ↓mr13, ↓mr14, ↓mr15, ↓mr16, ↓mr17, ↓mr18, ↓mr19, ↓mr20, ↓mr21, ↓mr22, ↓mr23, ↓mr24, ↓mr25, ↓mr26, ↓mr27, ↓mw0, ↓mw1, ↓mw11, ↓mw12, ↓mw13, ↓mw15, ↓mw16, ↓mw17, ↓mw19, ↓mw20, ↓mw22, ↓mw25, up_eq, up_ne, up_up, si_len, ↓X10_in_w, ↓am_ifb, ↓if_pos q, ↓X10_tenTo_w, ↓if_neg q2]
  · simp (disch := first | omega | (simp (disch := omega) only [up_eq, up_ne, si_len, List.length_set]; omega)) only [↓e161_0, ↓e161_1, ↓e161_2, ↓e161_3, ↓e161_6, ↓e161_9, ↓e161_12, ↓e161_13, ↓e161_14, ↓e161_15, ↓e161_16, ↓e161_17, ↓e161_18, ↓e161_21, ↓e161_22, ↓e161_23, ↓e161_24, ↓e161_27, ↓e161_30, ↓e161_32, ↓am_ilp, ↓am_iln, ↓am_iep, ↓am_ien, ↓am_zlp, ↓am_zln, ↓am_zep, ↓am_zen, ↓am_zgp, ↓am_zgn, ↓am_zhp, ↓am_zhn, ↓am_b01, true_or, true_and, and_true, or_true, if_true, if_false, ↓am_bdl_z, ↓am_bdl_s, ↓am_bsl_z, ↓am_bsl_s, ↓am_k1_i, ↓am_k1_r, ↓am_k1_e, ↓am_k1_n, ↓am_bd_s, am_k1_t, eq_self, am_nl_i, am_nl_r, am_nl_e, am_nl_n, Option.toList_some, Option.toList_none, Option.map_some, Option.map_none, List.cons_append, List.nil_append, List.length_cons, List.length_nil, List.set_cons_zero, List.set_cons_succ, List.getElem?_cons_zero, List.getElem?_cons_succ, am_bd_s, ↓am_tls, ↓am_tln, ↓mk_oc, ↓ma_r, ↓ma_w, ↓mz_r, ↓mz_w, ↓mr0, ↓mr1, ↓mr2, ↓mr3, ↓mr4, ↓mr5, ↓mr6, ↓mr7, ↓mr8, ↓mr9, ↓mr10, ↓mr11, ↓mr12, ↓mr13, ↓mr14, ↓mr15, ↓mr16, ↓mr17, ↓mr18, ↓mr19, ↓mr20, ↓mr21, ↓mr22, ↓mr23, ↓mr24, ↓mr25, ↓mr26, ↓mr27, ↓mw0, ↓mw1, ↓mw11, ↓mw12, ↓mw13, ↓mw15, ↓mw16, ↓mw17, ↓mw19, ↓mw20, ↓mw22, ↓mw25, up_eq, up_ne, up_up, si_len, ↓X10_in_w, ↓am_ifb, ↓if_neg q]
theorem X10_judge_w {V : Nat → List Int} {n row : Nat} (mp : MP S V nb ns) (ly : Ly (V 102) 0 L) (wf : WfL nb ns (V 101) L) (dj : Dj ns (V 101) L.2.1) (hn : 1 ≤ n ∧ n ≤ 4) (hrow : row < 100 ^ n) : ∃ V', Sc V V' ∧ ∀ E K, Wp E 161 0 [some (am_r (some 96)), some (am_i (n : Int)), some (am_i (row : Int)), none, none] [] (mk C S V) K = K (some (am_i (pl_jg (pl_dg n row) (pl_do nb ns (V 97) (V 98) (V 99) (V 100) (V 101)) n 0 L))) (mk C S V') := by
  have r1 := am_w_rng (n : Int)
  have r2 := am_w_rng (row : Int)
  have e1 : am_w (n : Int) = (n : Int) := am_w_nat (by omega)
  have hp : (10 : Int) ^ (2 * (n : Int)).toNat = ((100 ^ n : Nat) : Int) ∧ 100 ^ n ≤ 100000000 := by
    rw [show (2 * (n : Int)).toNat = 2 * n by omega]
    match n, hn with
    | 1, _ => decide
    | 2, _ => decide
    | 3, _ => decide
    | 4, _ => decide
    | 0, h => omega
    | m + 5, h => omega
  have e2 : am_w (row : Int) = (row : Int) := am_w_nat (by omega)
  have r3 := am_w_rng ((10 : Int) ^ (2 * (n : Int)).toNat - 1)
  have e3 : am_w ((10 : Int) ^ (2 * (n : Int)).toNat - 1) = (10 : Int) ^ (2 * (n : Int)).toNat - 1 := am_w_id (by omega) (by omega)
  have q : 1 ≤ am_w (n : Int) ∧ am_w (n : Int) ≤ 4 := by omega
  have q2 : 0 ≤ am_w (row : Int) ∧ am_w (row : Int) ≤ am_w ((10 : Int) ^ (2 * (n : Int)).toNat - 1) := by omega
  obtain ⟨V1, c1, l1, w1⟩ := X10_layTrial_w (C := C) mp ly
  have k101 : V1 101 = V 101 := c1.at (by decide) (by decide)
  obtain ⟨V2, c2, w2⟩ := X10_judge_l (C := C) (n := n) (row := row) hn.2 (by omega) n 0 V1 L none (by omega) (c1.mp mp) l1 (by rw [k101]; exact wf) (by rw [k101]; exact dj)
  rw [c1.at (i := 97) (by decide) (by decide), c1.at (i := 98) (by decide) (by decide), c1.at (i := 99) (by decide) (by decide), c1.at (i := 100) (by decide) (by decide), k101] at w2
  refine ⟨V2, c1.trans c2, fun E K => ?_⟩
  have w3 := w2 E K
  simp (disch := first | omega | (simp (disch := omega) only [up_eq, up_ne, si_len, List.length_set]; omega)) only [↓e161_0, ↓e161_1, ↓e161_2, ↓e161_3, ↓e161_6, ↓e161_9, ↓e161_12, ↓e161_13, ↓e161_14, ↓e161_15, ↓e161_16, ↓e161_17, ↓e161_18, ↓e161_21, ↓e161_22, ↓e161_23, ↓e161_24, ↓e161_27, ↓e161_30, ↓e161_32, ↓e161_33, ↓e161_34, ↓e161_37, ↓e161_38, ↓am_ilp, ↓am_iln, ↓am_iep, ↓am_ien, ↓am_zlp, ↓am_zln, ↓am_zep, ↓am_zen, ↓am_zgp, ↓am_zgn, ↓am_zhp, ↓am_zhn, ↓am_b01, true_or, true_and, and_true, or_true, if_true, if_false, ↓am_bdl_z, ↓am_bdl_s, ↓am_bsl_z, ↓am_bsl_s, ↓am_k1_i, ↓am_k1_r, ↓am_k1_e, ↓am_k1_n, ↓am_bd_s, am_k1_t, eq_self, am_nl_i, am_nl_r, am_nl_e, am_nl_n, Option.toList_some, Option.toList_none, Option.map_some, Option.map_none, List.cons_append, List.nil_append, List.length_cons, List.length_nil, List.set_cons_zero, List.set_cons_succ, List.getElem?_cons_zero, List.getElem?_cons_succ, am_bd_s, ↓am_tls, ↓am_tln, ↓mk_oc, ↓ma_r, ↓ma_w, ↓mz_r, ↓mz_w, ↓mr0, ↓mr1, ↓mr2, ↓mr3, ↓mr4, ↓mr5, ↓mr6, ↓mr7, ↓mr8, ↓mr9, ↓mr10, ↓mr11, ↓mr12, ↓mr13, ↓mr14, ↓mr15, ↓mr16, ↓mr17, ↓mr18, ↓mr19, ↓mr20, ↓mr21, ↓mr22, ↓mr23, ↓mr24, ↓mr25, ↓mr26, ↓mr27, ↓mw0, ↓mw1, ↓mw11, ↓mw12, ↓mw13, ↓mw15, ↓mw16, ↓mw17, ↓mw19, ↓mw20, ↓mw22, ↓mw25, up_eq, up_ne, up_up, si_len, ↓X10_in_w, ↓am_ifb, ↓if_pos q, ↓X10_tenTo_w, ↓if_pos q2, ↓w1]
  exact w3
end MTK
