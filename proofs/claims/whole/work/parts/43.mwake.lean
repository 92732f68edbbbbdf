theorem MP.o {S : Nat → Int} {V : Nat → List Int} {nb ns : Nat} {o : List Int} (mp : MP S V nb ns) (ho : o.length = 11) : MP S (up V 107 o) nb ns := by
  obtain ⟨s0, s1, hnb, hns, l97, l98, l99, l100, l101, l102, l107, pv, wv⟩ := mp
  exact ⟨s0, s1, hnb, hns, l97, l98, l99, l100, l101, l102, ho, pv, wv⟩
/-- told at some cells -/
def m_ws (T : Nat → Int) (told : Nat) (time : Int) (c : Nat) : Int := if told.testBit c = true then time else T c
theorem m_of_fz {x : Nat → Int} (n p : Nat) (o : List Int) : pl_fz (fun o c => si o (x c.toNat) (gi o (x c.toNat) + 1)) (p : Int) n o = m_of ((List.range' p n).map x) o := by
  rw [pl_fz_range, m_of, List.foldl_map]
  rfl
theorem m_zero {o : List Int} (h : o.length = 11) : pl_fz (fun o t => si o t 0) 0 11 o = m_z := by
  match o, h with
  | [a0, a1, a2, a3, a4, a5, a6, a7, a8, a9, a10], _ => rfl
theorem m_z_rng : ∀ t : Int, 0 ≤ t → t ≤ 10 → 0 ≤ gi m_z t ∧ gi m_z t ≤ 0 := by
  intro t h0 h1
  obtain ⟨n, hn, rfl⟩ := pl_nat ⟨h0, h1⟩
  have hd : ∀ n < 11, 0 ≤ gi m_z ((n : Nat) : Int) ∧ gi m_z ((n : Nat) : Int) ≤ 0 := by decide
  exact hd n hn
section MWK
variable {C : Nat → am_C} {S : Nat → Int} {V : Nat → List Int} {nb ns : Nat} {L : pl_L}
theorem X10_wakesIn_1 {E : List (List Int)} {K : Option am_V → am_H → Prop} {lv p w told time : Int} (mp : MP S V nb ns) : Wp E 128 0 [some (am_r (some 96)), some (am_i lv), some (am_i p), some (am_i w), some (am_i told), some (am_i time), none, none] [] (mk C S V) K = Wp E 128 27 [some (am_r (some 96)), some (am_i lv), some (am_i p), some (am_i w), some (am_i told), some (am_i time), some (am_i p), none] [] (mk C S (up V 107 m_z)) K := by
  have l107 : (V 107).length = 11 := mp.2.2.2.2.2.2.2.2.2.2.1
  have lo := am_foldz (W := fun i o => Wp E 128 3 [some (am_r (some 96)), some (am_i lv), some (am_i p), some (am_i w), some (am_i told), some (am_i time), some (am_i i), none] [] (mk C S (up V 107 o)) K) (f := fun o t => si o t 0) (I := fun _ o => o.length = 11) (lo := 0) (N := 11) (by
    intro i o h0 h1 ho
    refine ⟨by rw [si_len]; exact ho, ?_⟩
    try dsimp only
    rw [e128_3]
    simp (disch := first | omega | (simp (disch := omega) only [up_eq, up_ne, si_len, List.length_set]; omega)) only [↓e128_5, ↓e128_7, ↓e128_10, ↓e128_11, ↓e128_14, ↓e128_16, ↓e128_17, ↓e128_18, ↓e128_21, ↓am_ilp, ↓am_iln, ↓am_iep, ↓am_ien, ↓am_zlp, ↓am_zln, ↓am_zep, ↓am_zen, ↓am_zgp, ↓am_zgn, ↓am_zhp, ↓am_zhn, ↓am_b01, true_or, true_and, and_true, or_true, if_true, if_false, ↓am_bdl_z, ↓am_bdl_s, ↓am_bsl_z, ↓am_bsl_s, ↓am_k1_i, ↓am_k1_r, ↓am_k1_e, ↓am_k1_n, ↓am_bd_s, am_k1_t, eq_self, am_nl_i, am_nl_r, am_nl_e, am_nl_n, Option.toList_some, Option.toList_none, Option.map_some, Option.map_none, List.cons_append, List.nil_append, List.length_cons, List.length_nil, List.set_cons_zero, List.set_cons_succ, List.getElem?_cons_zero, List.getElem?_cons_succ, am_bd_s, ↓am_tls, ↓am_tln, ↓mk_oc, ↓ma_r, ↓ma_w, ↓mz_r, ↓mz_w, ↓mr0, ↓mr1, ↓mr2, ↓mr3, ↓mr4, ↓mr5, ↓mr6, ↓mr7, ↓mr8, ↓mr9, ↓mr10, ↓mr11, ↓mr12, ↓mr13, ↓mr14, ↓mr15, ↓mr16, ↓mr17, ↓mr18, ↓mr19, ↓mr20, ↓mr21, ↓mr22, ↓mr23, ↓mr24, ↓mr25, ↓mr26, ↓mr27, ↓mw0, ↓mw1, ↓mw11, ↓mw12, ↓mw13, ↓mw15, ↓mw16, ↓mw17, ↓mw19, ↓mw20, ↓mw22, ↓mw25, up_eq, up_ne, up_up, si_len]) 11 0 (V 107) (by omega) (by omega) l107
  rw [m_zero l107, up_same] at lo
  simp (disch := first | omega | (simp (disch := omega) only [up_eq, up_ne, si_len, List.length_set]; omega)) only [↓e128_0, ↓e128_1, ↓am_ilp, ↓am_iln, ↓am_iep, ↓am_ien, ↓am_zlp, ↓am_zln, ↓am_zep, ↓am_zen, ↓am_zgp, ↓am_zgn, ↓am_zhp, ↓am_zhn, ↓am_b01, true_or, true_and, and_true, or_true, if_true, if_false, ↓am_bdl_z, ↓am_bdl_s, ↓am_bsl_z, ↓am_bsl_s, ↓am_k1_i, ↓am_k1_r, ↓am_k1_e, ↓am_k1_n, ↓am_bd_s, am_k1_t, eq_self, am_nl_i, am_nl_r, am_nl_e, am_nl_n, Option.toList_some, Option.toList_none, Option.map_some, Option.map_none, List.cons_append, List.nil_append, List.length_cons, List.length_nil, List.set_cons_zero, List.set_cons_succ, List.getElem?_cons_zero, List.getElem?_cons_succ, am_bd_s]
  refine Eq.trans lo.1 ?_
  try dsimp only
  rw [e128_3]
  simp (disch := first | omega | (simp (disch := omega) only [up_eq, up_ne, si_len, List.length_set]; omega)) only [↓e128_5, ↓e128_7, ↓e128_24, ↓e128_25, ↓am_ilp, ↓am_iln, ↓am_iep, ↓am_ien, ↓am_zlp, ↓am_zln, ↓am_zep, ↓am_zen, ↓am_zgp, ↓am_zgn, ↓am_zhp, ↓am_zhn, ↓am_b01, true_or, true_and, and_true, or_true, if_true, if_false, ↓am_bdl_z, ↓am_bdl_s, ↓am_bsl_z, ↓am_bsl_s, ↓am_k1_i, ↓am_k1_r, ↓am_k1_e, ↓am_k1_n, ↓am_bd_s, am_k1_t, eq_self, am_nl_i, am_nl_r, am_nl_e, am_nl_n, Option.toList_some, Option.toList_none, Option.map_some, Option.map_none, List.cons_append, List.nil_append, List.length_cons, List.length_nil, List.set_cons_zero, List.set_cons_succ, List.getElem?_cons_zero, List.getElem?_cons_succ, am_bd_s]
theorem X10_wakesIn_2 {E : List (List Int)} {K : Option am_V → am_H → Prop} {lv p w told time : Int} (mp : MP S V nb ns) (ly : Ly (V 102) (14 * lv) L) (hlv : 0 ≤ lv ∧ lv ≤ 1) (hx : ∀ x ∈ L.1, x < nb) (hp : 0 ≤ p) (hw : 1 ≤ w ∧ w ≤ 3) (hpw : p + w ≤ 6) (ht : 0 ≤ told ∧ told < 64) (htm : 0 ≤ time ∧ time ≤ 10) : Wp E 128 27 [some (am_r (some 96)), some (am_i lv), some (am_i p), some (am_i w), some (am_i told), some (am_i time), some (am_i p), none] [] (mk C S (up V 107 m_z)) K = Wp E 128 78 [some (am_r (some 96)), some (am_i lv), some (am_i p), some (am_i w), some (am_i told), some (am_i time), some (am_i 0), some (am_i 1)] [] (mk C S (up V 107 (m_of ((List.range' p.toNat w.toNat).map (m_ws (pl_tm (V 97) (V 98) (V 99) (V 100) L.1) told.toNat time)) m_z))) K := by
  obtain ⟨s0, s1, hnb, hns, l97, l98, l99, l100, l101, l102, l107, pv, wv⟩ := id mp
  have lo := am_foldz (W := fun i o => Wp E 128 27 [some (am_r (some 96)), some (am_i lv), some (am_i p), some (am_i w), some (am_i told), some (am_i time), some (am_i i), none] [] (mk C S (up V 107 o)) K) (f := fun o c => si o (m_ws (pl_tm (V 97) (V 98) (V 99) (V 100) L.1) told.toNat time c.toNat) (gi o (m_ws (pl_tm (V 97) (V 98) (V 99) (V 100) L.1) told.toNat time c.toNat) + 1)) (I := fun _ o => o.length = 11) (lo := p) (N := p + w) (by
    intro i o h0 h1 ho
    refine ⟨by rw [si_len]; exact ho, ?_⟩
    try dsimp only
    rw [e128_27]
    have tr := pl_tm_rng pv hx (show i.toNat < 6 by omega)
    have tw := fun E K => X10_timeOf_w (E := E) (K := K) (C := C) (c := i) (mp.o ho) (V := up V 107 o) (lv := lv) (L := L) ly hlv hx (by omega)
    by_cases q : told.toNat.testBit i.toNat = true
    · have ex : m_ws (pl_tm (V 97) (V 98) (V 99) (V 100) L.1) told.toNat time i.toNat = time := if_pos q
      simp (disch := first | omega | (simp (disch := omega) only [up_eq, up_ne, si_len, List.length_set]; omega)) only [↓e128_29, ↓e128_30, ↓e128_31, ↓e128_32, ↓e128_35, ↓e128_36, ↓e128_39, ↓e128_41, ↓e128_43, ↓e128_46, ↓e128_49, ↓e128_51, ↓e128_54, ↓e128_55, ↓e128_56, ↓e128_58, ↓e128_61, ↓e128_62, ↓e128_63, ↓e128_64, ↓e128_65, ↓e128_66, ↓e128_69, ↓am_ilp, ↓am_iln, ↓am_iep, ↓am_ien, ↓am_zlp, ↓am_zln, ↓am_zep, ↓am_zen, ↓am_zgp, ↓am_zgn, ↓am_zhp, ↓am_zhn, ↓am_b01, true_or, true_and, and_true, or_true, if_true, if_false, ↓am_bdl_z, ↓am_bdl_s, ↓am_bsl_z, ↓am_bsl_s, ↓am_k1_i, ↓am_k1_r, ↓am_k1_e, ↓am_k1_n, ↓am_bd_s, am_k1_t, eq_self, am_nl_i, am_nl_r, am_nl_e, am_nl_n, Option.toList_some, Option.toList_none, Option.map_some, Option.map_none, List.cons_append, List.nil_append, List.length_cons, List.length_nil, List.set_cons_zero, List.set_cons_succ, List.getElem?_cons_zero, List.getElem?_cons_succ, am_bd_s, ↓am_tls, ↓am_tln, ↓mk_oc, ↓ma_r, ↓ma_w, ↓mz_r, ↓mz_w, ↓mr0, ↓mr1, ↓mr2, ↓mr3, ↓mr4, ↓mr5, ↓mr6, ↓mr7, ↓mr8, ↓mr9, ↓mr10, ↓mr11, ↓mr12, ↓mr13, ↓mr14, ↓mr15, ↓mr16, ↓mr17, ↓mr18, ↓mr19, ↓mr20, ↓mr21, ↓mr22, ↓mr23, ↓mr24, ↓mr25, ↓mr26, ↓mr27, ↓mw0, ↓mw1, ↓mw11, ↓mw12, ↓mw13, ↓mw15, ↓mw16, ↓mw17, ↓mw19, ↓mw20, ↓mw22, ↓mw25, up_eq, up_ne, up_up, si_len, ↓X10_has_w, ↓am_ifb, ↓if_pos q, ex]
    · have ex : m_ws (pl_tm (V 97) (V 98) (V 99) (V 100) L.1) told.toNat time i.toNat = pl_tm (V 97) (V 98) (V 99) (V 100) L.1 i.toNat := if_neg q
      simp (disch := first | omega | (simp (disch := omega) only [up_eq, up_ne, si_len, List.length_set]; omega)) only [↓e128_29, ↓e128_30, ↓e128_31, ↓e128_32, ↓e128_35, ↓e128_36, ↓e128_39, ↓e128_41, ↓e128_43, ↓e128_46, ↓e128_49, ↓e128_51, ↓e128_54, ↓e128_55, ↓e128_56, ↓e128_58, ↓e128_61, ↓e128_62, ↓e128_63, ↓e128_64, ↓e128_65, ↓e128_66, ↓e128_69, ↓am_ilp, ↓am_iln, ↓am_iep, ↓am_ien, ↓am_zlp, ↓am_zln, ↓am_zep, ↓am_zen, ↓am_zgp, ↓am_zgn, ↓am_zhp, ↓am_zhn, ↓am_b01, true_or, true_and, and_true, or_true, if_true, if_false, ↓am_bdl_z, ↓am_bdl_s, ↓am_bsl_z, ↓am_bsl_s, ↓am_k1_i, ↓am_k1_r, ↓am_k1_e, ↓am_k1_n, ↓am_bd_s, am_k1_t, eq_self, am_nl_i, am_nl_r, am_nl_e, am_nl_n, Option.toList_some, Option.toList_none, Option.map_some, Option.map_none, List.cons_append, List.nil_append, List.length_cons, List.length_nil, List.set_cons_zero, List.set_cons_succ, List.getElem?_cons_zero, List.getElem?_cons_succ, am_bd_s, ↓am_tls, ↓am_tln, ↓mk_oc, ↓ma_r, ↓ma_w, ↓mz_r, ↓mz_w, ↓mr0, ↓mr1, ↓mr2, ↓mr3, ↓mr4, ↓mr5, ↓mr6, ↓mr7, ↓mr8, ↓mr9, ↓mr10, ↓mr11, ↓mr12, ↓mr13, ↓mr14, ↓mr15, ↓mr16, ↓mr17, ↓mr18, ↓mr19, ↓mr20, ↓mr21, ↓mr22, ↓mr23, ↓mr24, ↓mr25, ↓mr26, ↓mr27, ↓mw0, ↓mw1, ↓mw11, ↓mw12, ↓mw13, ↓mw15, ↓mw16, ↓mw17, ↓mw19, ↓mw20, ↓mw22, ↓mw25, up_eq, up_ne, up_up, si_len, ↓X10_has_w, ↓am_ifb, ↓if_neg q, ↓tw, ex]) w.toNat p m_z (by omega) (by omega) rfl
  obtain ⟨p, rfl⟩ : ∃ n : Nat, p = (n : Int) := ⟨p.toNat, by omega⟩
  rw [m_of_fz] at lo
  refine Eq.trans lo.1 ?_
  try dsimp only
  rw [e128_27, Int.toNat_natCast]
  simp (disch := first | omega | (simp (disch := omega) only [up_eq, up_ne, si_len, List.length_set]; omega)) only [↓e128_29, ↓e128_30, ↓e128_31, ↓e128_32, ↓e128_72, ↓e128_73, ↓e128_75, ↓e128_76, ↓am_ilp, ↓am_iln, ↓am_iep, ↓am_ien, ↓am_zlp, ↓am_zln, ↓am_zep, ↓am_zen, ↓am_zgp, ↓am_zgn, ↓am_zhp, ↓am_zhn, ↓am_b01, true_or, true_and, and_true, or_true, if_true, if_false, ↓am_bdl_z, ↓am_bdl_s, ↓am_bsl_z, ↓am_bsl_s, ↓am_k1_i, ↓am_k1_r, ↓am_k1_e, ↓am_k1_n, ↓am_bd_s, am_k1_t, eq_self, am_nl_i, am_nl_r, am_nl_e, am_nl_n, Option.toList_some, Option.toList_none, Option.map_some, Option.map_none, List.cons_append, List.nil_append, List.length_cons, List.length_nil, List.set_cons_zero, List.set_cons_succ, List.getElem?_cons_zero, List.getElem?_cons_succ, am_bd_s]
theorem X10_wakesIn_w {lv p w told time : Int} (mp : MP S V nb ns) (ly : Ly (V 102) (14 * lv) L) (hlv : 0 ≤ lv ∧ lv ≤ 1) (hx : ∀ x ∈ L.1, x < nb) (hp : 0 ≤ p) (hw : 1 ≤ w ∧ w ≤ 3) (hpw : p + w ≤ 6) (ht : 0 ≤ told ∧ told < 64) (htm : 0 ≤ time ∧ time ≤ 10) : ∃ o : List Int, o.length = 11 ∧ ∀ E K, Wp E 128 0 [some (am_r (some 96)), some (am_i lv), some (am_i p), some (am_i w), some (am_i told), some (am_i time), none, none] [] (mk C S V) K = K (some (am_i (pl_cm ((List.range' p.toNat w.toNat).map (m_ws (pl_tm (V 97) (V 98) (V 99) (V 100) L.1) told.toNat time))))) (mk C S (up V 107 o)) := by
  obtain ⟨s0, s1, hnb, hns, l97, l98, l99, l100, l101, l102, l107, pv, wv⟩ := id mp
  obtain ⟨ws, hws⟩ : ∃ ws, ws = (List.range' p.toNat w.toNat).map (m_ws (pl_tm (V 97) (V 98) (V 99) (V 100) L.1) told.toNat time) := ⟨_, rfl⟩
  have hlen : ws.length = w.toNat := by rw [hws]; simp
  have hr : ∀ x ∈ ws, 0 ≤ x ∧ x ≤ 10 := by
    intro x hx2
    rw [hws] at hx2
    obtain ⟨c, hc, rfl⟩ := List.mem_map.mp hx2
    rw [List.mem_range'_1] at hc
    unfold m_ws
    split
    · exact htm
    · exact pl_tm_rng pv hx (by omega)
  obtain ⟨ho, hg⟩ := m_of_rng (n := 0) ws m_z rfl hr m_z_rng
  have hb := m_best hr (by omega) (by omega)
  refine ⟨m_of ws m_z, ho, fun E K => ?_⟩
  rw [X10_wakesIn_1 mp, X10_wakesIn_2 mp ly hlv hx hp hw hpw ht htm, ← hws, ← hb]
  have lo := am_foldz (W := fun i b => Wp E 128 78 [some (am_r (some 96)), some (am_i lv), some (am_i p), some (am_i w), some (am_i told), some (am_i time), some (am_i b), some (am_i i)] [] (mk C S (up V 107 (m_of ws m_z))) K) (f := fun b t => if gi (m_of ws m_z) b < gi (m_of ws m_z) t then t else b) (I := fun i b => 0 ≤ b ∧ b < i) (lo := 1) (N := 11) (by
    intro i b h0 h1 hI
    have g1 := hg i (by omega) (by omega)
    have g2 := hg b (by omega) (by omega)
    try dsimp only
    rw [e128_78]
    by_cases q : gi (m_of ws m_z) b < gi (m_of ws m_z) i
    · rw [if_pos q]
      refine ⟨by omega, ?_⟩
      simp (disch := first | omega | (simp (disch := omega) only [up_eq, up_ne, si_len, List.length_set]; omega)) only [↓e128_80, ↓e128_82, ↓e128_85, ↓e128_86, ↓e128_89, ↓e128_91, ↓e128_92, ↓e128_93, ↓e128_96, ↓e128_98, ↓e128_99, ↓e128_102, ↓e128_104, ↓e128_107, ↓e128_109, ↓e128_111, ↓e128_114, ↓am_ilp, ↓am_iln, ↓am_iep, ↓am_ien, ↓am_zlp, ↓am_zln, ↓am_zep, ↓am_zen, ↓am_zgp, ↓am_zgn, ↓am_zhp, ↓am_zhn, ↓am_b01, true_or, true_and, and_true, or_true, if_true, if_false, ↓am_bdl_z, ↓am_bdl_s, ↓am_bsl_z, ↓am_bsl_s, ↓am_k1_i, ↓am_k1_r, ↓am_k1_e, ↓am_k1_n, ↓am_bd_s, am_k1_t, eq_self, am_nl_i, am_nl_r, am_nl_e, am_nl_n, Option.toList_some, Option.toList_none, Option.map_some, Option.map_none, List.cons_append, List.nil_append, List.length_cons, List.length_nil, List.set_cons_zero, List.set_cons_succ, List.getElem?_cons_zero, List.getElem?_cons_succ, am_bd_s, ↓am_tls, ↓am_tln, ↓mk_oc, ↓ma_r, ↓ma_w, ↓mz_r, ↓mz_w, ↓mr0, ↓mr1, ↓mr2, ↓mr3, ↓mr4, ↓mr5, ↓mr6, ↓mr7, ↓mr8, ↓mr9, ↓mr10, ↓mr11, ↓mr12, ↓mr13, ↓mr14, ↓mr15, ↓mr16, ↓mr17, ↓mr18, ↓mr19, ↓mr20, ↓mr21, ↓mr22, ↓mr23, ↓mr24, ↓mr25, ↓mr26, ↓mr27, ↓mw0, ↓mw1, ↓mw11, ↓mw12, ↓mw13, ↓mw15, ↓mw16, ↓mw17, ↓mw19, ↓mw20, ↓mw22, ↓mw25, up_eq, up_ne, up_up, si_len]
    · rw [if_neg q]
      refine ⟨by omega, ?_⟩
      simp (disch := first | omega | (simp (disch := omega) only [up_eq, up_ne, si_len, List.length_set]; omega)) only [↓e128_80, ↓e128_82, ↓e128_85, ↓e128_86, ↓e128_89, ↓e128_91, ↓e128_92, ↓e128_93, ↓e128_96, ↓e128_98, ↓e128_99, ↓e128_102, ↓e128_104, ↓e128_107, ↓e128_109, ↓e128_111, ↓e128_114, ↓am_ilp, ↓am_iln, ↓am_iep, ↓am_ien, ↓am_zlp, ↓am_zln, ↓am_zep, ↓am_zen, ↓am_zgp, ↓am_zgn, ↓am_zhp, ↓am_zhn, ↓am_b01, true_or, true_and, and_true, or_true, if_true, if_false, ↓am_bdl_z, ↓am_bdl_s, ↓am_bsl_z, ↓am_bsl_s, ↓am_k1_i, ↓am_k1_r, ↓am_k1_e, ↓am_k1_n, ↓am_bd_s, am_k1_t, eq_self, am_nl_i, am_nl_r, am_nl_e, am_nl_n, Option.toList_some, Option.toList_none, Option.map_some, Option.map_none, List.cons_append, List.nil_append, List.length_cons, List.length_nil, List.set_cons_zero, List.set_cons_succ, List.getElem?_cons_zero, List.getElem?_cons_succ, am_bd_s, ↓am_tls, ↓am_tln, ↓mk_oc, ↓ma_r, ↓ma_w, ↓mz_r, ↓mz_w, ↓mr0, ↓mr1, ↓mr2, ↓mr3, ↓mr4, ↓mr5, ↓mr6, ↓mr7, ↓mr8, ↓mr9, ↓mr10, ↓mr11, ↓mr12, ↓mr13, ↓mr14, ↓mr15, ↓mr16, ↓mr17, ↓mr18, ↓mr19, ↓mr20, ↓mr21, ↓mr22, ↓mr23, ↓mr24, ↓mr25, ↓mr26, ↓mr27, ↓mw0, ↓mw1, ↓mw11, ↓mw12, ↓mw13, ↓mw15, ↓mw16, ↓mw17, ↓mw19, ↓mw20, ↓mw22, ↓mw25, up_eq, up_ne, up_up, si_len]) 10 1 0 (by omega) (by omega) (by omega)
  refine Eq.trans lo.1 ?_
  try dsimp only
  rw [e128_78]
  simp (disch := first | omega | (simp (disch := omega) only [up_eq, up_ne, si_len, List.length_set]; omega)) only [↓e128_80, ↓e128_82, ↓e128_117, ↓e128_119, ↓am_ilp, ↓am_iln, ↓am_iep, ↓am_ien, ↓am_zlp, ↓am_zln, ↓am_zep, ↓am_zen, ↓am_zgp, ↓am_zgn, ↓am_zhp, ↓am_zhn, ↓am_b01, true_or, true_and, and_true, or_true, if_true, if_false, ↓am_bdl_z, ↓am_bdl_s, ↓am_bsl_z, ↓am_bsl_s, ↓am_k1_i, ↓am_k1_r, ↓am_k1_e, ↓am_k1_n, ↓am_bd_s, am_k1_t, eq_self, am_nl_i, am_nl_r, am_nl_e, am_nl_n, Option.toList_some, Option.toList_none, Option.map_some, Option.map_none, List.cons_append, List.nil_append, List.length_cons, List.length_nil, List.set_cons_zero, List.set_cons_succ, List.getElem?_cons_zero, List.getElem?_cons_succ, am_bd_s]
theorem m_ws_0 {T : Nat → Int} {t : Int} {n p : Nat} : (List.range' p n).map (m_ws T 0 t) = (List.range' p n).map T := by
  apply List.map_congr_left
  intro c _
  unfold m_ws
  rw [if_neg (by simp)]
theorem pl_wk_eq {fr la ce ki : List Int} {B : List Nat} {f w : Nat} (h : f + w ≤ 6) : pl_wk fr la ce ki B f w = pl_cm ((List.range' f w).map (pl_tm fr la ce ki B)) := by
  unfold pl_wk
  congr 1
  apply List.ext_getElem?
  intro i
  rw [List.getElem?_take, List.getElem?_map]
  by_cases q : i < w
  · rw [if_pos q, List.getElem?_drop, List.getElem?_range' q]
    simp [pl_tms, show f + i < 6 by omega]
  · rw [if_neg q, List.getElem?_eq_none (by simp; omega)]
    rfl
/-- wakes: the time in which this one wakes -/
theorem X10_wakesIn_0 {lv p w time : Int} (mp : MP S V nb ns) (ly : Ly (V 102) (14 * lv) L) (hlv : 0 ≤ lv ∧ lv ≤ 1) (hx : ∀ x ∈ L.1, x < nb) (hp : 0 ≤ p) (hw : 1 ≤ w ∧ w ≤ 3) (hpw : p + w ≤ 6) (htm : 0 ≤ time ∧ time ≤ 10) : ∃ o : List Int, o.length = 11 ∧ ∀ E K, Wp E 128 0 [some (am_r (some 96)), some (am_i lv), some (am_i p), some (am_i w), some (am_i 0), some (am_i time), none, none] [] (mk C S V) K = K (some (am_i (pl_wk (V 97) (V 98) (V 99) (V 100) L.1 p.toNat w.toNat))) (mk C S (up V 107 o)) := by
  obtain ⟨o, ho, hw2⟩ := X10_wakesIn_w (C := C) (told := 0) (time := time) mp ly hlv hx hp hw hpw (by omega) htm
  refine ⟨o, ho, fun E K => ?_⟩
  rw [hw2, Int.toNat_zero, m_ws_0, pl_wk_eq (by omega)]
theorem X10_wakes_w {lv s : Int} (mp : MP S V nb ns) (ly : Ly (V 102) (14 * lv) L) (hlv : 0 ≤ lv ∧ lv ≤ 1) (wf : WfL nb ns (V 101) L) (hs : 0 ≤ s ∧ s < ns) : ∃ o : List Int, o.length = 11 ∧ ∀ E K, Wp E 129 0 [some (am_r (some 96)), some (am_i lv), some (am_i s)] [] (mk C S V) K = K (some (am_i (pl_wk (V 97) (V 98) (V 99) (V 100) L.1 (L.2.1.getD s.toNat 0).toNat ((V 101).getD s.toNat 0).toNat))) (mk C S (up V 107 o)) := by
  obtain ⟨s0, s1, hnb, hns, l97, l98, l99, l100, l101, l102, l107, pv, wv⟩ := id mp
  have h1 := wv s.toNat (by omega)
  have h2 := wf.2.2 s.toNat (by omega)
  have h3 := ly.2.2.2.2.2.1 s.toNat (by omega)
  rw [show ((s.toNat : Nat) : Int) = s by omega] at h3
  have h4 : gi (V 101) s = (V 101).getD s.toNat 0 := rfl
  obtain ⟨o, ho, hw⟩ := X10_wakesIn_0 (C := C) (p := L.2.1.getD s.toNat 0) (w := (V 101).getD s.toNat 0) (time := 0) mp ly hlv wf.1 (by omega) (by omega) (by omega) (by omega)
  refine ⟨o, ho, fun E K => ?_⟩
  simp (disch := first | omega | (simp (disch := omega) only [up_eq, up_ne, si_len, List.length_set]; omega)) only [↓e129_0, ↓e129_1, ↓e129_2, ↓e129_3, ↓e129_6, ↓e129_8, ↓e129_9, ↓e129_10, ↓e129_12, ↓e129_13, ↓e129_14, ↓e129_15, ↓e129_16, ↓e129_17, ↓e129_20, ↓e129_21, ↓e129_22, ↓e129_23, ↓e129_24, ↓e129_27, ↓am_ilp, ↓am_iln, ↓am_iep, ↓am_ien, ↓am_zlp, ↓am_zln, ↓am_zep, ↓am_zen, ↓am_zgp, ↓am_zgn, ↓am_zhp, ↓am_zhn, ↓am_b01, true_or, true_and, and_true, or_true, if_true, if_false, ↓am_bdl_z, ↓am_bdl_s, ↓am_bsl_z, ↓am_bsl_s, ↓am_k1_i, ↓am_k1_r, ↓am_k1_e, ↓am_k1_n, ↓am_bd_s, am_k1_t, eq_self, am_nl_i, am_nl_r, am_nl_e, am_nl_n, Option.toList_some, Option.toList_none, Option.map_some, Option.map_none, List.cons_append, List.nil_append, List.length_cons, List.length_nil, List.set_cons_zero, List.set_cons_succ, List.getElem?_cons_zero, List.getElem?_cons_succ, am_bd_s, ↓am_tls, ↓am_tln, ↓mk_oc, ↓ma_r, ↓ma_w, ↓mz_r, ↓mz_w, ↓mr0, ↓mr1, ↓mr2, ↓mr3, ↓mr4, ↓mr5, ↓mr6, ↓mr7, ↓mr8, ↓mr9, ↓mr10, ↓mr11, ↓mr12, ↓mr13, ↓mr14, ↓mr15, ↓mr16, ↓mr17, ↓mr18, ↓mr19, ↓mr20, ↓mr21, ↓mr22, ↓mr23, ↓mr24, ↓mr25, ↓mr26, ↓mr27, ↓mw0, ↓mw1, ↓mw11, ↓mw12, ↓mw13, ↓mw15, ↓mw16, ↓mw17, ↓mw19, ↓mw20, ↓mw22, ↓mw25, up_eq, up_ne, up_up, si_len, h3, h4, hw]
end MWK
