/-! the model: kicked off by chance; places at rest -/
def pl_kwt (x len i : Nat) : Nat := x ^ pl_pop i * (10 - x) ^ (len - pl_pop i)
def pl_kwS (mask len x : Nat) (a i : Nat) : Nat := if i &&& mask = i then a + pl_kwt x len i else a
def pl_kkS (Wk : Nat → Int) (mask len x : Nat) (t : Int) (a i : Nat) : Nat := if i &&& mask = i ∧ Wk i = t then a + pl_kwt x len i else a
theorem pl_kw_all : ∀ m < 64, ∀ x < 11, (List.range 64).foldl (pl_kwS m (pl_pop m) x) 0 = 10 ^ pl_pop m := by decide +kernel
theorem pl_kwt_b : ∀ x < 11, ∀ a < 7, ∀ b < 7, a + b ≤ 6 → x ^ a * (10 - x) ^ b ≤ 1000000 := by decide +kernel
theorem pl_sub_pop : ∀ m < 64, ∀ n < 64, n &&& m = n → pl_pop n ≤ pl_pop m := by decide +kernel
theorem pl_kk_rng {Wk : Nat → Int} {mask len x : Nat} {t : Int} (hm : mask < 64) (hl : pl_pop mask = len) (hx : x < 11) : ∀ n : Nat, n ≤ 64 → (List.range n).foldl (pl_kkS Wk mask len x t) 0 ≤ 1000000 * n ∧ (List.range n).foldl (pl_kwS mask len x) 0 ≤ 1000000 * n
  | 0, _ => by constructor <;> simp
  | n + 1, h => by
    have ih := pl_kk_rng (Wk := Wk) (t := t) hm hl hx n (by omega)
    rw [List.range_succ, List.foldl_append, List.foldl_append, List.foldl_cons, List.foldl_nil, List.foldl_cons, List.foldl_nil]
    generalize (List.range n).foldl (pl_kkS Wk mask len x t) 0 = a at ih ⊢
    generalize (List.range n).foldl (pl_kwS mask len x) 0 = b at ih ⊢
    have hl6 := pl_pop_6 mask hm
    by_cases q : n &&& mask = n
    · have p1 := pl_sub_pop mask hm n (by omega) q
      have p2 : pl_kwt x len n ≤ 1000000 := pl_kwt_b x hx (pl_pop n) (by omega) (len - pl_pop n) (by omega) (by omega)
      unfold pl_kkS pl_kwS
      rw [if_pos q]
      split <;> omega
    · unfold pl_kkS pl_kwS
      rw [if_neg q, if_neg (fun z => q z.1)]
      omega
/-- what one loses at a place -/
def pl_ls (Wk : Nat → Int) (t w1 w2 p e : Int) : Int := (if Wk p.toNat < t then t - Wk p.toNat else Wk p.toNat - t) + (if p < e + w2 ∧ e < p + w1 then 5 else 0)
def pl_ir (l1 l2 : Int → Int → Int) (n1 n2 : Nat) (p e : Int) : Bool := (List.range n1).all (fun k => decide (l1 p e ≤ l1 (k : Int) e)) && (List.range n2).all (fun k => decide (l2 e p ≤ l2 (k : Int) p))
def pl_rs1 (ir : Int → Int → Bool) (p : Nat) (a : Int × Int) (e : Nat) : Int × Int := if ir (p : Int) (e : Int) = true then (a.1 + 1, if a.1 = 0 then 10 * (p : Int) + (e : Int) else a.2) else a
def pl_rs (ir : Int → Int → Bool) (n2 : Nat) (a : Int × Int) (p : Nat) : Int × Int := (List.range n2).foldl (pl_rs1 ir p) a
theorem pl_all_snoc {p : Nat → Bool} {n : Nat} : (List.range (n + 1)).all p = ((List.range n).all p && p n) := by
  rw [List.range_succ, List.all_append, List.all_cons, List.all_nil, Bool.and_true]
section MRS
variable {C : Nat → am_C} {S : Nat → Int} {V : Nat → List Int} {nb ns : Nat} {L : pl_L}
theorem X10_kicked_no {s t x u : Int} (mp : MP S V nb ns) (hs : am_w s = s) (h : ¬ (0 ≤ s ∧ s < ns)) (E : List (List Int)) (K : Option am_V → am_H → Prop) : Wp E 175 0 [some (am_r (some 96)), some (am_i s), some (am_i t), some (am_i x), some (am_i u), none, none, none, none, none] [] (mk C S V) K = K (some (am_i (-1))) (mk C S V) := by
  have q1 : ¬ (0 ≤ am_w s ∧ am_w s < (ns : Int)) := by rw [hs]; exact h
  simp (disch := first | omega | (simp (disch := omega) only [up_eq, up_ne, si_len, List.length_set]; omega)) only [↓e175_0, ↓e175_1, ↓e175_2, ↓e175_5, ↓e175_8, ↓e175_9, ↓am_ilp, ↓am_iln, ↓am_iep, ↓am_ien, ↓am_zlp, ↓am_zln, ↓am_zep, ↓am_zen, ↓am_zgp, ↓am_zgn, ↓am_zhp, ↓am_zhn, ↓am_b01, true_or, true_and, and_true, or_true, if_true, if_false, ↓am_bdl_z, ↓am_bdl_s, ↓am_bsl_z, ↓am_bsl_s, ↓am_k1_i, ↓am_k1_r, ↓am_k1_e, ↓am_k1_n, ↓am_bd_s, am_k1_t, eq_self, am_nl_i, am_nl_r, am_nl_e, am_nl_n, Option.toList_some, Option.toList_none, Option.map_some, Option.map_none, List.cons_append, List.nil_append, List.length_cons, List.length_nil, List.set_cons_zero, List.set_cons_succ, List.getElem?_cons_zero, List.getElem?_cons_succ, am_bd_s, ↓am_tls, ↓am_tln, ↓mk_oc, ↓ma_r, ↓ma_w, ↓mz_r, ↓mz_w, ↓mr0, ↓mr1, ↓mr2, ↓mr3, ↓mr4, ↓mr5, ↓mr6, ↓mr7, ↓mr8, ↓mr9, ↓mr10, ↓mr11, ↓mr12, ↓mr13, ↓mr14, ↓mr15, ↓mr16, ↓mr17, ↓mr18, ↓mr19, ↓mr20, ↓mr21, ↓mr22, ↓mr23, ↓mr24, ↓mr25, ↓mr26, ↓mr27, ↓mw0, ↓mw1, ↓mw11, ↓mw12, ↓mw13, ↓mw15, ↓mw16, ↓mw17, ↓mw19, ↓mw20, ↓mw22, ↓mw25, up_eq, up_ne, up_up, si_len, ↓X10_isSleeper_w mp, ↓am_ifb, ↓if_neg q1]
theorem X10_kicked_out {s t x u : Int} (mp : MP S V nb ns) (hs : am_w s = s) (h : 0 ≤ s ∧ s < ns) (ht : am_w t = t) (hx : am_w x = x) (h2 : ¬ (0 ≤ t ∧ t ≤ 10 ∧ 0 ≤ x ∧ x ≤ 10)) (E : List (List Int)) (K : Option am_V → am_H → Prop) : Wp E 175 0 [some (am_r (some 96)), some (am_i s), some (am_i t), some (am_i x), some (am_i u), none, none, none, none, none] [] (mk C S V) K = K (some (am_i (-2))) (mk C S V) := by
  have q1 : 0 ≤ am_w s ∧ am_w s < (ns : Int) := by rw [hs]; exact h
  have r := am_w_rng x
  by_cases q2 : 0 ≤ t ∧ t ≤ 10
  · have q3 : ¬ (0 ≤ am_w x ∧ am_w x ≤ 10) := by rw [hx]; omega
    simp (disch := first | omega | (simp (disch := omega) only [up_eq, up_ne, si_len, List.length_set]; omega)) only [↓e175_0, ↓e175_1, ↓e175_2, ↓e175_5, ↓e175_8, ↓e175_9, ↓e175_10, ↓e175_11, ↓e175_14, ↓e175_17, ↓e175_18, ↓e175_19, ↓e175_20, ↓e175_23, ↓e175_26, ↓e175_29, ↓e175_31, ↓am_ilp, ↓am_iln, ↓am_iep, ↓am_ien, ↓am_zlp, ↓am_zln, ↓am_zep, ↓am_zen, ↓am_zgp, ↓am_zgn, ↓am_zhp, ↓am_zhn, ↓am_b01, true_or, true_and, and_true, or_true, if_true, if_false, ↓am_bdl_z, ↓am_bdl_s, ↓am_bsl_z, ↓am_bsl_s, ↓am_k1_i, ↓am_k1_r, ↓am_k1_e, ↓am_k1_n, ↓am_bd_s, am_k1_t, eq_self, am_nl_i, am_nl_r, am_nl_e, am_nl_n, Option.toList_some, Option.toList_none, Option.map_some, Option.map_none, List.cons_append, List.nil_append, List.length_cons, List.length_nil, List.set_cons_zero, List.set_cons_succ, List.getElem?_cons_zero, List.getElem?_cons_succ, am_bd_s, ↓am_tls, ↓am_tln, ↓mk_oc, ↓ma_r, ↓ma_w, ↓mz_r, ↓mz_w, ↓mr0, ↓mr1, ↓mr2, ↓mr3, ↓mr4, ↓mr5, ↓mr6, ↓mr7, ↓mr8, ↓mr9, ↓mr10, ↓mr11, ↓mr12, ↓mr13, ↓mr14, ↓mr15, ↓mr16, ↓mr17, ↓mr18, ↓mr19, ↓mr20, ↓mr21, ↓mr22, ↓mr23, ↓mr24, ↓mr25, ↓mr26, ↓mr27, ↓mw0, ↓mw1, ↓mw11, ↓mw12, ↓mw13, ↓mw15, ↓mw16, ↓mw17, ↓mw19, ↓mw20, ↓mw22, ↓mw25, up_eq, up_ne, up_up, si_len, ↓X10_isSleeper_w mp, ↓X10_isTime_w ht, ↓X10_in_w, ↓am_ifb, ↓if_pos q1, ↓if_pos q2, ↓if_neg q3]
  · simp (disch := first | omega | (simp (disch := omega) only [up_eq, up_ne, si_len, List.length_set]; omega)) only [↓e175_0, ↓e175_1, ↓e175_2, ↓e175_5, ↓e175_8, ↓e175_9, ↓e175_10, ↓e175_11, ↓e175_14, ↓e175_17, ↓e175_18, ↓e175_19, ↓e175_20, ↓e175_23, ↓e175_26, ↓e175_29, ↓e175_31, ↓am_ilp, ↓am_iln, ↓am_iep, ↓am_ien, ↓am_zlp, ↓am_zln, ↓am_zep, ↓am_zen, ↓am_zgp, ↓am_zgn, ↓am_zhp, ↓am_zhn, ↓am_b01, true_or, true_and, and_true, or_true, if_true, if_false, ↓am_bdl_z, ↓am_bdl_s, ↓am_bsl_z, ↓am_bsl_s, ↓am_k1_i, ↓am_k1_r, ↓am_k1_e, ↓am_k1_n, ↓am_bd_s, am_k1_t, eq_self, am_nl_i, am_nl_r, am_nl_e, am_nl_n, Option.toList_some, Option.toList_none, Option.map_some, Option.map_none, List.cons_append, List.nil_append, List.length_cons, List.length_nil, List.set_cons_zero, List.set_cons_succ, List.getElem?_cons_zero, List.getElem?_cons_succ, am_bd_s, ↓am_tls, ↓am_tln, ↓mk_oc, ↓ma_r, ↓ma_w, ↓mz_r, ↓mz_w, ↓mr0, ↓mr1, ↓mr2, ↓mr3, ↓mr4, ↓mr5, ↓mr6, ↓mr7, ↓mr8, ↓mr9, ↓mr10, ↓mr11, ↓mr12, ↓mr13, ↓mr14, ↓mr15, ↓mr16, ↓mr17, ↓mr18, ↓mr19, ↓mr20, ↓mr21, ↓mr22, ↓mr23, ↓mr24, ↓mr25, ↓mr26, ↓mr27, ↓mw0, ↓mw1, ↓mw11, ↓mw12, ↓mw13, ↓mw15, ↓mw16, ↓mw17, ↓mw19, ↓mw20, ↓mw22, ↓mw25, up_eq, up_ne, up_up, si_len, ↓X10_isSleeper_w mp, ↓X10_isTime_w ht, ↓am_ifb, ↓if_pos q1, ↓if_neg q2]
theorem X10_kicked_w {s t : Int} {x : Nat} {u : Bool} (mp : MP S V nb ns) (ly : Ly (V 102) 0 L) (wf : WfL nb ns (V 101) L) (hs : am_w s = s) (h : 0 ≤ s ∧ s < ns) (ht : am_w t = t) (h2 : 0 ≤ t ∧ t ≤ 10) (hx : x ≤ 10) : ∃ V', Sc V V' ∧ ∀ E K, Wp E 175 0 [some (am_r (some 96)), some (am_i s), some (am_i t), some (am_i (x : Int)), some (am_i (if u = true then 1 else 0)), none, none, none, none, none] [] (mk C S V) K = K (some (am_i (pl_fra (((List.range 64).foldl (pl_kkS (fun i => pl_wk (V 97) (V 98) (V 99) (V 100) (L.1.filter fun b => !i.testBit b) (L.2.1.getD s.toNat 0).toNat ((V 101).getD s.toNat 0).toNat) (pl_mask L.1) L.1.length x t) 0 : Nat) : Int) ((10 ^ L.1.length : Nat) : Int) u))) (mk C S V') := by
  obtain ⟨s0, s1, hnb, hns, l97, l98, l99, l100, l101, l102, l107, pv, wv⟩ := id mp
  have q1 : 0 ≤ am_w s ∧ am_w s < (ns : Int) := by rw [hs]; exact h
  have rx := am_w_rng (x : Int)
  have q0 : 0 ≤ am_w (x : Int) ∧ am_w (x : Int) ≤ 10 := by rw [am_w_nat (by omega)]; omega
  have B6 : ∀ x ∈ L.1, x < 6 := fun x hx => by have := wf.1 x hx; omega
  have hm := pl_mask_64 B6
  have lw := fun E K => X10_lying_w (E := E) (K := K) (C := C) mp ly wf.1
  have hl6 : L.1.length ≤ 6 := ly.1
  have hpl := pl_pop_len B6 wf.2.1
  obtain ⟨ui, hui⟩ : ∃ ui : Int, ui = if u = true then 1 else 0 := ⟨_, rfl⟩
  rw [← hui]
  have u01 : (u = true ∧ ui = 1) ∨ (u = false ∧ ui = 0) := by cases u <;> simp [hui]
  obtain ⟨F, hF⟩ : ∃ F, F = pl_kkS (fun i => pl_wk (V 97) (V 98) (V 99) (V 100) (L.1.filter fun b => !i.testBit b) (L.2.1.getD s.toNat 0).toNat ((V 101).getD s.toNat 0).toNat) (pl_mask L.1) L.1.length x t := ⟨_, rfl⟩
  obtain ⟨G, hG⟩ : ∃ G, G = pl_kwS (pl_mask L.1) L.1.length x := ⟨_, rfl⟩
  rw [← hF]
  have ep : ((pl_pop (pl_mask L.1 : Int).toNat : Nat) : Int) = (L.1.length : Int) := by rw [Int.toNat_natCast, hpl]
  obtain ⟨⟨sm, wh, x9, V1⟩, ⟨e1, e2, c1⟩, w1⟩ := am_loopz (X := List (List Int) × (Option am_V → am_H → Prop)) (α := Nat × Nat × Option am_V × (Nat → List Int)) (W := fun y i a => Wp y.1 175 47 [some (am_r (some 96)), some (am_i s), some (am_i t), some (am_i (x : Int)), some (am_i ui), some (am_i (pl_mask L.1 : Int)), some (am_i (a.1 : Int)), some (am_i (a.2.1 : Int)), some (am_i i), a.2.2.1] [] (mk C S a.2.2.2) y.2) (I := fun i a => a.1 = (List.range i.toNat).foldl F 0 ∧ a.2.1 = (List.range i.toNat).foldl G 0 ∧ Sc V a.2.2.2) (lo := 0) (N := (pl_mask L.1 : Int) + 1) (by
    rintro i ⟨sm, wh, x9, V1⟩ h0 h1 ⟨e1, e2, c1⟩
    dsimp only at e1 e2 c1
    obtain ⟨n, rfl⟩ : ∃ n : Nat, i = (n : Int) := ⟨i.toNat, by omega⟩
    rw [Int.toNat_natCast] at e1 e2
    have hn : n < 64 := by omega
    have m1 := c1.mp mp
    have y1 := c1.ly ly
    have k101 : V1 101 = V 101 := c1.at (by decide) (by decide)
    have ef : (List.range ((n : Int) + 1).toNat).foldl F 0 = F sm n := by rw [show ((n : Int) + 1).toNat = n + 1 by omega, List.range_succ, List.foldl_append, ← e1]; rfl
    have eg : (List.range ((n : Int) + 1).toNat).foldl G 0 = G wh n := by rw [show ((n : Int) + 1).toNat = n + 1 by omega, List.range_succ, List.foldl_append, ← e2]; rfl
    have hsub := pl_sub n hn (pl_mask L.1) hm
    by_cases q3 : n &&& pl_mask L.1 = n
    · have wf1 : WfL nb ns (V1 101) L := by rw [k101]; exact wf
      obtain ⟨V2, c2, l2, w2⟩ := X10_layWithout_w (C := C) (g := (n : Int)) m1 y1 wf1 (by omega)
      rw [Int.toNat_natCast] at l2
      have m2 := c2.mp m1
      have j101 : V2 101 = V 101 := (c2.at (by decide) (by decide)).trans k101
      have wf2 : WfL nb ns (V2 101) (L.1.filter (fun b => !n.testBit b), L.2) := by rw [j101]; exact ⟨fun x hx => wf.1 x (List.mem_filter.mp hx).1, wf.2.1.filter _, wf.2.2⟩
      obtain ⟨V3, c3, y3, w3⟩ := X10_wakes_s (C := C) (lv := 1) (s := s) m2 l2 (by omega) wf2 h
      rw [c2.at (i := 97) (by decide) (by decide), c2.at (i := 98) (by decide) (by decide), c2.at (i := 99) (by decide) (by decide), c2.at (i := 100) (by decide) (by decide), c1.at (i := 97) (by decide) (by decide), c1.at (i := 98) (by decide) (by decide), c1.at (i := 99) (by decide) (by decide), c1.at (i := 100) (by decide) (by decide), j101] at w3
      have hr := pl_wk_rng (V := V) pv (B := L.1.filter fun b => !n.testBit b) (fun x hx => wf.1 x (List.mem_filter.mp hx).1) (L.2.1.getD s.toNat 0).toNat ((V 101).getD s.toNat 0).toNat
      have pn := pl_sub_pop (pl_mask L.1) hm n hn q3
      have en : ((pl_pop (n : Int).toNat : Nat) : Int) = (pl_pop n : Int) := by rw [Int.toNat_natCast]
      have ea : (((pl_pop (n : Int).toNat : Nat) : Int)).toNat = pl_pop n := by rw [Int.toNat_natCast, Int.toNat_natCast]
      have eb : (((pl_pop (pl_mask L.1 : Int).toNat : Nat) : Int) - ((pl_pop (n : Int).toNat : Nat) : Int)).toNat = L.1.length - pl_pop n := by rw [ep, en]; omega
      have ewt : (x : Int) ^ pl_pop n * (10 - (x : Int)) ^ (L.1.length - pl_pop n) = ((pl_kwt x L.1.length n : Nat) : Int) := by
        unfold pl_kwt
        rw [show (10 : Int) - (x : Int) = ((10 - x : Nat) : Int) by omega, Int.natCast_mul, Int.natCast_pow, Int.natCast_pow]
      by_cases q4 : pl_wk (V 97) (V 98) (V 99) (V 100) (L.1.filter fun b => !n.testBit b) (L.2.1.getD s.toNat 0).toNat ((V 101).getD s.toNat 0).toNat = t
      · refine ⟨(sm + pl_kwt x L.1.length n, wh + pl_kwt x L.1.length n, some (am_i ((pl_kwt x L.1.length n : Nat) : Int)), V3), ⟨?_, ?_, (c1.trans c2).trans c3⟩, fun y => ?_⟩
        · dsimp only
          rw [ef, hF, pl_kkS, if_pos ⟨q3, q4⟩]
        · dsimp only
          rw [eg, hG, pl_kwS, if_pos q3]
        · dsimp only
          rw [e175_47]
          simp (disch := first | omega | (simp (disch := omega) only [up_eq, up_ne, si_len, List.length_set]; omega)) only [↓e175_49, ↓e175_51, ↓e175_54, ↓e175_56, ↓e175_58, ↓e175_59, ↓e175_60, ↓e175_61, ↓e175_64, ↓e175_65, ↓e175_67, ↓e175_70, ↓e175_73, ↓e175_75, ↓e175_76, ↓e175_77, ↓e175_79, ↓e175_82, ↓e175_84, ↓e175_87, ↓e175_88, ↓e175_91, ↓e175_92, ↓e175_94, ↓e175_95, ↓e175_97, ↓e175_100, ↓e175_102, ↓e175_104, ↓e175_105, ↓e175_107, ↓e175_109, ↓e175_110, ↓e175_111, ↓e175_112, ↓e175_115, ↓e175_116, ↓e175_119, ↓e175_121, ↓e175_124, ↓e175_125, ↓e175_126, ↓e175_128, ↓e175_131, ↓am_ilp, ↓am_iln, ↓am_iep, ↓am_ien, ↓am_zlp, ↓am_zln, ↓am_zep, ↓am_zen, ↓am_zgp, ↓am_zgn, ↓am_zhp, ↓am_zhn, ↓am_b01, true_or, true_and, and_true, or_true, if_true, if_false, ↓am_bdl_z, ↓am_bdl_s, ↓am_bsl_z, ↓am_bsl_s, ↓am_k1_i, ↓am_k1_r, ↓am_k1_e, ↓am_k1_n, ↓am_bd_s, am_k1_t, eq_self, am_nl_i, am_nl_r, am_nl_e, am_nl_n, Option.toList_some, Option.toList_none, Option.map_some, Option.map_none, List.cons_append, List.nil_append, List.length_cons, List.length_nil, List.set_cons_zero, List.set_cons_succ, List.getElem?_cons_zero, List.getElem?_cons_succ, am_bd_s, ↓am_tls, ↓am_tln, ↓mk_oc, ↓ma_r, ↓ma_w, ↓mz_r, ↓mz_w, ↓mr0, ↓mr1, ↓mr2, ↓mr3, ↓mr4, ↓mr5, ↓mr6, ↓mr7, ↓mr8, ↓mr9, ↓mr10, ↓mr11, ↓mr12, ↓mr13, ↓mr14, ↓mr15, ↓mr16, ↓mr17, ↓mr18, ↓mr19, ↓mr20, ↓mr21, ↓mr22, ↓mr23, ↓mr24, ↓mr25, ↓mr26, ↓mr27, ↓mw0, ↓mw1, ↓mw11, ↓mw12, ↓mw13, ↓mw15, ↓mw16, ↓mw17, ↓mw19, ↓mw20, ↓mw22, ↓mw25, up_eq, up_ne, up_up, si_len, ↓if_pos (hsub.mpr q3), ↓X10_ones_w, ↓X10_power_w, ↓w2, ↓w3, ea, eb, ewt, Int.natCast_add]
      · refine ⟨(sm, wh + pl_kwt x L.1.length n, some (am_i ((pl_kwt x L.1.length n : Nat) : Int)), V3), ⟨?_, ?_, (c1.trans c2).trans c3⟩, fun y => ?_⟩
        · dsimp only
          rw [ef, hF, pl_kkS, if_neg (fun z => q4 z.2)]
        · dsimp only
          rw [eg, hG, pl_kwS, if_pos q3]
        · dsimp only
          rw [e175_47]
          simp (disch := first | omega | (simp (disch := omega) only [up_eq, up_ne, si_len, List.length_set]; omega)) only [↓e175_49, ↓e175_51, ↓e175_54, ↓e175_56, ↓e175_58, ↓e175_59, ↓e175_60, ↓e175_61, ↓e175_64, ↓e175_65, ↓e175_67, ↓e175_70, ↓e175_73, ↓e175_75, ↓e175_76, ↓e175_77, ↓e175_79, ↓e175_82, ↓e175_84, ↓e175_87, ↓e175_88, ↓e175_91, ↓e175_92, ↓e175_94, ↓e175_95, ↓e175_97, ↓e175_100, ↓e175_102, ↓e175_104, ↓e175_105, ↓e175_107, ↓e175_109, ↓e175_110, ↓e175_111, ↓e175_112, ↓e175_115, ↓e175_116, ↓e175_119, ↓e175_121, ↓e175_124, ↓e175_125, ↓e175_126, ↓e175_128, ↓e175_131, ↓am_ilp, ↓am_iln, ↓am_iep, ↓am_ien, ↓am_zlp, ↓am_zln, ↓am_zep, ↓am_zen, ↓am_zgp, ↓am_zgn, ↓am_zhp, ↓am_zhn, ↓am_b01, true_or, true_and, and_true, or_true, if_true, if_false, ↓am_bdl_z, ↓am_bdl_s, ↓am_bsl_z, ↓am_bsl_s, ↓am_k1_i, ↓am_k1_r, ↓am_k1_e, ↓am_k1_n, ↓am_bd_s, am_k1_t, eq_self, am_nl_i, am_nl_r, am_nl_e, am_nl_n, Option.toList_some, Option.toList_none, Option.map_some, Option.map_none, List.cons_append, List.nil_append, List.length_cons, List.length_nil, List.set_cons_zero, List.set_cons_succ, List.getElem?_cons_zero, List.getElem?_cons_succ, am_bd_s, ↓am_tls, ↓am_tln, ↓mk_oc, ↓ma_r, ↓ma_w, ↓mz_r, ↓mz_w, ↓mr0, ↓mr1, ↓mr2, ↓mr3, ↓mr4, ↓mr5, ↓mr6, ↓mr7, ↓mr8, ↓mr9, ↓mr10, ↓mr11, ↓mr12, ↓mr13, ↓mr14, ↓mr15, ↓mr16, ↓mr17, ↓mr18, ↓mr19, ↓mr20, ↓mr21, ↓mr22, ↓mr23, ↓mr24, ↓mr25, ↓mr26, ↓mr27, ↓mw0, ↓mw1, ↓mw11, ↓mw12, ↓mw13, ↓mw15, ↓mw16, ↓mw17, ↓mw19, ↓mw20, ↓mw22, ↓mw25, up_eq, up_ne, up_up, si_len, ↓if_pos (hsub.mpr q3), ↓X10_ones_w, ↓X10_power_w, ↓w2, ↓w3, ea, eb, ewt, Int.natCast_add, Int.add_zero]
    · have q5 : ¬ am_w (am_and (n : Int) (am_xor (pl_mask L.1 : Int) (-1))) = 0 := fun z => q3 (hsub.mp z)
      refine ⟨(sm, wh, x9, V1), ⟨?_, ?_, c1⟩, fun y => ?_⟩
      · dsimp only
        rw [ef, hF, pl_kkS, if_neg (fun z => q3 z.1)]
      · dsimp only
        rw [eg, hG, pl_kwS, if_neg q3]
      · dsimp only
        rw [e175_47]
        simp (disch := first | omega | (simp (disch := omega) only [up_eq, up_ne, si_len, List.length_set]; omega)) only [↓e175_49, ↓e175_51, ↓e175_54, ↓e175_56, ↓e175_58, ↓e175_59, ↓e175_60, ↓e175_61, ↓e175_64, ↓e175_65, ↓e175_67, ↓e175_70, ↓e175_73, ↓e175_75, ↓e175_76, ↓e175_77, ↓e175_79, ↓e175_82, ↓e175_84, ↓e175_87, ↓e175_88, ↓e175_91, ↓e175_92, ↓e175_94, ↓e175_95, ↓e175_97, ↓e175_100, ↓e175_102, ↓e175_104, ↓e175_105, ↓e175_107, ↓e175_109, ↓e175_110, ↓e175_111, ↓e175_112, ↓e175_115, ↓e175_116, ↓e175_119, ↓e175_121, ↓e175_124, ↓e175_125, ↓e175_126, ↓e175_128, ↓e175_131, ↓am_ilp, ↓am_iln, ↓am_iep, ↓am_ien, ↓am_zlp, ↓am_zln, ↓am_zep, ↓am_zen, ↓am_zgp, ↓am_zgn, ↓am_zhp, ↓am_zhn, ↓am_b01, true_or, true_and, and_true, or_true, if_true, if_false, ↓am_bdl_z, ↓am_bdl_s, ↓am_bsl_z, ↓am_bsl_s, ↓am_k1_i, ↓am_k1_r, ↓am_k1_e, ↓am_k1_n, ↓am_bd_s, am_k1_t, eq_self, am_nl_i, am_nl_r, am_nl_e, am_nl_n, Option.toList_some, Option.toList_none, Option.map_some, Option.map_none, List.cons_append, List.nil_append, List.length_cons, List.length_nil, List.set_cons_zero, List.set_cons_succ, List.getElem?_cons_zero, List.getElem?_cons_succ, am_bd_s, ↓am_tls, ↓am_tln, ↓mk_oc, ↓ma_r, ↓ma_w, ↓mz_r, ↓mz_w, ↓mr0, ↓mr1, ↓mr2, ↓mr3, ↓mr4, ↓mr5, ↓mr6, ↓mr7, ↓mr8, ↓mr9, ↓mr10, ↓mr11, ↓mr12, ↓mr13, ↓mr14, ↓mr15, ↓mr16, ↓mr17, ↓mr18, ↓mr19, ↓mr20, ↓mr21, ↓mr22, ↓mr23, ↓mr24, ↓mr25, ↓mr26, ↓mr27, ↓mw0, ↓mw1, ↓mw11, ↓mw12, ↓mw13, ↓mw15, ↓mw16, ↓mw17, ↓mw19, ↓mw20, ↓mw22, ↓mw25, up_eq, up_ne, up_up, si_len, ↓if_neg q5]) (pl_mask L.1 + 1) 0 (0, 0, none, V) (by omega) (by omega) ⟨rfl, rfl, Sc.rf l107⟩
  dsimp only at e1 e2 c1 w1
  rw [show ((pl_mask L.1 : Int) + 1).toNat = pl_mask L.1 + 1 by omega] at e1 e2
  have esm : sm = (List.range 64).foldl F 0 := by
    rw [e1, pl_cut hm]
    intro a i hi
    rw [hF, pl_kkS, if_neg (fun z => by have := pl_and_le z.1; omega)]
  have ewh : wh = 10 ^ L.1.length := by
    rw [e2, ← pl_cut hm, hG, ← hpl]
    · exact pl_kw_all (pl_mask L.1) hm x (by omega)
    · intro a i hi
      rw [hG, pl_kwS, if_neg (fun z => by have := pl_and_le z; omega)]
  have hr := (pl_kk_rng (Wk := fun i => pl_wk (V 97) (V 98) (V 99) (V 100) (L.1.filter fun b => !i.testBit b) (L.2.1.getD s.toNat 0).toNat ((V 101).getD s.toNat 0).toNat) (t := t) hm hpl (show x < 11 by omega) 64 (by omega)).1
  rw [← hF, ← esm] at hr
  have hten : 1 ≤ wh ∧ wh ≤ 1000000 := by
    rw [ewh]
    have hd : ∀ n < 7, 1 ≤ 10 ^ n ∧ 10 ^ n ≤ 1000000 := by decide
    exact hd _ (by omega)
  rw [← esm, ← ewh]
  refine ⟨V1, c1, fun E K => ?_⟩
  have w2 := w1 (E, K)
  dsimp only at w2
  obtain ⟨gc, hgc⟩ : ∃ gc : Nat, gc = Nat.gcd (sm : Int).natAbs (wh : Int).natAbs := ⟨_, rfl⟩
  have gp : 1 ≤ gc ∧ gc ≤ 1000000 := by
    rw [hgc]
    refine ⟨Nat.gcd_pos_of_pos_right _ (by omega), ?_⟩
    have := Nat.gcd_le_right (sm : Int).natAbs (n := (wh : Int).natAbs) (by omega)
    omega
  have comm : ∀ E K h, Wp E 167 0 [some (am_i (sm : Int)), some (am_i (wh : Int)), none, none, none] [] h K = K (some (am_i (gc : Int))) h := by
    intro E K h
    rw [X10_common_w (by omega) (by omega), hgc]
  rw [pl_fra, ← hgc]
  have st : Wp E 175 0 [some (am_r (some 96)), some (am_i s), some (am_i t), some (am_i (x : Int)), some (am_i ui), none, none, none, none, none] [] (mk C S V) K = Wp E 175 47 [some (am_r (some 96)), some (am_i s), some (am_i t), some (am_i (x : Int)), some (am_i ui), some (am_i (pl_mask L.1 : Int)), some (am_i (sm : Int)), some (am_i (wh : Int)), some (am_i ((pl_mask L.1 : Int) + 1)), x9] [] (mk C S V1) K := by
    simp (disch := first | omega | (simp (disch := omega) only [up_eq, up_ne, si_len, List.length_set]; omega)) only [↓e175_0, ↓e175_1, ↓e175_2, ↓e175_5, ↓e175_8, ↓e175_9, ↓e175_10, ↓e175_11, ↓e175_14, ↓e175_17, ↓e175_18, ↓e175_19, ↓e175_20, ↓e175_23, ↓e175_26, ↓e175_29, ↓e175_31, ↓e175_32, ↓e175_33, ↓e175_36, ↓e175_38, ↓e175_39, ↓e175_41, ↓e175_42, ↓e175_44, ↓e175_45, ↓am_ilp, ↓am_iln, ↓am_iep, ↓am_ien, ↓am_zlp, ↓am_zln, ↓am_zep, ↓am_zen, ↓am_zgp, ↓am_zgn, ↓am_zhp, ↓am_zhn, ↓am_b01, true_or, true_and, and_true, or_true, if_true, if_false, ↓am_bdl_z, ↓am_bdl_s, ↓am_bsl_z, ↓am_bsl_s, ↓am_k1_i, ↓am_k1_r, ↓am_k1_e, ↓am_k1_n, ↓am_bd_s, am_k1_t, eq_self, am_nl_i, am_nl_r, am_nl_e, am_nl_n, Option.toList_some, Option.toList_none, Option.map_some, Option.map_none, List.cons_append, List.nil_append, List.length_cons, List.length_nil, List.set_cons_zero, List.set_cons_succ, List.getElem?_cons_zero, List.getElem?_cons_succ, am_bd_s, ↓am_tls, ↓am_tln, ↓mk_oc, ↓ma_r, ↓ma_w, ↓mz_r, ↓mz_w, ↓mr0, ↓mr1, ↓mr2, ↓mr3, ↓mr4, ↓mr5, ↓mr6, ↓mr7, ↓mr8, ↓mr9, ↓mr10, ↓mr11, ↓mr12, ↓mr13, ↓mr14, ↓mr15, ↓mr16, ↓mr17, ↓mr18, ↓mr19, ↓mr20, ↓mr21, ↓mr22, ↓mr23, ↓mr24, ↓mr25, ↓mr26, ↓mr27, ↓mw0, ↓mw1, ↓mw11, ↓mw12, ↓mw13, ↓mw15, ↓mw16, ↓mw17, ↓mw19, ↓mw20, ↓mw22, ↓mw25, up_eq, up_ne, up_up, si_len, ↓X10_isSleeper_w mp, ↓X10_isTime_w ht, ↓X10_in_w, ↓am_ifb, ↓if_pos q1, ↓if_pos h2, ↓if_pos q0, ↓lw]
    exact w2
  rw [st, e175_47]
  rcases u01 with ⟨uu, ui1⟩ | ⟨uu, ui1⟩
  · rw [if_pos uu]
    simp (disch := first | omega | (simp (disch := omega) only [up_eq, up_ne, si_len, List.length_set]; omega)) only [↓e175_49, ↓e175_51, ↓e175_134, ↓e175_136, ↓e175_138, ↓e175_141, ↓e175_143, ↓e175_145, ↓e175_148, ↓e175_150, ↓e175_152, ↓e175_153, ↓e175_156, ↓e175_158, ↓e175_160, ↓e175_161, ↓am_ilp, ↓am_iln, ↓am_iep, ↓am_ien, ↓am_zlp, ↓am_zln, ↓am_zep, ↓am_zen, ↓am_zgp, ↓am_zgn, ↓am_zhp, ↓am_zhn, ↓am_b01, true_or, true_and, and_true, or_true, if_true, if_false, ↓am_bdl_z, ↓am_bdl_s, ↓am_bsl_z, ↓am_bsl_s, ↓am_k1_i, ↓am_k1_r, ↓am_k1_e, ↓am_k1_n, ↓am_bd_s, am_k1_t, eq_self, am_nl_i, am_nl_r, am_nl_e, am_nl_n, Option.toList_some, Option.toList_none, Option.map_some, Option.map_none, List.cons_append, List.nil_append, List.length_cons, List.length_nil, List.set_cons_zero, List.set_cons_succ, List.getElem?_cons_zero, List.getElem?_cons_succ, am_bd_s, ↓am_tls, ↓am_tln, ↓mk_oc, ↓ma_r, ↓ma_w, ↓mz_r, ↓mz_w, ↓mr0, ↓mr1, ↓mr2, ↓mr3, ↓mr4, ↓mr5, ↓mr6, ↓mr7, ↓mr8, ↓mr9, ↓mr10, ↓mr11, ↓mr12, ↓mr13, ↓mr14, ↓mr15, ↓mr16, ↓mr17, ↓mr18, ↓mr19, ↓mr20, ↓mr21, ↓mr22, ↓mr23, ↓mr24, ↓mr25, ↓mr26, ↓mr27, ↓mw0, ↓mw1, ↓mw11, ↓mw12, ↓mw13, ↓mw15, ↓mw16, ↓mw17, ↓mw19, ↓mw20, ↓mw22, ↓mw25, up_eq, up_ne, up_up, si_len, ↓comm]
  · rw [if_neg (by rw [uu]; decide)]
    simp (disch := first | omega | (simp (disch := omega) only [up_eq, up_ne, si_len, List.length_set]; omega)) only [↓e175_49, ↓e175_51, ↓e175_134, ↓e175_136, ↓e175_138, ↓e175_141, ↓e175_143, ↓e175_145, ↓e175_148, ↓e175_150, ↓e175_152, ↓e175_153, ↓e175_156, ↓e175_158, ↓e175_160, ↓e175_161, ↓am_ilp, ↓am_iln, ↓am_iep, ↓am_ien, ↓am_zlp, ↓am_zln, ↓am_zep, ↓am_zen, ↓am_zgp, ↓am_zgn, ↓am_zhp, ↓am_zhn, ↓am_b01, true_or, true_and, and_true, or_true, if_true, if_false, ↓am_bdl_z, ↓am_bdl_s, ↓am_bsl_z, ↓am_bsl_s, ↓am_k1_i, ↓am_k1_r, ↓am_k1_e, ↓am_k1_n, ↓am_bd_s, am_k1_t, eq_self, am_nl_i, am_nl_r, am_nl_e, am_nl_n, Option.toList_some, Option.toList_none, Option.map_some, Option.map_none, List.cons_append, List.nil_append, List.length_cons, List.length_nil, List.set_cons_zero, List.set_cons_succ, List.getElem?_cons_zero, List.getElem?_cons_succ, am_bd_s, ↓am_tls, ↓am_tln, ↓mk_oc, ↓ma_r, ↓ma_w, ↓mz_r, ↓mz_w, ↓mr0, ↓mr1, ↓mr2, ↓mr3, ↓mr4, ↓mr5, ↓mr6, ↓mr7, ↓mr8, ↓mr9, ↓mr10, ↓mr11, ↓mr12, ↓mr13, ↓mr14, ↓mr15, ↓mr16, ↓mr17, ↓mr18, ↓mr19, ↓mr20, ↓mr21, ↓mr22, ↓mr23, ↓mr24, ↓mr25, ↓mr26, ↓mr27, ↓mw0, ↓mw1, ↓mw11, ↓mw12, ↓mw13, ↓mw15, ↓mw16, ↓mw17, ↓mw19, ↓mw20, ↓mw22, ↓mw25, up_eq, up_ne, up_up, si_len, ↓comm]
theorem X10_apart_w {E : List (List Int)} {K : Option am_V → am_H → Prop} {h : am_H} {a b : Int} (ha : -1000 ≤ a ∧ a ≤ 1000) (hb : -1000 ≤ b ∧ b ≤ 1000) : Wp E 170 0 [some (am_i a), some (am_i b)] [] h K = K (some (am_i (if a < b then b - a else a - b))) h := by
  by_cases q : a < b
  · rw [if_pos q]
    simp (disch := first | omega | (simp (disch := omega) only [up_eq, up_ne, si_len, List.length_set]; omega)) only [↓e170_0, ↓e170_1, ↓e170_2, ↓e170_5, ↓e170_6, ↓e170_7, ↓e170_8, ↓e170_11, ↓e170_12, ↓e170_13, ↓e170_14, ↓am_ilp, ↓am_iln, ↓am_iep, ↓am_ien, ↓am_zlp, ↓am_zln, ↓am_zep, ↓am_zen, ↓am_zgp, ↓am_zgn, ↓am_zhp, ↓am_zhn, ↓am_b01, true_or, true_and, and_true, or_true, if_true, if_false, ↓am_bdl_z, ↓am_bdl_s, ↓am_bsl_z, ↓am_bsl_s, ↓am_k1_i, ↓am_k1_r, ↓am_k1_e, ↓am_k1_n, ↓am_bd_s, am_k1_t, eq_self, am_nl_i, am_nl_r, am_nl_e, am_nl_n, Option.toList_some, Option.toList_none, Option.map_some, Option.map_none, List.cons_append, List.nil_append, List.length_cons, List.length_nil, List.set_cons_zero, List.set_cons_succ, List.getElem?_cons_zero, List.getElem?_cons_succ, am_bd_s]
  · rw [if_neg q]
    simp (disch := first | omega | (simp (disch := omega) only [up_eq, up_ne, si_len, List.length_set]; omega)) only [↓e170_0, ↓e170_1, ↓e170_2, ↓e170_5, ↓e170_6, ↓e170_7, ↓e170_8, ↓e170_11, ↓e170_12, ↓e170_13, ↓e170_14, ↓am_ilp, ↓am_iln, ↓am_iep, ↓am_ien, ↓am_zlp, ↓am_zln, ↓am_zep, ↓am_zen, ↓am_zgp, ↓am_zgn, ↓am_zhp, ↓am_zhn, ↓am_b01, true_or, true_and, and_true, or_true, if_true, if_false, ↓am_bdl_z, ↓am_bdl_s, ↓am_bsl_z, ↓am_bsl_s, ↓am_k1_i, ↓am_k1_r, ↓am_k1_e, ↓am_k1_n, ↓am_bd_s, am_k1_t, eq_self, am_nl_i, am_nl_r, am_nl_e, am_nl_n, Option.toList_some, Option.toList_none, Option.map_some, Option.map_none, List.cons_append, List.nil_append, List.length_cons, List.length_nil, List.set_cons_zero, List.set_cons_succ, List.getElem?_cons_zero, List.getElem?_cons_succ, am_bd_s]
/-- the waking, by place -/
def m_wf (V : Nat → List Int) (B : List Nat) (w : Int) (p : Nat) : Int := pl_wk (V 97) (V 98) (V 99) (V 100) B p w.toNat
theorem X10_loses_w {s p t o e : Int} (mp : MP S V nb ns) (ly : Ly (V 102) 0 L) (wf : WfL nb ns (V 101) L) (hs : 0 ≤ s ∧ s < ns) (ho : 0 ≤ o ∧ o < ns) (hp : 0 ≤ p ∧ p + gi (V 101) s ≤ 6) (he : 0 ≤ e ∧ e ≤ 6) (ht : 0 ≤ t ∧ t ≤ 10) : ∃ V', Sc V V' ∧ ∀ E K, Wp E 171 0 [some (am_r (some 96)), some (am_i s), some (am_i p), some (am_i t), some (am_i o), some (am_i e), none] [] (mk C S V) K = K (some (am_i (pl_ls (m_wf V L.1 (gi (V 101) s)) t (gi (V 101) s) (gi (V 101) o) p e))) (mk C S V') := by
  obtain ⟨s0, s1, hnb, hns, l97, l98, l99, l100, l101, l102, l107, pv, wv⟩ := id mp
  have z1 := wv s.toNat (by omega)
  have z2 := wv o.toNat (by omega)
  have g1 : gi (V 101) s = (V 101).getD s.toNat 0 := rfl
  have g2 : gi (V 101) o = (V 101).getD o.toNat 0 := rfl
  obtain ⟨ob, hob, w⟩ := X10_wakesIn_0 (C := C) (lv := 0) (p := p) (w := gi (V 101) s) (time := 0) mp ly (by omega) wf.1 (by omega) (by omega) (by omega) (by omega)
  have hr := pl_wk_rng (V := V) pv wf.1 p.toNat (gi (V 101) s).toNat
  refine ⟨_, Sc.o hob, fun E K => ?_⟩
  unfold pl_ls m_wf
  by_cases q1 : p < e + gi (V 101) o
  · by_cases q2 : e < p + gi (V 101) s
    · rw [if_pos (show p < e + gi (V 101) o ∧ e < p + gi (V 101) s from ⟨q1, q2⟩)]
      simp (disch := first | omega | (simp (disch := omega) only [up_eq, up_ne, si_len, List.length_set]; omega)) only [↓e171_0, ↓e171_1, ↓e171_3, ↓e171_4, ↓e171_7, ↓e171_9, ↓e171_10, ↓e171_11, ↓e171_14, ↓e171_16, ↓e171_17, ↓e171_18, ↓e171_21, ↓e171_22, ↓e171_23, ↓e171_24, ↓e171_27, ↓e171_28, ↓e171_31, ↓e171_32, ↓e171_34, ↓e171_35, ↓e171_36, ↓e171_37, ↓e171_38, ↓e171_41, ↓e171_42, ↓e171_43, ↓e171_44, ↓e171_45, ↓e171_48, ↓e171_49, ↓e171_52, ↓e171_54, ↓e171_57, ↓e171_58, ↓e171_61, ↓e171_62, ↓e171_63, ↓am_ilp, ↓am_iln, ↓am_iep, ↓am_ien, ↓am_zlp, ↓am_zln, ↓am_zep, ↓am_zen, ↓am_zgp, ↓am_zgn, ↓am_zhp, ↓am_zhn, ↓am_b01, true_or, true_and, and_true, or_true, if_true, if_false, ↓am_bdl_z, ↓am_bdl_s, ↓am_bsl_z, ↓am_bsl_s, ↓am_k1_i, ↓am_k1_r, ↓am_k1_e, ↓am_k1_n, ↓am_bd_s, am_k1_t, eq_self, am_nl_i, am_nl_r, am_nl_e, am_nl_n, Option.toList_some, Option.toList_none, Option.map_some, Option.map_none, List.cons_append, List.nil_append, List.length_cons, List.length_nil, List.set_cons_zero, List.set_cons_succ, List.getElem?_cons_zero, List.getElem?_cons_succ, am_bd_s, ↓am_tls, ↓am_tln, ↓mk_oc, ↓ma_r, ↓ma_w, ↓mz_r, ↓mz_w, ↓mr0, ↓mr1, ↓mr2, ↓mr3, ↓mr4, ↓mr5, ↓mr6, ↓mr7, ↓mr8, ↓mr9, ↓mr10, ↓mr11, ↓mr12, ↓mr13, ↓mr14, ↓mr15, ↓mr16, ↓mr17, ↓mr18, ↓mr19, ↓mr20, ↓mr21, ↓mr22, ↓mr23, ↓mr24, ↓mr25, ↓mr26, ↓mr27, ↓mw0, ↓mw1, ↓mw11, ↓mw12, ↓mw13, ↓mw15, ↓mw16, ↓mw17, ↓mw19, ↓mw20, ↓mw22, ↓mw25, up_eq, up_ne, up_up, si_len, ↓w, ↓X10_apart_w]
    · rw [if_neg (show ¬ (p < e + gi (V 101) o ∧ e < p + gi (V 101) s) from fun z => q2 z.2)]
      simp (disch := first | omega | (simp (disch := omega) only [up_eq, up_ne, si_len, List.length_set]; omega)) only [↓e171_0, ↓e171_1, ↓e171_3, ↓e171_4, ↓e171_7, ↓e171_9, ↓e171_10, ↓e171_11, ↓e171_14, ↓e171_16, ↓e171_17, ↓e171_18, ↓e171_21, ↓e171_22, ↓e171_23, ↓e171_24, ↓e171_27, ↓e171_28, ↓e171_31, ↓e171_32, ↓e171_34, ↓e171_35, ↓e171_36, ↓e171_37, ↓e171_38, ↓e171_41, ↓e171_42, ↓e171_43, ↓e171_44, ↓e171_45, ↓e171_48, ↓e171_49, ↓e171_52, ↓e171_54, ↓e171_57, ↓e171_58, ↓e171_61, ↓e171_62, ↓e171_63, ↓am_ilp, ↓am_iln, ↓am_iep, ↓am_ien, ↓am_zlp, ↓am_zln, ↓am_zep, ↓am_zen, ↓am_zgp, ↓am_zgn, ↓am_zhp, ↓am_zhn, ↓am_b01, true_or, true_and, and_true, or_true, if_true, if_false, ↓am_bdl_z, ↓am_bdl_s, ↓am_bsl_z, ↓am_bsl_s, ↓am_k1_i, ↓am_k1_r, ↓am_k1_e, ↓am_k1_n, ↓am_bd_s, am_k1_t, eq_self, am_nl_i, am_nl_r, am_nl_e, am_nl_n, Option.toList_some, Option.toList_none, Option.map_some, Option.map_none, List.cons_append, List.nil_append, List.length_cons, List.length_nil, List.set_cons_zero, List.set_cons_succ, List.getElem?_cons_zero, List.getElem?_cons_succ, am_bd_s, ↓am_tls, ↓am_tln, ↓mk_oc, ↓ma_r, ↓ma_w, ↓mz_r, ↓mz_w, ↓mr0, ↓mr1, ↓mr2, ↓mr3, ↓mr4, ↓mr5, ↓mr6, ↓mr7, ↓mr8, ↓mr9, ↓mr10, ↓mr11, ↓mr12, ↓mr13, ↓mr14, ↓mr15, ↓mr16, ↓mr17, ↓mr18, ↓mr19, ↓mr20, ↓mr21, ↓mr22, ↓mr23, ↓mr24, ↓mr25, ↓mr26, ↓mr27, ↓mw0, ↓mw1, ↓mw11, ↓mw12, ↓mw13, ↓mw15, ↓mw16, ↓mw17, ↓mw19, ↓mw20, ↓mw22, ↓mw25, up_eq, up_ne, up_up, si_len, ↓w, ↓X10_apart_w]
  · rw [if_neg (show ¬ (p < e + gi (V 101) o ∧ e < p + gi (V 101) s) from fun z => q1 z.1)]
    simp (disch := first | omega | (simp (disch := omega) only [up_eq, up_ne, si_len, List.length_set]; omega)) only [↓e171_0, ↓e171_1, ↓e171_3, ↓e171_4, ↓e171_7, ↓e171_9, ↓e171_10, ↓e171_11, ↓e171_14, ↓e171_16, ↓e171_17, ↓e171_18, ↓e171_21, ↓e171_22, ↓e171_23, ↓e171_24, ↓e171_27, ↓e171_28, ↓e171_31, ↓e171_32, ↓e171_34, ↓e171_35, ↓e171_36, ↓e171_37, ↓e171_38, ↓e171_41, ↓e171_42, ↓e171_43, ↓e171_44, ↓e171_45, ↓e171_48, ↓e171_49, ↓e171_52, ↓e171_54, ↓e171_57, ↓e171_58, ↓e171_61, ↓e171_62, ↓e171_63, ↓am_ilp, ↓am_iln, ↓am_iep, ↓am_ien, ↓am_zlp, ↓am_zln, ↓am_zep, ↓am_zen, ↓am_zgp, ↓am_zgn, ↓am_zhp, ↓am_zhn, ↓am_b01, true_or, true_and, and_true, or_true, if_true, if_false, ↓am_bdl_z, ↓am_bdl_s, ↓am_bsl_z, ↓am_bsl_s, ↓am_k1_i, ↓am_k1_r, ↓am_k1_e, ↓am_k1_n, ↓am_bd_s, am_k1_t, eq_self, am_nl_i, am_nl_r, am_nl_e, am_nl_n, Option.toList_some, Option.toList_none, Option.map_some, Option.map_none, List.cons_append, List.nil_append, List.length_cons, List.length_nil, List.set_cons_zero, List.set_cons_succ, List.getElem?_cons_zero, List.getElem?_cons_succ, am_bd_s, ↓am_tls, ↓am_tln, ↓mk_oc, ↓ma_r, ↓ma_w, ↓mz_r, ↓mz_w, ↓mr0, ↓mr1, ↓mr2, ↓mr3, ↓mr4, ↓mr5, ↓mr6, ↓mr7, ↓mr8, ↓mr9, ↓mr10, ↓mr11, ↓mr12, ↓mr13, ↓mr14, ↓mr15, ↓mr16, ↓mr17, ↓mr18, ↓mr19, ↓mr20, ↓mr21, ↓mr22, ↓mr23, ↓mr24, ↓mr25, ↓mr26, ↓mr27, ↓mw0, ↓mw1, ↓mw11, ↓mw12, ↓mw13, ↓mw15, ↓mw16, ↓mw17, ↓mw19, ↓mw20, ↓mw22, ↓mw25, up_eq, up_ne, up_up, si_len, ↓w, ↓X10_apart_w]
end MRS
