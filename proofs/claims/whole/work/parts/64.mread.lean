/-! the model: the whole text is read -/
theorem Kp.trans {A B A' B' : List Nat} {S S1 S2 : Nat → Int} {V V1 V2 : Nat → List Int} (f : Kp A B S S1 V V1) (g : Kp A B S1 S2 V1 V2) : Kp A B S S2 V V2 := ⟨fun i hi => (g.1 i hi).trans (f.1 i hi), fun i hi => (g.2 i hi).trans (f.2 i hi)⟩
theorem Kp.mono {A B A' B' : List Nat} {S S1 : Nat → Int} {V V1 : Nat → List Int} (f : Kp A B S S1 V V1) (h1 : ∀ x ∈ A, x ∈ A') (h2 : ∀ x ∈ B, x ∈ B') : Kp A' B' S S1 V V1 := ⟨fun i hi => f.1 i (fun z => hi (h1 i z)), fun i hi => f.2 i (fun z => hi (h2 i z))⟩
theorem m_q4_len {N : List Int} {b : Int} {d : pl_Q} : (m_q4 N b d).length = N.length := by simp only [m_q4, si_len]
theorem m_q4_lo {N : List Int} {b i : Int} {d : pl_Q} (hb : 0 ≤ b) (hi : 0 ≤ i) (h : i < 4 * b) : gi (m_q4 N b d) i = gi N i := by
  unfold m_q4
  rw [gi_ne (by omega), gi_ne (by omega), gi_ne (by omega), gi_ne (by omega)]
theorem m_q4_at {N : List Int} {b : Int} {d : pl_Q} (hb : 0 ≤ b) (h : 4 * b + 3 < N.length) : gi (m_q4 N b d) (4 * b) = d.1 ∧ gi (m_q4 N b d) (4 * b + 1) = d.2.1 ∧ gi (m_q4 N b d) (4 * b + 2) = d.2.2.1 ∧ gi (m_q4 N b d) (4 * b + 3) = d.2.2.2 := by
  unfold m_q4
  refine ⟨?_, ?_, ?_, ?_⟩
  · rw [gi_ne (by omega), gi_ne (by omega), gi_ne (by omega), gi_eq (by omega)]
  · rw [gi_ne (by omega), gi_ne (by omega), gi_eq (by rw [si_len]; omega)]
  · rw [gi_ne (by omega), gi_eq (by rw [si_len, si_len]; omega)]
  · rw [gi_eq (by rw [si_len, si_len, si_len]; omega)]
/-- what was read of blankets and sleepers lies there -/
def RdQ (R : List Int) (b : Nat) (Q : List pl_Q) : Prop := ∀ k < Q.length, gi R (4 * ((b + k : Nat) : Int)) = (Q.getD k (0, 0, 0, 0)).1 ∧ gi R (4 * ((b + k : Nat) : Int) + 1) = (Q.getD k (0, 0, 0, 0)).2.1 ∧ gi R (4 * ((b + k : Nat) : Int) + 2) = (Q.getD k (0, 0, 0, 0)).2.2.1 ∧ gi R (4 * ((b + k : Nat) : Int) + 3) = (Q.getD k (0, 0, 0, 0)).2.2.2
def RdS (A B : List Int) (b : Nat) (Q : List (Int × Int)) : Prop := ∀ k < Q.length, gi A ((b + k : Nat) : Int) = (Q.getD k (0, 0)).1 ∧ gi B ((b + k : Nat) : Int) = (Q.getD k (0, 0)).2
section MRE
variable {C : Nat → am_C} {X : List Int} {n : Nat}
theorem X10_readText_l (lX : X.length = 44) (hn : n ≤ 44) (vX : ∀ i < 44, 0 ≤ X.getD i 0 ∧ X.getD i 0 ≤ 255) :
    ∀ (f : Nat) (p : Int) (nb ns m : Nat) (S : Nat → Int) (V : Nat → List Int), V 106 = X → S 15 = (n : Int) → S 16 = p → S 17 = -9 → S 11 = (nb : Int) → S 12 = (ns : Int) → S 13 = (m : Int) → (V 103).length = 24 → (V 104).length = 3 → (V 105).length = 3 → (n : Int) - p < f → 1 ≤ p → p ≤ n → nb ≤ 6 → ns ≤ 3 → m < 64 → ∃ S' V', Kp [11, 12, 13, 16, 17] [103, 104, 105] S S' V V' ∧ (V' 103).length = 24 ∧ (V' 104).length = 3 ∧ (V' 105).length = 3 ∧ (∀ E K, Wp E 118 51 [some (am_r (some 96))] [] (mk C S V) K = K (some (am_i (pl_pr X n f p nb ns m).1)) (mk C S' V')) ∧ ((pl_pr X n f p nb ns m).1 = -9 → nb + (pl_pr X n f p nb ns m).2.1.length ≤ 6 ∧ ns + (pl_pr X n f p nb ns m).2.2.length ≤ 3 ∧ S' 11 = ((nb + (pl_pr X n f p nb ns m).2.1.length : Nat) : Int) ∧ S' 12 = ((ns + (pl_pr X n f p nb ns m).2.2.length : Nat) : Int) ∧ (∀ i : Int, 0 ≤ i → i < 4 * (nb : Int) → gi (V' 103) i = gi (V 103) i) ∧ (∀ i : Int, 0 ≤ i → i < (ns : Int) → gi (V' 104) i = gi (V 104) i ∧ gi (V' 105) i = gi (V 105) i) ∧ RdQ (V' 103) nb (pl_pr X n f p nb ns m).2.1 ∧ RdS (V' 104) (V' 105) ns (pl_pr X n f p nb ns m).2.2)
  | 0, p, nb, ns, m, S, V, hX, h15, h16, h17, h11, h12, h13, l3, l4, l5, hf, hp, hpn, hnb, hns, hm => by omega
  | f + 1, p, nb, ns, m, S, V, hX, h15, h16, h17, h11, h12, h13, l3, l4, l5, hf, hp, hpn, hnb, hns, hm => by
    have l106 : (V 106).length = 44 := by rw [hX]; exact lX
    by_cases q0 : (n : Int) ≤ p
    · have e : pl_pr X n (f + 1) p nb ns m = (-9, [], []) := by rw [pl_pr, if_pos q0]
      rw [e]
      refine ⟨S, V, ⟨fun _ _ => rfl, fun _ _ => rfl⟩, l3, l4, l5, fun E K => ?_, fun _ => ⟨by simp; omega, by simp; omega, by simp; exact h11, by simp; exact h12, fun _ _ _ => rfl, fun _ _ _ => ⟨rfl, rfl⟩, fun k hk => absurd hk (by simp), fun k hk => absurd hk (by simp)⟩⟩
      rw [e118_51]
      simp (disch := first | omega | (simp (disch := omega) only [up_eq, up_ne, si_len, List.length_set]; omega)) only [↓e118_52, ↓e118_55, ↓e118_57, ↓e118_60, ↓e118_61, ↓e118_64, ↓e118_65, ↓e118_68, ↓e118_87, ↓e118_88, ↓e118_91, ↓am_ilp, ↓am_iln, ↓am_iep, ↓am_ien, ↓am_zlp, ↓am_zln, ↓am_zep, ↓am_zen, ↓am_zgp, ↓am_zgn, ↓am_zhp, ↓am_zhn, ↓am_b01, true_or, true_and, and_true, or_true, if_true, if_false, ↓am_bdl_z, ↓am_bdl_s, ↓am_bsl_z, ↓am_bsl_s, ↓am_k1_i, ↓am_k1_r, ↓am_k1_e, ↓am_k1_n, ↓am_bd_s, am_k1_t, eq_self, am_nl_i, am_nl_r, am_nl_e, am_nl_n, Option.toList_some, Option.toList_none, Option.map_some, Option.map_none, List.cons_append, List.nil_append, List.length_cons, List.length_nil, List.set_cons_zero, List.set_cons_succ, List.getElem?_cons_zero, List.getElem?_cons_succ, am_bd_s, ↓am_tls, ↓am_tln, ↓mk_oc, ↓ma_r, ↓ma_w, ↓mz_r, ↓mz_w, ↓mr0, ↓mr1, ↓mr2, ↓mr3, ↓mr4, ↓mr5, ↓mr6, ↓mr7, ↓mr8, ↓mr9, ↓mr10, ↓mr11, ↓mr12, ↓mr13, ↓mr14, ↓mr15, ↓mr16, ↓mr17, ↓mr18, ↓mr19, ↓mr20, ↓mr21, ↓mr22, ↓mr23, ↓mr24, ↓mr25, ↓mr26, ↓mr27, ↓mw0, ↓mw1, ↓mw11, ↓mw12, ↓mw13, ↓mw15, ↓mw16, ↓mw17, ↓mw19, ↓mw20, ↓mw22, ↓mw25, up_eq, up_ne, up_up, si_len, h17]
    · have hv := vX p.toNat (by omega)
      have gl : gi (V 106) (S 16) = X.getD p.toNat 0 := by rw [hX, h16]; rfl
      -- one part
      have go : ∀ (S1 : Nat → Int) (V1 : Nat → List Int), (∀ E K, Wp E 119 0 [some (am_r (some 96)), some (am_i (X.getD p.toNat 0)), none, none] [] (mk C S V) K = K none (mk C S1 V1)) → ∀ E K, Wp E 118 51 [some (am_r (some 96))] [] (mk C S V) K = Wp E 118 51 [some (am_r (some 96))] [] (mk C S1 V1) K := by
        intro S1 V1 w E K
        rw [e118_51]
        simp (disch := first | omega | (simp (disch := omega) only [up_eq, up_ne, si_len, List.length_set]; omega)) only [↓e118_52, ↓e118_55, ↓e118_57, ↓e118_60, ↓e118_61, ↓e118_64, ↓e118_65, ↓e118_68, ↓e118_71, ↓e118_72, ↓e118_73, ↓e118_76, ↓e118_77, ↓e118_80, ↓am_ilp, ↓am_iln, ↓am_iep, ↓am_ien, ↓am_zlp, ↓am_zln, ↓am_zep, ↓am_zen, ↓am_zgp, ↓am_zgn, ↓am_zhp, ↓am_zhn, ↓am_b01, true_or, true_and, and_true, or_true, if_true, if_false, ↓am_bdl_z, ↓am_bdl_s, ↓am_bsl_z, ↓am_bsl_s, ↓am_k1_i, ↓am_k1_r, ↓am_k1_e, ↓am_k1_n, ↓am_bd_s, am_k1_t, eq_self, am_nl_i, am_nl_r, am_nl_e, am_nl_n, Option.toList_some, Option.toList_none, Option.map_some, Option.map_none, List.cons_append, List.nil_append, List.length_cons, List.length_nil, List.set_cons_zero, List.set_cons_succ, List.getElem?_cons_zero, List.getElem?_cons_succ, am_bd_s, ↓am_tls, ↓am_tln, ↓mk_oc, ↓ma_r, ↓ma_w, ↓mz_r, ↓mz_w, ↓mr0, ↓mr1, ↓mr2, ↓mr3, ↓mr4, ↓mr5, ↓mr6, ↓mr7, ↓mr8, ↓mr9, ↓mr10, ↓mr11, ↓mr12, ↓mr13, ↓mr14, ↓mr15, ↓mr16, ↓mr17, ↓mr18, ↓mr19, ↓mr20, ↓mr21, ↓mr22, ↓mr23, ↓mr24, ↓mr25, ↓mr26, ↓mr27, ↓mw0, ↓mw1, ↓mw11, ↓mw12, ↓mw13, ↓mw15, ↓mw16, ↓mw17, ↓mw19, ↓mw20, ↓mw22, ↓mw25, up_eq, up_ne, up_up, si_len, gl]
        simp (disch := first | omega | (simp (disch := omega) only [up_eq, up_ne, si_len, List.length_set]; omega)) only [↓e118_81, ↓e118_84, ↓am_ilp, ↓am_iln, ↓am_iep, ↓am_ien, ↓am_zlp, ↓am_zln, ↓am_zep, ↓am_zen, ↓am_zgp, ↓am_zgn, ↓am_zhp, ↓am_zhn, ↓am_b01, true_or, true_and, and_true, or_true, if_true, if_false, ↓am_bdl_z, ↓am_bdl_s, ↓am_bsl_z, ↓am_bsl_s, ↓am_k1_i, ↓am_k1_r, ↓am_k1_e, ↓am_k1_n, ↓am_bd_s, am_k1_t, eq_self, am_nl_i, am_nl_r, am_nl_e, am_nl_n, Option.toList_some, Option.toList_none, Option.map_some, Option.map_none, List.cons_append, List.nil_append, List.length_cons, List.length_nil, List.set_cons_zero, List.set_cons_succ, List.getElem?_cons_zero, List.getElem?_cons_succ, am_bd_s, ↓am_tls, ↓am_tln, ↓mk_oc, ↓ma_r, ↓ma_w, ↓mz_r, ↓mz_w, ↓mr0, ↓mr1, ↓mr2, ↓mr3, ↓mr4, ↓mr5, ↓mr6, ↓mr7, ↓mr8, ↓mr9, ↓mr10, ↓mr11, ↓mr12, ↓mr13, ↓mr14, ↓mr15, ↓mr16, ↓mr17, ↓mr18, ↓mr19, ↓mr20, ↓mr21, ↓mr22, ↓mr23, ↓mr24, ↓mr25, ↓mr26, ↓mr27, ↓mw0, ↓mw1, ↓mw11, ↓mw12, ↓mw13, ↓mw15, ↓mw16, ↓mw17, ↓mw19, ↓mw20, ↓mw22, ↓mw25, up_eq, up_ne, up_up, si_len, ↓w]
      have stop : ∀ (S1 : Nat → Int) (V1 : Nat → List Int) (y : Int), S1 17 = y → y ≠ -9 → -100 ≤ y ∧ y ≤ 1000 → ∀ E K, Wp E 118 51 [some (am_r (some 96))] [] (mk C S1 V1) K = K (some (am_i y)) (mk C S1 V1) := by
        intro S1 V1 y hy hne hr E K
        rw [e118_51]
        simp (disch := first | omega | (simp (disch := omega) only [up_eq, up_ne, si_len, List.length_set]; omega)) only [↓e118_52, ↓e118_55, ↓e118_57, ↓e118_87, ↓e118_88, ↓e118_91, ↓am_ilp, ↓am_iln, ↓am_iep, ↓am_ien, ↓am_zlp, ↓am_zln, ↓am_zep, ↓am_zen, ↓am_zgp, ↓am_zgn, ↓am_zhp, ↓am_zhn, ↓am_b01, true_or, true_and, and_true, or_true, if_true, if_false, ↓am_bdl_z, ↓am_bdl_s, ↓am_bsl_z, ↓am_bsl_s, ↓am_k1_i, ↓am_k1_r, ↓am_k1_e, ↓am_k1_n, ↓am_bd_s, am_k1_t, eq_self, am_nl_i, am_nl_r, am_nl_e, am_nl_n, Option.toList_some, Option.toList_none, Option.map_some, Option.map_none, List.cons_append, List.nil_append, List.length_cons, List.length_nil, List.set_cons_zero, List.set_cons_succ, List.getElem?_cons_zero, List.getElem?_cons_succ, am_bd_s, ↓am_tls, ↓am_tln, ↓mk_oc, ↓ma_r, ↓ma_w, ↓mz_r, ↓mz_w, ↓mr0, ↓mr1, ↓mr2, ↓mr3, ↓mr4, ↓mr5, ↓mr6, ↓mr7, ↓mr8, ↓mr9, ↓mr10, ↓mr11, ↓mr12, ↓mr13, ↓mr14, ↓mr15, ↓mr16, ↓mr17, ↓mr18, ↓mr19, ↓mr20, ↓mr21, ↓mr22, ↓mr23, ↓mr24, ↓mr25, ↓mr26, ↓mr27, ↓mw0, ↓mw1, ↓mw11, ↓mw12, ↓mw13, ↓mw15, ↓mw16, ↓mw17, ↓mw19, ↓mw20, ↓mw22, ↓mw25, up_eq, up_ne, up_up, si_len, hy]
      rw [pl_pr, if_neg q0]
      by_cases c1 : X.getD p.toNat 0 = 81 ∧ nb < 6
      · rw [if_pos c1]
        obtain ⟨S1, V1, w1, k1, r1, r2, r3⟩ := X10_readPart_q (C := C) (p := p) hX h15 h16 h17 lX hn vX (by omega) (by omega) l3
        rw [← c1.1] at w1
        by_cases c2 : pl_bf X n p = -9
        · rw [if_neg (fun z => z c2)]
          obtain ⟨e16, e11, e103⟩ := r3 c2
          have bk := pl_bf_ok c2 (by omega)
          obtain ⟨S2, V2, k2, a3, a4, a5, w2, fin⟩ := X10_readText_l lX hn vX f (p + 5) (nb + 1) ns m S1 V1 ((k1.2 106 (by decide)).trans hX) ((k1.1 15 (by decide)).trans h15) e16 (by rw [r2, c2]) (by rw [e11, h11]; rfl) ((k1.1 12 (by decide)).trans h12) ((k1.1 13 (by decide)).trans h13) r1 (by rw [k1.2 104 (by decide)]; exact l4) (by rw [k1.2 105 (by decide)]; exact l5) (by omega) (by omega) (by omega) (by omega) hns hm
          refine ⟨S2, V2, (k1.mono (by decide) (by decide)).trans (A' := []) (B' := []) k2, a3, a4, a5, fun E K => by rw [go S1 V1 w1, w2], fun hz => ?_⟩
          obtain ⟨d1, d2, d3, d4, d5, d6, d7, d8⟩ := fin hz
          dsimp only
          rw [List.length_cons]
          refine ⟨by omega, d2, by rw [d3]; congr 1; omega, d4, fun i i0 i1 => ?_, fun i i0 i1 => ?_, fun k hk => ?_, d8⟩
          · rw [d5 i i0 (by omega), e103, m_q4_lo (by omega) i0 (by omega)]
          · obtain ⟨t1, t2⟩ := d6 i i0 i1
            rw [t1, t2, k1.2 104 (by decide), k1.2 105 (by decide)]
            exact ⟨rfl, rfl⟩
          · rw [List.length_cons] at hk
            match k, hk with
            | 0, _ =>
              have e4 := m_q4_at (N := V 103) (b := S 11) (d := (pl_fa X n (p + 1), pl_fa X n (p + 2), pl_fa X n (p + 3), pl_fa X n (p + 4))) (by omega) (by omega)
              rw [← e103, h11] at e4
              rw [List.getD_cons_zero, Nat.add_zero, d5 _ (by omega) (by omega), d5 _ (by omega) (by omega), d5 _ (by omega) (by omega), d5 _ (by omega) (by omega)]
              exact e4
            | k + 1, hk =>
              rw [List.getD_cons_succ, show nb + (k + 1) = nb + 1 + k by omega]
              exact d7 k (by omega)
        · rw [if_pos c2]
          refine ⟨S1, V1, k1.mono (by decide) (by decide), r1, by rw [k1.2 104 (by decide)]; exact l4, by rw [k1.2 105 (by decide)]; exact l5, fun E K => ?_, fun hz => absurd hz c2⟩
          have hb : -100 ≤ pl_bf X n p ∧ pl_bf X n p ≤ 1000 := by
            have rr : ∀ q lo hi : Int, 0 ≤ q → -9 ≤ pl_ff X n q lo hi ∧ pl_ff X n q lo hi ≤ 100 := by
              intro q lo hi hq
              unfold pl_ff
              split
              · omega
              · split <;> omega
            have x1 := rr (p + 1) 0 5 (by omega)
            have x2 := rr (p + 2) (pl_fa X n (p + 1)) 5 (by omega)
            have x3 := rr (p + 3) 0 9 (by omega)
            have x4 := rr (p + 4) 0 3 (by omega)
            unfold pl_bf
            split
            · omega
            · split
              · omega
              · split <;> omega
          rw [go S1 V1 w1, stop S1 V1 _ r2 c2 hb]
      · rw [if_neg c1]
        by_cases c3 : X.getD p.toNat 0 = 83 ∧ ns < 3 ∧ m ≠ 63
        · rw [if_pos c3]
          obtain ⟨S1, V1, w1, k1, r1, r1', r2, r3⟩ := X10_readPart_s (C := C) (p := p) (m := m) hX h15 h16 h17 lX hn vX (by omega) (by omega) h13 (by omega) l4 l5
          rw [← c3.1] at w1
          by_cases c2 : pl_sf X n p m = -9
          · rw [if_neg (fun z => z c2)]
            obtain ⟨e16, e12, e13, e104, e105⟩ := r3 c2
            have sk := pl_sf_ok c2 (by omega)
            obtain ⟨mm, em⟩ : ∃ mm, mm = m ||| pl_cb (pl_fa X n (p + 1)).toNat (pl_fa X n (p + 2)).toNat := ⟨_, rfl⟩
            have hmm : mm < 64 := by rw [em]; exact pl_cb_64 m hm _ (by omega) _ (by omega) (by omega)
            rw [← em] at e13 ⊢
            obtain ⟨S2, V2, k2, a3, a4, a5, w2, fin⟩ := X10_readText_l lX hn vX f (p + 3) nb (ns + 1) mm S1 V1 ((k1.2 106 (by decide)).trans hX) ((k1.1 15 (by decide)).trans h15) e16 (by rw [r2, c2]) ((k1.1 11 (by decide)).trans h11) (by rw [e12, h12]; rfl) e13 (by rw [k1.2 103 (by decide)]; exact l3) r1 r1' (by omega) (by omega) (by omega) hnb (by omega) hmm
            refine ⟨S2, V2, (k1.mono (by decide) (by decide)).trans (A' := []) (B' := []) k2, a3, a4, a5, fun E K => by rw [go S1 V1 w1, w2], fun hz => ?_⟩
            obtain ⟨d1, d2, d3, d4, d5, d6, d7, d8⟩ := fin hz
            dsimp only
            rw [List.length_cons]
            refine ⟨d1, by omega, d3, by rw [d4]; congr 1; omega, fun i i0 i1 => ?_, fun i i0 i1 => ?_, d7, fun k hk => ?_⟩
            · rw [d5 i i0 i1, k1.2 103 (by decide)]
            · obtain ⟨t1, t2⟩ := d6 i i0 (by omega)
              rw [t1, t2, e104, e105, h12, gi_ne (by omega), gi_ne (by omega)]
              exact ⟨rfl, rfl⟩
            · rw [List.length_cons] at hk
              match k, hk with
              | 0, _ =>
                obtain ⟨t1, t2⟩ := d6 (ns : Int) (by omega) (by omega)
                rw [List.getD_cons_zero, Nat.add_zero, t1, t2, e104, e105, h12, gi_eq (by omega), gi_eq (by omega)]
                exact ⟨rfl, rfl⟩
              | k + 1, hk =>
                rw [List.getD_cons_succ, show ns + (k + 1) = ns + 1 + k by omega]
                exact d8 k (by omega)
          · rw [if_pos c2]
            refine ⟨S1, V1, k1.mono (by decide) (by decide), by rw [k1.2 103 (by decide)]; exact l3, r1, r1', fun E K => ?_, fun hz => absurd hz c2⟩
            have hb : -100 ≤ pl_sf X n p m ∧ pl_sf X n p m ≤ 1000 := by
              have rr : ∀ q lo hi : Int, 0 ≤ q → -9 ≤ pl_ff X n q lo hi ∧ pl_ff X n q lo hi ≤ 100 := by
                intro q lo hi hq
                unfold pl_ff
                split
                · omega
                · split <;> omega
              have x1 := rr (p + 1) 0 5 (by omega)
              have x2 := rr (p + 2) 1 (min 3 (6 - pl_fa X n (p + 1))) (by omega)
              unfold pl_sf
              split
              · omega
              · split
                · omega
                · split
                  · omega
                  · split <;> omega
            rw [go S1 V1 w1, stop S1 V1 _ r2 c2 hb]
        · rw [if_neg c3]
          have w1 := X10_readPart_else (C := C) (S := S) (V := V) (l := X.getD p.toNat 0) (by rw [h11]; exact fun z => c1 ⟨z.1, by omega⟩) (by rw [h12, h13]; exact fun z => c3 ⟨z.1, by omega, fun y => z.2.2 (by rw [y]; rfl)⟩) hv (by omega) (by omega) (by omega)
          rw [h16] at w1
          refine ⟨up S 17 p, V, ⟨fun i hi => by rw [up_nm hi (by decide)], fun _ _ => rfl⟩, l3, l4, l5, fun E K => ?_, fun hz => ?_⟩
          · rw [go _ _ w1, stop (up S 17 p) V p (by rw [up_eq]) (by omega) (by omega)]
          · dsimp only at hz; omega
theorem X10_readText_w {S : Nat → Int} {V : Nat → List Int} (mt : MT S V n) : ∃ S' V', Kp [11, 12, 13, 16, 17] [103, 104, 105] S S' V V' ∧ (V' 103).length = 24 ∧ (V' 104).length = 3 ∧ (V' 105).length = 3 ∧ (∀ E K, Wp E 118 0 [some (am_r (some 96))] [] (mk C S V) K = K (some (am_i (pl_text (V 106) n).1)) (mk C S' V')) ∧ ((pl_text (V 106) n).1 = -9 → (pl_text (V 106) n).2.1.length ≤ 6 ∧ (pl_text (V 106) n).2.2.length ≤ 3 ∧ S' 11 = ((pl_text (V 106) n).2.1.length : Int) ∧ S' 12 = ((pl_text (V 106) n).2.2.length : Int) ∧ RdQ (V' 103) 0 (pl_text (V 106) n).2.1 ∧ RdS (V' 104) (V' 105) 0 (pl_text (V 106) n).2.2) := by
  obtain ⟨h15, hn, l106, vX, l3, l4, l5⟩ := mt
  have v0 := vX 0 (by omega)
  have g0 : gi (V 106) 0 = (V 106).getD 0 0 := rfl
  unfold pl_text
  by_cases q : n = 0 ∨ (V 106).getD 0 0 ≠ 66
  · rw [if_pos q]
    refine ⟨up (up (up (up (up S 16 0) 17 (-9)) 11 0) 12 0) 13 0, V, ⟨fun i hi => ?_, fun _ _ => rfl⟩, l3, l4, l5, fun E K => ?_, fun hz => by cases hz⟩
    · rw [up_nm hi (by decide), up_nm hi (by decide), up_nm hi (by decide), up_nm hi (by decide), up_nm hi (by decide)]
    · by_cases q1 : n = 0
      · simp (disch := first | omega | (simp (disch := omega) only [up_eq, up_ne, si_len, List.length_set]; omega)) only [↓e118_0, ↓e118_1, ↓e118_2, ↓e118_5, ↓e118_6, ↓e118_8, ↓e118_11, ↓e118_12, ↓e118_13, ↓e118_16, ↓e118_17, ↓e118_18, ↓e118_21, ↓e118_22, ↓e118_23, ↓e118_26, ↓e118_27, ↓e118_30, ↓e118_33, ↓e118_34, ↓e118_37, ↓e118_38, ↓e118_39, ↓e118_41, ↓e118_44, ↓e118_45, ↓am_ilp, ↓am_iln, ↓am_iep, ↓am_ien, ↓am_zlp, ↓am_zln, ↓am_zep, ↓am_zen, ↓am_zgp, ↓am_zgn, ↓am_zhp, ↓am_zhn, ↓am_b01, true_or, true_and, and_true, or_true, if_true, if_false, ↓am_bdl_z, ↓am_bdl_s, ↓am_bsl_z, ↓am_bsl_s, ↓am_k1_i, ↓am_k1_r, ↓am_k1_e, ↓am_k1_n, ↓am_bd_s, am_k1_t, eq_self, am_nl_i, am_nl_r, am_nl_e, am_nl_n, Option.toList_some, Option.toList_none, Option.map_some, Option.map_none, List.cons_append, List.nil_append, List.length_cons, List.length_nil, List.set_cons_zero, List.set_cons_succ, List.getElem?_cons_zero, List.getElem?_cons_succ, am_bd_s, ↓am_tls, ↓am_tln, ↓mk_oc, ↓ma_r, ↓ma_w, ↓mz_r, ↓mz_w, ↓mr0, ↓mr1, ↓mr2, ↓mr3, ↓mr4, ↓mr5, ↓mr6, ↓mr7, ↓mr8, ↓mr9, ↓mr10, ↓mr11, ↓mr12, ↓mr13, ↓mr14, ↓mr15, ↓mr16, ↓mr17, ↓mr18, ↓mr19, ↓mr20, ↓mr21, ↓mr22, ↓mr23, ↓mr24, ↓mr25, ↓mr26, ↓mr27, ↓mw0, ↓mw1, ↓mw11, ↓mw12, ↓mw13, ↓mw15, ↓mw16, ↓mw17, ↓mw19, ↓mw20, ↓mw22, ↓mw25, up_eq, up_ne, up_up, si_len]
      · have q2 : ¬ (V 106).getD 0 0 = 66 := by
          rcases q with z | z
          · exact absurd z q1
          · exact z
        simp (disch := first | omega | (simp (disch := omega) only [up_eq, up_ne, si_len, List.length_set]; omega)) only [↓e118_0, ↓e118_1, ↓e118_2, ↓e118_5, ↓e118_6, ↓e118_8, ↓e118_11, ↓e118_12, ↓e118_13, ↓e118_16, ↓e118_17, ↓e118_18, ↓e118_21, ↓e118_22, ↓e118_23, ↓e118_26, ↓e118_27, ↓e118_30, ↓e118_33, ↓e118_34, ↓e118_37, ↓e118_38, ↓e118_39, ↓e118_41, ↓e118_44, ↓e118_45, ↓am_ilp, ↓am_iln, ↓am_iep, ↓am_ien, ↓am_zlp, ↓am_zln, ↓am_zep, ↓am_zen, ↓am_zgp, ↓am_zgn, ↓am_zhp, ↓am_zhn, ↓am_b01, true_or, true_and, and_true, or_true, if_true, if_false, ↓am_bdl_z, ↓am_bdl_s, ↓am_bsl_z, ↓am_bsl_s, ↓am_k1_i, ↓am_k1_r, ↓am_k1_e, ↓am_k1_n, ↓am_bd_s, am_k1_t, eq_self, am_nl_i, am_nl_r, am_nl_e, am_nl_n, Option.toList_some, Option.toList_none, Option.map_some, Option.map_none, List.cons_append, List.nil_append, List.length_cons, List.length_nil, List.set_cons_zero, List.set_cons_succ, List.getElem?_cons_zero, List.getElem?_cons_succ, am_bd_s, ↓am_tls, ↓am_tln, ↓mk_oc, ↓ma_r, ↓ma_w, ↓mz_r, ↓mz_w, ↓mr0, ↓mr1, ↓mr2, ↓mr3, ↓mr4, ↓mr5, ↓mr6, ↓mr7, ↓mr8, ↓mr9, ↓mr10, ↓mr11, ↓mr12, ↓mr13, ↓mr14, ↓mr15, ↓mr16, ↓mr17, ↓mr18, ↓mr19, ↓mr20, ↓mr21, ↓mr22, ↓mr23, ↓mr24, ↓mr25, ↓mr26, ↓mr27, ↓mw0, ↓mw1, ↓mw11, ↓mw12, ↓mw13, ↓mw15, ↓mw16, ↓mw17, ↓mw19, ↓mw20, ↓mw22, ↓mw25, up_eq, up_ne, up_up, si_len]
  · rw [if_neg q]
    have q1 : ¬ n = 0 := fun z => q (Or.inl z)
    have q2 : (V 106).getD 0 0 = 66 := Decidable.not_not.mp (fun z => q (Or.inr z))
    obtain ⟨S2, V2, k2, a3, a4, a5, w2, fin⟩ := X10_readText_l (C := C) l106 hn vX 50 1 0 0 0 (up (up (up (up (up (up S 16 0) 17 (-9)) 11 0) 12 0) 13 0) 16 1) V rfl h15 rfl rfl rfl rfl rfl l3 l4 l5 (by omega) (by omega) (by omega) (by omega) (by omega) (by omega)
    refine ⟨S2, V2, ⟨fun i hi => ?_, k2.2⟩, a3, a4, a5, fun E K => ?_, fun hz => ?_⟩
    · rw [k2.1 i hi, up_nm hi (by decide), up_nm hi (by decide), up_nm hi (by decide), up_nm hi (by decide), up_nm hi (by decide), up_nm hi (by decide)]
    · rw [← w2 E K]
      simp (disch := first | omega | (simp (disch := omega) only [up_eq, up_ne, si_len, List.length_set]; omega)) only [↓e118_0, ↓e118_1, ↓e118_2, ↓e118_5, ↓e118_6, ↓e118_8, ↓e118_11, ↓e118_12, ↓e118_13, ↓e118_16, ↓e118_17, ↓e118_18, ↓e118_21, ↓e118_22, ↓e118_23, ↓e118_26, ↓e118_27, ↓e118_30, ↓e118_33, ↓e118_34, ↓e118_37, ↓e118_38, ↓e118_39, ↓e118_41, ↓e118_44, ↓e118_45, ↓e118_46, ↓e118_47, ↓e118_48, ↓am_ilp, ↓am_iln, ↓am_iep, ↓am_ien, ↓am_zlp, ↓am_zln, ↓am_zep, ↓am_zen, ↓am_zgp, ↓am_zgn, ↓am_zhp, ↓am_zhn, ↓am_b01, true_or, true_and, and_true, or_true, if_true, if_false, ↓am_bdl_z, ↓am_bdl_s, ↓am_bsl_z, ↓am_bsl_s, ↓am_k1_i, ↓am_k1_r, ↓am_k1_e, ↓am_k1_n, ↓am_bd_s, am_k1_t, eq_self, am_nl_i, am_nl_r, am_nl_e, am_nl_n, Option.toList_some, Option.toList_none, Option.map_some, Option.map_none, List.cons_append, List.nil_append, List.length_cons, List.length_nil, List.set_cons_zero, List.set_cons_succ, List.getElem?_cons_zero, List.getElem?_cons_succ, am_bd_s, ↓am_tls, ↓am_tln, ↓mk_oc, ↓ma_r, ↓ma_w, ↓mz_r, ↓mz_w, ↓mr0, ↓mr1, ↓mr2, ↓mr3, ↓mr4, ↓mr5, ↓mr6, ↓mr7, ↓mr8, ↓mr9, ↓mr10, ↓mr11, ↓mr12, ↓mr13, ↓mr14, ↓mr15, ↓mr16, ↓mr17, ↓mr18, ↓mr19, ↓mr20, ↓mr21, ↓mr22, ↓mr23, ↓mr24, ↓mr25, ↓mr26, ↓mr27, ↓mw0, ↓mw1, ↓mw11, ↓mw12, ↓mw13, ↓mw15, ↓mw16, ↓mw17, ↓mw19, ↓mw20, ↓mw22, ↓mw25, up_eq, up_ne, up_up, si_len]
    · obtain ⟨d1, d2, d3, d4, d5, d6, d7, d8⟩ := fin hz
      rw [Nat.zero_add] at d1 d2 d3 d4
      exact ⟨d1, d2, d3, d4, d7, d8⟩
theorem X10_fault_w {S : Nat → Int} {V : Nat → List Int} (mt : MT S V n) : ∃ S' V', Kp [11, 12, 13, 16, 17] [103, 104, 105] S S' V V' ∧ (V' 103).length = 24 ∧ (V' 104).length = 3 ∧ (V' 105).length = 3 ∧ ∀ E K, Wp E 120 0 [some (am_r (some 96))] [] (mk C S V) K = K (some (am_i (pl_text (V 106) n).1)) (mk C S' V') := by
  obtain ⟨S', V', k, a3, a4, a5, w, -⟩ := X10_readText_w (C := C) mt
  refine ⟨S', V', k, a3, a4, a5, fun E K => ?_⟩
  simp (disch := first | omega | (simp (disch := omega) only [up_eq, up_ne, si_len, List.length_set]; omega)) only [↓e120_0, ↓e120_1, ↓e120_4, ↓am_ilp, ↓am_iln, ↓am_iep, ↓am_ien, ↓am_zlp, ↓am_zln, ↓am_zep, ↓am_zen, ↓am_zgp, ↓am_zgn, ↓am_zhp, ↓am_zhn, ↓am_b01, true_or, true_and, and_true, or_true, if_true, if_false, ↓am_bdl_z, ↓am_bdl_s, ↓am_bsl_z, ↓am_bsl_s, ↓am_k1_i, ↓am_k1_r, ↓am_k1_e, ↓am_k1_n, ↓am_bd_s, am_k1_t, eq_self, am_nl_i, am_nl_r, am_nl_e, am_nl_n, Option.toList_some, Option.toList_none, Option.map_some, Option.map_none, List.cons_append, List.nil_append, List.length_cons, List.length_nil, List.set_cons_zero, List.set_cons_succ, List.getElem?_cons_zero, List.getElem?_cons_succ, am_bd_s, ↓am_tls, ↓am_tln, ↓mk_oc, ↓ma_r, ↓ma_w, ↓mz_r, ↓mz_w, ↓mr0, ↓mr1, ↓mr2, ↓mr3, ↓mr4, ↓mr5, ↓mr6, ↓mr7, ↓mr8, ↓mr9, ↓mr10, ↓mr11, ↓mr12, ↓mr13, ↓mr14, ↓mr15, ↓mr16, ↓mr17, ↓mr18, ↓mr19, ↓mr20, ↓mr21, ↓mr22, ↓mr23, ↓mr24, ↓mr25, ↓mr26, ↓mr27, ↓mw0, ↓mw1, ↓mw11, ↓mw12, ↓mw13, ↓mw15, ↓mw16, ↓mw17, ↓mw19, ↓mw20, ↓mw22, ↓mw25, up_eq, up_ne, up_up, si_len, ↓w]
theorem X10_write_out {S : Nat → Int} {V : Nat → List Int} {x : Int} (hx : am_w x = x) (h : ¬ (0 ≤ x ∧ x ≤ 255)) (E : List (List Int)) (K : Option am_V → am_H → Prop) : Wp E 114 0 [some (am_r (some 96)), some (am_i x)] [] (mk C S V) K = K (some (am_i (-2))) (mk C S V) := by
  have r := am_w_rng x
  have q : ¬ (0 ≤ am_w x ∧ am_w x ≤ 255) := by rw [hx]; exact h
  simp (disch := first | omega | (simp (disch := omega) only [up_eq, up_ne, si_len, List.length_set]; omega)) only [↓e114_0, ↓e114_1, ↓e114_2, ↓e114_3, ↓e114_6, ↓e114_9, ↓e114_12, ↓e114_14, ↓am_ilp, ↓am_iln, ↓am_iep, ↓am_ien, ↓am_zlp, ↓am_zln, ↓am_zep, ↓am_zen, ↓am_zgp, ↓am_zgn, ↓am_zhp, ↓am_zhn, ↓am_b01, true_or, true_and, and_true, or_true, if_true, if_false, ↓am_bdl_z, ↓am_bdl_s, ↓am_bsl_z, ↓am_bsl_s, ↓am_k1_i, ↓am_k1_r, ↓am_k1_e, ↓am_k1_n, ↓am_bd_s, am_k1_t, eq_self, am_nl_i, am_nl_r, am_nl_e, am_nl_n, Option.toList_some, Option.toList_none, Option.map_some, Option.map_none, List.cons_append, List.nil_append, List.length_cons, List.length_nil, List.set_cons_zero, List.set_cons_succ, List.getElem?_cons_zero, List.getElem?_cons_succ, am_bd_s, ↓am_tls, ↓am_tln, ↓mk_oc, ↓ma_r, ↓ma_w, ↓mz_r, ↓mz_w, ↓mr0, ↓mr1, ↓mr2, ↓mr3, ↓mr4, ↓mr5, ↓mr6, ↓mr7, ↓mr8, ↓mr9, ↓mr10, ↓mr11, ↓mr12, ↓mr13, ↓mr14, ↓mr15, ↓mr16, ↓mr17, ↓mr18, ↓mr19, ↓mr20, ↓mr21, ↓mr22, ↓mr23, ↓mr24, ↓mr25, ↓mr26, ↓mr27, ↓mw0, ↓mw1, ↓mw11, ↓mw12, ↓mw13, ↓mw15, ↓mw16, ↓mw17, ↓mw19, ↓mw20, ↓mw22, ↓mw25, up_eq, up_ne, up_up, si_len, ↓X10_in_w, ↓am_ifb, ↓if_neg q]
theorem X10_write_full {S : Nat → Int} {V : Nat → List Int} {x : Int} (mt : MT S V 44) (hx : am_w x = x) (h : 0 ≤ x ∧ x ≤ 255) (E : List (List Int)) (K : Option am_V → am_H → Prop) : Wp E 114 0 [some (am_r (some 96)), some (am_i x)] [] (mk C S V) K = K (some (am_i (-4))) (mk C S V) := by
  have r := am_w_rng x
  have q : 0 ≤ am_w x ∧ am_w x ≤ 255 := by rw [hx]; exact h
  have h15 := mt.1
  simp (disch := first | omega | (simp (disch := omega) only [up_eq, up_ne, si_len, List.length_set]; omega)) only [↓e114_0, ↓e114_1, ↓e114_2, ↓e114_3, ↓e114_6, ↓e114_9, ↓e114_12, ↓e114_14, ↓e114_15, ↓e114_16, ↓e114_19, ↓e114_21, ↓e114_24, ↓e114_26, ↓am_ilp, ↓am_iln, ↓am_iep, ↓am_ien, ↓am_zlp, ↓am_zln, ↓am_zep, ↓am_zen, ↓am_zgp, ↓am_zgn, ↓am_zhp, ↓am_zhn, ↓am_b01, true_or, true_and, and_true, or_true, if_true, if_false, ↓am_bdl_z, ↓am_bdl_s, ↓am_bsl_z, ↓am_bsl_s, ↓am_k1_i, ↓am_k1_r, ↓am_k1_e, ↓am_k1_n, ↓am_bd_s, am_k1_t, eq_self, am_nl_i, am_nl_r, am_nl_e, am_nl_n, Option.toList_some, Option.toList_none, Option.map_some, Option.map_none, List.cons_append, List.nil_append, List.length_cons, List.length_nil, List.set_cons_zero, List.set_cons_succ, List.getElem?_cons_zero, List.getElem?_cons_succ, am_bd_s, ↓am_tls, ↓am_tln, ↓mk_oc, ↓ma_r, ↓ma_w, ↓mz_r, ↓mz_w, ↓mr0, ↓mr1, ↓mr2, ↓mr3, ↓mr4, ↓mr5, ↓mr6, ↓mr7, ↓mr8, ↓mr9, ↓mr10, ↓mr11, ↓mr12, ↓mr13, ↓mr14, ↓mr15, ↓mr16, ↓mr17, ↓mr18, ↓mr19, ↓mr20, ↓mr21, ↓mr22, ↓mr23, ↓mr24, ↓mr25, ↓mr26, ↓mr27, ↓mw0, ↓mw1, ↓mw11, ↓mw12, ↓mw13, ↓mw15, ↓mw16, ↓mw17, ↓mw19, ↓mw20, ↓mw22, ↓mw25, up_eq, up_ne, up_up, si_len, ↓X10_in_w, ↓am_ifb, ↓if_pos q]
theorem X10_write_w {S : Nat → Int} {V : Nat → List Int} {x : Int} (mt : MT S V n) (hn : n < 44) (hx : am_w x = x) (h : 0 ≤ x ∧ x ≤ 255) (E : List (List Int)) (K : Option am_V → am_H → Prop) : Wp E 114 0 [some (am_r (some 96)), some (am_i x)] [] (mk C S V) K = K (some (am_i ((n : Int) + 1))) (mk C (up S 15 ((n : Int) + 1)) (up V 106 ((V 106).set n x))) := by
  have r := am_w_rng x
  have q : 0 ≤ am_w x ∧ am_w x ≤ 255 := by rw [hx]; exact h
  obtain ⟨h15, -, l106, -⟩ := mt
  have e : (V 106).set n x = si (V 106) (S 15) x := by rw [h15]; rfl
  rw [e]
  simp (disch := first | omega | (simp (disch := omega) only [up_eq, up_ne, si_len, List.length_set]; omega)) only [↓e114_0, ↓e114_1, ↓e114_2, ↓e114_3, ↓e114_6, ↓e114_9, ↓e114_12, ↓e114_14, ↓e114_15, ↓e114_16, ↓e114_19, ↓e114_21, ↓e114_24, ↓e114_26, ↓e114_27, ↓e114_28, ↓e114_31, ↓e114_32, ↓e114_35, ↓e114_36, ↓e114_37, ↓e114_38, ↓e114_39, ↓e114_42, ↓e114_43, ↓e114_44, ↓e114_47, ↓e114_48, ↓e114_51, ↓am_ilp, ↓am_iln, ↓am_iep, ↓am_ien, ↓am_zlp, ↓am_zln, ↓am_zep, ↓am_zen, ↓am_zgp, ↓am_zgn, ↓am_zhp, ↓am_zhn, ↓am_b01, true_or, true_and, and_true, or_true, if_true, if_false, ↓am_bdl_z, ↓am_bdl_s, ↓am_bsl_z, ↓am_bsl_s, ↓am_k1_i, ↓am_k1_r, ↓am_k1_e, ↓am_k1_n, ↓am_bd_s, am_k1_t, eq_self, am_nl_i, am_nl_r, am_nl_e, am_nl_n, Option.toList_some, Option.toList_none, Option.map_some, Option.map_none, List.cons_append, List.nil_append, List.length_cons, List.length_nil, List.set_cons_zero, List.set_cons_succ, List.getElem?_cons_zero, List.getElem?_cons_succ, am_bd_s, ↓am_tls, ↓am_tln, ↓mk_oc, ↓ma_r, ↓ma_w, ↓mz_r, ↓mz_w, ↓mr0, ↓mr1, ↓mr2, ↓mr3, ↓mr4, ↓mr5, ↓mr6, ↓mr7, ↓mr8, ↓mr9, ↓mr10, ↓mr11, ↓mr12, ↓mr13, ↓mr14, ↓mr15, ↓mr16, ↓mr17, ↓mr18, ↓mr19, ↓mr20, ↓mr21, ↓mr22, ↓mr23, ↓mr24, ↓mr25, ↓mr26, ↓mr27, ↓mw0, ↓mw1, ↓mw11, ↓mw12, ↓mw13, ↓mw15, ↓mw16, ↓mw17, ↓mw19, ↓mw20, ↓mw22, ↓mw25, up_eq, up_ne, up_up, si_len, ↓X10_in_w, ↓am_ifb, ↓if_pos q, h15]
theorem X10_wipe_w {S : Nat → Int} {V : Nat → List Int} (mt : MT S V n) (E : List (List Int)) (K : Option am_V → am_H → Prop) : Wp E 115 0 [some (am_r (some 96)), none] [] (mk C S V) K = K (some (am_i (n : Int))) (mk C (up S 15 0) V) := by
  have h15 := mt.1
  simp (disch := first | omega | (simp (disch := omega) only [up_eq, up_ne, si_len, List.length_set]; omega)) only [↓e115_0, ↓e115_1, ↓e115_4, ↓e115_5, ↓e115_6, ↓e115_7, ↓e115_10, ↓e115_11, ↓am_ilp, ↓am_iln, ↓am_iep, ↓am_ien, ↓am_zlp, ↓am_zln, ↓am_zep, ↓am_zen, ↓am_zgp, ↓am_zgn, ↓am_zhp, ↓am_zhn, ↓am_b01, true_or, true_and, and_true, or_true, if_true, if_false, ↓am_bdl_z, ↓am_bdl_s, ↓am_bsl_z, ↓am_bsl_s, ↓am_k1_i, ↓am_k1_r, ↓am_k1_e, ↓am_k1_n, ↓am_bd_s, am_k1_t, eq_self, am_nl_i, am_nl_r, am_nl_e, am_nl_n, Option.toList_some, Option.toList_none, Option.map_some, Option.map_none, List.cons_append, List.nil_append, List.length_cons, List.length_nil, List.set_cons_zero, List.set_cons_succ, List.getElem?_cons_zero, List.getElem?_cons_succ, am_bd_s, ↓am_tls, ↓am_tln, ↓mk_oc, ↓ma_r, ↓ma_w, ↓mz_r, ↓mz_w, ↓mr0, ↓mr1, ↓mr2, ↓mr3, ↓mr4, ↓mr5, ↓mr6, ↓mr7, ↓mr8, ↓mr9, ↓mr10, ↓mr11, ↓mr12, ↓mr13, ↓mr14, ↓mr15, ↓mr16, ↓mr17, ↓mr18, ↓mr19, ↓mr20, ↓mr21, ↓mr22, ↓mr23, ↓mr24, ↓mr25, ↓mr26, ↓mr27, ↓mw0, ↓mw1, ↓mw11, ↓mw12, ↓mw13, ↓mw15, ↓mw16, ↓mw17, ↓mw19, ↓mw20, ↓mw22, ↓mw25, up_eq, up_ne, up_up, si_len, h15]
end MRE
