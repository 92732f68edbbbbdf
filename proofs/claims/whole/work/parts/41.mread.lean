/-! the model: what is read -/
theorem am_v_id {x : Int} (h1 : -9223372036854775808 ≤ x) (h2 : x ≤ 9223372036854775807) : am_v x = x := by
  unfold am_v
  exact Int64.toInt_ofInt_of_le (by omega) (by omega)
theorem am_cmp_w {x y : Int} (hx : -9223372036854775808 ≤ x ∧ x ≤ 9223372036854775807) (hy : -9223372036854775808 ≤ y ∧ y ≤ 9223372036854775807) : am_w (am_cmp x y) = if y < x then 1 else if x = y then 0 else -1 := by
  unfold am_cmp
  rw [am_v_id hx.1 hx.2, am_v_id hy.1 hy.2]
  split
  · decide
  · split <;> decide
theorem am_w_rng (x : Int) : -2147483648 ≤ am_w x ∧ am_w x ≤ 2147483647 := by
  unfold am_w
  have h1 := (Int32.ofInt x).le_toInt
  have h2 := (Int32.ofInt x).toInt_lt
  omega
theorem pl_b_w {c : Prop} [Decidable c] : am_w (pl_b c) = pl_b c := by
  unfold pl_b
  split <;> decide
theorem am_b01b {c : Prop} [Decidable c] {A B : Prop} : (if pl_b c = 0 ∨ pl_b c = 1 then A else B) = A := if_pos (pl_b01 c)
/-- how a level of the model's arrays tells a layout -/
def Ly (N : List Int) (b : Int) (L : pl_L) : Prop := L.1.length ≤ 6 ∧ gi N (b + 6) = (L.1.length : Int) ∧ (∀ i : Nat, i < L.1.length → gi N (b + (i : Int)) = ((L.1.getD i 0 : Nat) : Int)) ∧ L.2.1.length = 3 ∧ L.2.2.1.length = 3 ∧ (∀ s : Nat, s < 3 → gi N (b + 7 + (s : Int)) = L.2.1.getD s 0) ∧ (∀ s : Nat, s < 3 → gi N (b + 10 + (s : Int)) = L.2.2.1.getD s 0) ∧ gi N (b + 13) = L.2.2.2
/-- the model's arrays are of these lengths; parts as a text tells them -/
def MP (S : Nat → Int) (V : Nat → List Int) (nb ns : Nat) : Prop := S 0 = (nb : Int) ∧ S 1 = (ns : Int) ∧ nb ≤ 6 ∧ ns ≤ 3 ∧ (V 97).length = 6 ∧ (V 98).length = 6 ∧ (V 99).length = 6 ∧ (V 100).length = 6 ∧ (V 101).length = 3 ∧ (V 102).length = 28 ∧ (V 107).length = 11 ∧ PVal nb (V 97) (V 98) (V 99) (V 100) ∧ (∀ s < ns, 1 ≤ (V 101).getD s 0 ∧ (V 101).getD s 0 ≤ 3)
theorem Ly.at {N : List Int} {b i : Int} {L : pl_L} (l : Ly N b L) (h0 : 0 ≤ i) (h1 : i < L.1.length) : gi N (b + i) = ((L.1.getD i.toNat 0 : Nat) : Int) := by
  obtain ⟨k, rfl⟩ : ∃ k : Nat, i = (k : Int) := ⟨i.toNat, by omega⟩
  exact l.2.2.1 k (by omega)
theorem pl_gm {B : List Nat} {n k : Nat} (h : ∀ x ∈ B, x < n) (hk : k < B.length) : B.getD k 0 < n := by
  rw [List.getD_eq_getElem?_getD, List.getElem?_eq_getElem hk]
  exact h _ (List.getElem_mem hk)
theorem pl_ixf {q : Nat} : ∀ (B : List Nat) (i : Nat) (a : Int), B.Nodup → pl_fz (fun a k => if ((B.getD (k - (i : Int)).toNat 0 : Nat) : Int) = (q : Int) then k else a) (i : Int) B.length a = if q ∈ B then pl_ix q B i else a
  | [], i, a, _ => by simp [pl_fz]
  | x :: B, i, a, hn => by
    obtain ⟨hx, hn2⟩ := List.nodup_cons.mp hn
    rw [List.length_cons, pl_fz]
    have e0 : ((i : Int) - (i : Int)).toNat = 0 := by omega
    have ih := pl_ixf (q := q) B (i + 1) (if ((x : Nat) : Int) = (q : Int) then (i : Int) else a) hn2
    have ec : pl_fz (fun a k => if (((x :: B).getD (k - (i : Int)).toNat 0 : Nat) : Int) = (q : Int) then k else a) ((i : Int) + 1) B.length (if ((x : Nat) : Int) = (q : Int) then (i : Int) else a) = pl_fz (fun a k => if ((B.getD (k - ((i + 1 : Nat) : Int)).toNat 0 : Nat) : Int) = (q : Int) then k else a) (((i + 1 : Nat)) : Int) B.length (if ((x : Nat) : Int) = (q : Int) then (i : Int) else a) := by
      apply pl_fz_congr
      intro k h1 h2 a
      have e1 : (k - (i : Int)).toNat = (k - ((i + 1 : Nat) : Int)).toNat + 1 := by omega
      rw [e1, List.getD_cons_succ]
    rw [e0, List.getD_cons_zero, ec, ih]
    by_cases q1 : x = q
    · subst q1
      rw [if_neg hx, if_pos rfl, if_pos List.mem_cons_self, pl_ix, if_pos rfl]
    · rw [if_neg (show ¬ ((x : Nat) : Int) = (q : Int) by omega), pl_ix, if_neg q1]
      by_cases q2 : q ∈ B
      · rw [if_pos q2, if_pos (List.mem_cons_of_mem _ q2)]
      · rw [if_neg q2, if_neg (fun z => by
          rcases List.mem_cons.mp z with z | z
          · exact q1 z.symm
          · exact q2 z)]
theorem pl_bit10 : ∀ m < 1024, ∀ b < 10, am_w (am_and (am_shr ((m : Nat) : Int) ((b : Nat) : Int)) 1) = if m.testBit b then 1 else 0 := by decide +kernel
theorem pl_ones : ∀ m < 64, 0 + am_and (am_shr ((m : Nat) : Int) 0) 1 + am_and (am_shr ((m : Nat) : Int) 1) 1 + am_and (am_shr ((m : Nat) : Int) 2) 1 + am_and (am_shr ((m : Nat) : Int) 3) 1 + am_and (am_shr ((m : Nat) : Int) 4) 1 + am_and (am_shr ((m : Nat) : Int) 5) 1 = ((pl_pop m : Nat) : Int) := by decide +kernel
section MRD
variable {E : List (List Int)} {K : Option am_V → am_H → Prop} {h : am_H} {C : Nat → am_C} {S : Nat → Int} {V : Nat → List Int} {nb ns : Nat} {L : pl_L}
theorem X10_in_w {v a b : Int} (hv : -2147483648 ≤ v ∧ v ≤ 2147483647) (ha : -2147483648 ≤ a ∧ a ≤ 2147483647) (hb : -2147483648 ≤ b ∧ b ≤ 2147483647) : Wp E 111 0 [some (am_l v), none, some (am_l a), none, some (am_l b), none] [] h K = K (some (am_i (pl_b (a ≤ v ∧ v ≤ b)))) h := by
  have c1 := am_cmp_w (x := v) (y := a) (by omega) (by omega)
  have c2 := am_cmp_w (x := v) (y := b) (by omega) (by omega)
  by_cases q1 : a ≤ v
  · have d1 : ¬ am_w (am_cmp v a) < 0 := by rw [c1]; split <;> (try split) <;> omega
    by_cases q2 : v ≤ b
    · have d2 : ¬ 0 < am_w (am_cmp v b) := by rw [c2]; split <;> (try split) <;> omega
      rw [pl_b, if_pos ⟨q1, q2⟩]
      simp (disch := first | omega | (simp (disch := omega) only [up_eq, up_ne, si_len, List.length_set]; omega)) only [↓e111_0, ↓e111_1, ↓e111_2, ↓e111_3, ↓e111_6, ↓e111_7, ↓e111_9, ↓e111_10, ↓e111_13, ↓e111_14, ↓e111_17, ↓e111_18, ↓am_ilp, ↓am_iln, ↓am_iep, ↓am_ien, ↓am_zlp, ↓am_zln, ↓am_zep, ↓am_zen, ↓am_zgp, ↓am_zgn, ↓am_zhp, ↓am_zhn, ↓am_b01, true_or, true_and, and_true, or_true, if_true, if_false, ↓am_bdl_z, ↓am_bdl_s, ↓am_bsl_z, ↓am_bsl_s, ↓am_k1_i, ↓am_k1_r, ↓am_k1_e, ↓am_k1_n, ↓am_bd_s, am_k1_t, eq_self, am_nl_i, am_nl_r, am_nl_e, am_nl_n, Option.toList_some, Option.toList_none, Option.map_some, Option.map_none, List.cons_append, List.nil_append, List.length_cons, List.length_nil, List.set_cons_zero, List.set_cons_succ, List.getElem?_cons_zero, List.getElem?_cons_succ, am_bd_s, ↓if_neg d1, ↓if_neg d2]
    · have d2 : 0 < am_w (am_cmp v b) := by rw [c2, if_pos (by omega)]; decide
      rw [pl_b, if_neg (fun z => q2 z.2)]
      simp (disch := first | omega | (simp (disch := omega) only [up_eq, up_ne, si_len, List.length_set]; omega)) only [↓e111_0, ↓e111_1, ↓e111_2, ↓e111_3, ↓e111_6, ↓e111_7, ↓e111_9, ↓e111_10, ↓e111_13, ↓e111_14, ↓e111_17, ↓e111_18, ↓am_ilp, ↓am_iln, ↓am_iep, ↓am_ien, ↓am_zlp, ↓am_zln, ↓am_zep, ↓am_zen, ↓am_zgp, ↓am_zgn, ↓am_zhp, ↓am_zhn, ↓am_b01, true_or, true_and, and_true, or_true, if_true, if_false, ↓am_bdl_z, ↓am_bdl_s, ↓am_bsl_z, ↓am_bsl_s, ↓am_k1_i, ↓am_k1_r, ↓am_k1_e, ↓am_k1_n, ↓am_bd_s, am_k1_t, eq_self, am_nl_i, am_nl_r, am_nl_e, am_nl_n, Option.toList_some, Option.toList_none, Option.map_some, Option.map_none, List.cons_append, List.nil_append, List.length_cons, List.length_nil, List.set_cons_zero, List.set_cons_succ, List.getElem?_cons_zero, List.getElem?_cons_succ, am_bd_s, ↓if_neg d1, ↓if_pos d2]
  · have d1 : am_w (am_cmp v a) < 0 := by rw [c1, if_neg (by omega), if_neg (by omega)]; decide
    rw [pl_b, if_neg (fun z => q1 z.1)]
    simp (disch := first | omega | (simp (disch := omega) only [up_eq, up_ne, si_len, List.length_set]; omega)) only [↓e111_0, ↓e111_1, ↓e111_2, ↓e111_3, ↓e111_6, ↓e111_7, ↓e111_9, ↓e111_10, ↓e111_13, ↓e111_14, ↓e111_17, ↓e111_18, ↓am_ilp, ↓am_iln, ↓am_iep, ↓am_ien, ↓am_zlp, ↓am_zln, ↓am_zep, ↓am_zen, ↓am_zgp, ↓am_zgn, ↓am_zhp, ↓am_zhn, ↓am_b01, true_or, true_and, and_true, or_true, if_true, if_false, ↓am_bdl_z, ↓am_bdl_s, ↓am_bsl_z, ↓am_bsl_s, ↓am_k1_i, ↓am_k1_r, ↓am_k1_e, ↓am_k1_n, ↓am_bd_s, am_k1_t, eq_self, am_nl_i, am_nl_r, am_nl_e, am_nl_n, Option.toList_some, Option.toList_none, Option.map_some, Option.map_none, List.cons_append, List.nil_append, List.length_cons, List.length_nil, List.set_cons_zero, List.set_cons_succ, List.getElem?_cons_zero, List.getElem?_cons_succ, am_bd_s, ↓if_pos d1]
theorem X10_has_w {m k : Int} (hm : 0 ≤ m ∧ m < 1024) (hk : 0 ≤ k ∧ k < 10) : Wp E 112 0 [some (am_i m), some (am_i k)] [] h K = K (some (am_i (pl_b (m.toNat.testBit k.toNat = true)))) h := by
  obtain ⟨m, rfl⟩ : ∃ n : Nat, m = (n : Int) := ⟨m.toNat, by omega⟩
  obtain ⟨k, rfl⟩ : ∃ n : Nat, k = (n : Int) := ⟨k.toNat, by omega⟩
  have hb := pl_bit10 m (by omega) k (by omega)
  rw [Int.toNat_natCast, Int.toNat_natCast]
  by_cases q : m.testBit k = true
  · rw [if_pos q] at hb
    rw [pl_b, if_pos q]
    have d1 : am_w (am_and (am_shr (m : Int) (k : Int)) 1) = am_w 1 := by rw [hb]; decide
    simp (disch := first | omega | (simp (disch := omega) only [up_eq, up_ne, si_len, List.length_set]; omega)) only [↓e112_0, ↓e112_1, ↓e112_2, ↓e112_3, ↓e112_4, ↓e112_5, ↓e112_6, ↓e112_9, ↓e112_10, ↓e112_13, ↓e112_14, ↓am_ilp, ↓am_iln, ↓am_iep, ↓am_ien, ↓am_zlp, ↓am_zln, ↓am_zep, ↓am_zen, ↓am_zgp, ↓am_zgn, ↓am_zhp, ↓am_zhn, ↓am_b01, true_or, true_and, and_true, or_true, if_true, if_false, ↓am_bdl_z, ↓am_bdl_s, ↓am_bsl_z, ↓am_bsl_s, ↓am_k1_i, ↓am_k1_r, ↓am_k1_e, ↓am_k1_n, ↓am_bd_s, am_k1_t, eq_self, am_nl_i, am_nl_r, am_nl_e, am_nl_n, Option.toList_some, Option.toList_none, Option.map_some, Option.map_none, List.cons_append, List.nil_append, List.length_cons, List.length_nil, List.set_cons_zero, List.set_cons_succ, List.getElem?_cons_zero, List.getElem?_cons_succ, am_bd_s, ↓if_pos d1]
  · rw [if_neg q] at hb
    rw [pl_b, if_neg q]
    have d1 : ¬ am_w (am_and (am_shr (m : Int) (k : Int)) 1) = am_w 1 := by rw [hb]; decide
    simp (disch := first | omega | (simp (disch := omega) only [up_eq, up_ne, si_len, List.length_set]; omega)) only [↓e112_0, ↓e112_1, ↓e112_2, ↓e112_3, ↓e112_4, ↓e112_5, ↓e112_6, ↓e112_9, ↓e112_10, ↓e112_13, ↓e112_14, ↓am_ilp, ↓am_iln, ↓am_iep, ↓am_ien, ↓am_zlp, ↓am_zln, ↓am_zep, ↓am_zen, ↓am_zgp, ↓am_zgn, ↓am_zhp, ↓am_zhn, ↓am_b01, true_or, true_and, and_true, or_true, if_true, if_false, ↓am_bdl_z, ↓am_bdl_s, ↓am_bsl_z, ↓am_bsl_s, ↓am_k1_i, ↓am_k1_r, ↓am_k1_e, ↓am_k1_n, ↓am_bd_s, am_k1_t, eq_self, am_nl_i, am_nl_r, am_nl_e, am_nl_n, Option.toList_some, Option.toList_none, Option.map_some, Option.map_none, List.cons_append, List.nil_append, List.length_cons, List.length_nil, List.set_cons_zero, List.set_cons_succ, List.getElem?_cons_zero, List.getElem?_cons_succ, am_bd_s, ↓if_neg d1]
theorem X10_ones_w {m : Int} (hm : 0 ≤ m ∧ m < 64) : Wp E 113 0 [some (am_i m), none, none] [] h K = K (some (am_i (pl_pop m.toNat : Int))) h := by
  obtain ⟨m, rfl⟩ : ∃ n : Nat, m = (n : Int) := ⟨m.toNat, by omega⟩
  have hb := pl_ones m (by omega)
  rw [Int.toNat_natCast, ← hb]
  simp (disch := first | omega | (simp (disch := omega) only [up_eq, up_ne, si_len, List.length_set]; omega)) only [↓e113_0, ↓e113_1, ↓e113_2, ↓e113_3, ↓e113_4, ↓e113_5, ↓e113_7, ↓e113_10, ↓e113_11, ↓e113_12, ↓e113_13, ↓e113_14, ↓e113_15, ↓e113_16, ↓e113_17, ↓e113_18, ↓e113_21, ↓e113_24, ↓e113_25, ↓am_ilp, ↓am_iln, ↓am_iep, ↓am_ien, ↓am_zlp, ↓am_zln, ↓am_zep, ↓am_zen, ↓am_zgp, ↓am_zgn, ↓am_zhp, ↓am_zhn, ↓am_b01, true_or, true_and, and_true, or_true, if_true, if_false, ↓am_bdl_z, ↓am_bdl_s, ↓am_bsl_z, ↓am_bsl_s, ↓am_k1_i, ↓am_k1_r, ↓am_k1_e, ↓am_k1_n, ↓am_bd_s, am_k1_t, eq_self, am_nl_i, am_nl_r, am_nl_e, am_nl_n, Option.toList_some, Option.toList_none, Option.map_some, Option.map_none, List.cons_append, List.nil_append, List.length_cons, List.length_nil, List.set_cons_zero, List.set_cons_succ, List.getElem?_cons_zero, List.getElem?_cons_succ, am_bd_s]
  rfl
theorem X10_isBlanket_w {q : Int} (mp : MP S V nb ns) : Wp E 122 0 [some (am_r (some 96)), some (am_i q)] [] (mk C S V) K = K (some (am_i (pl_b (0 ≤ am_w q ∧ am_w q < (nb : Int))))) (mk C S V) := by
  obtain ⟨s0, s1, hnb, hns, -⟩ := mp
  have hw := am_w_rng q
  have ew : am_w (S 0 - 1) = (nb : Int) - 1 := by rw [s0]; exact am_w_id (by omega) (by omega)
  have ei := fun E K => X10_in_w (E := E) (K := K) (h := mk C S V) (v := am_w q) (a := 0) (b := (nb : Int) - 1) hw (by omega) (by omega)
  rw [pl_ba (show (0 ≤ am_w q ∧ am_w q < (nb : Int)) ↔ (0 ≤ am_w q ∧ am_w q ≤ (nb : Int) - 1) by omega)]
  simp (disch := first | omega | (simp (disch := omega) only [up_eq, up_ne, si_len, List.length_set]; omega)) only [↓e122_0, ↓e122_1, ↓e122_2, ↓e122_3, ↓e122_4, ↓e122_7, ↓e122_8, ↓e122_9, ↓e122_10, ↓e122_13, ↓am_ilp, ↓am_iln, ↓am_iep, ↓am_ien, ↓am_zlp, ↓am_zln, ↓am_zep, ↓am_zen, ↓am_zgp, ↓am_zgn, ↓am_zhp, ↓am_zhn, ↓am_b01, true_or, true_and, and_true, or_true, if_true, if_false, ↓am_bdl_z, ↓am_bdl_s, ↓am_bsl_z, ↓am_bsl_s, ↓am_k1_i, ↓am_k1_r, ↓am_k1_e, ↓am_k1_n, ↓am_bd_s, am_k1_t, eq_self, am_nl_i, am_nl_r, am_nl_e, am_nl_n, Option.toList_some, Option.toList_none, Option.map_some, Option.map_none, List.cons_append, List.nil_append, List.length_cons, List.length_nil, List.set_cons_zero, List.set_cons_succ, List.getElem?_cons_zero, List.getElem?_cons_succ, am_bd_s, ↓am_tls, ↓am_tln, ↓mk_oc, ↓ma_r, ↓ma_w, ↓mz_r, ↓mz_w, ↓mr0, ↓mr1, ↓mr2, ↓mr3, ↓mr4, ↓mr5, ↓mr6, ↓mr7, ↓mr8, ↓mr9, ↓mr10, ↓mr11, ↓mr12, ↓mr13, ↓mr14, ↓mr15, ↓mr16, ↓mr17, ↓mr18, ↓mr19, ↓mr20, ↓mr21, ↓mr22, ↓mr23, ↓mr24, ↓mr25, ↓mr26, ↓mr27, ↓mw0, ↓mw1, ↓mw11, ↓mw12, ↓mw13, ↓mw15, ↓mw16, ↓mw17, ↓mw19, ↓mw20, ↓mw22, ↓mw25, up_eq, up_ne, up_up, si_len, ew, ei, ↓am_b01b]
theorem X10_isSleeper_w {q : Int} (mp : MP S V nb ns) : Wp E 123 0 [some (am_r (some 96)), some (am_i q)] [] (mk C S V) K = K (some (am_i (pl_b (0 ≤ am_w q ∧ am_w q < (ns : Int))))) (mk C S V) := by
  obtain ⟨s0, s1, hnb, hns, -⟩ := mp
  have hw := am_w_rng q
  have ew : am_w (S 1 - 1) = (ns : Int) - 1 := by rw [s1]; exact am_w_id (by omega) (by omega)
  have ei := fun E K => X10_in_w (E := E) (K := K) (h := mk C S V) (v := am_w q) (a := 0) (b := (ns : Int) - 1) hw (by omega) (by omega)
  rw [pl_ba (show (0 ≤ am_w q ∧ am_w q < (ns : Int)) ↔ (0 ≤ am_w q ∧ am_w q ≤ (ns : Int) - 1) by omega)]
  simp (disch := first | omega | (simp (disch := omega) only [up_eq, up_ne, si_len, List.length_set]; omega)) only [↓e123_0, ↓e123_1, ↓e123_2, ↓e123_3, ↓e123_4, ↓e123_7, ↓e123_8, ↓e123_9, ↓e123_10, ↓e123_13, ↓am_ilp, ↓am_iln, ↓am_iep, ↓am_ien, ↓am_zlp, ↓am_zln, ↓am_zep, ↓am_zen, ↓am_zgp, ↓am_zgn, ↓am_zhp, ↓am_zhn, ↓am_b01, true_or, true_and, and_true, or_true, if_true, if_false, ↓am_bdl_z, ↓am_bdl_s, ↓am_bsl_z, ↓am_bsl_s, ↓am_k1_i, ↓am_k1_r, ↓am_k1_e, ↓am_k1_n, ↓am_bd_s, am_k1_t, eq_self, am_nl_i, am_nl_r, am_nl_e, am_nl_n, Option.toList_some, Option.toList_none, Option.map_some, Option.map_none, List.cons_append, List.nil_append, List.length_cons, List.length_nil, List.set_cons_zero, List.set_cons_succ, List.getElem?_cons_zero, List.getElem?_cons_succ, am_bd_s, ↓am_tls, ↓am_tln, ↓mk_oc, ↓ma_r, ↓ma_w, ↓mz_r, ↓mz_w, ↓mr0, ↓mr1, ↓mr2, ↓mr3, ↓mr4, ↓mr5, ↓mr6, ↓mr7, ↓mr8, ↓mr9, ↓mr10, ↓mr11, ↓mr12, ↓mr13, ↓mr14, ↓mr15, ↓mr16, ↓mr17, ↓mr18, ↓mr19, ↓mr20, ↓mr21, ↓mr22, ↓mr23, ↓mr24, ↓mr25, ↓mr26, ↓mr27, ↓mw0, ↓mw1, ↓mw11, ↓mw12, ↓mw13, ↓mw15, ↓mw16, ↓mw17, ↓mw19, ↓mw20, ↓mw22, ↓mw25, up_eq, up_ne, up_up, si_len, ew, ei, ↓am_b01b]
theorem X10_covers_w {q c : Int} (mp : MP S V nb ns) (hq : 0 ≤ q ∧ q < nb) (hc : 0 ≤ c ∧ c < 6) : Wp E 124 0 [some (am_r (some 96)), some (am_i q), some (am_i c)] [] (mk C S V) K = K (some (am_i (pl_b (pl_cov (V 97) (V 98) c.toNat q.toNat = true)))) (mk C S V) := by
  obtain ⟨s0, s1, hnb, hns, l97, l98, l99, l100, l101, l102, l107, pv, wv⟩ := mp
  have p1 : 0 ≤ gi (V 97) q ∧ gi (V 97) q ≤ 5 ∧ 0 ≤ gi (V 98) q ∧ gi (V 98) q ≤ 5 := by
    have := pv q.toNat (by omega)
    exact ⟨this.1, this.2.1, this.2.2.1, this.2.2.2.1⟩
  have ec : ((c.toNat : Nat) : Int) = c := by omega
  by_cases q1 : gi (V 97) q ≤ c
  · by_cases q2 : c ≤ gi (V 98) q
    · rw [pl_b, if_pos (by unfold pl_cov; rw [ec]; exact decide_eq_true ⟨q1, q2⟩)]
      simp (disch := first | omega | (simp (disch := omega) only [up_eq, up_ne, si_len, List.length_set]; omega)) only [↓e124_0, ↓e124_1, ↓e124_4, ↓e124_5, ↓e124_6, ↓e124_7, ↓e124_10, ↓e124_11, ↓e124_12, ↓e124_15, ↓e124_16, ↓e124_17, ↓e124_20, ↓e124_21, ↓e124_24, ↓e124_25, ↓am_ilp, ↓am_iln, ↓am_iep, ↓am_ien, ↓am_zlp, ↓am_zln, ↓am_zep, ↓am_zen, ↓am_zgp, ↓am_zgn, ↓am_zhp, ↓am_zhn, ↓am_b01, true_or, true_and, and_true, or_true, if_true, if_false, ↓am_bdl_z, ↓am_bdl_s, ↓am_bsl_z, ↓am_bsl_s, ↓am_k1_i, ↓am_k1_r, ↓am_k1_e, ↓am_k1_n, ↓am_bd_s, am_k1_t, eq_self, am_nl_i, am_nl_r, am_nl_e, am_nl_n, Option.toList_some, Option.toList_none, Option.map_some, Option.map_none, List.cons_append, List.nil_append, List.length_cons, List.length_nil, List.set_cons_zero, List.set_cons_succ, List.getElem?_cons_zero, List.getElem?_cons_succ, am_bd_s, ↓am_tls, ↓am_tln, ↓mk_oc, ↓ma_r, ↓ma_w, ↓mz_r, ↓mz_w, ↓mr0, ↓mr1, ↓mr2, ↓mr3, ↓mr4, ↓mr5, ↓mr6, ↓mr7, ↓mr8, ↓mr9, ↓mr10, ↓mr11, ↓mr12, ↓mr13, ↓mr14, ↓mr15, ↓mr16, ↓mr17, ↓mr18, ↓mr19, ↓mr20, ↓mr21, ↓mr22, ↓mr23, ↓mr24, ↓mr25, ↓mr26, ↓mr27, ↓mw0, ↓mw1, ↓mw11, ↓mw12, ↓mw13, ↓mw15, ↓mw16, ↓mw17, ↓mw19, ↓mw20, ↓mw22, ↓mw25, up_eq, up_ne, up_up, si_len]
    · rw [pl_b, if_neg (by unfold pl_cov; rw [ec]; exact fun z => q2 (of_decide_eq_true z).2)]
      simp (disch := first | omega | (simp (disch := omega) only [up_eq, up_ne, si_len, List.length_set]; omega)) only [↓e124_0, ↓e124_1, ↓e124_4, ↓e124_5, ↓e124_6, ↓e124_7, ↓e124_10, ↓e124_11, ↓e124_12, ↓e124_15, ↓e124_16, ↓e124_17, ↓e124_20, ↓e124_21, ↓e124_24, ↓e124_25, ↓am_ilp, ↓am_iln, ↓am_iep, ↓am_ien, ↓am_zlp, ↓am_zln, ↓am_zep, ↓am_zen, ↓am_zgp, ↓am_zgn, ↓am_zhp, ↓am_zhn, ↓am_b01, true_or, true_and, and_true, or_true, if_true, if_false, ↓am_bdl_z, ↓am_bdl_s, ↓am_bsl_z, ↓am_bsl_s, ↓am_k1_i, ↓am_k1_r, ↓am_k1_e, ↓am_k1_n, ↓am_bd_s, am_k1_t, eq_self, am_nl_i, am_nl_r, am_nl_e, am_nl_n, Option.toList_some, Option.toList_none, Option.map_some, Option.map_none, List.cons_append, List.nil_append, List.length_cons, List.length_nil, List.set_cons_zero, List.set_cons_succ, List.getElem?_cons_zero, List.getElem?_cons_succ, am_bd_s, ↓am_tls, ↓am_tln, ↓mk_oc, ↓ma_r, ↓ma_w, ↓mz_r, ↓mz_w, ↓mr0, ↓mr1, ↓mr2, ↓mr3, ↓mr4, ↓mr5, ↓mr6, ↓mr7, ↓mr8, ↓mr9, ↓mr10, ↓mr11, ↓mr12, ↓mr13, ↓mr14, ↓mr15, ↓mr16, ↓mr17, ↓mr18, ↓mr19, ↓mr20, ↓mr21, ↓mr22, ↓mr23, ↓mr24, ↓mr25, ↓mr26, ↓mr27, ↓mw0, ↓mw1, ↓mw11, ↓mw12, ↓mw13, ↓mw15, ↓mw16, ↓mw17, ↓mw19, ↓mw20, ↓mw22, ↓mw25, up_eq, up_ne, up_up, si_len]
  · rw [pl_b, if_neg (by unfold pl_cov; rw [ec]; exact fun z => q1 (of_decide_eq_true z).1)]
    simp (disch := first | omega | (simp (disch := omega) only [up_eq, up_ne, si_len, List.length_set]; omega)) only [↓e124_0, ↓e124_1, ↓e124_4, ↓e124_5, ↓e124_6, ↓e124_7, ↓e124_10, ↓e124_11, ↓e124_12, ↓e124_15, ↓e124_16, ↓e124_17, ↓e124_20, ↓e124_21, ↓e124_24, ↓e124_25, ↓am_ilp, ↓am_iln, ↓am_iep, ↓am_ien, ↓am_zlp, ↓am_zln, ↓am_zep, ↓am_zen, ↓am_zgp, ↓am_zgn, ↓am_zhp, ↓am_zhn, ↓am_b01, true_or, true_and, and_true, or_true, if_true, if_false, ↓am_bdl_z, ↓am_bdl_s, ↓am_bsl_z, ↓am_bsl_s, ↓am_k1_i, ↓am_k1_r, ↓am_k1_e, ↓am_k1_n, ↓am_bd_s, am_k1_t, eq_self, am_nl_i, am_nl_r, am_nl_e, am_nl_n, Option.toList_some, Option.toList_none, Option.map_some, Option.map_none, List.cons_append, List.nil_append, List.length_cons, List.length_nil, List.set_cons_zero, List.set_cons_succ, List.getElem?_cons_zero, List.getElem?_cons_succ, am_bd_s, ↓am_tls, ↓am_tln, ↓mk_oc, ↓ma_r, ↓ma_w, ↓mz_r, ↓mz_w, ↓mr0, ↓mr1, ↓mr2, ↓mr3, ↓mr4, ↓mr5, ↓mr6, ↓mr7, ↓mr8, ↓mr9, ↓mr10, ↓mr11, ↓mr12, ↓mr13, ↓mr14, ↓mr15, ↓mr16, ↓mr17, ↓mr18, ↓mr19, ↓mr20, ↓mr21, ↓mr22, ↓mr23, ↓mr24, ↓mr25, ↓mr26, ↓mr27, ↓mw0, ↓mw1, ↓mw11, ↓mw12, ↓mw13, ↓mw15, ↓mw16, ↓mw17, ↓mw19, ↓mw20, ↓mw22, ↓mw25, up_eq, up_ne, up_up, si_len]
theorem X10_heightOf_w {lv q : Int} (mp : MP S V nb ns) (ly : Ly (V 102) (14 * lv) L) (hlv : 0 ≤ lv ∧ lv ≤ 1) (hx : ∀ x ∈ L.1, x < nb) (hn : L.1.Nodup) (hq : 0 ≤ q ∧ q < 100) : Wp E 125 0 [some (am_r (some 96)), some (am_i lv), some (am_i q), none, none] [] (mk C S V) K = K (some (am_i (pl_ix q.toNat L.1 0))) (mk C S V) := by
  obtain ⟨s0, s1, hnb, hns, l97, l98, l99, l100, l101, l102, l107, pv, wv⟩ := mp
  have h6 := ly.1
  have hh := ly.2.1
  have lo := am_foldz (W := fun i a => Wp E 125 6 [some (am_r (some 96)), some (am_i lv), some (am_i q), some (am_i a), some (am_i i)] [] (mk C S V) K) (f := fun a i => if gi (V 102) (14 * lv + i) = q then i else a) (I := fun _ _ => True) (lo := 0) (N := (L.1.length : Int)) (by
    intro i a h0 h1 _
    refine ⟨trivial, ?_⟩
    have hg := ly.at h0 h1
    have hg2 := pl_gm hx (show i.toNat < L.1.length by omega)
    try dsimp only
    rw [e125_6]
    by_cases q1 : gi (V 102) (14 * lv + i) = q
    · rw [if_pos q1]
      simp (disch := first | omega | (simp (disch := omega) only [up_eq, up_ne, si_len, List.length_set]; omega)) only [↓e125_8, ↓e125_9, ↓e125_12, ↓e125_14, ↓e125_15, ↓e125_16, ↓e125_18, ↓e125_19, ↓e125_20, ↓e125_23, ↓e125_24, ↓e125_27, ↓e125_29, ↓e125_30, ↓e125_31, ↓e125_33, ↓e125_34, ↓e125_35, ↓e125_36, ↓e125_39, ↓e125_41, ↓e125_44, ↓e125_45, ↓e125_46, ↓e125_49, ↓am_ilp, ↓am_iln, ↓am_iep, ↓am_ien, ↓am_zlp, ↓am_zln, ↓am_zep, ↓am_zen, ↓am_zgp, ↓am_zgn, ↓am_zhp, ↓am_zhn, ↓am_b01, true_or, true_and, and_true, or_true, if_true, if_false, ↓am_bdl_z, ↓am_bdl_s, ↓am_bsl_z, ↓am_bsl_s, ↓am_k1_i, ↓am_k1_r, ↓am_k1_e, ↓am_k1_n, ↓am_bd_s, am_k1_t, eq_self, am_nl_i, am_nl_r, am_nl_e, am_nl_n, Option.toList_some, Option.toList_none, Option.map_some, Option.map_none, List.cons_append, List.nil_append, List.length_cons, List.length_nil, List.set_cons_zero, List.set_cons_succ, List.getElem?_cons_zero, List.getElem?_cons_succ, am_bd_s, ↓am_tls, ↓am_tln, ↓mk_oc, ↓ma_r, ↓ma_w, ↓mz_r, ↓mz_w, ↓mr0, ↓mr1, ↓mr2, ↓mr3, ↓mr4, ↓mr5, ↓mr6, ↓mr7, ↓mr8, ↓mr9, ↓mr10, ↓mr11, ↓mr12, ↓mr13, ↓mr14, ↓mr15, ↓mr16, ↓mr17, ↓mr18, ↓mr19, ↓mr20, ↓mr21, ↓mr22, ↓mr23, ↓mr24, ↓mr25, ↓mr26, ↓mr27, ↓mw0, ↓mw1, ↓mw11, ↓mw12, ↓mw13, ↓mw15, ↓mw16, ↓mw17, ↓mw19, ↓mw20, ↓mw22, ↓mw25, up_eq, up_ne, up_up, si_len]
    · rw [if_neg q1]
      simp (disch := first | omega | (simp (disch := omega) only [up_eq, up_ne, si_len, List.length_set]; omega)) only [↓e125_8, ↓e125_9, ↓e125_12, ↓e125_14, ↓e125_15, ↓e125_16, ↓e125_18, ↓e125_19, ↓e125_20, ↓e125_23, ↓e125_24, ↓e125_27, ↓e125_29, ↓e125_30, ↓e125_31, ↓e125_33, ↓e125_34, ↓e125_35, ↓e125_36, ↓e125_39, ↓e125_41, ↓e125_44, ↓e125_45, ↓e125_46, ↓e125_49, ↓am_ilp, ↓am_iln, ↓am_iep, ↓am_ien, ↓am_zlp, ↓am_zln, ↓am_zep, ↓am_zen, ↓am_zgp, ↓am_zgn, ↓am_zhp, ↓am_zhn, ↓am_b01, true_or, true_and, and_true, or_true, if_true, if_false, ↓am_bdl_z, ↓am_bdl_s, ↓am_bsl_z, ↓am_bsl_s, ↓am_k1_i, ↓am_k1_r, ↓am_k1_e, ↓am_k1_n, ↓am_bd_s, am_k1_t, eq_self, am_nl_i, am_nl_r, am_nl_e, am_nl_n, Option.toList_some, Option.toList_none, Option.map_some, Option.map_none, List.cons_append, List.nil_append, List.length_cons, List.length_nil, List.set_cons_zero, List.set_cons_succ, List.getElem?_cons_zero, List.getElem?_cons_succ, am_bd_s, ↓am_tls, ↓am_tln, ↓mk_oc, ↓ma_r, ↓ma_w, ↓mz_r, ↓mz_w, ↓mr0, ↓mr1, ↓mr2, ↓mr3, ↓mr4, ↓mr5, ↓mr6, ↓mr7, ↓mr8, ↓mr9, ↓mr10, ↓mr11, ↓mr12, ↓mr13, ↓mr14, ↓mr15, ↓mr16, ↓mr17, ↓mr18, ↓mr19, ↓mr20, ↓mr21, ↓mr22, ↓mr23, ↓mr24, ↓mr25, ↓mr26, ↓mr27, ↓mw0, ↓mw1, ↓mw11, ↓mw12, ↓mw13, ↓mw15, ↓mw16, ↓mw17, ↓mw19, ↓mw20, ↓mw22, ↓mw25, up_eq, up_ne, up_up, si_len]) L.1.length 0 (-9) (by omega) (by omega) trivial
  have e1 : pl_fz (fun a i => if gi (V 102) (14 * lv + i) = q then i else a) 0 L.1.length (-9) = pl_ix q.toNat L.1 0 := by
    have h1 := pl_ixf (q := q.toNat) L.1 0 (-9) hn
    rw [pl_fz_congr (g := fun a k => if ((L.1.getD (k - ((0 : Nat) : Int)).toNat 0 : Nat) : Int) = (q.toNat : Int) then k else a) L.1.length 0 (-9) (fun k h1 h2 a => by
      rw [ly.at h1 (by omega)]
      have e3 : (k - ((0 : Nat) : Int)).toNat = k.toNat := by omega
      have e4 : ((q.toNat : Nat) : Int) = q := by omega
      rw [e3, e4])]
    refine Eq.trans h1 ?_
    by_cases q2 : q.toNat ∈ L.1
    · rw [if_pos q2]
    · rw [if_neg q2, pl_ix_no q2]
  rw [← e1]
  simp (disch := first | omega | (simp (disch := omega) only [up_eq, up_ne, si_len, List.length_set]; omega)) only [↓e125_0, ↓e125_2, ↓e125_3, ↓e125_4, ↓am_ilp, ↓am_iln, ↓am_iep, ↓am_ien, ↓am_zlp, ↓am_zln, ↓am_zep, ↓am_zen, ↓am_zgp, ↓am_zgn, ↓am_zhp, ↓am_zhn, ↓am_b01, true_or, true_and, and_true, or_true, if_true, if_false, ↓am_bdl_z, ↓am_bdl_s, ↓am_bsl_z, ↓am_bsl_s, ↓am_k1_i, ↓am_k1_r, ↓am_k1_e, ↓am_k1_n, ↓am_bd_s, am_k1_t, eq_self, am_nl_i, am_nl_r, am_nl_e, am_nl_n, Option.toList_some, Option.toList_none, Option.map_some, Option.map_none, List.cons_append, List.nil_append, List.length_cons, List.length_nil, List.set_cons_zero, List.set_cons_succ, List.getElem?_cons_zero, List.getElem?_cons_succ, am_bd_s]
  refine Eq.trans lo.1 ?_
  try dsimp only
  rw [e125_6]
  simp (disch := first | omega | (simp (disch := omega) only [up_eq, up_ne, si_len, List.length_set]; omega)) only [↓e125_8, ↓e125_9, ↓e125_12, ↓e125_14, ↓e125_15, ↓e125_16, ↓e125_18, ↓e125_19, ↓e125_20, ↓e125_52, ↓e125_53, ↓am_ilp, ↓am_iln, ↓am_iep, ↓am_ien, ↓am_zlp, ↓am_zln, ↓am_zep, ↓am_zen, ↓am_zgp, ↓am_zgn, ↓am_zhp, ↓am_zhn, ↓am_b01, true_or, true_and, and_true, or_true, if_true, if_false, ↓am_bdl_z, ↓am_bdl_s, ↓am_bsl_z, ↓am_bsl_s, ↓am_k1_i, ↓am_k1_r, ↓am_k1_e, ↓am_k1_n, ↓am_bd_s, am_k1_t, eq_self, am_nl_i, am_nl_r, am_nl_e, am_nl_n, Option.toList_some, Option.toList_none, Option.map_some, Option.map_none, List.cons_append, List.nil_append, List.length_cons, List.length_nil, List.set_cons_zero, List.set_cons_succ, List.getElem?_cons_zero, List.getElem?_cons_succ, am_bd_s, ↓am_tls, ↓am_tln, ↓mk_oc, ↓ma_r, ↓ma_w, ↓mz_r, ↓mz_w, ↓mr0, ↓mr1, ↓mr2, ↓mr3, ↓mr4, ↓mr5, ↓mr6, ↓mr7, ↓mr8, ↓mr9, ↓mr10, ↓mr11, ↓mr12, ↓mr13, ↓mr14, ↓mr15, ↓mr16, ↓mr17, ↓mr18, ↓mr19, ↓mr20, ↓mr21, ↓mr22, ↓mr23, ↓mr24, ↓mr25, ↓mr26, ↓mr27, ↓mw0, ↓mw1, ↓mw11, ↓mw12, ↓mw13, ↓mw15, ↓mw16, ↓mw17, ↓mw19, ↓mw20, ↓mw22, ↓mw25, up_eq, up_ne, up_up, si_len]
end MRD
