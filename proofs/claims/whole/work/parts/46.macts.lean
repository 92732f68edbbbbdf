/-! the model: turns and nights -/
theorem am_loopz {X α : Type} {W : X → Int → α → Prop} {I : Int → α → Prop} {lo N : Int} (st : ∀ i a, lo ≤ i → i < N → I i a → ∃ a', I (i + 1) a' ∧ ∀ x, W x i a = W x (i + 1) a') : ∀ (n : Nat) (i : Int) (a : α), lo ≤ i → i + n = N → I i a → ∃ a', I N a' ∧ ∀ x, W x i a = W x N a'
  | 0, i, a, h0, e, hI => by
    have e1 : i = N := by omega
    subst e1
    exact ⟨a, hI, fun _ => rfl⟩
  | n + 1, i, a, h0, e, hI => by
    obtain ⟨a1, h1, w1⟩ := st i a h0 (by omega) hI
    obtain ⟨a2, h2, w2⟩ := am_loopz st n (i + 1) a1 (by omega) (by omega) h1
    exact ⟨a2, h2, fun x => (w1 x).trans (w2 x)⟩
theorem up_c7 {V : Nat → List Int} {o b : List Int} : up (up V 107 o) 102 b = up (up V 102 b) 107 o := up_com (by decide)
theorem up_v2 {V : Nat → List Int} : up (up V 102 (V 102)) 107 (V 107) = V := by rw [up_same, up_same]
theorem pl_who_no {A wi : List Int} {c : Int} : ∀ {l : List Nat}, pl_who A wi c l = -9 ↔ ∀ t ∈ l, ¬ (A.getD t 0 ≤ c ∧ c < A.getD t 0 + wi.getD t 0)
  | [] => by simp [pl_who]
  | s :: l => by
    rw [pl_who]
    by_cases q : A.getD s 0 ≤ c ∧ c < A.getD s 0 + wi.getD s 0
    · rw [if_pos q]
      constructor
      · intro h; omega
      · intro h; exact absurd q (h s List.mem_cons_self)
    · rw [if_neg q, pl_who_no]
      constructor
      · intro h t ht
        rcases List.mem_cons.mp ht with z | z
        · rw [z]; exact q
        · exact h t z
      · intro h t ht
        exact h t (List.mem_cons_of_mem _ ht)
theorem pl_who_s {A wi : List Int} {c : Int} {s : Nat} : ∀ {l : List Nat}, pl_who A wi c l = (s : Int) → A.getD s 0 ≤ c ∧ c < A.getD s 0 + wi.getD s 0
  | [], h => by rw [pl_who] at h; omega
  | t :: l, h => by
    rw [pl_who] at h
    split at h
    · rename_i q
      have e : t = s := by omega
      subst e
      exact q
    · exact pl_who_s h
theorem pl_who_is {A wi : List Int} {c : Int} {s ns : Nat} (dj : Dj ns wi A) (hs : s < ns) (h : A.getD s 0 ≤ c ∧ c < A.getD s 0 + wi.getD s 0) : ∀ {l : List Nat}, (∀ t ∈ l, t < ns) → s ∈ l → pl_who A wi c l = (s : Int)
  | [], _, hm => by cases hm
  | t :: l, hl, hm => by
    rw [pl_who]
    by_cases q : A.getD t 0 ≤ c ∧ c < A.getD t 0 + wi.getD t 0
    · rw [if_pos q]
      have ht := hl t List.mem_cons_self
      rcases Nat.lt_trichotomy s t with z | z | z
      · have := dj t ht s z; omega
      · rw [z]
      · have := dj s hs t z; omega
    · rw [if_neg q]
      rcases List.mem_cons.mp hm with z | z
      · subst z; exact absurd h q
      · exact pl_who_is dj hs h (fun u hu => hl u (List.mem_cons_of_mem _ hu)) z
theorem pl_may_gen {A wi : List Int} {ns s : Nat} {f n : Int} (ao : AtOk ns wi A) (dj : Dj ns wi A) (hs : s < ns) (hw : 1 ≤ wi.getD s 0 ∧ wi.getD s 0 ≤ 3) (hf : (f = A.getD s 0 + 1 ∧ n = A.getD s 0 + wi.getD s 0) ∨ (f = A.getD s 0 - 1 ∧ n = A.getD s 0 - 1)) : pl_may ns wi A s f = true ↔ (0 ≤ n ∧ n ≤ 5 ∧ pl_who A wi n (List.range' 0 ns) = -9) := by
  have h1 := ao s hs
  unfold pl_may pl_free
  rw [Bool.and_eq_true, decide_eq_true_iff, List.all_eq_true]
  constructor
  · rintro ⟨h2, h3⟩
    have h4 := h3 n.toNat (by rw [List.mem_range'_1]; omega)
    rw [decide_eq_true_iff, show ((n.toNat : Nat) : Int) = n by omega] at h4
    refine ⟨by omega, by omega, ?_⟩
    rcases h4 with h4 | h4
    · exact h4
    · have := pl_who_s h4
      omega
  · rintro ⟨h2, h3, h4⟩
    refine ⟨by omega, fun c hc => ?_⟩
    rw [List.mem_range'_1] at hc
    rw [decide_eq_true_iff]
    by_cases q : (c : Int) = n
    · rw [q]; exact Or.inl h4
    · exact Or.inr (pl_who_is dj hs (by omega) (fun t ht => by rw [List.mem_range'_1] at ht; omega) (by rw [List.mem_range'_1]; omega))
theorem Dj.mv {A wi : List Int} {ns s : Nat} {f n : Int} (l3 : A.length = 3) (h3 : ns ≤ 3) (ao : AtOk ns wi A) (dj : Dj ns wi A) (hs : s < ns) (hwi : ∀ s < ns, 1 ≤ wi.getD s 0 ∧ wi.getD s 0 ≤ 3) (hf : (f = A.getD s 0 + 1 ∧ n = A.getD s 0 + wi.getD s 0) ∨ (f = A.getD s 0 - 1 ∧ n = A.getD s 0 - 1)) (hm : pl_may ns wi A s f = true) : Dj ns wi (A.set s f) := by
  obtain ⟨h1, h2, h4⟩ := (pl_may_gen ao dj hs (hwi s hs) hf).mp hm
  have h5 := pl_who_no.mp h4
  have g1 : (A.set s f).getD s 0 = f := by rw [List.getD_eq_getElem?_getD, List.getElem?_set_self (by omega)]; rfl
  have g2 : ∀ t, t ≠ s → (A.set s f).getD t 0 = A.getD t 0 := fun t ht => by rw [List.getD_eq_getElem?_getD, List.getElem?_set_ne (Ne.symm ht), ← List.getD_eq_getElem?_getD]
  intro u hu t ht
  have wt := hwi t (by omega)
  have wu := hwi u hu
  have d := dj u hu t ht
  by_cases q1 : u = s
  · subst q1
    rw [g1, g2 t (by omega)]
    have := h5 t (by rw [List.mem_range'_1]; omega)
    omega
  · by_cases q2 : t = s
    · subst q2
      rw [g1, g2 u q1]
      have := h5 u (by rw [List.mem_range'_1]; omega)
      omega
    · rw [g2 u q1, g2 t q2]
      exact d
theorem pl_do_dj {nb ns : Nat} {fr la ce ki wi : List Int} {L L' : pl_L} {k b : Nat} (l3 : L.2.1.length = 3) (h3 : ns ≤ 3) (wf : WfL nb ns wi L) (hwi : ∀ s < ns, 1 ≤ wi.getD s 0 ∧ wi.getD s 0 ≤ 3) (dj : Dj ns wi L.2.1) (e : pl_do nb ns fr la ce ki wi L k b = some L') : Dj ns wi L'.2.1 := by
  match k, e with
  | 0, e => rw [pl_do] at e; split at e <;> cases e; exact dj
  | 1, e => rw [pl_do] at e; split at e <;> cases e; exact dj
  | 2, e => rw [pl_do] at e; split at e <;> cases e; exact dj
  | 3, e => rw [pl_do] at e; split at e <;> cases e; exact dj
  | 4, e =>
    rw [pl_do] at e
    split at e
    · rename_i q
      cases e
      exact dj.mv l3 h3 wf.2.2 q.1 hwi (Or.inl ⟨rfl, rfl⟩) q.2
    · cases e
  | 5, e =>
    rw [pl_do] at e
    split at e
    · rename_i q
      cases e
      exact dj.mv l3 h3 wf.2.2 q.1 hwi (Or.inr ⟨rfl, rfl⟩) q.2
    · cases e
  | k + 6, e =>
    have ed : pl_do nb ns fr la ce ki wi L (k + 6) b = none := by rw [pl_do] <;> omega
    rw [ed] at e
    cases e
section MAC
variable {C : Nat → am_C} {S : Nat → Int} {V : Nat → List Int} {nb ns : Nat} {L : pl_L}
theorem X10_canTurn_1 {E : List (List Int)} {K : Option am_V → am_H → Prop} {lv s : Int} (mp : MP S V nb ns) (ly : Ly (V 102) (14 * lv) L) (hlv : 0 ≤ lv ∧ lv ≤ 1) (wf : WfL nb ns (V 101) L) (dj : Dj ns (V 101) L.2.1) (hs : 0 ≤ s ∧ s < ns) : Wp E 136 0 [some (am_r (some 96)), some (am_i lv), some (am_i s), some (am_i 1), none, none] [] (mk C S V) K = K (some (am_i (pl_b (pl_may ns (V 101) L.2.1 s.toNat (L.2.1.getD s.toNat 0 + 1) = true)))) (mk C S V) := by
  obtain ⟨s0, s1, hnb, hns, l97, l98, l99, l100, l101, l102, l107, pv, wv⟩ := id mp
  have h1 := wv s.toNat (by omega)
  have h2 := wf.2.2 s.toNat (by omega)
  have h3 := ly.2.2.2.2.2.1 s.toNat (by omega)
  rw [show ((s.toNat : Nat) : Int) = s by omega] at h3
  have g1 : gi (V 101) s = (V 101).getD s.toNat 0 := rfl
  have r1 := am_w_rng (gi (V 102) (14 * lv + 7 + s) + gi (V 101) s)
  have w1 : am_w (gi (V 102) (14 * lv + 7 + s) + gi (V 101) s) = gi (V 102) (14 * lv + 7 + s) + gi (V 101) s := am_w_id (by omega) (by omega)
  have hr := pl_who_rng (A := L.2.1) (wi := V 101) (c := gi (V 102) (14 * lv + 7 + s) + gi (V 101) s) (l := List.range' 0 ns) (fun t ht => by rw [List.mem_range'_1] at ht; omega)
  rw [pl_ba (pl_may_gen wf.2.2 dj (by omega) h1 (Or.inl ⟨rfl, rfl⟩)), ← g1, ← h3]
  by_cases q1 : 0 ≤ am_w (gi (V 102) (14 * lv + 7 + s) + gi (V 101) s) ∧ am_w (gi (V 102) (14 * lv + 7 + s) + gi (V 101) s) ≤ 5
  · by_cases q2 : pl_who L.2.1 (V 101) (gi (V 102) (14 * lv + 7 + s) + gi (V 101) s) (List.range' 0 ns) = -9
    · rw [pl_b, if_pos ⟨by omega, by omega, q2⟩]
      simp (disch := first | omega | (simp (disch := omega) only [up_eq, up_ne, si_len, List.length_set]; omega)) only [↓e136_0, ↓e136_1, ↓e136_4, ↓e136_6, ↓e136_7, ↓e136_8, ↓e136_10, ↓e136_11, ↓e136_12, ↓e136_13, ↓e136_14, ↓e136_16, ↓e136_17, ↓e136_18, ↓e136_21, ↓e136_23, ↓e136_24, ↓e136_27, ↓e136_28, ↓e136_29, ↓e136_30, ↓e136_33, ↓e136_35, ↓e136_36, ↓e136_37, ↓e136_39, ↓e136_41, ↓e136_42, ↓e136_43, ↓e136_46, ↓e136_49, ↓e136_52, ↓e136_53, ↓e136_54, ↓e136_56, ↓e136_59, ↓e136_61, ↓e136_64, ↓e136_65, ↓e136_68, ↓e136_69, ↓am_ilp, ↓am_iln, ↓am_iep, ↓am_ien, ↓am_zlp, ↓am_zln, ↓am_zep, ↓am_zen, ↓am_zgp, ↓am_zgn, ↓am_zhp, ↓am_zhn, ↓am_b01, true_or, true_and, and_true, or_true, if_true, if_false, ↓am_bdl_z, ↓am_bdl_s, ↓am_bsl_z, ↓am_bsl_s, ↓am_k1_i, ↓am_k1_r, ↓am_k1_e, ↓am_k1_n, ↓am_bd_s, am_k1_t, eq_self, am_nl_i, am_nl_r, am_nl_e, am_nl_n, Option.toList_some, Option.toList_none, Option.map_some, Option.map_none, List.cons_append, List.nil_append, List.length_cons, List.length_nil, List.set_cons_zero, List.set_cons_succ, List.getElem?_cons_zero, List.getElem?_cons_succ, am_bd_s, ↓am_tls, ↓am_tln, ↓mk_oc, ↓ma_r, ↓ma_w, ↓mz_r, ↓mz_w, ↓mr0, ↓mr1, ↓mr2, ↓mr3, ↓mr4, ↓mr5, ↓mr6, ↓mr7, ↓mr8, ↓mr9, ↓mr10, ↓mr11, ↓mr12, ↓mr13, ↓mr14, ↓mr15, ↓mr16, ↓mr17, ↓mr18, ↓mr19, ↓mr20, ↓mr21, ↓mr22, ↓mr23, ↓mr24, ↓mr25, ↓mr26, ↓mr27, ↓mw0, ↓mw1, ↓mw11, ↓mw12, ↓mw13, ↓mw15, ↓mw16, ↓mw17, ↓mw19, ↓mw20, ↓mw22, ↓mw25, up_eq, up_ne, up_up, si_len, ↓X10_in_w, ↓am_ifb, ↓if_pos q1, ↓X10_whoIsOn_w mp ly hlv wf dj]
    · rw [pl_b, if_neg (fun z => q2 z.2.2)]
      simp (disch := first | omega | (simp (disch := omega) only [up_eq, up_ne, si_len, List.length_set]; omega)) only [↓e136_0, ↓e136_1, ↓e136_4, ↓e136_6, ↓e136_7, ↓e136_8, ↓e136_10, ↓e136_11, ↓e136_12, ↓e136_13, ↓e136_14, ↓e136_16, ↓e136_17, ↓e136_18, ↓e136_21, ↓e136_23, ↓e136_24, ↓e136_27, ↓e136_28, ↓e136_29, ↓e136_30, ↓e136_33, ↓e136_35, ↓e136_36, ↓e136_37, ↓e136_39, ↓e136_41, ↓e136_42, ↓e136_43, ↓e136_46, ↓e136_49, ↓e136_52, ↓e136_53, ↓e136_54, ↓e136_56, ↓e136_59, ↓e136_61, ↓e136_64, ↓e136_65, ↓e136_68, ↓e136_69, ↓am_ilp, ↓am_iln, ↓am_iep, ↓am_ien, ↓am_zlp, ↓am_zln, ↓am_zep, ↓am_zen, ↓am_zgp, ↓am_zgn, ↓am_zhp, ↓am_zhn, ↓am_b01, true_or, true_and, and_true, or_true, if_true, if_false, ↓am_bdl_z, ↓am_bdl_s, ↓am_bsl_z, ↓am_bsl_s, ↓am_k1_i, ↓am_k1_r, ↓am_k1_e, ↓am_k1_n, ↓am_bd_s, am_k1_t, eq_self, am_nl_i, am_nl_r, am_nl_e, am_nl_n, Option.toList_some, Option.toList_none, Option.map_some, Option.map_none, List.cons_append, List.nil_append, List.length_cons, List.length_nil, List.set_cons_zero, List.set_cons_succ, List.getElem?_cons_zero, List.getElem?_cons_succ, am_bd_s, ↓am_tls, ↓am_tln, ↓mk_oc, ↓ma_r, ↓ma_w, ↓mz_r, ↓mz_w, ↓mr0, ↓mr1, ↓mr2, ↓mr3, ↓mr4, ↓mr5, ↓mr6, ↓mr7, ↓mr8, ↓mr9, ↓mr10, ↓mr11, ↓mr12, ↓mr13, ↓mr14, ↓mr15, ↓mr16, ↓mr17, ↓mr18, ↓mr19, ↓mr20, ↓mr21, ↓mr22, ↓mr23, ↓mr24, ↓mr25, ↓mr26, ↓mr27, ↓mw0, ↓mw1, ↓mw11, ↓mw12, ↓mw13, ↓mw15, ↓mw16, ↓mw17, ↓mw19, ↓mw20, ↓mw22, ↓mw25, up_eq, up_ne, up_up, si_len, ↓X10_in_w, ↓am_ifb, ↓if_pos q1, ↓X10_whoIsOn_w mp ly hlv wf dj]
  · rw [pl_b, if_neg (by omega)]
    simp (disch := first | omega | (simp (disch := omega) only [up_eq, up_ne, si_len, List.length_set]; omega)) only [↓e136_0, ↓e136_1, ↓e136_4, ↓e136_6, ↓e136_7, ↓e136_8, ↓e136_10, ↓e136_11, ↓e136_12, ↓e136_13, ↓e136_14, ↓e136_16, ↓e136_17, ↓e136_18, ↓e136_21, ↓e136_23, ↓e136_24, ↓e136_27, ↓e136_28, ↓e136_29, ↓e136_30, ↓e136_33, ↓e136_35, ↓e136_36, ↓e136_37, ↓e136_39, ↓e136_41, ↓e136_42, ↓e136_43, ↓e136_46, ↓e136_49, ↓e136_52, ↓e136_53, ↓e136_54, ↓e136_56, ↓e136_59, ↓e136_61, ↓e136_64, ↓e136_65, ↓e136_68, ↓e136_69, ↓am_ilp, ↓am_iln, ↓am_iep, ↓am_ien, ↓am_zlp, ↓am_zln, ↓am_zep, ↓am_zen, ↓am_zgp, ↓am_zgn, ↓am_zhp, ↓am_zhn, ↓am_b01, true_or, true_and, and_true, or_true, if_true, if_false, ↓am_bdl_z, ↓am_bdl_s, ↓am_bsl_z, ↓am_bsl_s, ↓am_k1_i, ↓am_k1_r, ↓am_k1_e, ↓am_k1_n, ↓am_bd_s, am_k1_t, eq_self, am_nl_i, am_nl_r, am_nl_e, am_nl_n, Option.toList_some, Option.toList_none, Option.map_some, Option.map_none, List.cons_append, List.nil_append, List.length_cons, List.length_nil, List.set_cons_zero, List.set_cons_succ, List.getElem?_cons_zero, List.getElem?_cons_succ, am_bd_s, ↓am_tls, ↓am_tln, ↓mk_oc, ↓ma_r, ↓ma_w, ↓mz_r, ↓mz_w, ↓mr0, ↓mr1, ↓mr2, ↓mr3, ↓mr4, ↓mr5, ↓mr6, ↓mr7, ↓mr8, ↓mr9, ↓mr10, ↓mr11, ↓mr12, ↓mr13, ↓mr14, ↓mr15, ↓mr16, ↓mr17, ↓mr18, ↓mr19, ↓mr20, ↓mr21, ↓mr22, ↓mr23, ↓mr24, ↓mr25, ↓mr26, ↓mr27, ↓mw0, ↓mw1, ↓mw11, ↓mw12, ↓mw13, ↓mw15, ↓mw16, ↓mw17, ↓mw19, ↓mw20, ↓mw22, ↓mw25, up_eq, up_ne, up_up, si_len, ↓X10_in_w, ↓am_ifb, ↓if_neg q1]
theorem X10_canTurn_2 {E : List (List Int)} {K : Option am_V → am_H → Prop} {lv s : Int} (mp : MP S V nb ns) (ly : Ly (V 102) (14 * lv) L) (hlv : 0 ≤ lv ∧ lv ≤ 1) (wf : WfL nb ns (V 101) L) (dj : Dj ns (V 101) L.2.1) (hs : 0 ≤ s ∧ s < ns) : Wp E 136 0 [some (am_r (some 96)), some (am_i lv), some (am_i s), some (am_i 2), none, none] [] (mk C S V) K = K (some (am_i (pl_b (pl_may ns (V 101) L.2.1 s.toNat (L.2.1.getD s.toNat 0 - 1) = true)))) (mk C S V) := by
  obtain ⟨s0, s1, hnb, hns, l97, l98, l99, l100, l101, l102, l107, pv, wv⟩ := id mp
  have h1 := wv s.toNat (by omega)
  have h2 := wf.2.2 s.toNat (by omega)
  have h3 := ly.2.2.2.2.2.1 s.toNat (by omega)
  rw [show ((s.toNat : Nat) : Int) = s by omega] at h3
  have r1 := am_w_rng (gi (V 102) (14 * lv + 7 + s) - 1)
  have w1 : am_w (gi (V 102) (14 * lv + 7 + s) - 1) = gi (V 102) (14 * lv + 7 + s) - 1 := am_w_id (by omega) (by omega)
  have hr := pl_who_rng (A := L.2.1) (wi := V 101) (c := gi (V 102) (14 * lv + 7 + s) - 1) (l := List.range' 0 ns) (fun t ht => by rw [List.mem_range'_1] at ht; omega)
  rw [pl_ba (pl_may_gen wf.2.2 dj (by omega) h1 (Or.inr ⟨rfl, rfl⟩)), ← h3]
  by_cases q1 : 0 ≤ am_w (gi (V 102) (14 * lv + 7 + s) - 1) ∧ am_w (gi (V 102) (14 * lv + 7 + s) - 1) ≤ 5
  · by_cases q2 : pl_who L.2.1 (V 101) (gi (V 102) (14 * lv + 7 + s) - 1) (List.range' 0 ns) = -9
    · rw [pl_b, if_pos ⟨by omega, by omega, q2⟩]
      simp (disch := first | omega | (simp (disch := omega) only [up_eq, up_ne, si_len, List.length_set]; omega)) only [↓e136_0, ↓e136_1, ↓e136_4, ↓e136_6, ↓e136_7, ↓e136_8, ↓e136_10, ↓e136_11, ↓e136_12, ↓e136_13, ↓e136_14, ↓e136_16, ↓e136_17, ↓e136_18, ↓e136_21, ↓e136_23, ↓e136_24, ↓e136_27, ↓e136_28, ↓e136_29, ↓e136_30, ↓e136_33, ↓e136_35, ↓e136_36, ↓e136_37, ↓e136_39, ↓e136_41, ↓e136_42, ↓e136_43, ↓e136_46, ↓e136_49, ↓e136_52, ↓e136_53, ↓e136_54, ↓e136_56, ↓e136_59, ↓e136_61, ↓e136_64, ↓e136_65, ↓e136_68, ↓e136_69, ↓am_ilp, ↓am_iln, ↓am_iep, ↓am_ien, ↓am_zlp, ↓am_zln, ↓am_zep, ↓am_zen, ↓am_zgp, ↓am_zgn, ↓am_zhp, ↓am_zhn, ↓am_b01, true_or, true_and, and_true, or_true, if_true, if_false, ↓am_bdl_z, ↓am_bdl_s, ↓am_bsl_z, ↓am_bsl_s, ↓am_k1_i, ↓am_k1_r, ↓am_k1_e, ↓am_k1_n, ↓am_bd_s, am_k1_t, eq_self, am_nl_i, am_nl_r, am_nl_e, am_nl_n, Option.toList_some, Option.toList_none, Option.map_some, Option.map_none, List.cons_append, List.nil_append, List.length_cons, List.length_nil, List.set_cons_zero, List.set_cons_succ, List.getElem?_cons_zero, List.getElem?_cons_succ, am_bd_s, ↓am_tls, ↓am_tln, ↓mk_oc, ↓ma_r, ↓ma_w, ↓mz_r, ↓mz_w, ↓mr0, ↓mr1, ↓mr2, ↓mr3, ↓mr4, ↓mr5, ↓mr6, ↓mr7, ↓mr8, ↓mr9, ↓mr10, ↓mr11, ↓mr12, ↓mr13, ↓mr14, ↓mr15, ↓mr16, ↓mr17, ↓mr18, ↓mr19, ↓mr20, ↓mr21, ↓mr22, ↓mr23, ↓mr24, ↓mr25, ↓mr26, ↓mr27, ↓mw0, ↓mw1, ↓mw11, ↓mw12, ↓mw13, ↓mw15, ↓mw16, ↓mw17, ↓mw19, ↓mw20, ↓mw22, ↓mw25, up_eq, up_ne, up_up, si_len, ↓X10_in_w, ↓am_ifb, ↓if_pos q1, ↓X10_whoIsOn_w mp ly hlv wf dj]
    · rw [pl_b, if_neg (fun z => q2 z.2.2)]
      simp (disch := first | omega | (simp (disch := omega) only [up_eq, up_ne, si_len, List.length_set]; omega)) only [↓e136_0, ↓e136_1, ↓e136_4, ↓e136_6, ↓e136_7, ↓e136_8, ↓e136_10, ↓e136_11, ↓e136_12, ↓e136_13, ↓e136_14, ↓e136_16, ↓e136_17, ↓e136_18, ↓e136_21, ↓e136_23, ↓e136_24, ↓e136_27, ↓e136_28, ↓e136_29, ↓e136_30, ↓e136_33, ↓e136_35, ↓e136_36, ↓e136_37, ↓e136_39, ↓e136_41, ↓e136_42, ↓e136_43, ↓e136_46, ↓e136_49, ↓e136_52, ↓e136_53, ↓e136_54, ↓e136_56, ↓e136_59, ↓e136_61, ↓e136_64, ↓e136_65, ↓e136_68, ↓e136_69, ↓am_ilp, ↓am_iln, ↓am_iep, ↓am_ien, ↓am_zlp, ↓am_zln, ↓am_zep, ↓am_zen, ↓am_zgp, ↓am_zgn, ↓am_zhp, ↓am_zhn, ↓am_b01, true_or, true_and, and_true, or_true, if_true, if_false, ↓am_bdl_z, ↓am_bdl_s, ↓am_bsl_z, ↓am_bsl_s, ↓am_k1_i, ↓am_k1_r, ↓am_k1_e, ↓am_k1_n, ↓am_bd_s, am_k1_t, eq_self, am_nl_i, am_nl_r, am_nl_e, am_nl_n, Option.toList_some, Option.toList_none, Option.map_some, Option.map_none, List.cons_append, List.nil_append, List.length_cons, List.length_nil, List.set_cons_zero, List.set_cons_succ, List.getElem?_cons_zero, List.getElem?_cons_succ, am_bd_s, ↓am_tls, ↓am_tln, ↓mk_oc, ↓ma_r, ↓ma_w, ↓mz_r, ↓mz_w, ↓mr0, ↓mr1, ↓mr2, ↓mr3, ↓mr4, ↓mr5, ↓mr6, ↓mr7, ↓mr8, ↓mr9, ↓mr10, ↓mr11, ↓mr12, ↓mr13, ↓mr14, ↓mr15, ↓mr16, ↓mr17, ↓mr18, ↓mr19, ↓mr20, ↓mr21, ↓mr22, ↓mr23, ↓mr24, ↓mr25, ↓mr26, ↓mr27, ↓mw0, ↓mw1, ↓mw11, ↓mw12, ↓mw13, ↓mw15, ↓mw16, ↓mw17, ↓mw19, ↓mw20, ↓mw22, ↓mw25, up_eq, up_ne, up_up, si_len, ↓X10_in_w, ↓am_ifb, ↓if_pos q1, ↓X10_whoIsOn_w mp ly hlv wf dj]
  · rw [pl_b, if_neg (by omega)]
    simp (disch := first | omega | (simp (disch := omega) only [up_eq, up_ne, si_len, List.length_set]; omega)) only [↓e136_0, ↓e136_1, ↓e136_4, ↓e136_6, ↓e136_7, ↓e136_8, ↓e136_10, ↓e136_11, ↓e136_12, ↓e136_13, ↓e136_14, ↓e136_16, ↓e136_17, ↓e136_18, ↓e136_21, ↓e136_23, ↓e136_24, ↓e136_27, ↓e136_28, ↓e136_29, ↓e136_30, ↓e136_33, ↓e136_35, ↓e136_36, ↓e136_37, ↓e136_39, ↓e136_41, ↓e136_42, ↓e136_43, ↓e136_46, ↓e136_49, ↓e136_52, ↓e136_53, ↓e136_54, ↓e136_56, ↓e136_59, ↓e136_61, ↓e136_64, ↓e136_65, ↓e136_68, ↓e136_69, ↓am_ilp, ↓am_iln, ↓am_iep, ↓am_ien, ↓am_zlp, ↓am_zln, ↓am_zep, ↓am_zen, ↓am_zgp, ↓am_zgn, ↓am_zhp, ↓am_zhn, ↓am_b01, true_or, true_and, and_true, or_true, if_true, if_false, ↓am_bdl_z, ↓am_bdl_s, ↓am_bsl_z, ↓am_bsl_s, ↓am_k1_i, ↓am_k1_r, ↓am_k1_e, ↓am_k1_n, ↓am_bd_s, am_k1_t, eq_self, am_nl_i, am_nl_r, am_nl_e, am_nl_n, Option.toList_some, Option.toList_none, Option.map_some, Option.map_none, List.cons_append, List.nil_append, List.length_cons, List.length_nil, List.set_cons_zero, List.set_cons_succ, List.getElem?_cons_zero, List.getElem?_cons_succ, am_bd_s, ↓am_tls, ↓am_tln, ↓mk_oc, ↓ma_r, ↓ma_w, ↓mz_r, ↓mz_w, ↓mr0, ↓mr1, ↓mr2, ↓mr3, ↓mr4, ↓mr5, ↓mr6, ↓mr7, ↓mr8, ↓mr9, ↓mr10, ↓mr11, ↓mr12, ↓mr13, ↓mr14, ↓mr15, ↓mr16, ↓mr17, ↓mr18, ↓mr19, ↓mr20, ↓mr21, ↓mr22, ↓mr23, ↓mr24, ↓mr25, ↓mr26, ↓mr27, ↓mw0, ↓mw1, ↓mw11, ↓mw12, ↓mw13, ↓mw15, ↓mw16, ↓mw17, ↓mw19, ↓mw20, ↓mw22, ↓mw25, up_eq, up_ne, up_up, si_len, ↓X10_in_w, ↓am_ifb, ↓if_neg q1]
/-- one number of the places is another -/
theorem Ly.setA {N : List Int} {b : Int} {s : Nat} {x : Int} (ly : Ly N b L) (hb : 0 ≤ b) (hN : b + 14 ≤ N.length) (hs : s < 3) : Ly (si N (b + 7 + (s : Int)) x) b (L.1, L.2.1.set s x, L.2.2) ∧ Af N (si N (b + 7 + (s : Int)) x) b := by
  obtain ⟨h0, h1, h2, h3, h4, h5, h6, h7⟩ := ly
  refine ⟨⟨h0, by rw [gi_ne (by omega)]; exact h1, fun i hi => by dsimp only at hi; rw [gi_ne (by omega)]; exact h2 i hi, by rw [List.length_set]; exact h3, h4, fun t ht => ?_, fun t ht => by rw [gi_ne (by omega)]; exact h6 t ht, by rw [gi_ne (by omega)]; exact h7⟩, si_len, fun i h8 h9 => by rw [gi_ne (by omega)]⟩
  by_cases q : s = t
  · subst q
    rw [gi_eq (by omega)]
    dsimp only
    rw [List.getD_eq_getElem?_getD, List.getElem?_set_self (by omega)]
    rfl
  · rw [gi_ne (by omega), h5 t ht]
    dsimp only
    rw [List.getD_eq_getElem?_getD, List.getD_eq_getElem?_getD, List.getElem?_set_ne q]
theorem Ly.setW {N : List Int} {b : Int} {s : Nat} {x : Int} (ly : Ly N b L) (hb : 0 ≤ b) (hN : b + 14 ≤ N.length) (hs : s < 3) : Ly (si N (b + 10 + (s : Int)) x) b (L.1, L.2.1, L.2.2.1.set s x, L.2.2.2) ∧ Af N (si N (b + 10 + (s : Int)) x) b := by
  obtain ⟨h0, h1, h2, h3, h4, h5, h6, h7⟩ := ly
  refine ⟨⟨h0, by rw [gi_ne (by omega)]; exact h1, fun i hi => by dsimp only at hi; rw [gi_ne (by omega)]; exact h2 i hi, h3, by rw [List.length_set]; exact h4, fun t ht => by rw [gi_ne (by omega)]; exact h5 t ht, fun t ht => ?_, by rw [gi_ne (by omega)]; exact h7⟩, si_len, fun i h8 h9 => by rw [gi_ne (by omega)]⟩
  by_cases q : s = t
  · subst q
    rw [gi_eq (by omega)]
    dsimp only
    rw [List.getD_eq_getElem?_getD, List.getElem?_set_self (by omega)]
    rfl
  · rw [gi_ne (by omega), h6 t ht]
    dsimp only
    rw [List.getD_eq_getElem?_getD, List.getD_eq_getElem?_getD, List.getElem?_set_ne q]
theorem Ly.setN {N : List Int} {b : Int} {x : Int} (ly : Ly N b L) (hb : 0 ≤ b) (hN : b + 14 ≤ N.length) : Ly (si N (b + 13) x) b (L.1, L.2.1, L.2.2.1, x) ∧ Af N (si N (b + 13) x) b := by
  obtain ⟨h0, h1, h2, h3, h4, h5, h6, h7⟩ := ly
  exact ⟨⟨h0, by rw [gi_ne (by omega)]; exact h1, fun i hi => by dsimp only at hi; rw [gi_ne (by omega)]; exact h2 i hi, h3, h4, fun t ht => by rw [gi_ne (by omega)]; exact h5 t ht, fun t ht => by rw [gi_ne (by omega)]; exact h6 t ht, by rw [gi_eq (by omega)]⟩, si_len, fun i h8 h9 => by rw [gi_ne (by omega)]⟩
theorem X10_turnOn_1 {lv s : Int} (mp : MP S V nb ns) (ly : Ly (V 102) (14 * lv) L) (hlv : 0 ≤ lv ∧ lv ≤ 1) (hs : 0 ≤ s ∧ s < ns) : ∃ N, Af (V 102) N (14 * lv) ∧ Ly N (14 * lv) (L.1, L.2.1.set s.toNat (L.2.1.getD s.toNat 0 + 1), L.2.2) ∧ ∀ E K, Wp E 137 0 [some (am_r (some 96)), some (am_i lv), some (am_i s), some (am_i 1)] [] (mk C S V) K = K none (mk C S (up V 102 N)) := by
  obtain ⟨s0, s1, hnb, hns, l97, l98, l99, l100, l101, l102, l107, pv, wv⟩ := id mp
  have h3 := ly.2.2.2.2.2.1 s.toNat (by omega)
  have st := ly.setA (s := s.toNat) (x := L.2.1.getD s.toNat 0 + 1) (by omega) (by omega) (by omega)
  rw [show ((s.toNat : Nat) : Int) = s by omega] at h3 st
  refine ⟨_, st.2, st.1, fun E K => ?_⟩
  simp (disch := first | omega | (simp (disch := omega) only [up_eq, up_ne, si_len, List.length_set]; omega)) only [↓e137_0, ↓e137_1, ↓e137_4, ↓e137_6, ↓e137_7, ↓e137_8, ↓e137_10, ↓e137_11, ↓e137_12, ↓e137_13, ↓e137_14, ↓e137_15, ↓e137_16, ↓e137_17, ↓e137_20, ↓e137_21, ↓e137_24, ↓e137_25, ↓e137_26, ↓e137_27, ↓am_ilp, ↓am_iln, ↓am_iep, ↓am_ien, ↓am_zlp, ↓am_zln, ↓am_zep, ↓am_zen, ↓am_zgp, ↓am_zgn, ↓am_zhp, ↓am_zhn, ↓am_b01, true_or, true_and, and_true, or_true, if_true, if_false, ↓am_bdl_z, ↓am_bdl_s, ↓am_bsl_z, ↓am_bsl_s, ↓am_k1_i, ↓am_k1_r, ↓am_k1_e, ↓am_k1_n, ↓am_bd_s, am_k1_t, eq_self, am_nl_i, am_nl_r, am_nl_e, am_nl_n, Option.toList_some, Option.toList_none, Option.map_some, Option.map_none, List.cons_append, List.nil_append, List.length_cons, List.length_nil, List.set_cons_zero, List.set_cons_succ, List.getElem?_cons_zero, List.getElem?_cons_succ, am_bd_s, ↓am_tls, ↓am_tln, ↓mk_oc, ↓ma_r, ↓ma_w, ↓mz_r, ↓mz_w, ↓mr0, ↓mr1, ↓mr2, ↓mr3, ↓mr4, ↓mr5, ↓mr6, ↓mr7, ↓mr8, ↓mr9, ↓mr10, ↓mr11, ↓mr12, ↓mr13, ↓mr14, ↓mr15, ↓mr16, ↓mr17, ↓mr18, ↓mr19, ↓mr20, ↓mr21, ↓mr22, ↓mr23, ↓mr24, ↓mr25, ↓mr26, ↓mr27, ↓mw0, ↓mw1, ↓mw11, ↓mw12, ↓mw13, ↓mw15, ↓mw16, ↓mw17, ↓mw19, ↓mw20, ↓mw22, ↓mw25, up_eq, up_ne, up_up, si_len, h3]
theorem X10_turnOn_2 {lv s : Int} (mp : MP S V nb ns) (ly : Ly (V 102) (14 * lv) L) (hlv : 0 ≤ lv ∧ lv ≤ 1) (hs : 0 ≤ s ∧ s < ns) : ∃ N, Af (V 102) N (14 * lv) ∧ Ly N (14 * lv) (L.1, L.2.1.set s.toNat (L.2.1.getD s.toNat 0 - 1), L.2.2) ∧ ∀ E K, Wp E 137 0 [some (am_r (some 96)), some (am_i lv), some (am_i s), some (am_i 2)] [] (mk C S V) K = K none (mk C S (up V 102 N)) := by
  obtain ⟨s0, s1, hnb, hns, l97, l98, l99, l100, l101, l102, l107, pv, wv⟩ := id mp
  have h3 := ly.2.2.2.2.2.1 s.toNat (by omega)
  have st := ly.setA (s := s.toNat) (x := L.2.1.getD s.toNat 0 - 1) (by omega) (by omega) (by omega)
  rw [show ((s.toNat : Nat) : Int) = s by omega] at h3 st
  refine ⟨_, st.2, st.1, fun E K => ?_⟩
  have e : L.2.1.getD s.toNat 0 + -1 = L.2.1.getD s.toNat 0 - 1 := by omega
  simp (disch := first | omega | (simp (disch := omega) only [up_eq, up_ne, si_len, List.length_set]; omega)) only [↓e137_0, ↓e137_1, ↓e137_4, ↓e137_6, ↓e137_7, ↓e137_8, ↓e137_10, ↓e137_11, ↓e137_12, ↓e137_13, ↓e137_14, ↓e137_15, ↓e137_16, ↓e137_17, ↓e137_20, ↓e137_21, ↓e137_24, ↓e137_25, ↓e137_26, ↓e137_27, ↓am_ilp, ↓am_iln, ↓am_iep, ↓am_ien, ↓am_zlp, ↓am_zln, ↓am_zep, ↓am_zen, ↓am_zgp, ↓am_zgn, ↓am_zhp, ↓am_zhn, ↓am_b01, true_or, true_and, and_true, or_true, if_true, if_false, ↓am_bdl_z, ↓am_bdl_s, ↓am_bsl_z, ↓am_bsl_s, ↓am_k1_i, ↓am_k1_r, ↓am_k1_e, ↓am_k1_n, ↓am_bd_s, am_k1_t, eq_self, am_nl_i, am_nl_r, am_nl_e, am_nl_n, Option.toList_some, Option.toList_none, Option.map_some, Option.map_none, List.cons_append, List.nil_append, List.length_cons, List.length_nil, List.set_cons_zero, List.set_cons_succ, List.getElem?_cons_zero, List.getElem?_cons_succ, am_bd_s, ↓am_tls, ↓am_tln, ↓mk_oc, ↓ma_r, ↓ma_w, ↓mz_r, ↓mz_w, ↓mr0, ↓mr1, ↓mr2, ↓mr3, ↓mr4, ↓mr5, ↓mr6, ↓mr7, ↓mr8, ↓mr9, ↓mr10, ↓mr11, ↓mr12, ↓mr13, ↓mr14, ↓mr15, ↓mr16, ↓mr17, ↓mr18, ↓mr19, ↓mr20, ↓mr21, ↓mr22, ↓mr23, ↓mr24, ↓mr25, ↓mr26, ↓mr27, ↓mw0, ↓mw1, ↓mw11, ↓mw12, ↓mw13, ↓mw15, ↓mw16, ↓mw17, ↓mw19, ↓mw20, ↓mw22, ↓mw25, up_eq, up_ne, up_up, si_len, h3, e]
theorem X10_passOn_w {lv : Int} (mp : MP S V nb ns) (ly : Ly (V 102) (14 * lv) L) (hlv : 0 ≤ lv ∧ lv ≤ 1) (wf : WfL nb ns (V 101) L) : ∃ N o, Af (V 102) N (14 * lv) ∧ o.length = 11 ∧ Ly N (14 * lv) (L.1, L.2.1, (List.range' 0 ns).foldl (pl_wos fun s => pl_wk (V 97) (V 98) (V 99) (V 100) L.1 (L.2.1.getD s 0).toNat ((V 101).getD s 0).toNat) L.2.2.1, L.2.2.2 + 1) ∧ ∀ E K, Wp E 138 0 [some (am_r (some 96)), some (am_i lv), none] [] (mk C S V) K = K none (mk C S (up (up V 102 N) 107 o)) := by
  obtain ⟨s0, s1, hnb, hns, l97, l98, l99, l100, l101, l102, l107, pv, wv⟩ := id mp
  obtain ⟨wk, hwk⟩ : ∃ wk : Nat → Int, wk = fun s => pl_wk (V 97) (V 98) (V 99) (V 100) L.1 (L.2.1.getD s 0).toNat ((V 101).getD s 0).toNat := ⟨_, rfl⟩
  rw [← hwk]
  obtain ⟨⟨N, o⟩, ⟨i1, i2, i3⟩, w⟩ := am_loopz (X := List (List Int) × (Option am_V → am_H → Prop)) (α := List Int × List Int) (W := fun x i a => Wp x.1 138 2 [some (am_r (some 96)), some (am_i lv), some (am_i i)] [] (mk C S (up (up V 102 a.1) 107 a.2)) x.2) (I := fun i a => Af (V 102) a.1 (14 * lv) ∧ a.2.length = 11 ∧ Ly a.1 (14 * lv) (L.1, L.2.1, (List.range' 0 i.toNat).foldl (pl_wos wk) L.2.2.1, L.2.2.2)) (lo := 0) (N := (ns : Int)) (by
    rintro i ⟨N, o⟩ h0 h1 ⟨i1, i2, i3⟩
    dsimp only at i1 i2 i3
    have hN : N.length = 28 := by rw [i1.1]; exact l102
    obtain ⟨o', ho', w'⟩ := X10_wakes_w (C := C) (S := S) (V := up (up V 102 N) 107 o) (lv := lv) (s := i) ((mp.n hN).o i2) (L := (L.1, L.2.1, (List.range' 0 i.toNat).foldl (pl_wos wk) L.2.2.1, L.2.2.2)) i3 hlv wf (by omega)
    have w2 : ∀ E K, Wp E 129 0 [some (am_r (some 96)), some (am_i lv), some (am_i i)] [] (mk C S (up (up V 102 N) 107 o)) K = K (some (am_i (wk i.toNat))) (mk C S (up (up V 102 N) 107 o')) := by
      intro E K
      rw [w', hwk, up_up]
      rfl
    have st := i3.setW (s := i.toNat) (x := am_or (gi N (14 * lv + 10 + i)) (am_shl 1 (wk i.toNat))) (by omega) (by omega) (by omega)
    have g3 := i3.2.2.2.2.2.2.1 i.toNat (by omega)
    rw [show ((i.toNat : Nat) : Int) = i by omega] at st g3
    refine ⟨(si N (14 * lv + 10 + i) (am_or (gi N (14 * lv + 10 + i)) (am_shl 1 (wk i.toNat))), o'), ⟨i1.trans st.2, ho', ?_⟩, fun x => ?_⟩
    · have e1 := st.1
      rw [show (i + 1).toNat = i.toNat + 1 by omega, List.range'_1_concat, List.foldl_append, Nat.zero_add]
      rw [g3] at e1 ⊢
      exact e1
    · dsimp only
      rw [e138_2]
      simp (disch := first | omega | (simp (disch := omega) only [up_eq, up_ne, si_len, List.length_set]; omega)) only [↓e138_3, ↓e138_4, ↓e138_7, ↓e138_10, ↓e138_11, ↓e138_14, ↓e138_16, ↓e138_17, ↓e138_18, ↓e138_20, ↓e138_21, ↓e138_22, ↓e138_23, ↓e138_24, ↓e138_25, ↓e138_26, ↓e138_27, ↓e138_28, ↓e138_29, ↓e138_32, ↓e138_33, ↓e138_34, ↓e138_35, ↓e138_38, ↓am_ilp, ↓am_iln, ↓am_iep, ↓am_ien, ↓am_zlp, ↓am_zln, ↓am_zep, ↓am_zen, ↓am_zgp, ↓am_zgn, ↓am_zhp, ↓am_zhn, ↓am_b01, true_or, true_and, and_true, or_true, if_true, if_false, ↓am_bdl_z, ↓am_bdl_s, ↓am_bsl_z, ↓am_bsl_s, ↓am_k1_i, ↓am_k1_r, ↓am_k1_e, ↓am_k1_n, ↓am_bd_s, am_k1_t, eq_self, am_nl_i, am_nl_r, am_nl_e, am_nl_n, Option.toList_some, Option.toList_none, Option.map_some, Option.map_none, List.cons_append, List.nil_append, List.length_cons, List.length_nil, List.set_cons_zero, List.set_cons_succ, List.getElem?_cons_zero, List.getElem?_cons_succ, am_bd_s, ↓am_tls, ↓am_tln, ↓mk_oc, ↓ma_r, ↓ma_w, ↓mz_r, ↓mz_w, ↓mr0, ↓mr1, ↓mr2, ↓mr3, ↓mr4, ↓mr5, ↓mr6, ↓mr7, ↓mr8, ↓mr9, ↓mr10, ↓mr11, ↓mr12, ↓mr13, ↓mr14, ↓mr15, ↓mr16, ↓mr17, ↓mr18, ↓mr19, ↓mr20, ↓mr21, ↓mr22, ↓mr23, ↓mr24, ↓mr25, ↓mr26, ↓mr27, ↓mw0, ↓mw1, ↓mw11, ↓mw12, ↓mw13, ↓mw15, ↓mw16, ↓mw17, ↓mw19, ↓mw20, ↓mw22, ↓mw25, up_eq, up_ne, up_up, si_len, ↓w2, up_c7]) ns 0 (V 102, V 107) (by omega) (by omega) ⟨Af.rf, l107, ly⟩
  dsimp only at i1 i2 i3
  have hN : N.length = 28 := by rw [i1.1]; exact l102
  rw [Int.toNat_natCast] at i3
  have g13 := i3.2.2.2.2.2.2.2
  dsimp only at g13
  have st := i3.setN (x := L.2.2.2 + 1) (by omega) (by omega)
  refine ⟨si N (14 * lv + 13) (L.2.2.2 + 1), o, i1.trans st.2, i2, st.1, fun E K => ?_⟩
  have w1 := w (E, K)
  dsimp only at w1
  rw [up_v2] at w1
  simp (disch := first | omega | (simp (disch := omega) only [up_eq, up_ne, si_len, List.length_set]; omega)) only [↓e138_0, ↓e138_1, ↓am_ilp, ↓am_iln, ↓am_iep, ↓am_ien, ↓am_zlp, ↓am_zln, ↓am_zep, ↓am_zen, ↓am_zgp, ↓am_zgn, ↓am_zhp, ↓am_zhn, ↓am_b01, true_or, true_and, and_true, or_true, if_true, if_false, ↓am_bdl_z, ↓am_bdl_s, ↓am_bsl_z, ↓am_bsl_s, ↓am_k1_i, ↓am_k1_r, ↓am_k1_e, ↓am_k1_n, ↓am_bd_s, am_k1_t, eq_self, am_nl_i, am_nl_r, am_nl_e, am_nl_n, Option.toList_some, Option.toList_none, Option.map_some, Option.map_none, List.cons_append, List.nil_append, List.length_cons, List.length_nil, List.set_cons_zero, List.set_cons_succ, List.getElem?_cons_zero, List.getElem?_cons_succ, am_bd_s]
  refine Eq.trans w1 ?_
  rw [e138_2]
  simp (disch := first | omega | (simp (disch := omega) only [up_eq, up_ne, si_len, List.length_set]; omega)) only [↓e138_3, ↓e138_4, ↓e138_7, ↓e138_41, ↓e138_42, ↓e138_45, ↓e138_47, ↓e138_48, ↓e138_49, ↓e138_51, ↓e138_52, ↓e138_53, ↓e138_54, ↓e138_55, ↓e138_56, ↓e138_57, ↓am_ilp, ↓am_iln, ↓am_iep, ↓am_ien, ↓am_zlp, ↓am_zln, ↓am_zep, ↓am_zen, ↓am_zgp, ↓am_zgn, ↓am_zhp, ↓am_zhn, ↓am_b01, true_or, true_and, and_true, or_true, if_true, if_false, ↓am_bdl_z, ↓am_bdl_s, ↓am_bsl_z, ↓am_bsl_s, ↓am_k1_i, ↓am_k1_r, ↓am_k1_e, ↓am_k1_n, ↓am_bd_s, am_k1_t, eq_self, am_nl_i, am_nl_r, am_nl_e, am_nl_n, Option.toList_some, Option.toList_none, Option.map_some, Option.map_none, List.cons_append, List.nil_append, List.length_cons, List.length_nil, List.set_cons_zero, List.set_cons_succ, List.getElem?_cons_zero, List.getElem?_cons_succ, am_bd_s, ↓am_tls, ↓am_tln, ↓mk_oc, ↓ma_r, ↓ma_w, ↓mz_r, ↓mz_w, ↓mr0, ↓mr1, ↓mr2, ↓mr3, ↓mr4, ↓mr5, ↓mr6, ↓mr7, ↓mr8, ↓mr9, ↓mr10, ↓mr11, ↓mr12, ↓mr13, ↓mr14, ↓mr15, ↓mr16, ↓mr17, ↓mr18, ↓mr19, ↓mr20, ↓mr21, ↓mr22, ↓mr23, ↓mr24, ↓mr25, ↓mr26, ↓mr27, ↓mw0, ↓mw1, ↓mw11, ↓mw12, ↓mw13, ↓mw15, ↓mw16, ↓mw17, ↓mw19, ↓mw20, ↓mw22, ↓mw25, up_eq, up_ne, up_up, si_len, up_c7, g13]
end MAC
