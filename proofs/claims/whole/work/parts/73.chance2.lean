section CH2
variable {h : am_H} {r nb ns : Nat} {B : List Nat} {A Wo tm fr la ce ki wi o1 o2 : List Int} {ni w1 w2 : Int}
theorem X2_shareOf_f {q : Nat} {u : Bool} (l : LayC h r B A Wo ni) (lf : Fix h nb ns fr la ce ki wi tm) (lc : ChanC h o1 o2 w1 w2) (hB : ∀ x ∈ B, x < nb) (hn : B.Nodup) (hq : q < nb) (E : List (List Int)) (K : Option am_V → am_H → Prop) (he : E[1]? = some am_fac7) : Wp E 16 0 [some (am_r (some 14)), some (am_r (some r)), some (am_i (q : Int)), some (am_i (if u = true then 1 else 0)), none, none, none, none, none] [] h K = K (some (am_i (pl_shr fr la ce ki B q u))) h := by
  have h6 : nb ≤ 6 := lf.1.2.2.2.2.2.2.2.2.2.2.2.1
  have B6 : ∀ x ∈ B, x < 6 := fun x hx => by have := hB x hx; omega
  have hm := pl_mask_64 B6
  have hl6 := l.lens.2.2
  have hpl := pl_pop_len B6 hn
  have hq6 : q < 6 := by omega
  have hb := pl_mask_bit B6 hq6
  have ow := pl_own (pl_mask B) hm q hq6
  have aw := fun E K => X3_asBits_w (E := E) (K := K) l
  rw [pl_bits_n B6] at aw
  obtain ⟨ui, hui⟩ : ∃ ui : Int, ui = if u = true then 1 else 0 := ⟨_, rfl⟩
  have frw := fun (a b : Int) (ha : -2147483647 ≤ a ∧ a ≤ 2147483647) (hb : 1 ≤ b ∧ b ≤ 1000000) E h K => X2_fraction_w (E := E) (h := h) (K := K) (u := u) ha hb
  rw [← hui] at frw ⊢
  by_cases q2 : q ∈ B
  · have hlen : 1 ≤ B.length := List.length_pos_of_mem q2
    rw [pl_shr, if_pos q2]
    obtain ⟨nm, hnm⟩ : ∃ nm : Nat → Int, nm = fun i => (pl_nm fr la ce ki (B.filter fun b => !i.testBit b) (List.range' 0 6) : Int) := ⟨_, rfl⟩
    have nmr : ∀ i, 0 ≤ nm i ∧ nm i ≤ 6 := fun i => by rw [hnm]; exact pl_nm_6
    rw [← hnm]
    have hnw : ∀ m : Nat, m < 64 → ∀ E K, Wp E 12 0 [some (am_r (some 9)), some (am_r (some r)), some (am_i (m : Int)), none, none] [] h K = K (some (am_i (nm m))) h := by
      intro m hm E K
      rw [X1_howManyNotModern_f l lf hB hm, hnm]
    have d1 : ¬ am_w (am_and (pl_mask B : Int) (am_shl 1 (q : Int))) = 0 := by
      rw [ow, hb, decide_eq_true q2]; decide
    obtain ⟨F, hF⟩ : ∃ F, F = pl_shS nm (pl_mask B) q B.length := ⟨_, rfl⟩
    rw [← hF]
    obtain ⟨⟨sm, x8⟩, e1, w⟩ := am_loop (X := Unit) (α := Int × Option am_V) (W := fun _ i a => Wp E 16 32 [some (am_r (some 14)), some (am_r (some r)), some (am_i (q : Int)), some (am_i ui), some (am_i (am_shl 1 (q : Int))), some (am_i (pl_mask B : Int)), some (am_i a.1), some (am_i (i : Int)), a.2] [] h K) (I := fun i a => a.1 = (List.range i).foldl F 0) (N := 64) (by
      rintro n ⟨sm, x8⟩ hn64 e1
      dsimp only at e1
      have ef : (List.range (n + 1)).foldl F 0 = F sm n := by rw [List.range_succ, List.foldl_append, ← e1]; rfl
      have hsub := pl_sub n hn64 (pl_mask B) hm
      have own := pl_own n hn64 q hq6
      by_cases q3 : n &&& pl_mask B = n
      · by_cases q4 : n.testBit q = true
        · have d2 : ¬ am_w (am_and (n : Int) (am_shl 1 (q : Int))) = 0 := by rw [own, q4]; decide
          refine ⟨(sm, x8), ?_, fun x => ?_⟩
          · dsimp only
            rw [ef, hF, pl_shS, if_neg (fun z => by rw [q4] at z; cases z.2)]
          · dsimp only
            rw [e16_32]
            simp (disch := first | omega | (simp only [List.length_set]; omega) | rfl) only [↓e16_34, ↓e16_36, ↓e16_39, ↓e16_41, ↓e16_43, ↓e16_44, ↓e16_45, ↓e16_46, ↓e16_49, ↓e16_51, ↓e16_53, ↓e16_54, ↓e16_57, ↓e16_58, ↓e16_61, ↓e16_62, ↓e16_64, ↓e16_66, ↓e16_68, ↓e16_69, ↓e16_70, ↓e16_71, ↓e16_72, ↓e16_75, ↓e16_76, ↓e16_79, ↓e16_80, ↓e16_82, ↓e16_84, ↓e16_85, ↓e16_86, ↓e16_87, ↓e16_90, ↓e16_91, ↓e16_93, ↓e16_95, ↓e16_97, ↓e16_99, ↓e16_102, ↓e16_103, ↓e16_106, ↓e16_109, ↓e16_110, ↓e16_111, ↓e16_113, ↓e16_116, ↓am_ilp, ↓am_iln, ↓am_iep, ↓am_ien, ↓am_zlp, ↓am_zln, ↓am_zep, ↓am_zen, ↓am_zgp, ↓am_zgn, ↓am_zhp, ↓am_zhn, ↓am_b01, true_or, true_and, and_true, or_true, if_true, if_false, ↓am_bdl_z, ↓am_bdl_s, ↓am_bsl_z, ↓am_bsl_s, ↓am_k1_i, ↓am_k1_r, ↓am_k1_e, ↓am_k1_n, ↓am_bd_s, am_k1_t, eq_self, am_nl_i, am_nl_r, am_nl_e, am_nl_n, Option.toList_some, Option.toList_none, Option.map_some, Option.map_none, List.cons_append, List.nil_append, List.length_cons, List.length_nil, List.set_cons_zero, List.set_cons_succ, List.getElem?_cons_zero, List.getElem?_cons_succ, am_bd_s, ↓if_pos (hsub.mpr q3), ↓if_neg d2, Int.natCast_add, Int.natCast_one]
        · have q4' : n.testBit q = false := by simpa using q4
          have d2 : am_w (am_and (n : Int) (am_shl 1 (q : Int))) = 0 := by rw [own, q4']
          obtain ⟨o1', o2'⟩ := pl_or1 n hn64 q hq6
          unfold pl_ob at o1'
          obtain ⟨z1, z2⟩ := pl_wo_64 (pl_mask B) hm (n ||| 2 ^ q) o2'
          obtain ⟨z3, z4⟩ := pl_wo_64 (pl_mask B) hm n hn64
          have pn2 : pl_pop n ≤ B.length - 1 := by
            have hd : ∀ m < 64, ∀ n < 64, ∀ q < 6, (n &&& m = n ∧ n.testBit q = false ∧ m.testBit q = true) → pl_pop n + 1 ≤ pl_pop m := by decide +kernel
            have := hd (pl_mask B) hm n hn64 q hq6 ⟨q3, q4', by rw [hb]; exact decide_eq_true q2⟩
            omega
          have nw1 : ∀ E K, Wp E 12 0 [some (am_r (some 9)), some (am_r (some r)), some (am_i (am_and (pl_mask B : Int) (am_xor (am_or (n : Int) (am_shl 1 (q : Int))) (-1)))), none, none] [] h K = K (some (am_i (nm (pl_wo (pl_mask B) (n ||| 2 ^ q))))) h := by
            intro E K
            rw [o1', z1]
            exact hnw _ z2 E K
          have nw2 : ∀ E K, Wp E 12 0 [some (am_r (some 9)), some (am_r (some r)), some (am_i (am_and (pl_mask B : Int) (am_xor (n : Int) (-1)))), none, none] [] h K = K (some (am_i (nm (pl_wo (pl_mask B) n)))) h := by
            intro E K
            rw [z3]
            exact hnw _ z4 E K
          refine ⟨(sm + (nm (pl_wo (pl_mask B) (n ||| 2 ^ q)) - nm (pl_wo (pl_mask B) n)) * ((pl_fct (pl_pop n) : Int) * (pl_fct (B.length - 1 - pl_pop n) : Int)), some (am_i (nm (pl_wo (pl_mask B) (n ||| 2 ^ q)) - nm (pl_wo (pl_mask B) n)))), ?_, fun x => ?_⟩
          · dsimp only
            rw [ef, hF, pl_shS, if_pos ⟨q3, q4'⟩]
          · dsimp only
            rw [e16_32]
            simp (disch := first | omega | (simp only [List.length_set]; omega) | rfl) only [↓e16_34, ↓e16_36, ↓e16_39, ↓e16_41, ↓e16_43, ↓e16_44, ↓e16_45, ↓e16_46, ↓e16_49, ↓e16_51, ↓e16_53, ↓e16_54, ↓e16_57, ↓e16_58, ↓e16_61, ↓e16_62, ↓e16_64, ↓e16_66, ↓e16_68, ↓e16_69, ↓e16_70, ↓e16_71, ↓e16_72, ↓e16_75, ↓e16_76, ↓e16_79, ↓e16_80, ↓e16_82, ↓e16_84, ↓e16_85, ↓e16_86, ↓e16_87, ↓e16_90, ↓e16_91, ↓e16_93, ↓e16_95, ↓e16_97, ↓e16_99, ↓e16_102, ↓e16_103, ↓e16_106, ↓e16_109, ↓e16_110, ↓e16_111, ↓e16_113, ↓e16_116, ↓am_ilp, ↓am_iln, ↓am_iep, ↓am_ien, ↓am_zlp, ↓am_zln, ↓am_zep, ↓am_zen, ↓am_zgp, ↓am_zgn, ↓am_zhp, ↓am_zhn, ↓am_b01, true_or, true_and, and_true, or_true, if_true, if_false, ↓am_bdl_z, ↓am_bdl_s, ↓am_bsl_z, ↓am_bsl_s, ↓am_k1_i, ↓am_k1_r, ↓am_k1_e, ↓am_k1_n, ↓am_bd_s, am_k1_t, eq_self, am_nl_i, am_nl_r, am_nl_e, am_nl_n, Option.toList_some, Option.toList_none, Option.map_some, Option.map_none, List.cons_append, List.nil_append, List.length_cons, List.length_nil, List.set_cons_zero, List.set_cons_succ, List.getElem?_cons_zero, List.getElem?_cons_succ, am_bd_s, ↓am_tls, ↓am_bdf lc.1, am_bdf lc.1, ↓am_bfu lc.1, am_bfu lc.1, ↓am_oc_of lc.1, am_oc_of lc.1, ↓am_bdf lf.2.1.1, am_bdf lf.2.1.1, ↓am_bfu lf.2.1.1, am_bfu lf.2.1.1, ↓am_oc_of lf.2.1.1, am_oc_of lf.2.1.1, ↓am_bdf l.obj.1, am_bdf l.obj.1, ↓am_bfu l.obj.1, am_bfu l.obj.1, ↓am_oc_of l.obj.1, am_oc_of l.obj.1, ↓if_pos (hsub.mpr q3), ↓if_pos d2, ↓nw1, ↓nw2, ↓J6_bitCount_w hn64, ↓X2_ordersAround_w he, Int.natCast_add, Int.natCast_one]
      · have q5 : ¬ am_w (am_and (n : Int) (am_xor (pl_mask B : Int) (-1))) = 0 := fun z => q3 (hsub.mp z)
        refine ⟨(sm, x8), ?_, fun x => ?_⟩
        · dsimp only
          rw [ef, hF, pl_shS, if_neg (fun z => q3 z.1)]
        · dsimp only
          rw [e16_32]
          simp (disch := first | omega | (simp only [List.length_set]; omega) | rfl) only [↓e16_34, ↓e16_36, ↓e16_39, ↓e16_41, ↓e16_43, ↓e16_44, ↓e16_45, ↓e16_46, ↓e16_49, ↓e16_51, ↓e16_53, ↓e16_54, ↓e16_57, ↓e16_58, ↓e16_61, ↓e16_62, ↓e16_64, ↓e16_66, ↓e16_68, ↓e16_69, ↓e16_70, ↓e16_71, ↓e16_72, ↓e16_75, ↓e16_76, ↓e16_79, ↓e16_80, ↓e16_82, ↓e16_84, ↓e16_85, ↓e16_86, ↓e16_87, ↓e16_90, ↓e16_91, ↓e16_93, ↓e16_95, ↓e16_97, ↓e16_99, ↓e16_102, ↓e16_103, ↓e16_106, ↓e16_109, ↓e16_110, ↓e16_111, ↓e16_113, ↓e16_116, ↓am_ilp, ↓am_iln, ↓am_iep, ↓am_ien, ↓am_zlp, ↓am_zln, ↓am_zep, ↓am_zen, ↓am_zgp, ↓am_zgn, ↓am_zhp, ↓am_zhn, ↓am_b01, true_or, true_and, and_true, or_true, if_true, if_false, ↓am_bdl_z, ↓am_bdl_s, ↓am_bsl_z, ↓am_bsl_s, ↓am_k1_i, ↓am_k1_r, ↓am_k1_e, ↓am_k1_n, ↓am_bd_s, am_k1_t, eq_self, am_nl_i, am_nl_r, am_nl_e, am_nl_n, Option.toList_some, Option.toList_none, Option.map_some, Option.map_none, List.cons_append, List.nil_append, List.length_cons, List.length_nil, List.set_cons_zero, List.set_cons_succ, List.getElem?_cons_zero, List.getElem?_cons_succ, am_bd_s, ↓if_neg q5, Int.natCast_add, Int.natCast_one]) 64 0 (0, none) rfl rfl
    dsimp only at e1 w
    have hr := pl_sh_rng (mask := pl_mask B) (q := q) (len := B.length) nmr 64
    rw [← hF, ← e1] at hr
    have fr := pl_fct_rng B.length
    have w2 := w ()
    rw [← e1]
    have st : Wp E 16 0 [some (am_r (some 14)), some (am_r (some r)), some (am_i (q : Int)), some (am_i ui), none, none, none, none, none] [] h K = Wp E 16 32 [some (am_r (some 14)), some (am_r (some r)), some (am_i (q : Int)), some (am_i ui), some (am_i (am_shl 1 (q : Int))), some (am_i (pl_mask B : Int)), some (am_i 0), some (am_i 0), none] [] h K := by
      simp (disch := first | omega | (simp only [List.length_set]; omega) | rfl) only [↓e16_0, ↓e16_1, ↓e16_2, ↓e16_3, ↓e16_5, ↓e16_6, ↓e16_9, ↓e16_11, ↓e16_13, ↓e16_15, ↓e16_16, ↓e16_19, ↓e16_20, ↓e16_21, ↓e16_22, ↓e16_25, ↓e16_26, ↓e16_27, ↓e16_29, ↓e16_30, ↓am_ilp, ↓am_iln, ↓am_iep, ↓am_ien, ↓am_zlp, ↓am_zln, ↓am_zep, ↓am_zen, ↓am_zgp, ↓am_zgn, ↓am_zhp, ↓am_zhn, ↓am_b01, true_or, true_and, and_true, or_true, if_true, if_false, ↓am_bdl_z, ↓am_bdl_s, ↓am_bsl_z, ↓am_bsl_s, ↓am_k1_i, ↓am_k1_r, ↓am_k1_e, ↓am_k1_n, ↓am_bd_s, am_k1_t, eq_self, am_nl_i, am_nl_r, am_nl_e, am_nl_n, Option.toList_some, Option.toList_none, Option.map_some, Option.map_none, List.cons_append, List.nil_append, List.length_cons, List.length_nil, List.set_cons_zero, List.set_cons_succ, List.getElem?_cons_zero, List.getElem?_cons_succ, am_bd_s, ↓am_tls, ↓am_bdf l.obj.1, am_bdf l.obj.1, ↓am_bfu l.obj.1, am_bfu l.obj.1, ↓am_oc_of l.obj.1, am_oc_of l.obj.1, ↓aw, ↓if_neg d1]
    have frw2 := frw sm (pl_fct B.length : Int) (by omega) (by omega)
    rw [st]
    refine Eq.trans w2 ?_
    rw [e16_32]
    simp (disch := first | omega | (simp only [List.length_set]; omega) | rfl) only [↓e16_34, ↓e16_36, ↓e16_119, ↓e16_121, ↓e16_122, ↓e16_125, ↓e16_128, ↓e16_129, ↓e16_132, ↓am_ilp, ↓am_iln, ↓am_iep, ↓am_ien, ↓am_zlp, ↓am_zln, ↓am_zep, ↓am_zen, ↓am_zgp, ↓am_zgn, ↓am_zhp, ↓am_zhn, ↓am_b01, true_or, true_and, and_true, or_true, if_true, if_false, ↓am_bdl_z, ↓am_bdl_s, ↓am_bsl_z, ↓am_bsl_s, ↓am_k1_i, ↓am_k1_r, ↓am_k1_e, ↓am_k1_n, ↓am_bd_s, am_k1_t, eq_self, am_nl_i, am_nl_r, am_nl_e, am_nl_n, Option.toList_some, Option.toList_none, Option.map_some, Option.map_none, List.cons_append, List.nil_append, List.length_cons, List.length_nil, List.set_cons_zero, List.set_cons_succ, List.getElem?_cons_zero, List.getElem?_cons_succ, am_bd_s, ↓am_tls, ↓am_bdf l.obj.1, am_bdf l.obj.1, ↓am_bfu l.obj.1, am_bfu l.obj.1, ↓am_oc_of l.obj.1, am_oc_of l.obj.1, ↓X2_factorial_w he, ↓frw2]
  · have d1 : am_w (am_and (pl_mask B : Int) (am_shl 1 (q : Int))) = 0 := by
      rw [ow, hb]; exact decide_eq_false q2
    rw [pl_shr, if_neg q2]
    have e9 : pl_fra 0 1 u = if u = true then 0 else 1 := by cases u <;> decide
    have frw2 := frw 0 1 (by omega) (by omega)
    rw [← e9]
    simp (disch := first | omega | (simp only [List.length_set]; omega) | rfl) only [↓e16_0, ↓e16_1, ↓e16_2, ↓e16_3, ↓e16_5, ↓e16_6, ↓e16_9, ↓e16_11, ↓e16_13, ↓e16_15, ↓e16_16, ↓e16_19, ↓e16_20, ↓e16_21, ↓e16_22, ↓e16_25, ↓am_ilp, ↓am_iln, ↓am_iep, ↓am_ien, ↓am_zlp, ↓am_zln, ↓am_zep, ↓am_zen, ↓am_zgp, ↓am_zgn, ↓am_zhp, ↓am_zhn, ↓am_b01, true_or, true_and, and_true, or_true, if_true, if_false, ↓am_bdl_z, ↓am_bdl_s, ↓am_bsl_z, ↓am_bsl_s, ↓am_k1_i, ↓am_k1_r, ↓am_k1_e, ↓am_k1_n, ↓am_bd_s, am_k1_t, eq_self, am_nl_i, am_nl_r, am_nl_e, am_nl_n, Option.toList_some, Option.toList_none, Option.map_some, Option.map_none, List.cons_append, List.nil_append, List.length_cons, List.length_nil, List.set_cons_zero, List.set_cons_succ, List.getElem?_cons_zero, List.getElem?_cons_succ, am_bd_s, ↓am_tls, ↓am_bdf l.obj.1, am_bdf l.obj.1, ↓am_bfu l.obj.1, am_bfu l.obj.1, ↓am_oc_of l.obj.1, am_oc_of l.obj.1, ↓aw, ↓if_pos d1, ↓frw2]
theorem X2_chanceKicked_f {s x : Nat} {t : Int} {u : Bool} (l : LayC h r B A Wo ni) (lf : Fix h nb ns fr la ce ki wi tm) (lc : ChanC h o1 o2 w1 w2) (hB : ∀ x ∈ B, x < nb) (hn : B.Nodup) (ha : AtOk ns wi A) (hs : s < ns) (ht : 0 ≤ t ∧ t ≤ 10) (hx : x ≤ 10) (hr : 17 ≤ r) : ∃ h' tm', (∀ E K, Wp E 19 0 [some (am_r (some 14)), some (am_r (some r)), some (am_i (s : Int)), some (am_i t), some (am_i (x : Int)), some (am_i (if u = true then 1 else 0)), none, none, none, none] [] h K = K (some (am_i (pl_fra (((List.range 64).foldl (pl_kkS (fun i => pl_wk fr la ce ki (B.filter fun b => !i.testBit b) (A.getD s 0).toNat (wi.getD s 0).toNat) (pl_mask B) B.length x t) 0 : Nat) : Int) ((10 ^ B.length : Nat) : Int) u))) h') ∧ Fix h' nb ns fr la ce ki wi tm' ∧ Fr h h' 10 1 := by
  have h6 : nb ≤ 6 := lf.1.2.2.2.2.2.2.2.2.2.2.2.1
  have B6 : ∀ x ∈ B, x < 6 := fun x hx => by have := hB x hx; omega
  have hm := pl_mask_64 B6
  have hl6 := l.lens.2.2
  have hpl := pl_pop_len B6 hn
  have aw := fun E K => X3_asBits_w (E := E) (K := K) l
  rw [pl_bits_n B6] at aw
  obtain ⟨F, hF⟩ : ∃ F, F = pl_kkS (fun i => pl_wk fr la ce ki (B.filter fun b => !i.testBit b) (A.getD s 0).toNat (wi.getD s 0).toNat) (pl_mask B) B.length x t := ⟨_, rfl⟩
  obtain ⟨ui, hui⟩ : ∃ ui : Int, ui = if u = true then 1 else 0 := ⟨_, rfl⟩
  have frw := fun (a b : Int) (ha : -2147483647 ≤ a ∧ a ≤ 2147483647) (hb : 1 ≤ b ∧ b ≤ 1000000) E h K => X2_fraction_w (E := E) (h := h) (K := K) (u := u) ha hb
  rw [← hui] at frw ⊢
  rw [← hF]
  obtain ⟨⟨sm, x9, h2⟩, ⟨e1, tm2, lf2, f2⟩, w⟩ := am_loop (X := List (List Int) × (Option am_V → am_H → Prop)) (α := Nat × Option am_V × am_H) (W := fun y i a => Wp y.1 19 12 [some (am_r (some 14)), some (am_r (some r)), some (am_i (s : Int)), some (am_i t), some (am_i (x : Int)), some (am_i ui), some (am_i (pl_mask B : Int)), some (am_i (a.1 : Int)), some (am_i (i : Int)), a.2.1] [] a.2.2 y.2) (I := fun i a => a.1 = (List.range i).foldl F 0 ∧ ∃ tm', Fix a.2.2 nb ns fr la ce ki wi tm' ∧ Fr h a.2.2 10 1) (N := 64) (by
    rintro n ⟨sm, x9, g⟩ hn64 ⟨e1, tm2, lf2, f2⟩
    dsimp only at e1 lf2 f2
    have ef : (List.range (n + 1)).foldl F 0 = F sm n := by rw [List.range_succ, List.foldl_append, ← e1]; rfl
    have hsub := pl_sub n hn64 (pl_mask B) hm
    have lg := l.fr f2 (by omega)
    have lcg : ChanC g o1 o2 w1 w2 := lc.frT (FrT.of0 (r := 0) (n := 0) f2) (by omega)
    by_cases q3 : n &&& pl_mask B = n
    · obtain ⟨g2, tm3, w2', lf3, r2⟩ := X1_wakes_f (m := n) (s := s) lg lf2 hB hn64 (by omega) ha hs
      have hrg := pl_win_rng (pl_tms_v lf.2.2.2.1 (B := B.filter fun b => !n.testBit b) (fun x hx => hB x (List.mem_filter.mp hx).1)) (A.getD s 0).toNat (wi.getD s 0).toNat
      have hrg2 : 0 ≤ pl_wk fr la ce ki (B.filter fun b => !n.testBit b) (A.getD s 0).toNat (wi.getD s 0).toNat ∧ pl_wk fr la ce ki (B.filter fun b => !n.testBit b) (A.getD s 0).toNat (wi.getD s 0).toNat ≤ 10 := hrg
      have lg2 := lg.fr r2 (by omega)
      have pn := pl_sub_pop (pl_mask B) hm n hn64 q3
      by_cases q4 : pl_wk fr la ce ki (B.filter fun b => !n.testBit b) (A.getD s 0).toNat (wi.getD s 0).toNat = t
      · have ewt : (x : Int) ^ pl_pop n * (10 - (x : Int)) ^ (B.length - pl_pop n) = ((pl_kwt x B.length n : Nat) : Int) := by
          unfold pl_kwt
          rw [show (10 : Int) - (x : Int) = ((10 - x : Nat) : Int) by omega, Int.natCast_mul, Int.natCast_pow, Int.natCast_pow]
        have ea : ((pl_pop n : Nat) : Int).toNat = pl_pop n := Int.toNat_natCast _
        have eb : ((B.length : Int) - (pl_pop n : Int)).toNat = B.length - pl_pop n := by omega
        refine ⟨(sm + pl_kwt x B.length n, some (am_i (pl_pop n : Int)), g2), ⟨?_, tm3, lf3, f2.trans r2⟩, fun y => ?_⟩
        · dsimp only
          rw [ef, hF, pl_kkS, if_pos ⟨q3, q4⟩]
        · dsimp only
          rw [e19_12]
          simp (disch := first | omega | (simp only [List.length_set]; omega) | rfl) only [↓e19_14, ↓e19_16, ↓e19_19, ↓e19_21, ↓e19_23, ↓e19_24, ↓e19_25, ↓e19_26, ↓e19_29, ↓e19_30, ↓e19_33, ↓e19_34, ↓e19_36, ↓e19_37, ↓e19_40, ↓e19_41, ↓e19_44, ↓e19_46, ↓e19_49, ↓e19_51, ↓e19_53, ↓e19_55, ↓e19_57, ↓e19_60, ↓e19_62, ↓e19_64, ↓e19_65, ↓e19_66, ↓e19_69, ↓e19_71, ↓e19_72, ↓e19_75, ↓e19_76, ↓e19_77, ↓e19_79, ↓e19_82, ↓am_ilp, ↓am_iln, ↓am_iep, ↓am_ien, ↓am_zlp, ↓am_zln, ↓am_zep, ↓am_zen, ↓am_zgp, ↓am_zgn, ↓am_zhp, ↓am_zhn, ↓am_b01, true_or, true_and, and_true, or_true, if_true, if_false, ↓am_bdl_z, ↓am_bdl_s, ↓am_bsl_z, ↓am_bsl_s, ↓am_k1_i, ↓am_k1_r, ↓am_k1_e, ↓am_k1_n, ↓am_bd_s, am_k1_t, eq_self, am_nl_i, am_nl_r, am_nl_e, am_nl_n, Option.toList_some, Option.toList_none, Option.map_some, Option.map_none, List.cons_append, List.nil_append, List.length_cons, List.length_nil, List.set_cons_zero, List.set_cons_succ, List.getElem?_cons_zero, List.getElem?_cons_succ, am_bd_s, ↓am_tls, ↓am_bdf lcg.1, am_bdf lcg.1, ↓am_bfu lcg.1, am_bfu lcg.1, ↓am_oc_of lcg.1, am_oc_of lcg.1, ↓am_bdf lf2.2.1.1, am_bdf lf2.2.1.1, ↓am_bfu lf2.2.1.1, am_bfu lf2.2.1.1, ↓am_oc_of lf2.2.1.1, am_oc_of lf2.2.1.1, ↓am_bdf lg.obj.1, am_bdf lg.obj.1, ↓am_bfu lg.obj.1, am_bfu lg.obj.1, ↓am_oc_of lg.obj.1, am_oc_of lg.obj.1, ↓am_bdf lg2.obj.1, am_bdf lg2.obj.1, ↓am_bfu lg2.obj.1, am_bfu lg2.obj.1, ↓am_oc_of lg2.obj.1, am_oc_of lg2.obj.1, ↓if_pos (hsub.mpr q3), ↓w2', ↓J6_bitCount_w hn64, ↓X2_power_w, ea, eb, ewt, Int.natCast_add, Int.natCast_one]
      · refine ⟨(sm, x9, g2), ⟨?_, tm3, lf3, f2.trans r2⟩, fun y => ?_⟩
        · dsimp only
          rw [ef, hF, pl_kkS, if_neg (fun z => q4 z.2)]
        · dsimp only
          rw [e19_12]
          simp (disch := first | omega | (simp only [List.length_set]; omega) | rfl) only [↓e19_14, ↓e19_16, ↓e19_19, ↓e19_21, ↓e19_23, ↓e19_24, ↓e19_25, ↓e19_26, ↓e19_29, ↓e19_30, ↓e19_33, ↓e19_34, ↓e19_36, ↓e19_37, ↓e19_40, ↓e19_41, ↓e19_44, ↓e19_46, ↓e19_49, ↓e19_51, ↓e19_53, ↓e19_55, ↓e19_57, ↓e19_60, ↓e19_62, ↓e19_64, ↓e19_65, ↓e19_66, ↓e19_69, ↓e19_71, ↓e19_72, ↓e19_75, ↓e19_76, ↓e19_77, ↓e19_79, ↓e19_82, ↓am_ilp, ↓am_iln, ↓am_iep, ↓am_ien, ↓am_zlp, ↓am_zln, ↓am_zep, ↓am_zen, ↓am_zgp, ↓am_zgn, ↓am_zhp, ↓am_zhn, ↓am_b01, true_or, true_and, and_true, or_true, if_true, if_false, ↓am_bdl_z, ↓am_bdl_s, ↓am_bsl_z, ↓am_bsl_s, ↓am_k1_i, ↓am_k1_r, ↓am_k1_e, ↓am_k1_n, ↓am_bd_s, am_k1_t, eq_self, am_nl_i, am_nl_r, am_nl_e, am_nl_n, Option.toList_some, Option.toList_none, Option.map_some, Option.map_none, List.cons_append, List.nil_append, List.length_cons, List.length_nil, List.set_cons_zero, List.set_cons_succ, List.getElem?_cons_zero, List.getElem?_cons_succ, am_bd_s, ↓am_tls, ↓am_bdf lcg.1, am_bdf lcg.1, ↓am_bfu lcg.1, am_bfu lcg.1, ↓am_oc_of lcg.1, am_oc_of lcg.1, ↓am_bdf lf2.2.1.1, am_bdf lf2.2.1.1, ↓am_bfu lf2.2.1.1, am_bfu lf2.2.1.1, ↓am_oc_of lf2.2.1.1, am_oc_of lf2.2.1.1, ↓am_bdf lg.obj.1, am_bdf lg.obj.1, ↓am_bfu lg.obj.1, am_bfu lg.obj.1, ↓am_oc_of lg.obj.1, am_oc_of lg.obj.1, ↓am_bdf lg2.obj.1, am_bdf lg2.obj.1, ↓am_bfu lg2.obj.1, am_bfu lg2.obj.1, ↓am_oc_of lg2.obj.1, am_oc_of lg2.obj.1, ↓if_pos (hsub.mpr q3), ↓w2', Int.natCast_add, Int.natCast_one]
    · have q5 : ¬ am_w (am_and (n : Int) (am_xor (pl_mask B : Int) (-1))) = 0 := fun z => q3 (hsub.mp z)
      refine ⟨(sm, x9, g), ⟨?_, tm2, lf2, f2⟩, fun y => ?_⟩
      · dsimp only
        rw [ef, hF, pl_kkS, if_neg (fun z => q3 z.1)]
      · dsimp only
        rw [e19_12]
        simp (disch := first | omega | (simp only [List.length_set]; omega) | rfl) only [↓e19_14, ↓e19_16, ↓e19_19, ↓e19_21, ↓e19_23, ↓e19_24, ↓e19_25, ↓e19_26, ↓e19_29, ↓e19_30, ↓e19_33, ↓e19_34, ↓e19_36, ↓e19_37, ↓e19_40, ↓e19_41, ↓e19_44, ↓e19_46, ↓e19_49, ↓e19_51, ↓e19_53, ↓e19_55, ↓e19_57, ↓e19_60, ↓e19_62, ↓e19_64, ↓e19_65, ↓e19_66, ↓e19_69, ↓e19_71, ↓e19_72, ↓e19_75, ↓e19_76, ↓e19_77, ↓e19_79, ↓e19_82, ↓am_ilp, ↓am_iln, ↓am_iep, ↓am_ien, ↓am_zlp, ↓am_zln, ↓am_zep, ↓am_zen, ↓am_zgp, ↓am_zgn, ↓am_zhp, ↓am_zhn, ↓am_b01, true_or, true_and, and_true, or_true, if_true, if_false, ↓am_bdl_z, ↓am_bdl_s, ↓am_bsl_z, ↓am_bsl_s, ↓am_k1_i, ↓am_k1_r, ↓am_k1_e, ↓am_k1_n, ↓am_bd_s, am_k1_t, eq_self, am_nl_i, am_nl_r, am_nl_e, am_nl_n, Option.toList_some, Option.toList_none, Option.map_some, Option.map_none, List.cons_append, List.nil_append, List.length_cons, List.length_nil, List.set_cons_zero, List.set_cons_succ, List.getElem?_cons_zero, List.getElem?_cons_succ, am_bd_s, ↓if_neg q5, Int.natCast_add, Int.natCast_one]) 64 0 (0, none, h) rfl ⟨rfl, tm, lf, Fr.rf⟩
  dsimp only at e1 lf2 f2 w
  have hrk := (pl_kk_rng (Wk := fun i => pl_wk fr la ce ki (B.filter fun b => !i.testBit b) (A.getD s 0).toNat (wi.getD s 0).toNat) (t := t) hm hpl (show x < 11 by omega) 64 (by omega)).1
  rw [← hF, ← e1] at hrk
  have hten : 1 ≤ (10 : Int) ^ B.length ∧ (10 : Int) ^ B.length ≤ 1000000 := by
    have hd : ∀ n < 7, 1 ≤ (10 : Int) ^ n ∧ (10 : Int) ^ n ≤ 1000000 := by decide
    exact hd _ (by omega)
  have l2 := l.fr f2 (by omega)
  refine ⟨h2, tm2, fun E K => ?_, lf2, f2⟩
  rw [← e1, Int.natCast_pow]
  have frw2 := frw (sm : Int) ((10 : Int) ^ B.length) (by omega) hten
  have pw : ∀ E K h, Wp E 20 0 [some (am_i 10), some (am_i (B.length : Int)), none, none] [] h K = K (some (am_i ((10 : Int) ^ B.length))) h := by
    intro E K h
    rw [X2_power_w (by omega), Int.toNat_natCast]
  have st : Wp E 19 0 [some (am_r (some 14)), some (am_r (some r)), some (am_i (s : Int)), some (am_i t), some (am_i (x : Int)), some (am_i ui), none, none, none, none] [] h K = Wp E 19 12 [some (am_r (some 14)), some (am_r (some r)), some (am_i (s : Int)), some (am_i t), some (am_i (x : Int)), some (am_i ui), some (am_i (pl_mask B : Int)), some (am_i 0), some (am_i 0), none] [] h K := by
    simp (disch := first | omega | (simp only [List.length_set]; omega) | rfl) only [↓e19_0, ↓e19_1, ↓e19_4, ↓e19_6, ↓e19_7, ↓e19_9, ↓e19_10, ↓am_ilp, ↓am_iln, ↓am_iep, ↓am_ien, ↓am_zlp, ↓am_zln, ↓am_zep, ↓am_zen, ↓am_zgp, ↓am_zgn, ↓am_zhp, ↓am_zhn, ↓am_b01, true_or, true_and, and_true, or_true, if_true, if_false, ↓am_bdl_z, ↓am_bdl_s, ↓am_bsl_z, ↓am_bsl_s, ↓am_k1_i, ↓am_k1_r, ↓am_k1_e, ↓am_k1_n, ↓am_bd_s, am_k1_t, eq_self, am_nl_i, am_nl_r, am_nl_e, am_nl_n, Option.toList_some, Option.toList_none, Option.map_some, Option.map_none, List.cons_append, List.nil_append, List.length_cons, List.length_nil, List.set_cons_zero, List.set_cons_succ, List.getElem?_cons_zero, List.getElem?_cons_succ, am_bd_s, ↓am_tls, ↓am_bdf l.obj.1, am_bdf l.obj.1, ↓am_bfu l.obj.1, am_bfu l.obj.1, ↓am_oc_of l.obj.1, am_oc_of l.obj.1, ↓aw]
  have w2 := w (E, K)
  dsimp only at w2
  rw [st]
  refine Eq.trans w2 ?_
  rw [e19_12]
  simp (disch := first | omega | (simp only [List.length_set]; omega) | rfl) only [↓e19_14, ↓e19_16, ↓e19_85, ↓e19_87, ↓e19_89, ↓e19_90, ↓e19_93, ↓e19_96, ↓e19_98, ↓e19_101, ↓am_ilp, ↓am_iln, ↓am_iep, ↓am_ien, ↓am_zlp, ↓am_zln, ↓am_zep, ↓am_zen, ↓am_zgp, ↓am_zgn, ↓am_zhp, ↓am_zhn, ↓am_b01, true_or, true_and, and_true, or_true, if_true, if_false, ↓am_bdl_z, ↓am_bdl_s, ↓am_bsl_z, ↓am_bsl_s, ↓am_k1_i, ↓am_k1_r, ↓am_k1_e, ↓am_k1_n, ↓am_bd_s, am_k1_t, eq_self, am_nl_i, am_nl_r, am_nl_e, am_nl_n, Option.toList_some, Option.toList_none, Option.map_some, Option.map_none, List.cons_append, List.nil_append, List.length_cons, List.length_nil, List.set_cons_zero, List.set_cons_succ, List.getElem?_cons_zero, List.getElem?_cons_succ, am_bd_s, ↓am_tls, ↓am_bdf l2.obj.1, am_bdf l2.obj.1, ↓am_bfu l2.obj.1, am_bfu l2.obj.1, ↓am_oc_of l2.obj.1, am_oc_of l2.obj.1, ↓pw, ↓frw2]
  rfl
end CH2
