/-- what was seen: who, when -/
def SeenC (h : am_H) (S : List (Nat × Nat)) : Prop := ∃ g g' : List Int, S.length + g.length = 6 ∧ S.length + g'.length = 6 ∧ h[17]? = some (am_o 7 [am_r (some 3), am_r (some 9), am_r (some 18), am_r (some 19), am_i (S.length : Int)]) ∧ h[18]? = some (am_a 0 (pl_c (S.map Prod.fst) ++ g)) ∧ h[19]? = some (am_a 0 (pl_c (S.map Prod.snd) ++ g')) ∧ ∀ x ∈ S, x.1 < 3 ∧ x.2 ≤ 10
theorem SeenC.frT {h h' : am_H} {q n : Nat} {S : List (Nat × Nat)} (l : SeenC h S) (f : FrT h h' q n) (d : 20 ≤ q ∨ q + n ≤ 17) : SeenC h' S := by
  obtain ⟨g, g', h0, h1, h2, h3, h4, h5⟩ := l
  exact ⟨g, g', h0, h1, by rw [f.2 _ (by omega) (by omega)]; exact h2, by rw [f.2 _ (by omega) (by omega)]; exact h3, by rw [f.2 _ (by omega) (by omega)]; exact h4, h5⟩
theorem pl_cm_rng {ws : List Int} (h : ∀ v ∈ ws, 0 ≤ v ∧ v ≤ 10) : 0 ≤ pl_cm ws ∧ pl_cm ws ≤ 10 := by
  have key : ∀ (l : List Int) (bm : Int × Int), (∀ v ∈ l, 0 ≤ v ∧ v ≤ 10) → 0 ≤ bm.1 ∧ bm.1 ≤ 10 → 0 ≤ (l.foldl (pl_cs ws) bm).1 ∧ (l.foldl (pl_cs ws) bm).1 ≤ 10 := by
    intro l
    induction l with
    | nil => intro bm _ hb; exact hb
    | cons x l ih =>
      intro bm hl hb
      rw [List.foldl_cons]
      refine ih _ (fun v hv => hl v (List.mem_cons_of_mem _ hv)) ?_
      unfold pl_cs
      split
      · exact hl x List.mem_cons_self
      · exact hb
  exact key ws (10, 0) h (by decide)
section SEE
variable {h : am_H} {r nb ns m : Nat} {B : List Nat} {A Wo tm fr la ce ki wi : List Int} {ni : Int} {Q : List (Nat × Nat)}
theorem X7_note_full {E : List (List Int)} {K : Option am_V → am_H → Prop} {s t : Int} (l : SeenC h Q) (h6 : Q.length = 6) : Wp E 64 0 [some (am_r (some 17)), some (am_i s), some (am_i t)] [] h K = K (some (am_i 0)) h := by
  obtain ⟨g, g', h0, h1, h2, h3, h4, h5⟩ := l
  have c1 : ¬ am_w ((6 : Nat) : Int) < am_w 6 := by decide
  rw [h6] at h2
  simp only [e64_0, e64_1, e64_4, e64_6, e64_9, e64_10, eq_self, am_k1_t, am_bd_s, am_bd_n, am_nl_i, am_nl_r, am_nl_e, am_nl_n, Option.toList_some, Option.toList_none, List.cons_append, List.nil_append, List.getElem?_cons_zero, List.getElem?_cons_succ, List.length_cons, List.length_nil, List.set_cons_zero, List.set_cons_succ, am_fd_of h2, if_neg c1]
  simp
theorem X7_note_w {s t : Nat} (l : SeenC h Q) (h6 : Q.length < 6) (hs : s < 3) (ht : t ≤ 10) : ∃ h', (∀ E K, Wp E 64 0 [some (am_r (some 17)), some (am_i (s : Int)), some (am_i (t : Int))] [] h K = K (some (am_i 1)) h') ∧ SeenC h' (Q ++ [(s, t)]) ∧ Fr h h' 17 3 := by
  obtain ⟨g, g', h0, h1, h2, h3, h4, h5⟩ := l
  obtain ⟨y, g, rfl⟩ : ∃ y g1, g = y :: g1 := by
    cases g with
    | nil => rw [List.length_nil] at h0; omega
    | cons y g1 => exact ⟨y, g1, rfl⟩
  obtain ⟨y', g', rfl⟩ : ∃ y g1, g' = y :: g1 := by
    cases g' with
    | nil => rw [List.length_nil] at h1; omega
    | cons y g1 => exact ⟨y, g1, rfl⟩
  have c1 : am_w (Q.length : Int) < am_w 6 := by rw [am_w_nat (by omega), am_w_l6]; omega
  have e1 : (pl_c (Q.map Prod.fst)).length = Q.length := by rw [pl_c_len, List.length_map]
  have e2 : (pl_c (Q.map Prod.snd)).length = Q.length := by rw [pl_c_len, List.length_map]
  have w1 : am_wr (pl_c (Q.map Prod.fst) ++ y :: g) (Q.length : Int) (s : Int) = some (pl_c (Q.map Prod.fst) ++ (s : Int) :: g) := by rw [← e1]; exact am_wr_mid (by omega)
  have w2 : am_wr (pl_c (Q.map Prod.snd) ++ y' :: g') (Q.length : Int) (t : Int) = some (pl_c (Q.map Prod.snd) ++ (t : Int) :: g') := by rw [← e2]; exact am_wr_mid (by omega)
  have s1 : (h.set 18 (am_a 0 (pl_c (Q.map Prod.fst) ++ (s : Int) :: g)))[17]? = some (am_o 7 [am_r (some 3), am_r (some 9), am_r (some 18), am_r (some 19), am_i (Q.length : Int)]) := by rw [am_set_ne (by omega)]; exact h2
  have s2 : (h.set 18 (am_a 0 (pl_c (Q.map Prod.fst) ++ (s : Int) :: g)))[19]? = some (am_a 0 (pl_c (Q.map Prod.snd) ++ y' :: g')) := by rw [am_set_ne (by omega)]; exact h4
  have t1 : ((h.set 18 (am_a 0 (pl_c (Q.map Prod.fst) ++ (s : Int) :: g))).set 19 (am_a 0 (pl_c (Q.map Prod.snd) ++ (t : Int) :: g')))[17]? = some (am_o 7 [am_r (some 3), am_r (some 9), am_r (some 18), am_r (some 19), am_i (Q.length : Int)]) := by rw [am_set_ne (by omega)]; exact s1
  refine ⟨((h.set 18 (am_a 0 (pl_c (Q.map Prod.fst) ++ (s : Int) :: g))).set 19 (am_a 0 (pl_c (Q.map Prod.snd) ++ (t : Int) :: g'))).set 17 (am_o 7 [am_r (some 3), am_r (some 9), am_r (some 18), am_r (some 19), am_i ((Q.length : Int) + 1)]), fun E K => ?_, ⟨g, g', ?_, ?_, ?_, ?_, ?_, ?_⟩, ((Fr.rf.set (by omega) (by omega)).set (by omega) (by omega)).set (by omega) (by omega)⟩
  · simp only [e64_0, e64_1, e64_4, e64_6, e64_9, e64_10, e64_11, e64_12, e64_15, e64_16, e64_19, e64_20, e64_21, e64_22, e64_25, e64_26, e64_29, e64_30, e64_31, e64_32, e64_33, e64_36, e64_37, e64_38, e64_41, e64_42, eq_self, am_k1_t, am_bd_s, am_bd_n, am_nl_i, am_nl_r, am_nl_e, am_nl_n, Option.toList_some, Option.toList_none, List.cons_append, List.nil_append, List.getElem?_cons_zero, List.getElem?_cons_succ, List.length_cons, List.length_nil, List.set_cons_zero, List.set_cons_succ, am_fd_of h2, if_pos c1, am_wa_of h3, w1, Option.map_some, am_fd_of s1, am_wa_of s2, w2, am_fd_of t1, am_fu_of t1 (show 4 < [am_r (some 3), am_r (some 9), am_r (some 18), am_r (some 19), am_i (Q.length : Int)].length from by simp)]
    simp
  · rw [List.length_append, List.length_singleton]; rw [List.length_cons] at h0; omega
  · rw [List.length_append, List.length_singleton]; rw [List.length_cons] at h1; omega
  · rw [am_set_at t1, List.length_append, List.length_singleton]; rfl
  · rw [am_set_ne (by omega), am_set_ne (by omega), am_set_at h3, List.map_append, pl_c_app, List.append_assoc]; rfl
  · rw [am_set_ne (by omega), am_set_at s2, List.map_append, pl_c_app, List.append_assoc]; rfl
  · intro x hx
    rcases List.mem_append.mp hx with z | z
    · exact h5 x z
    · rw [List.mem_singleton.mp z]; exact ⟨hs, ht⟩
/-- all that was seen is so, the blankets lying as in B -/
def pl_so (ns : Nat) (fr la ce ki wi : List Int) (B : List Nat) (A : List Int) (Q : List (Nat × Nat)) : Bool := Q.all fun x => decide (x.1 < ns → pl_wk fr la ce ki B (A.getD x.1 0).toNat (wi.getD x.1 0).toNat = (x.2 : Int))
theorem X7_isSo_l {E : List (List Int)} {K : Option am_V → am_H → Prop} {B' : List Nat} (l : LayC h r B A Wo ni) (lf : Fix h nb ns fr la ce ki wi (pl_tms fr la ce ki B')) (ha : AtOk ns wi A) (ls : SeenC h Q) :
    ∀ (S P : List (Nat × Nat)), Q = P ++ S → Wp E 66 11 [some (am_r (some 17)), some (am_r (some r)), some (am_i (m : Int)), some (am_i (P.length : Int))] [] h K = K (some (am_i (pl_b (pl_so ns fr la ce ki wi B' A S = true)))) h
  | [], P, e => by
    obtain ⟨g, g', h0, h1, h2, h3, h4, h5⟩ := ls
    have e1 : P.length = Q.length := by rw [e, List.append_nil]
    rw [e66_11]
    simp only [e66_12, e66_13, e66_16, e66_19, e66_20, e66_23, e66_24, e66_27, e66_28, e66_29, e66_32, e66_35, e66_36, e66_39, e66_40, e66_41, e66_44, e66_45, e66_46, e66_49, e66_50, e66_53, e66_54, e66_55, e66_58, e66_59, e66_60, e66_63, e66_66, e66_67, eq_self, am_k1_t, am_bd_s, am_bd_n, am_nl_i, am_nl_r, am_nl_e, am_nl_n, Option.toList_some, Option.toList_none, List.cons_append, List.nil_append, List.getElem?_cons_zero, List.getElem?_cons_succ, List.length_cons, List.length_nil, List.set_cons_zero, List.set_cons_succ, am_fd_of h2, e1, Int.lt_irrefl, if_false, pl_so, List.all_nil, pl_b, if_true]
    simp
  | (s, t) :: S, P, e => by
    have ih := X7_isSo_l (E := E) (K := K) l lf ha ls S (P ++ [(s, t)]) (by rw [e]; simp)
    rw [List.length_append] at ih
    have h3n : ns ≤ 3 := lf.1.2.2.2.2.2.2.2.2.2.2.2.2
    obtain ⟨g, g', h0, h1, h2, h3, h4, h5⟩ := ls
    obtain ⟨hs, ht⟩ := h5 (s, t) (by rw [e]; simp)
    dsimp only at hs ht
    have e1 : Q.length = P.length + (S.length + 1) := by rw [e, List.length_append]; rfl
    have k1 : am_w (P.length : Int) < am_w (Q.length : Int) := by rw [am_w_nat (by omega), am_w_nat (by omega)]; omega
    have p1 : (pl_c (P.map Prod.fst)).length = P.length := by rw [pl_c_len, List.length_map]
    have p2 : (pl_c (P.map Prod.snd)).length = P.length := by rw [pl_c_len, List.length_map]
    have r1 : am_rd (pl_c (Q.map Prod.fst) ++ g) (P.length : Int) = some (s : Int) := by
      rw [e, List.map_append, List.map_cons, pl_c_app, pl_c_cons, List.append_assoc, ← p1]
      exact am_rd_mid (by omega)
    have r2 : am_rd (pl_c (Q.map Prod.snd) ++ g') (P.length : Int) = some (t : Int) := by
      rw [e, List.map_append, List.map_cons, pl_c_app, pl_c_cons, List.append_assoc, ← p2]
      exact am_rd_mid (by omega)
    have es : am_w (s : Int) = (s : Int) := am_w_nat (by omega)
    have et : am_w (t : Int) = (t : Int) := am_w_nat (by omega)
    have hw := fun E K => X4_hasSleeper_w (E := E) (K := K) (x := (s : Int)) lf.1
    simp only [es] at hw
    have eso : pl_so ns fr la ce ki wi B' A ((s, t) :: S) = (decide (s < ns → pl_wk fr la ce ki B' (A.getD s 0).toNat (wi.getD s 0).toNat = (t : Int)) && pl_so ns fr la ce ki wi B' A S) := rfl
    rw [e66_11]
    simp only [e66_12, e66_13, e66_16, e66_19, e66_20, e66_23, e66_24, e66_27, e66_28, e66_29, eq_self, am_k1_t, am_bd_s, am_bd_n, am_nl_i, am_nl_r, am_nl_e, am_nl_n, Option.toList_some, Option.toList_none, List.cons_append, List.nil_append, List.getElem?_cons_zero, List.getElem?_cons_succ, List.length_cons, List.length_nil, List.set_cons_zero, List.set_cons_succ, am_fd_of h2, if_pos k1, am_ra_of h3, r1, am_oc_of lf.1.1, hw]
    by_cases q1 : s < ns
    · have ww := fun E K => X1_wakesAsReckoned_f (E := E) (K := K) l lf ha q1
      have c1 : (0 ≤ (s : Int) ∧ (s : Int) < (ns : Int)) := by omega
      have hr := pl_cm_rng (ws := ((pl_tms fr la ce ki B').drop (A.getD s 0).toNat).take (wi.getD s 0).toNat) (fun v hv => lf.2.2.2.2.1 v (List.mem_of_mem_drop (List.mem_of_mem_take hv)))
      have ew : am_w (pl_cm (((pl_tms fr la ce ki B').drop (A.getD s 0).toNat).take (wi.getD s 0).toNat)) = pl_cm (((pl_tms fr la ce ki B').drop (A.getD s 0).toNat).take (wi.getD s 0).toNat) := am_w_id (by omega) (by omega)
      simp only [e66_32, e66_35, e66_36, e66_39, e66_40, e66_41, e66_44, e66_45, e66_46, eq_self, am_k1_t, am_bd_s, am_bd_n, am_nl_i, am_nl_r, am_nl_e, am_nl_n, Option.toList_some, Option.toList_none, List.cons_append, List.nil_append, List.getElem?_cons_zero, List.getElem?_cons_succ, List.length_cons, List.length_nil, List.set_cons_zero, List.set_cons_succ, pl_b, if_pos c1, am_w_l1, show ¬ ((1 : Int) = 0) by decide, if_false, am_fd_of h2, am_ra_of h3, r1, am_oc_of lf.2.1.1, ww]
      simp only [e66_49, e66_50, e66_53, e66_54, e66_55, e66_58, e66_59, e66_60, e66_63, eq_self, am_k1_t, am_bd_s, am_bd_n, am_nl_i, am_nl_r, am_nl_e, am_nl_n, Option.toList_some, Option.toList_none, List.cons_append, List.nil_append, List.getElem?_cons_zero, List.getElem?_cons_succ, List.length_cons, List.length_nil, List.set_cons_zero, List.set_cons_succ, am_fd_of h2, am_ra_of h4, r2, et, ew]
      rw [eso]
      by_cases q2 : pl_cm (((pl_tms fr la ce ki B').drop (A.getD s 0).toNat).take (wi.getD s 0).toNat) = (t : Int)
      · rw [if_pos q2, decide_eq_true (show s < ns → pl_wk fr la ce ki B' (A.getD s 0).toNat (wi.getD s 0).toNat = (t : Int) from fun _ => q2), Bool.true_and]
        exact ih
      · rw [if_neg q2, decide_eq_false (show ¬ (s < ns → pl_wk fr la ce ki B' (A.getD s 0).toNat (wi.getD s 0).toNat = (t : Int)) from fun z => q2 (z q1)), Bool.false_and]
        simp
    · have c1 : ¬ (0 ≤ (s : Int) ∧ (s : Int) < (ns : Int)) := by omega
      simp only [e66_32, e66_35, e66_36, e66_39, e66_40, e66_41, e66_44, e66_45, e66_46, e66_49, e66_50, e66_53, e66_54, e66_55, e66_58, e66_59, e66_60, e66_63, eq_self, am_k1_t, am_bd_s, am_bd_n, am_nl_i, am_nl_r, am_nl_e, am_nl_n, Option.toList_some, Option.toList_none, List.cons_append, List.nil_append, List.getElem?_cons_zero, List.getElem?_cons_succ, List.length_cons, List.length_nil, List.set_cons_zero, List.set_cons_succ, pl_b, if_neg c1, am_w_l0, if_true]
      rw [eso, decide_eq_true (show s < ns → pl_wk fr la ce ki B' (A.getD s 0).toNat (wi.getD s 0).toNat = (t : Int) from fun z => absurd z q1), Bool.true_and]
      exact ih
theorem X7_isSo_f (l : LayC h r B A Wo ni) (lf : Fix h nb ns fr la ce ki wi tm) (hB : ∀ x ∈ B, x < nb) (ha : AtOk ns wi A) (ls : SeenC h Q) (hm : m < 64) (hr : 20 ≤ r) : ∃ h' tm', (∀ E K, Wp E 66 0 [some (am_r (some 17)), some (am_r (some r)), some (am_i (m : Int)), none] [] h K = K (some (am_i (pl_b (pl_so ns fr la ce ki wi (B.filter fun b => !m.testBit b) A Q = true)))) h') ∧ Fix h' nb ns fr la ce ki wi tm' ∧ Fr h h' 10 1 := by
  obtain ⟨h1, w1, f1, r1⟩ := X1_reckon_f (m := m) l lf hB hm (by omega)
  have fT : FrT h h1 0 0 := FrT.of0 r1
  have ls2 := ls.frT fT (by omega)
  obtain ⟨g, g', a0, a1, a2, a3, a4, a5⟩ := id ls
  refine ⟨h1, _, fun E K => ?_, f1, r1⟩
  simp only [e66_0, e66_1, e66_4, e66_5, e66_6, eq_self, am_k1_t, am_bd_s, am_bd_n, am_nl_i, am_nl_r, am_nl_e, am_nl_n, Option.toList_some, Option.toList_none, List.cons_append, List.nil_append, List.getElem?_cons_zero, List.getElem?_cons_succ, List.length_cons, List.length_nil, List.set_cons_zero, List.set_cons_succ, am_fd_of a2, am_oc_of lf.2.1.1, w1]
  simp only [e66_9, e66_10, eq_self, am_k1_t, am_bd_s, am_bd_n, am_nl_i, am_nl_r, am_nl_e, am_nl_n, Option.toList_some, Option.toList_none, List.cons_append, List.nil_append, List.getElem?_cons_zero, List.getElem?_cons_succ, List.length_cons, List.length_nil, List.set_cons_zero, List.set_cons_succ]
  exact X7_isSo_l (l.fr r1 (by omega)) f1 ha ls2 Q [] rfl
theorem pl_sh1 : ∀ x < 6, am_shl 1 ((x : Nat) : Int) = ((2 ^ x : Nat) : Int) := by decide +kernel
theorem pl_p2 : ∀ x < 6, 2 ^ x < 64 := by decide
/-- one blanket more is looked at -/
def pl_gs (ns : Nat) (fr la ce ki wi : List Int) (B : List Nat) (A : List Int) (Q : List (Nat × Nat)) (a : Int) (x : Nat) : Int := if pl_so ns fr la ce ki wi (B.filter fun b => !(2 ^ x : Nat).testBit b) A Q = true then am_or a (am_shl 1 (x : Int)) else a
theorem X7_explainedBy_l (hB : ∀ x ∈ B, x < nb) (hn : nb ≤ 6) (ha : AtOk ns wi A) (hr : 20 ≤ r) :
    ∀ (S P : List Nat) (y : Int) (h : am_H) (tm : List Int) (x4 : Option am_V), B = P ++ S → LayC h r B A Wo ni → Fix h nb ns fr la ce ki wi tm → SeenC h Q → ∃ h' tm', (∀ E K, Wp E 65 18 [some (am_r (some 17)), some (am_r (some r)), some (am_i y), some (am_i (P.length : Int)), x4] [] h K = K (some (am_i (S.foldl (pl_gs ns fr la ce ki wi B A Q) y))) h') ∧ Fix h' nb ns fr la ce ki wi tm' ∧ Fr h h' 10 1
  | [], P, y, h, tm, x4, e, l, lf, ls => by
    have e1 : P.length = B.length := by rw [e, List.append_nil]
    refine ⟨h, tm, fun E K => ?_, lf, Fr.rf⟩
    rw [e65_18]
    simp only [e65_19, e65_20, e65_23, e65_26, e65_27, e65_28, e65_29, e65_32, e65_33, e65_35, e65_36, e65_37, e65_39, e65_42, e65_45, e65_46, e65_48, e65_49, e65_50, e65_53, e65_56, e65_57, eq_self, am_k1_t, am_bd_s, am_bd_n, am_nl_i, am_nl_r, am_nl_e, am_nl_n, Option.toList_some, Option.toList_none, List.cons_append, List.nil_append, List.getElem?_cons_zero, List.getElem?_cons_succ, List.length_cons, List.length_nil, List.set_cons_zero, List.set_cons_succ, am_fd_of l.obj.1, e1, Int.lt_irrefl, if_false, List.foldl_nil]
  | x :: S, P, y, h, tm, x4, e, l, lf, ls => by
    have hx : x < 6 := by have := hB x (by rw [e]; simp); omega
    have bw := fun E K => X3_blanketAt_w (E := E) (K := K) (P := P) (S := S) (x := x) (by rw [← e]; exact l)
    obtain ⟨h1, tm1, w1, f1, r1⟩ := X7_isSo_f (m := 2 ^ x) l lf hB ha ls (pl_p2 x hx) hr
    have e1 : B.length = P.length + (S.length + 1) := by rw [e, List.length_append]; rfl
    have l6 := l.lens.2.2
    have k1 : am_w (P.length : Int) < am_w (B.length : Int) := by rw [am_w_nat (by omega), am_w_nat (by omega)]; omega
    obtain ⟨g, g', a0, a1, a2, a3, a4, a5⟩ := id ls
    have l1 := l.fr r1 (by omega)
    have ls1 : SeenC h1 Q := ls.frT (FrT.of0 (r := 0) (n := 0) r1) (by omega)
    obtain ⟨h2, tm2, w2, f2, r2⟩ := X7_explainedBy_l hB hn ha hr S (P ++ [x]) (pl_gs ns fr la ce ki wi B A Q y x) h1 tm1 (some (am_i ((2 ^ x : Nat) : Int))) (by rw [e]; simp) l1 f1 ls1
    refine ⟨h2, tm2, fun E K => ?_, f2, r1.trans r2⟩
    have w3 := w2 E K
    rw [List.length_append] at w3
    rw [e65_18]
    simp only [e65_19, e65_20, e65_23, e65_26, e65_27, e65_28, e65_29, eq_self, am_k1_t, am_bd_s, am_bd_n, am_nl_i, am_nl_r, am_nl_e, am_nl_n, Option.toList_some, Option.toList_none, List.cons_append, List.nil_append, List.getElem?_cons_zero, List.getElem?_cons_succ, List.length_cons, List.length_nil, List.set_cons_zero, List.set_cons_succ, am_fd_of l.obj.1, if_pos k1, am_oc_of l.obj.1, bw]
    simp only [e65_32, e65_33, e65_35, e65_36, e65_37, e65_39, eq_self, am_k1_t, am_bd_s, am_bd_n, am_nl_i, am_nl_r, am_nl_e, am_nl_n, Option.toList_some, Option.toList_none, List.cons_append, List.nil_append, List.getElem?_cons_zero, List.getElem?_cons_succ, List.length_cons, List.length_nil, List.set_cons_zero, List.set_cons_succ, pl_sh1 x hx, am_oc_of a2, w1]
    rw [List.foldl_cons]
    unfold pl_gs at w3 ⊢
    by_cases q : pl_so ns fr la ce ki wi (B.filter fun b => !(2 ^ x : Nat).testBit b) A Q = true
    · rw [if_pos q] at w3 ⊢
      rw [pl_sh1 x hx] at w3 ⊢
      simp only [e65_42, e65_45, e65_46, e65_48, e65_49, e65_50, e65_53, eq_self, am_k1_t, am_bd_s, am_bd_n, am_nl_i, am_nl_r, am_nl_e, am_nl_n, Option.toList_some, Option.toList_none, List.cons_append, List.nil_append, List.getElem?_cons_zero, List.getElem?_cons_succ, List.length_cons, List.length_nil, List.set_cons_zero, List.set_cons_succ, pl_b, if_pos q, am_w_l1, show ¬ ((1 : Int) = 0) by decide, if_false]
      exact w3
    · rw [if_neg q] at w3 ⊢
      simp only [e65_42, e65_45, e65_46, e65_48, e65_49, e65_50, e65_53, eq_self, am_k1_t, am_bd_s, am_bd_n, am_nl_i, am_nl_r, am_nl_e, am_nl_n, Option.toList_some, Option.toList_none, List.cons_append, List.nil_append, List.getElem?_cons_zero, List.getElem?_cons_succ, List.length_cons, List.length_nil, List.set_cons_zero, List.set_cons_succ, pl_b, if_neg q, am_w_l0, if_true]
      exact w3
theorem X7_explainedBy_f (l : LayC h r B A Wo ni) (lf : Fix h nb ns fr la ce ki wi tm) (hB : ∀ x ∈ B, x < nb) (ha : AtOk ns wi A) (ls : SeenC h Q) (hr : 20 ≤ r) : ∃ h' tm', (∀ E K, Wp E 65 0 [some (am_r (some 17)), some (am_r (some r)), none, none, none] [] h K = K (some (am_i (B.foldl (pl_gs ns fr la ce ki wi B A Q) (if pl_so ns fr la ce ki wi B A Q = true then 64 else 0)))) h') ∧ Fix h' nb ns fr la ce ki wi tm' ∧ Fr h h' 10 1 := by
  obtain ⟨h1, tm1, w1, f1, r1⟩ := X7_isSo_f (m := 0) l lf hB ha ls (by omega) hr
  rw [pl_f0] at w1
  have e0 : ((0 : Nat) : Int) = 0 := rfl
  rw [e0] at w1
  have l1 := l.fr r1 (by omega)
  have ls1 : SeenC h1 Q := ls.frT (FrT.of0 (r := 0) (n := 0) r1) (by omega)
  obtain ⟨g, g', a0, a1, a2, a3, a4, a5⟩ := id ls
  obtain ⟨h2, tm2, w2, f2, r2⟩ := X7_explainedBy_l hB lf.1.2.2.2.2.2.2.2.2.2.2.2.1 ha hr B [] (if pl_so ns fr la ce ki wi B A Q = true then 64 else 0) h1 tm1 none rfl l1 f1 ls1
  refine ⟨h2, tm2, fun E K => ?_, f2, r1.trans r2⟩
  have w3 := w2 E K
  simp only [e65_0, e65_1, e65_2, e65_3, eq_self, am_k1_t, am_bd_s, am_bd_n, am_nl_i, am_nl_r, am_nl_e, am_nl_n, Option.toList_some, Option.toList_none, List.cons_append, List.nil_append, List.getElem?_cons_zero, List.getElem?_cons_succ, List.length_cons, List.length_nil, List.set_cons_zero, List.set_cons_succ, am_oc_of a2, w1]
  by_cases q : pl_so ns fr la ce ki wi B A Q = true
  · rw [if_pos q] at w3 ⊢
    simp only [e65_6, e65_9, e65_11, e65_14, e65_15, e65_16, e65_17, eq_self, am_k1_t, am_bd_s, am_bd_n, am_nl_i, am_nl_r, am_nl_e, am_nl_n, Option.toList_some, Option.toList_none, List.cons_append, List.nil_append, List.getElem?_cons_zero, List.getElem?_cons_succ, List.length_cons, List.length_nil, List.set_cons_zero, List.set_cons_succ, pl_b, if_pos q, am_w_l1, show ¬ ((1 : Int) = 0) by decide, if_false]
    exact w3
  · rw [if_neg q] at w3 ⊢
    simp only [e65_6, e65_9, e65_11, e65_14, e65_15, e65_16, e65_17, eq_self, am_k1_t, am_bd_s, am_bd_n, am_nl_i, am_nl_r, am_nl_e, am_nl_n, Option.toList_some, Option.toList_none, List.cons_append, List.nil_append, List.getElem?_cons_zero, List.getElem?_cons_succ, List.length_cons, List.length_nil, List.set_cons_zero, List.set_cons_succ, pl_b, if_neg q, am_w_l0, if_true]
    exact w3
end SEE
