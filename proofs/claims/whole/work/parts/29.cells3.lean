section CE3
variable {E : List (List Int)} {h : am_H} {K : Option am_V → am_H → Prop} {r nb ns m : Nat} {B : List Nat} {A Wo tm fr la ce ki wi : List Int} {ni : Int}
/-- the times, as wakes leaves them: those from f on, w of them, are reckoned anew -/
def pl_tx (T tm : List Int) (f w : Nat) : List Int := (List.range 6).map fun c => if f ≤ c ∧ c < f + w then T.getD c 0 else tm.getD c 0
theorem pl_tx_at {T tm : List Int} {f w c : Nat} (hc : c < 6) : (pl_tx T tm f w)[c]? = some (if f ≤ c ∧ c < f + w then T.getD c 0 else tm.getD c 0) := by
  simp [pl_tx, hc]
theorem pl_tx_len (T tm : List Int) (f w : Nat) : (pl_tx T tm f w).length = 6 := by simp [pl_tx]
theorem pl_tx_win {T tm : List Int} {f w : Nat} (hT : T.length = 6) (hw : f + w ≤ 6) : ((pl_tx T tm f w).drop f).take w = (T.drop f).take w := by
  apply List.ext_getElem?
  intro i
  rw [List.getElem?_take, List.getElem?_take]
  by_cases hi : i < w
  · rw [if_pos hi, if_pos hi, List.getElem?_drop, List.getElem?_drop, pl_tx_at (by omega), if_pos ⟨by omega, by omega⟩, ← am_gv (by omega)]
  · rw [if_neg hi, if_neg hi]
theorem pl_tx_v {T tm : List Int} {f w : Nat} (hT : ∀ v ∈ T, 0 ≤ v ∧ v ≤ 10) (ht : ∀ v ∈ tm, 0 ≤ v ∧ v ≤ 10) (l1 : T.length = 6) (l2 : tm.length = 6) : ∀ v ∈ pl_tx T tm f w, 0 ≤ v ∧ v ≤ 10 := by
  intro v hv
  obtain ⟨c, hc, rfl⟩ := List.mem_map.mp hv
  have hc6 := List.mem_range.mp hc
  split
  · exact hT _ (List.mem_of_getElem? (am_gv (by omega)))
  · exact ht _ (List.mem_of_getElem? (am_gv (by omega)))
theorem X1_wakes_l {s : Nat} {f w : Nat} (l : LayC h r B A Wo ni) (lf : Fix h nb ns fr la ce ki wi tm) (hB : ∀ x ∈ B, x < nb) (hm : m < 64) (hr : 12 ≤ r) (hw : f + w ≤ 6) :
    ∀ (n c : Nat), c + n = f + w → f ≤ c → Wp E 8 35 [some (am_r (some 9)), some (am_r (some r)), some (am_i (m : Int)), some (am_i (s : Int)), some (am_i ((f + w : Nat) : Int)), some (am_i (c : Int))] [] (h.set 10 (am_a 0 ((pl_tx (pl_tms fr la ce ki (B.filter fun b => !m.testBit b)) tm f w).take c ++ tm.drop c))) K = Wp E 8 63 [some (am_r (some 9)), some (am_r (some r)), some (am_i (m : Int)), some (am_i (s : Int)), some (am_i ((f + w : Nat) : Int)), some (am_i ((f + w : Nat) : Int))] [] (h.set 10 (am_a 0 (pl_tx (pl_tms fr la ce ki (B.filter fun b => !m.testBit b)) tm f w))) K
  | 0, c, e, hf => by
    have ec : c = f + w := by omega
    subst ec
    rw [e8_35]
    simp only [e8_37, e8_39, Int.lt_irrefl, if_false]
    have l2 : tm.length = 6 := lf.2.1.2.2
    have e2 : (pl_tx (pl_tms fr la ce ki (B.filter fun b => !m.testBit b)) tm f w).take (f + w) ++ tm.drop (f + w) = pl_tx (pl_tms fr la ce ki (B.filter fun b => !m.testBit b)) tm f w := by
      apply List.ext_getElem?
      intro i
      by_cases hi : i < f + w
      · rw [List.getElem?_append_left (by rw [List.length_take, pl_tx_len]; omega), List.getElem?_take, if_pos hi]
      · rw [List.getElem?_append_right (by rw [List.length_take, pl_tx_len]; omega), List.length_take, pl_tx_len, List.getElem?_drop]
        by_cases h6 : i < 6
        · rw [pl_tx_at h6, if_neg (by omega), am_gv (d := 0) (by omega), show f + w + (i - min (f + w) 6) = i by omega]
        · rw [List.getElem?_eq_none (by omega), List.getElem?_eq_none (by rw [pl_tx_len]; omega)]
    rw [e2]
  | n + 1, c, e, hf => by
    have l2 : tm.length = 6 := lf.2.1.2.2
    have ih := X1_wakes_l (s := s) l lf hB hm hr hw n (c + 1) (by omega) (by omega)
    obtain ⟨y, D, hD⟩ : ∃ y D, tm.drop c = y :: D := ⟨_, _, List.drop_eq_getElem_cons (by omega)⟩
    have hD2 : tm.drop (c + 1) = D := by rw [← List.drop_drop, hD]; rfl
    have tk : ((pl_tx (pl_tms fr la ce ki (B.filter fun b => !m.testBit b)) tm f w).take c).length = c := by rw [List.length_take, pl_tx_len]; omega
    have tl : ((pl_tx (pl_tms fr la ce ki (B.filter fun b => !m.testBit b)) tm f w).take c ++ y :: D).length = 6 := by rw [← hD, List.length_append, tk, List.length_drop]; omega
    have hv : ∀ v ∈ (pl_tx (pl_tms fr la ce ki (B.filter fun b => !m.testBit b)) tm f w).take c ++ y :: D, 0 ≤ v ∧ v ≤ 10 := by
      intro v hv
      rcases List.mem_append.mp hv with q | q
      · exact pl_tx_v (pl_tms_v lf.2.2.2.1 (fun x hx => hB x (List.mem_filter.mp hx).1)) lf.2.2.2.2.1 (by simp [pl_tms]) l2 v (List.mem_of_mem_take q)
      · rw [← hD] at q
        exact lf.2.2.2.2.1 v (List.mem_of_mem_drop q)
    rw [hD]
    have fx : Fr h (h.set 10 (am_a 0 ((pl_tx (pl_tms fr la ce ki (B.filter fun b => !m.testBit b)) tm f w).take c ++ y :: D))) 10 1 := Fr.rf.set (by omega) (by omega)
    have lf2 := lf.tm fx (am_set_at lf.2.1.2.1) tl hv
    have tw := fun E K => X1_timeOf_f (E := E) (K := K) (m := m) (c := c) (l.fr fx (by omega)) lf2 hB hm (by omega)
    have k1 : am_w (c : Int) < am_w ((f + w : Nat) : Int) := by rw [am_w_nat (by omega), am_w_nat (by omega)]; omega
    have wr : am_wr ((pl_tx (pl_tms fr la ce ki (B.filter fun b => !m.testBit b)) tm f w).take c ++ y :: D) (c : Int) (pl_tm fr la ce ki (B.filter fun b => !m.testBit b) c) = some ((pl_tx (pl_tms fr la ce ki (B.filter fun b => !m.testBit b)) tm f w).take (c + 1) ++ D) := by
      have h1 := am_wr_mid (p := (pl_tx (pl_tms fr la ce ki (B.filter fun b => !m.testBit b)) tm f w).take c) (t := D) (x := y) (y := pl_tm fr la ce ki (B.filter fun b => !m.testBit b) c) (by omega)
      rw [tk] at h1
      rw [h1, List.take_add_one, pl_tx_at (by omega), if_pos ⟨hf, by omega⟩]
      simp [pl_tms, show c < 6 by omega]
    rw [e8_35]
    simp only [e8_37, e8_39, e8_42, e8_43, e8_46, e8_48, e8_49, e8_50, e8_51, e8_53, eq_self, am_k1_t, am_bd_s, am_bd_n, am_nl_i, am_nl_r, am_nl_e, am_nl_n, Option.toList_some, Option.toList_none, List.cons_append, List.nil_append, List.getElem?_cons_zero, List.getElem?_cons_succ, List.length_cons, List.length_nil, List.set_cons_zero, List.set_cons_succ, if_pos k1, am_fd_of lf2.2.1.1, am_oc_of lf2.2.1.1, tw]
    simp only [e8_56, e8_57, e8_60, eq_self, am_k1_t, am_bd_s, am_bd_n, am_nl_i, am_nl_r, am_nl_e, am_nl_n, Option.toList_some, Option.toList_none, List.cons_append, List.nil_append, List.getElem?_cons_zero, List.getElem?_cons_succ, List.length_cons, List.length_nil, List.set_cons_zero, List.set_cons_succ, am_wa_of lf2.2.1.2.1, wr, Option.map_some, List.set_set]
    rw [hD2] at ih
    exact ih
/-- in which time a sleeper wakes, those of the mask taken -/
theorem X1_wakes_f {s : Nat} (l : LayC h r B A Wo ni) (lf : Fix h nb ns fr la ce ki wi tm) (hB : ∀ x ∈ B, x < nb) (hm : m < 64) (hr : 12 ≤ r) (ha : AtOk ns wi A) (hs : s < ns) : ∃ h' tm', (∀ E K, Wp E 8 0 [some (am_r (some 9)), some (am_r (some r)), some (am_i (m : Int)), some (am_i (s : Int)), none, none] [] h K = K (some (am_i (pl_wk fr la ce ki (B.filter fun b => !m.testBit b) (A.getD s 0).toNat (wi.getD s 0).toNat))) h') ∧ Fix h' nb ns fr la ce ki wi tm' ∧ Fr h h' 10 1 := by
  have h3 : ns ≤ 3 := lf.1.2.2.2.2.2.2.2.2.2.2.2.2
  have lw : wi.length = 3 := lf.1.2.2.2.2.2.2.2.2.2.2.1
  have l2 : tm.length = 6 := lf.2.1.2.2
  obtain ⟨x1, x2⟩ := ha s hs
  obtain ⟨y1, y2⟩ := lf.2.2.2.2.2.2 s hs
  obtain ⟨g, a0, a1, a2, a3, a4, a5, a6⟩ := id l
  obtain ⟨f, hf⟩ : ∃ f : Nat, A.getD s 0 = (f : Int) := ⟨(A.getD s 0).toNat, by omega⟩
  obtain ⟨w, hw⟩ : ∃ w : Nat, wi.getD s 0 = (w : Int) := ⟨(wi.getD s 0).toNat, by omega⟩
  have eA : A[s]? = some (f : Int) := by rw [am_gv (d := 0) (by omega), hf]
  have eW : wi[s]? = some (w : Int) := by rw [am_gv (d := 0) (by omega), hw]
  rw [hf, hw, Int.toNat_natCast, Int.toNat_natCast]
  rw [hf, hw] at x2
  have T6 : (pl_tms fr la ce ki (B.filter fun b => !m.testBit b)).length = 6 := by simp [pl_tms]
  have fx : Fr h (h.set 10 (am_a 0 (pl_tx (pl_tms fr la ce ki (B.filter fun b => !m.testBit b)) tm f w))) 10 1 := Fr.rf.set (by omega) (by omega)
  have lf2 := lf.tm fx (am_set_at lf.2.1.2.1) (pl_tx_len _ _ _ _) (pl_tx_v (pl_tms_v lf.2.2.2.1 (fun x hx => hB x (List.mem_filter.mp hx).1)) lf.2.2.2.2.1 T6 l2)
  refine ⟨_, _, fun E K => ?_, lf2, fx⟩
  have lp := X1_wakes_l (E := E) (K := K) (s := s) l lf hB hm hr (show f + w ≤ 6 by omega) w f (by omega) (by omega)
  have e2 : (pl_tx (pl_tms fr la ce ki (B.filter fun b => !m.testBit b)) tm f w).take f ++ tm.drop f = tm := by
    have e3 : (pl_tx (pl_tms fr la ce ki (B.filter fun b => !m.testBit b)) tm f w).take f = tm.take f := by
      apply List.ext_getElem?
      intro i
      rw [List.getElem?_take, List.getElem?_take]
      by_cases hi : i < f
      · rw [if_pos hi, if_pos hi, pl_tx_at (by omega), if_neg (by omega), ← am_gv (by omega)]
      · rw [if_neg hi, if_neg hi]
    rw [e3, List.take_append_drop]
  rw [e2, am_set_same lf.2.1.2.1] at lp
  have ee : (if am_w 6 < am_w ((f : Int) + (w : Int)) then 6 else (f : Int) + (w : Int)) = ((f + w : Nat) : Int) := by
    rw [am_w_l6, am_w_id (by omega) (by omega), if_neg (by omega)]
    omega
  have c0 : ¬ am_w (f : Int) < am_w 0 := by rw [am_w_nat (by omega), am_w_l0]; omega
  simp only [e8_0, e8_1, e8_4, e8_5, e8_6, e8_7, e8_10, e8_13, e8_14, e8_15, e8_16, e8_18, e8_21, e8_23, e8_24, e8_27, e8_28, e8_29, e8_30, e8_33, eq_self, am_k1_t, am_bd_s, am_bd_n, am_nl_i, am_nl_r, am_nl_e, am_nl_n, Option.toList_some, Option.toList_none, List.cons_append, List.nil_append, List.getElem?_cons_zero, List.getElem?_cons_succ, List.length_cons, List.length_nil, List.set_cons_zero, List.set_cons_succ, am_fd_of a1, am_fd_of lf.2.1.1, am_fd_of lf.1.1, am_ra_of a3, am_ra_of lf.1.2.2.2.2.2.1, am_rd_at eA (by omega), am_rd_at eW (by omega), ee, if_neg c0]
  refine Eq.trans lp ?_
  have ww := X1_wakesAsReckoned_f (E := E) (K := fun v h => Wp E 8 69 [some (am_r (some 9)), some (am_r (some r)), some (am_i (m : Int)), some (am_i (s : Int)), some (am_i ((f + w : Nat) : Int)), some (am_i ((f + w : Nat) : Int))] (v.toList ++ []) h K) (l.fr fx (by omega)) lf2 ha hs
  rw [hf, hw, Int.toNat_natCast, Int.toNat_natCast, pl_tx_win T6 (by omega)] at ww
  simp only [e8_63, e8_64, e8_65, e8_66, eq_self, am_k1_t, am_bd_s, am_bd_n, am_nl_i, am_nl_r, am_nl_e, am_nl_n, Option.toList_some, Option.toList_none, List.cons_append, List.nil_append, List.getElem?_cons_zero, List.getElem?_cons_succ, List.length_cons, List.length_nil, List.set_cons_zero, List.set_cons_succ, am_oc_of lf2.2.1.1]
  simp only [eq_self, am_k1_t, am_bd_s, am_bd_n, am_nl_i, am_nl_r, am_nl_e, am_nl_n, Option.toList_some, Option.toList_none, List.cons_append, List.nil_append, List.getElem?_cons_zero, List.getElem?_cons_succ, List.length_cons, List.length_nil, List.set_cons_zero, List.set_cons_succ] at ww
  refine Eq.trans ww ?_
  simp only [e8_69, eq_self, am_k1_t, am_bd_s, am_bd_n, am_nl_i, am_nl_r, am_nl_e, am_nl_n, Option.toList_some, Option.toList_none, List.cons_append, List.nil_append, List.getElem?_cons_zero, List.getElem?_cons_succ, List.length_cons, List.length_nil, List.set_cons_zero, List.set_cons_succ, pl_wk]
theorem X1_blanketsOn_l {c : Nat} (l : LayC h r B A Wo ni) (lf : Fix h nb ns fr la ce ki wi tm) (hB : ∀ x ∈ B, x < nb) (hc : c < 6) :
    ∀ (S P : List Nat) (y : Nat), B = P ++ S → Wp E 13 5 [some (am_r (some 9)), some (am_r (some r)), some (am_i (c : Int)), some (am_i (y : Int)), some (am_i (P.length : Int))] [] h K = K (some (am_i ((y + (S.filter (pl_cov fr la c)).length : Nat) : Int))) h
  | [], P, y, e => by
    obtain ⟨g, a0, a1, a2, a3, a4, a5, a6⟩ := l
    have e1 : P.length = B.length := by rw [e, List.append_nil]
    rw [e13_5]
    simp only [e13_7, e13_8, e13_11, e13_14, e13_15, e13_18, e13_19, e13_21, e13_24, e13_25, e13_28, e13_31, e13_34, e13_37, e13_40, e13_41, eq_self, am_k1_t, am_bd_s, am_bd_n, am_nl_i, am_nl_r, am_nl_e, am_nl_n, Option.toList_some, Option.toList_none, List.cons_append, List.nil_append, List.getElem?_cons_zero, List.getElem?_cons_succ, List.length_cons, List.length_nil, List.set_cons_zero, List.set_cons_succ, am_fd_of a1, e1, Int.lt_irrefl, if_false, List.filter_nil, Nat.add_zero]
  | x :: S, P, y, e => by
    have hx : x < nb := hB x (by rw [e]; simp)
    have pw := lf.2.2.2.1 x hx
    obtain ⟨d0, d1, d2, d3, d4, d5, d6, d7, d8, d9, d10, d11, d12⟩ := id lf.1
    have ih1 := X1_blanketsOn_l l lf hB hc S (P ++ [x]) (y + 1) (by rw [e]; simp)
    have ih0 := X1_blanketsOn_l l lf hB hc S (P ++ [x]) y (by rw [e]; simp)
    rw [List.length_append] at ih0 ih1
    have bw := fun E K => X3_blanketAt_w (E := E) (K := K) (P := P) (S := S) (x := x) (by rw [← e]; exact l)
    have rw1 := fun E K => X4_reaches_w (E := E) (K := K) (b := x) (c := c) lf.1 hx hc (am_gv (d := 0) (by omega)) (am_gv (d := 0) (by omega)) (am_w_id (by omega) (by omega)) (am_w_id (by omega) (by omega))
    obtain ⟨g, a0, a1, a2, a3, a4, a5, a6⟩ := l
    have e1 : B.length = P.length + (S.length + 1) := by rw [e, List.length_append]; rfl
    have k1 : am_w (P.length : Int) < am_w (B.length : Int) := by rw [am_w_nat (by omega), am_w_nat (by omega)]; omega
    rw [e13_5]
    simp only [e13_7, e13_8, e13_11, e13_14, e13_15, e13_18, e13_19, e13_21, eq_self, am_k1_t, am_bd_s, am_bd_n, am_nl_i, am_nl_r, am_nl_e, am_nl_n, Option.toList_some, Option.toList_none, List.cons_append, List.nil_append, List.getElem?_cons_zero, List.getElem?_cons_succ, List.length_cons, List.length_nil, List.set_cons_zero, List.set_cons_succ, am_fd_of a1, if_pos k1, am_fd_of lf.2.1.1, am_oc_of a1, bw]
    simp only [e13_24, e13_25, eq_self, am_k1_t, am_bd_s, am_bd_n, am_nl_i, am_nl_r, am_nl_e, am_nl_n, Option.toList_some, Option.toList_none, List.cons_append, List.nil_append, List.getElem?_cons_zero, List.getElem?_cons_succ, List.length_cons, List.length_nil, List.set_cons_zero, List.set_cons_succ, am_oc_of d0, rw1]
    simp only [e13_28, e13_31, e13_34, e13_37, eq_self, am_k1_t, am_bd_s, am_bd_n, am_nl_i, am_nl_r, am_nl_e, am_nl_n, Option.toList_some, Option.toList_none, List.cons_append, List.nil_append, List.getElem?_cons_zero, List.getElem?_cons_succ, List.length_cons, List.length_nil, List.set_cons_zero, List.set_cons_succ]
    by_cases q2 : pl_cov fr la c x = true
    · have q3 : fr.getD x 0 ≤ (c : Int) ∧ (c : Int) ≤ la.getD x 0 := by simpa [pl_cov] using q2
      simp only [pl_b, if_pos q3, am_w_l1, show ¬ ((1 : Int) = 0) by decide, if_false]
      rw [List.filter_cons_of_pos q2, List.length_cons]
      refine Eq.trans ih1 ?_
      rw [show y + 1 + (S.filter (pl_cov fr la c)).length = y + ((S.filter (pl_cov fr la c)).length + 1) by omega]
    · have q3 : ¬ (fr.getD x 0 ≤ (c : Int) ∧ (c : Int) ≤ la.getD x 0) := fun z => q2 (by simpa [pl_cov] using z)
      simp only [pl_b, if_neg q3, am_w_l0, if_true]
      rw [List.filter_cons_of_neg q2]
      exact ih0
theorem X1_blanketsOn_f {c : Nat} (l : LayC h r B A Wo ni) (lf : Fix h nb ns fr la ce ki wi tm) (hB : ∀ x ∈ B, x < nb) (hc : c < 6) : Wp E 13 0 [some (am_r (some 9)), some (am_r (some r)), some (am_i (c : Int)), none, none] [] h K = K (some (am_i ((B.filter (pl_cov fr la c)).length : Int))) h := by
  simp only [e13_0, e13_1, e13_2, e13_3, eq_self, am_k1_t, am_bd_s, am_bd_n, am_nl_i, am_nl_r, am_nl_e, am_nl_n, Option.toList_some, Option.toList_none, List.cons_append, List.nil_append, List.getElem?_cons_zero, List.getElem?_cons_succ, List.length_cons, List.length_nil, List.set_cons_zero, List.set_cons_succ]
  have h1 := X1_blanketsOn_l (E := E) (K := K) l lf hB hc B [] 0 rfl
  rw [Nat.zero_add] at h1
  exact h1
/-- who lies on a cell: the first of them -/
def pl_who (A wi : List Int) (c : Int) : List Nat → Int
  | [] => -9
  | s :: l => if A.getD s 0 ≤ c ∧ c < A.getD s 0 + wi.getD s 0 then (s : Int) else pl_who A wi c l
theorem X1_sleeperOn_l {c : Int} (l : LayC h r B A Wo ni) (lf : Fix h nb ns fr la ce ki wi tm) (ha : AtOk ns wi A) (hc : am_w c = c) :
    ∀ (n s : Nat), s + n = ns → Wp E 14 2 [some (am_r (some 9)), some (am_r (some r)), some (am_i c), some (am_i (s : Int))] [] h K = K (some (am_i (pl_who A wi c (List.range' s n)))) h
  | 0, s, e => by
    have h3 : ns ≤ 3 := lf.1.2.2.2.2.2.2.2.2.2.2.2.2
    have k1 : ¬ am_w (s : Int) < am_w (ns : Int) := by rw [am_w_nat (by omega), am_w_nat (by omega)]; omega
    rw [e14_2]
    simp only [e14_3, e14_4, e14_7, e14_10, e14_13, e14_14, e14_17, e14_18, e14_19, e14_20, e14_23, e14_24, e14_25, e14_28, e14_29, e14_30, e14_31, e14_34, e14_37, e14_38, e14_39, e14_40, e14_43, e14_44, e14_45, e14_48, e14_51, e14_53, eq_self, am_k1_t, am_bd_s, am_bd_n, am_nl_i, am_nl_r, am_nl_e, am_nl_n, Option.toList_some, Option.toList_none, List.cons_append, List.nil_append, List.getElem?_cons_zero, List.getElem?_cons_succ, List.length_cons, List.length_nil, List.set_cons_zero, List.set_cons_succ, am_fd_of lf.2.1.1, am_fd_of lf.1.1, if_neg k1, List.range'_zero, pl_who]
  | n + 1, s, e => by
    have h3 : ns ≤ 3 := lf.1.2.2.2.2.2.2.2.2.2.2.2.2
    have lw : wi.length = 3 := lf.1.2.2.2.2.2.2.2.2.2.2.1
    have k1 : am_w (s : Int) < am_w (ns : Int) := by rw [am_w_nat (by omega), am_w_nat (by omega)]; omega
    have ih := X1_sleeperOn_l l lf ha hc n (s + 1) (by omega)
    obtain ⟨x1, x2⟩ := ha s (by omega)
    obtain ⟨y1, y2⟩ := lf.2.2.2.2.2.2 s (by omega)
    obtain ⟨g, a0, a1, a2, a3, a4, a5, a6⟩ := id l
    have w1 : am_w (A.getD s 0) = A.getD s 0 := am_w_id (by omega) (by omega)
    have w2 : am_w (A.getD s 0 + wi.getD s 0) = A.getD s 0 + wi.getD s 0 := am_w_id (by omega) (by omega)
    rw [e14_2]
    simp only [e14_3, e14_4, e14_7, e14_10, e14_13, e14_14, e14_17, e14_18, e14_19, e14_20, e14_23, e14_24, e14_25, e14_28, e14_29, e14_30, e14_31, e14_34, e14_37, e14_38, e14_39, e14_40, e14_43, e14_44, e14_45, e14_48, eq_self, am_k1_t, am_bd_s, am_bd_n, am_nl_i, am_nl_r, am_nl_e, am_nl_n, Option.toList_some, Option.toList_none, List.cons_append, List.nil_append, List.getElem?_cons_zero, List.getElem?_cons_succ, List.length_cons, List.length_nil, List.set_cons_zero, List.set_cons_succ, am_fd_of lf.2.1.1, am_fd_of lf.1.1, if_pos k1, am_fd_of a1, am_ra_of a3, am_ra_of lf.1.2.2.2.2.2.1, am_rd_at (am_gv (d := 0) (show s < A.length by omega)) (by omega), am_rd_at (am_gv (d := 0) (show s < wi.length by omega)) (by omega), w1, w2, hc]
    rw [List.range'_succ, pl_who]
    by_cases q1 : c < A.getD s 0
    · rw [if_pos q1, if_neg (by omega)]
      exact ih
    · rw [if_neg q1]
      by_cases q2 : c < A.getD s 0 + wi.getD s 0
      · rw [if_pos q2, if_pos (by omega)]
      · rw [if_neg q2, if_neg (by omega)]
        exact ih
theorem X1_sleeperOn_f {c : Int} (l : LayC h r B A Wo ni) (lf : Fix h nb ns fr la ce ki wi tm) (ha : AtOk ns wi A) (hc : am_w c = c) : Wp E 14 0 [some (am_r (some 9)), some (am_r (some r)), some (am_i c), none] [] h K = K (some (am_i (pl_who A wi c (List.range' 0 ns)))) h := by
  simp only [e14_0, e14_1, eq_self, am_k1_t, am_bd_s, am_bd_n, am_nl_i, am_nl_r, am_nl_e, am_nl_n, Option.toList_some, Option.toList_none, List.cons_append, List.nil_append, List.getElem?_cons_zero, List.getElem?_cons_succ, List.length_cons, List.length_nil, List.set_cons_zero, List.set_cons_succ]
  exact X1_sleeperOn_l l lf ha hc ns 0 (by omega)
end CE3
