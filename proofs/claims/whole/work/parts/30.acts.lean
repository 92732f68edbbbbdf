/-- only the times (cell 10) and cells from r on, n of them, have changed -/
def FrT (h h' : am_H) (r n : Nat) : Prop := h'.length = h.length ∧ ∀ i : Nat, i ≠ 10 → i < r ∨ r + n ≤ i → h'[i]? = h[i]?
theorem FrT.rf {h : am_H} {r n : Nat} : FrT h h r n := ⟨rfl, fun _ _ _ => rfl⟩
theorem FrT.of {h h1 h2 : am_H} {r n : Nat} (f : Fr h h1 10 1) (g : Fr h1 h2 r n) : FrT h h2 r n := ⟨g.1.trans f.1, fun i h1 h2 => (g.2 i h2).trans (f.2 i (by omega))⟩
theorem Fr.T {h h2 : am_H} {r n : Nat} (g : Fr h h2 r n) : FrT h h2 r n := ⟨g.1, fun i _ h2 => g.2 i h2⟩
theorem FrT.of0 {h h1 : am_H} {r n : Nat} (f : Fr h h1 10 1) : FrT h h1 r n := ⟨f.1, fun i h1 _ => f.2 i (by omega)⟩
theorem FrT.trans {h h1 h2 : am_H} {r n : Nat} (f : FrT h h1 r n) (g : FrT h1 h2 r n) : FrT h h2 r n := ⟨g.1.trans f.1, fun i h1 h2 => (g.2 i h1 h2).trans (f.2 i h1 h2)⟩
theorem FrT.wide {h h' : am_H} {r n r' n' : Nat} (f : FrT h h' r n) (h1 : r' ≤ r) (h2 : r + n ≤ r' + n') : FrT h h' r' n' := ⟨f.1, fun i ha hi => f.2 i ha (by omega)⟩
theorem LayC.frT {h h' : am_H} {r q n : Nat} {B : List Nat} {A Wo : List Int} {ni : Int} (l : LayC h r B A Wo ni) (f : FrT h h' q n) (h12 : 12 ≤ r) (d : r + 4 ≤ q ∨ q + n ≤ r) : LayC h' r B A Wo ni := by
  obtain ⟨g, h0, h1, h2, h3, h4, h5⟩ := l
  exact ⟨g, h0, by rw [f.2 _ (by omega) (by omega)]; exact h1, by rw [f.2 _ (by omega) (by omega)]; exact h2, by rw [f.2 _ (by omega) (by omega)]; exact h3, by rw [f.2 _ (by omega) (by omega)]; exact h4, h5⟩
theorem LayC.setW {h : am_H} {r : Nat} {B : List Nat} {A Wo W : List Int} {ni : Int} (l : LayC h r B A Wo ni) (hW : W.length = 3) : LayC (h.set (r + 3) (am_a 0 W)) r B A W ni := by
  obtain ⟨g, h0, h1, h2, h3, h4, h5, h6⟩ := l
  exact ⟨g, h0, by rw [am_set_ne (by omega)]; exact h1, by rw [am_set_ne (by omega)]; exact h2, by rw [am_set_ne (by omega)]; exact h3, am_set_at h4, h5, hW⟩
theorem LayC.lens {h : am_H} {r : Nat} {B : List Nat} {A Wo : List Int} {ni : Int} (l : LayC h r B A Wo ni) : A.length = 3 ∧ Wo.length = 3 ∧ B.length ≤ 6 := by
  obtain ⟨g, h0, h1, h2, h3, h4, h5, h6⟩ := l
  exact ⟨h5, h6, by omega⟩
theorem LayC.obj {h : am_H} {r : Nat} {B : List Nat} {A Wo : List Int} {ni : Int} (l : LayC h r B A Wo ni) : h[r]? = some (am_o 3 [am_r (some (r + 1)), am_i (B.length : Int), am_r (some (r + 2)), am_r (some (r + 3)), am_i ni]) ∧ h[r + 2]? = some (am_a 0 A) ∧ h[r + 3]? = some (am_a 0 Wo) := by
  obtain ⟨g, h0, h1, h2, h3, h4, h5, h6⟩ := l
  exact ⟨h1, h3, h4⟩
/-- one more sleeper has woken -/
def pl_wos (wk : Nat → Int) (W : List Int) (s : Nat) : List Int := W.set s (am_or (W.getD s 0) (am_shl 1 (wk s)))
theorem pl_wos_len (wk : Nat → Int) : ∀ (l : List Nat) (W : List Int), (l.foldl (pl_wos wk) W).length = W.length
  | [], _ => rfl
  | s :: l, W => by rw [List.foldl_cons, pl_wos_len wk l, pl_wos, List.length_set]
section ACT
variable {E : List (List Int)} {h : am_H} {K : Option am_V → am_H → Prop} {r nb ns : Nat} {B : List Nat} {A Wo tm fr la ce ki wi : List Int} {ni : Int}
theorem X0_sleepThrough_l (l : LayC h r B A Wo ni) (lf : Fix h nb ns fr la ce ki wi (pl_tms fr la ce ki B)) (ha : AtOk ns wi A) (hr : 12 ≤ r) :
    ∀ (n s : Nat) (W : List Int), s + n = ns → W.length = 3 → Wp E 2 11 [some (am_r (some 11)), some (am_r (some r)), some (am_i (s : Int))] [] (h.set (r + 3) (am_a 0 W)) K = Wp E 2 48 [some (am_r (some 11)), some (am_r (some r)), some (am_i (ns : Int))] [] (h.set (r + 3) (am_a 0 ((List.range' s n).foldl (pl_wos fun s => pl_wk fr la ce ki B (A.getD s 0).toNat (wi.getD s 0).toNat) W))) K
  | 0, s, W, e, eW => by
    have h3 : ns ≤ 3 := lf.1.2.2.2.2.2.2.2.2.2.2.2.2
    have fx : Fr h (h.set (r + 3) (am_a 0 W)) (r + 3) 1 := Fr.rf.set (by omega) (by omega)
    have lf2 := lf.fr fx (by omega)
    have es : s = ns := by omega
    subst es
    rw [e2_11]
    simp only [e2_12, e2_13, e2_16, e2_19, eq_self, am_k1_t, am_bd_s, am_bd_n, am_nl_i, am_nl_r, am_nl_e, am_nl_n, Option.toList_some, Option.toList_none, List.cons_append, List.nil_append, List.getElem?_cons_zero, List.getElem?_cons_succ, List.length_cons, List.length_nil, List.set_cons_zero, List.set_cons_succ, am_fd_of lf2.2.2.1, am_fd_of lf2.1.1, Int.lt_irrefl, if_false, List.range'_zero, List.foldl_nil]
  | n + 1, s, W, e, eW => by
    have h3 : ns ≤ 3 := lf.1.2.2.2.2.2.2.2.2.2.2.2.2
    have fx : Fr h (h.set (r + 3) (am_a 0 W)) (r + 3) 1 := Fr.rf.set (by omega) (by omega)
    have lf2 := lf.fr fx (by omega)
    have l2 := l.setW eW
    have ih := X0_sleepThrough_l l lf ha hr n (s + 1) (pl_wos (fun s => pl_wk fr la ce ki B (A.getD s 0).toNat (wi.getD s 0).toNat) W s) (by omega) (by rw [pl_wos, List.length_set]; exact eW)
    have ww := fun E K => X1_wakesAsReckoned_f (E := E) (K := K) l2 lf2 ha (show s < ns by omega)
    have k1 : am_w (s : Int) < am_w (ns : Int) := by rw [am_w_nat (by omega), am_w_nat (by omega)]; omega
    rw [e2_11]
    simp only [e2_12, e2_13, e2_16, e2_19, e2_22, e2_23, e2_26, e2_27, e2_28, e2_29, e2_30, e2_31, e2_34, e2_35, e2_36, eq_self, am_k1_t, am_bd_s, am_bd_n, am_nl_i, am_nl_r, am_nl_e, am_nl_n, Option.toList_some, Option.toList_none, List.cons_append, List.nil_append, List.getElem?_cons_zero, List.getElem?_cons_succ, List.length_cons, List.length_nil, List.set_cons_zero, List.set_cons_succ, am_fd_of lf2.2.2.1, am_fd_of lf2.1.1, if_pos k1, am_fd_of l2.obj.1, am_ra_of l2.obj.2.2, am_rd_at (am_gv (d := 0) (show s < W.length by omega)) (by omega), am_oc_of lf2.2.1.1, ww]
    simp only [e2_39, e2_40, e2_41, e2_42, e2_45, eq_self, am_k1_t, am_bd_s, am_bd_n, am_nl_i, am_nl_r, am_nl_e, am_nl_n, Option.toList_some, Option.toList_none, List.cons_append, List.nil_append, List.getElem?_cons_zero, List.getElem?_cons_succ, List.length_cons, List.length_nil, List.set_cons_zero, List.set_cons_succ, am_wa_of l2.obj.2.2, am_wr_nat _ (show s < W.length by omega) (by omega), Option.map_some, List.set_set]
    exact ih
theorem X0_sleepThrough_f (l : LayC h r B A Wo ni) (lf : Fix h nb ns fr la ce ki wi tm) (hB : ∀ x ∈ B, x < nb) (ha : AtOk ns wi A) (hr : 12 ≤ r) : ∃ h', (∀ E K, Wp E 2 0 [some (am_r (some 11)), some (am_r (some r)), none] [] h K = K (some (am_i 1)) h') ∧ LayC h' r B A ((List.range' 0 ns).foldl (pl_wos fun s => pl_wk fr la ce ki B (A.getD s 0).toNat (wi.getD s 0).toNat) Wo) (ni + 1) ∧ Fix h' nb ns fr la ce ki wi (pl_tms fr la ce ki B) ∧ FrT h h' r 4 := by
  obtain ⟨h1, w1, f1, r1⟩ := X1_reckon_f (m := 0) l lf hB (by omega) hr
  rw [pl_f0] at f1
  have e0 : ((0 : Nat) : Int) = 0 := rfl
  rw [e0] at w1
  have l1 := l.fr r1 (by omega)
  obtain ⟨W', hW'⟩ : ∃ W', W' = (List.range' 0 ns).foldl (pl_wos fun s => pl_wk fr la ce ki B (A.getD s 0).toNat (wi.getD s 0).toNat) Wo := ⟨_, rfl⟩
  have lW : W'.length = 3 := by rw [hW', pl_wos_len]; exact l.lens.2.1
  have l2 := l1.setW lW
  have fx : Fr h1 (h1.set (r + 3) (am_a 0 W')) (r + 3) 1 := Fr.rf.set (by omega) (by omega)
  rw [← hW']
  refine ⟨(h1.set (r + 3) (am_a 0 W')).set r (am_o 3 [am_r (some (r + 1)), am_i (B.length : Int), am_r (some (r + 2)), am_r (some (r + 3)), am_i (ni + 1)]), fun E K => ?_, ?_, ?_, ?_⟩
  · have lp := X0_sleepThrough_l (E := E) (K := K) l1 f1 ha hr ns 0 Wo (by omega) l.lens.2.1
    rw [am_set_same l1.obj.2.2, ← hW', e0] at lp
    simp only [e2_0, e2_1, e2_4, e2_5, e2_6, eq_self, am_k1_t, am_bd_s, am_bd_n, am_nl_i, am_nl_r, am_nl_e, am_nl_n, Option.toList_some, Option.toList_none, List.cons_append, List.nil_append, List.getElem?_cons_zero, List.getElem?_cons_succ, List.length_cons, List.length_nil, List.set_cons_zero, List.set_cons_succ, am_fd_of lf.2.2.1, am_oc_of lf.2.1.1, w1]
    simp only [e2_9, e2_10, eq_self, am_k1_t, am_bd_s, am_bd_n, am_nl_i, am_nl_r, am_nl_e, am_nl_n, Option.toList_some, Option.toList_none, List.cons_append, List.nil_append, List.getElem?_cons_zero, List.getElem?_cons_succ, List.length_cons, List.length_nil, List.set_cons_zero, List.set_cons_succ]
    refine Eq.trans lp ?_
    simp only [e2_48, e2_49, e2_50, e2_53, e2_54, e2_55, e2_58, e2_59, eq_self, am_k1_t, am_bd_s, am_bd_n, am_nl_i, am_nl_r, am_nl_e, am_nl_n, Option.toList_some, Option.toList_none, List.cons_append, List.nil_append, List.getElem?_cons_zero, List.getElem?_cons_succ, List.length_cons, List.length_nil, List.set_cons_zero, List.set_cons_succ, am_fd_of l2.obj.1, am_fu_of l2.obj.1 (show 4 < [am_r (some (r + 1)), am_i (B.length : Int), am_r (some (r + 2)), am_r (some (r + 3)), am_i ni].length from by simp)]
    simp
  · obtain ⟨g, h0, b1, b2, b3, b4, b5, b6⟩ := l2
    exact ⟨g, h0, am_set_at b1, by rw [am_set_ne (by omega)]; exact b2, by rw [am_set_ne (by omega)]; exact b3, by rw [am_set_ne (by omega)]; exact b4, b5, b6⟩
  · exact (f1.fr fx (by omega)).fr (q := r) (n := 1) (Fr.rf.set (by omega) (by omega)) (by omega)
  · exact FrT.of r1 ((fx.wide (r' := r) (n' := 4) (by omega) (by omega)).set (by omega) (by omega))
/-- nobody else lies where this one would -/
def pl_free (ns : Nat) (wi A : List Int) (s : Nat) (f w : Nat) : Bool := (List.range' f w).all fun c => decide (pl_who A wi (c : Int) (List.range' 0 ns) = -9 ∨ pl_who A wi (c : Int) (List.range' 0 ns) = (s : Int))
theorem pl_who_rng {A wi : List Int} {c : Int} : ∀ {l : List Nat}, (∀ s ∈ l, s < 3) → pl_who A wi c l = -9 ∨ (0 ≤ pl_who A wi c l ∧ pl_who A wi c l < 3)
  | [], _ => Or.inl rfl
  | s :: l, h => by
    rw [pl_who]
    split
    · have := h s List.mem_cons_self
      omega
    · exact pl_who_rng (fun t ht => h t (List.mem_cons_of_mem _ ht))
theorem X0_moveTo_l {s : Nat} {f : Int} {e9 : Int} (l : LayC h r B A Wo ni) (lf : Fix h nb ns fr la ce ki wi tm) (ha : AtOk ns wi A) (hs : s < 3) (he : am_w e9 = e9) :
    ∀ (n c : Nat) (x6 : Option am_V), (c : Int) + (n : Int) = e9 → c + n ≤ 6 → Wp E 3 29 [some (am_r (some 11)), some (am_r (some r)), some (am_i (s : Int)), some (am_i f), some (am_i e9), some (am_i (c : Int)), x6] [] h K = if pl_free ns wi A s c n = true then Wp E 3 69 [some (am_r (some 11)), some (am_r (some r)), some (am_i (s : Int)), some (am_i f), some (am_i e9), some (am_i e9), (if n = 0 then x6 else some (am_i (pl_who A wi ((c + n - 1 : Nat) : Int) (List.range' 0 ns))))] [] h K else K (some (am_i 0)) h
  | 0, c, x6, e, h6 => by
    have k1 : ¬ am_w (c : Int) < am_w e9 := by rw [he, am_w_nat (by omega)]; omega
    have ec : (c : Int) = e9 := by omega
    rw [e3_29]
    simp only [e3_31, e3_33, if_neg k1]
    rw [if_pos (by rfl), ec]
    rfl
  | n + 1, c, x6, e, h6 => by
    have h3 : ns ≤ 3 := lf.1.2.2.2.2.2.2.2.2.2.2.2.2
    have k1 : am_w (c : Int) < am_w e9 := by rw [he, am_w_nat (by omega)]; omega
    have sw := fun E K => X1_sleeperOn_f (E := E) (K := K) (c := (c : Int)) l lf ha (am_w_nat (by omega))
    have wr := pl_who_rng (A := A) (wi := wi) (c := (c : Int)) (l := List.range' 0 ns) (fun t ht => by rw [List.mem_range'_1] at ht; omega)
    have ih := X0_moveTo_l (f := f) l lf ha hs he n (c + 1) (some (am_i (pl_who A wi (c : Int) (List.range' 0 ns)))) (by omega) (by omega)
    have ew : am_w (pl_who A wi (c : Int) (List.range' 0 ns)) = pl_who A wi (c : Int) (List.range' 0 ns) := am_w_id (by omega) (by omega)
    have es : am_w (s : Int) = (s : Int) := am_w_nat (by omega)
    have efr : pl_free ns wi A s c (n + 1) = (decide (pl_who A wi (c : Int) (List.range' 0 ns) = -9 ∨ pl_who A wi (c : Int) (List.range' 0 ns) = (s : Int)) && pl_free ns wi A s (c + 1) n) := by
      rw [pl_free, List.range'_succ, List.all_cons]; rfl
    have el : (if n = 0 then some (am_i (pl_who A wi (c : Int) (List.range' 0 ns))) else some (am_i (pl_who A wi ((c + 1 + n - 1 : Nat) : Int) (List.range' 0 ns)))) = (if n + 1 = 0 then x6 else some (am_i (pl_who A wi ((c + (n + 1) - 1 : Nat) : Int) (List.range' 0 ns)))) := by
      rw [if_neg (by omega : ¬ n + 1 = 0)]
      by_cases q : n = 0
      · rw [if_pos q, q]; rfl
      · rw [if_neg q, show c + 1 + n - 1 = c + (n + 1) - 1 by omega]
    rw [el] at ih
    rw [e3_29]
    simp only [e3_31, e3_33, e3_36, e3_37, e3_40, e3_41, e3_43, eq_self, am_k1_t, am_bd_s, am_bd_n, am_nl_i, am_nl_r, am_nl_e, am_nl_n, Option.toList_some, Option.toList_none, List.cons_append, List.nil_append, List.getElem?_cons_zero, List.getElem?_cons_succ, List.length_cons, List.length_nil, List.set_cons_zero, List.set_cons_succ, if_pos k1, am_fd_of lf.2.2.1, am_oc_of lf.2.1.1, sw]
    simp only [e3_46, e3_48, e3_50, e3_52, e3_55, e3_57, e3_58, e3_61, e3_62, e3_63, e3_66, eq_self, am_k1_t, am_bd_s, am_bd_n, am_nl_i, am_nl_r, am_nl_e, am_nl_n, Option.toList_some, Option.toList_none, List.cons_append, List.nil_append, List.getElem?_cons_zero, List.getElem?_cons_succ, List.length_cons, List.length_nil, List.set_cons_zero, List.set_cons_succ, ew, am_w_m9, es, efr]
    by_cases q1 : pl_who A wi (c : Int) (List.range' 0 ns) = -9
    · simp only [q1, if_true, true_or, decide_true, Bool.true_and]
      rw [q1] at ih
      exact ih
    · by_cases q2 : pl_who A wi (c : Int) (List.range' 0 ns) = (s : Int)
      · rw [if_neg q1, if_pos q2, decide_eq_true (Or.inr q2), Bool.true_and]
        exact ih
      · rw [if_neg q1, if_neg q2, decide_eq_false (by simp [q1, q2]), Bool.false_and]
        simp
end ACT
