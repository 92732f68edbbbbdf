/-! the time of a cell -/
theorem am_gv {α : Type} {xs : List α} {b : Nat} {d : α} (h : b < xs.length) : xs[b]? = some (xs.getD b d) := by
  rw [List.getD_eq_getElem?_getD, List.getElem?_eq_getElem h]; rfl
/-- the parts are as a text tells them -/
def PVal (nb : Nat) (fr la ce ki : List Int) : Prop := ∀ b < nb, 0 ≤ fr.getD b 0 ∧ fr.getD b 0 ≤ 5 ∧ 0 ≤ la.getD b 0 ∧ la.getD b 0 ≤ 5 ∧ 0 ≤ ce.getD b 0 ∧ ce.getD b 0 ≤ 9 ∧ 0 ≤ ki.getD b 0 ∧ ki.getD b 0 ≤ 3
/-- blanket b lies on cell c -/
def pl_cov (fr la : List Int) (c b : Nat) : Bool := decide (fr.getD b 0 ≤ (c : Int) ∧ (c : Int) ≤ la.getD b 0)
/-- its century there -/
def pl_cen (ce ki : List Int) (c b : Nat) : Int := if ki.getD b 0 = 2 then am_rem (ce.getD b 0 + (c : Int)) 10 else ce.getD b 0
/-- THE TIME OF A CELL, the blankets lying as in B -/
def pl_tm (fr la ce ki : List Int) (B : List Nat) (c : Nat) : Int := match (B.filter (pl_cov fr la c)).find? (fun q => !(decide (ki.getD q 0 = 1) && decide (1 < (B.filter (pl_cov fr la c)).length)) && !(decide (ki.getD q 0 = 3) && decide (c % 2 = 1))) with
  | some q => pl_cen ce ki c q
  | none => 10
/-- it counts whatever else lies there -/
def pl_cnt (ki : List Int) (c b : Nat) : Bool := decide (ki.getD b 0 = 0 ∨ ki.getD b 0 = 2 ∨ (ki.getD b 0 = 3 ∧ c % 2 = 0))
/-- the class's way -/
def pl_tc (vis : Nat → Bool) (ce ki : List Int) (c : Nat) : List Nat → Nat → Int → Int
  | [], n, lo => if n = 1 ∧ ki.getD lo.toNat 0 = 1 then pl_cen ce ki c lo.toNat else 10
  | x :: S, n, lo => if vis x = true then (if pl_cnt ki c x = true then pl_cen ce ki c x else pl_tc vis ce ki c S (n + 1) (x : Int)) else pl_tc vis ce ki c S n lo
theorem pl_tc_filter {vis : Nat → Bool} {ce ki : List Int} {c : Nat} : ∀ {S : List Nat} {n : Nat} {lo : Int}, pl_tc vis ce ki c S n lo = pl_tc (fun _ => true) ce ki c (S.filter vis) n lo
  | [], n, lo => rfl
  | x :: S, n, lo => by
    by_cases q : vis x = true
    · rw [List.filter_cons_of_pos q, pl_tc, pl_tc, if_pos q, if_pos rfl, pl_tc_filter]
    · rw [List.filter_cons_of_neg q, pl_tc, if_neg q, pl_tc_filter]
/-- two or more: those that count whatever lies there -/
theorem pl_tc_two {ce ki : List Int} {c : Nat} : ∀ {S : List Nat} {n : Nat} {lo : Int}, 2 ≤ n + S.length → pl_tc (fun _ => true) ce ki c S n lo = match S.find? (pl_cnt ki c) with
    | some q => pl_cen ce ki c q
    | none => 10
  | [], n, lo, h => by
    rw [List.length_nil] at h
    rw [pl_tc, if_neg (by omega)]
    rfl
  | x :: S, n, lo, h => by
    rw [List.length_cons] at h
    rw [pl_tc, if_pos rfl, List.find?_cons]
    by_cases q : pl_cnt ki c x = true
    · rw [if_pos q, q]
    · rw [if_neg q, pl_tc_two (by omega)]
      rw [show pl_cnt ki c x = false by simpa using q]
theorem pl_find_congr {α : Type} {p q : α → Bool} : ∀ {l : List α}, (∀ x ∈ l, p x = q x) → l.find? p = l.find? q
  | [], _ => rfl
  | x :: l, h => by
    rw [List.find?_cons, List.find?_cons, h x List.mem_cons_self, pl_find_congr (fun y hy => h y (List.mem_cons_of_mem _ hy))]
theorem pl_kinds {k : Int} (h0 : 0 ≤ k) (h3 : k ≤ 3) : k = 0 ∨ k = 1 ∨ k = 2 ∨ k = 3 := by omega
/-- both ways tell one time -/
theorem pl_tc_tm {nb : Nat} {fr la ce ki : List Int} (pv : PVal nb fr la ce ki) {B : List Nat} {c : Nat} (hB : ∀ x ∈ B, x < nb) (lo : Int) : pl_tc (pl_cov fr la c) ce ki c B 0 lo = pl_tm fr la ce ki B c := by
  rw [pl_tc_filter]
  unfold pl_tm
  have hC : ∀ x ∈ B.filter (pl_cov fr la c), x < nb := fun x hx => hB x (List.mem_filter.mp hx).1
  generalize B.filter (pl_cov fr la c) = C at hC ⊢
  match C, hC with
  | [], _ => rfl
  | [x], hC =>
    have hk := pl_kinds (pv x (hC x (by simp))).2.2.2.2.2.2.1 (pv x (hC x (by simp))).2.2.2.2.2.2.2
    rcases Nat.mod_two_eq_zero_or_one c with m | m <;> rcases hk with k | k | k | k <;> simp [pl_tc, pl_cnt, k, m, List.find?, -List.getD_eq_getElem?_getD]
  | x :: y :: S, hC =>
    rw [pl_tc_two (by simp)]
    have hcg : ∀ z ∈ x :: y :: S, (!(decide (ki.getD z 0 = 1) && decide (1 < (x :: y :: S).length)) && !(decide (ki.getD z 0 = 3) && decide (c % 2 = 1))) = pl_cnt ki c z := by
      intro z hz
      have hk := pl_kinds (pv z (hC z hz)).2.2.2.2.2.2.1 (pv z (hC z hz)).2.2.2.2.2.2.2
      rcases Nat.mod_two_eq_zero_or_one c with m | m <;> rcases hk with k | k | k | k <;> simp [pl_cnt, k, m, -List.getD_eq_getElem?_getD]
    rw [pl_find_congr hcg]
/-- bits -/
theorem pl_bit : ∀ m < 64, ∀ b < 6, am_w (am_and (am_shr ((m : Nat) : Int) ((b : Nat) : Int)) 1) = if m.testBit b then 1 else 0 := by decide +kernel
def CellsC (h : am_H) (rc p : Nat) (tm : List Int) : Prop := h[rc]? = some (am_o 1 [am_r (some p), am_r (some (rc + 1))]) ∧ h[rc + 1]? = some (am_a 0 tm) ∧ tm.length = 6
theorem CellsC.fr {h h' : am_H} {r q n p : Nat} {tm : List Int} (l : CellsC h r p tm) (f : Fr h h' q n) (d : r + 2 ≤ q ∨ q + n ≤ r) : CellsC h' r p tm := by
  obtain ⟨h0, h1, h2⟩ := l
  exact ⟨by rw [f.2 _ (by omega)]; exact h0, by rw [f.2 _ (by omega)]; exact h1, h2⟩
section TIM
variable {E : List (List Int)} {h : am_H} {K : Option am_V → am_H → Prop} {r rc p nb ns m c : Nat} {B : List Nat} {A Wo tm fr la ce ki wi : List Int} {ni : Int}
def pl_vis (fr la : List Int) (m c b : Nat) : Bool := !m.testBit b && pl_cov fr la c b
theorem X1_timeOf_l (l : LayC h r B A Wo ni) (lp : PartsC h p nb ns fr la ce ki wi) (lc : CellsC h rc p tm) (pv : PVal nb fr la ce ki) (hB : ∀ x ∈ B, x < nb) (hm : m < 64) (hc : c < 6) (hkw : ∀ y < 6, am_w (ki.getD y 0) = ki.getD y 0) (hki : ∀ y < 6, am_w (ki.getD y 0) = 1 ↔ ki.getD y 0 = 1) :
    ∀ (S P : List Nat) (n : Nat) (lo : Int) (x7 : Option am_V), B = P ++ S → n ≤ P.length → (n = 0 ∨ (0 ≤ lo ∧ lo < 6)) → Wp E 5 10 [some (am_r (some rc)), some (am_r (some r)), some (am_i (m : Int)), some (am_i (c : Int)), some (am_i (n : Int)), some (am_i lo), some (am_i (P.length : Int)), x7] [] h K = K (some (am_i (pl_tc (pl_vis fr la m c) ce ki c S n lo))) h
  | [], P, n, lo, x7, e, hn, hlo => by
    obtain ⟨g, a0, a1, a2, a3, a4, a5, a6⟩ := l
    obtain ⟨b0, b1, b2, b3, b4, b5, b6, b7, b8, b9, b10, b11, b12⟩ := id lp
    obtain ⟨c0, c1, c2⟩ := lc
    have e1 : P.length = B.length := by rw [e, List.append_nil]
    rw [e5_10]
    simp only [e5_12, e5_13, e5_16, eq_self, am_k1_t, am_bd_s, am_bd_n, am_nl_i, am_nl_r, am_nl_e, am_nl_n, Option.toList_some, Option.toList_none, List.cons_append, List.nil_append, List.getElem?_cons_zero, List.getElem?_cons_succ, List.length_cons, List.length_nil, List.set_cons_zero, List.set_cons_succ, am_fd_of a1, e1, Int.lt_irrefl, if_false]
    have en : am_w (n : Int) = (n : Int) := am_w_nat (by omega)
    simp only [e5_86, e5_88, e5_89, eq_self, am_k1_t, am_bd_s, am_bd_n, am_nl_i, am_nl_r, am_nl_e, am_nl_n, Option.toList_some, Option.toList_none, List.cons_append, List.nil_append, List.getElem?_cons_zero, List.getElem?_cons_succ, List.length_cons, List.length_nil, List.set_cons_zero, List.set_cons_succ, en, am_w_l1]
    by_cases q1 : n = 1
    · have hl : 0 ≤ lo ∧ lo < 6 := by omega
      obtain ⟨y, rfl⟩ : ∃ y : Nat, lo = (y : Int) := ⟨lo.toNat, by omega⟩
      have hy : y < 6 := by omega
      have hy1 : ((n : Int) = 1) := by omega
      have hh1 : (((1 : Nat)) : Int) = 1 := rfl
      have hw : am_w (ki.getD y 0) = 1 ↔ ki.getD y 0 = 1 := hki y hy
      have cw := fun E K => X4_centuryOn_w (E := E) (K := K) (b := y) (c := c) lp hy (am_gv (d := 0) (by omega)) (am_gv (d := 0) (by omega)) (hkw y hy)
      simp only [if_pos hy1, e5_92, e5_93, e5_96, e5_99, e5_101, e5_102, e5_103, eq_self, am_k1_t, am_bd_s, am_bd_n, am_nl_i, am_nl_r, am_nl_e, am_nl_n, Option.toList_some, Option.toList_none, List.cons_append, List.nil_append, List.getElem?_cons_zero, List.getElem?_cons_succ, List.length_cons, List.length_nil, List.set_cons_zero, List.set_cons_succ, am_fd_of c0, am_fd_of b0, am_ra_of b4, am_rd_at (am_gv (d := 0) (show y < ki.length by omega)) (by omega), am_w_l1, hw, pl_tc, Int.toNat_natCast, q1, true_and, hh1, if_true]
      by_cases q3 : ki.getD y 0 = 1
      · simp only [if_pos q3, e5_106, e5_107, e5_110, e5_111, e5_113, e5_115, e5_118, e5_119, e5_122, e5_124, e5_125, e5_128, eq_self, am_k1_t, am_bd_s, am_bd_n, am_nl_i, am_nl_r, am_nl_e, am_nl_n, Option.toList_some, Option.toList_none, List.cons_append, List.nil_append, List.getElem?_cons_zero, List.getElem?_cons_succ, List.length_cons, List.length_nil, List.set_cons_zero, List.set_cons_succ, am_w_l1, show ¬ ((1 : Int) = 0) by decide, if_false, am_fd_of c0, am_oc_of b0, cw, e5_133, pl_cen]
      · simp only [if_neg q3, e5_110, e5_111, e5_113, e5_115, e5_118, e5_119, e5_122, e5_124, e5_125, e5_128, e5_131, e5_133, eq_self, am_k1_t, am_bd_s, am_bd_n, am_nl_i, am_nl_r, am_nl_e, am_nl_n, Option.toList_some, Option.toList_none, List.cons_append, List.nil_append, List.getElem?_cons_zero, List.getElem?_cons_succ, List.length_cons, List.length_nil, List.set_cons_zero, List.set_cons_succ, am_w_l0, if_true]
    · have q2 : ¬ ((n : Int) = 1) := by omega
      simp only [if_neg q2, e5_110, e5_111, e5_113, e5_115, e5_118, e5_119, e5_122, e5_124, e5_125, e5_128, e5_131, e5_133, eq_self, am_k1_t, am_bd_s, am_bd_n, am_nl_i, am_nl_r, am_nl_e, am_nl_n, Option.toList_some, Option.toList_none, List.cons_append, List.nil_append, List.getElem?_cons_zero, List.getElem?_cons_succ, List.length_cons, List.length_nil, List.set_cons_zero, List.set_cons_succ, am_w_l0, if_true, pl_tc, q1, false_and, if_false]
  | x :: S, P, n, lo, x7, e, hn, hlo => by
    have hx : x < nb := hB x (by rw [e]; simp)
    have hnb : nb ≤ 6 := lp.2.2.2.2.2.2.2.2.2.2.2.1
    have ih1 := X1_timeOf_l l lp lc pv hB hm hc hkw hki S (P ++ [x]) (n + 1) (x : Int) (some (am_i (x : Int))) (by rw [e]; simp) (by simp; omega) (Or.inr (by omega))
    have ih0 := X1_timeOf_l l lp lc pv hB hm hc hkw hki S (P ++ [x]) n lo (some (am_i (x : Int))) (by rw [e]; simp) (by simp; omega) hlo
    rw [List.length_append] at ih0 ih1
    have bw := fun E K => X3_blanketAt_w (E := E) (K := K) (P := P) (S := S) (x := x) (by rw [← e]; exact l)
    have pw := pv x hx
    obtain ⟨d0, d1, d2, d3, d4, d5, d6, d7, d8, d9, d10, d11, d12⟩ := id lp
    have rw1 := fun E K => X4_reaches_w (E := E) (K := K) (b := x) (c := c) lp hx hc (am_gv (d := 0) (by omega)) (am_gv (d := 0) (by omega)) (am_w_id (by omega) (by omega)) (am_w_id (by omega) (by omega))
    have cw := fun E K => X4_countsAmongOthers_w (E := E) (K := K) (b := x) (c := c) lp (by omega) hc (am_gv (d := 0) (by omega)) (am_w_id (by omega) (by omega))
    have nw := fun E K => X4_centuryOn_w (E := E) (K := K) (b := x) (c := c) lp (by omega) (am_gv (d := 0) (by omega)) (am_gv (d := 0) (by omega)) (am_w_id (by omega) (by omega))
    obtain ⟨g, a0, a1, a2, a3, a4, a5, a6⟩ := l
    obtain ⟨c0, c1, c2⟩ := lc
    have e1 : B.length = P.length + (S.length + 1) := by rw [e, List.length_append]; rfl
    have k1 : am_w (P.length : Int) < am_w (B.length : Int) := by rw [am_w_nat (by omega), am_w_nat (by omega)]; omega
    rw [e5_10]
    simp only [e5_12, e5_13, e5_16, e5_19, e5_20, e5_22, eq_self, am_k1_t, am_bd_s, am_bd_n, am_nl_i, am_nl_r, am_nl_e, am_nl_n, Option.toList_some, Option.toList_none, List.cons_append, List.nil_append, List.getElem?_cons_zero, List.getElem?_cons_succ, List.length_cons, List.length_nil, List.set_cons_zero, List.set_cons_succ, am_fd_of a1, if_pos k1, am_oc_of a1, bw]
    simp only [e5_25, e5_27, e5_28, e5_30, e5_31, e5_32, e5_33, eq_self, am_k1_t, am_bd_s, am_bd_n, am_nl_i, am_nl_r, am_nl_e, am_nl_n, Option.toList_some, Option.toList_none, List.cons_append, List.nil_append, List.getElem?_cons_zero, List.getElem?_cons_succ, List.length_cons, List.length_nil, List.set_cons_zero, List.set_cons_succ, pl_bit m hm x (by omega)]
    unfold pl_tc pl_vis
    by_cases q1 : m.testBit x = true
    · simp only [q1, if_true, show ¬ ((1 : Int) = 0) by decide, if_false, Bool.not_true, Bool.false_and, e5_80, e5_83, eq_self, am_k1_t, am_bd_s, am_bd_n, am_nl_i, am_nl_r, am_nl_e, am_nl_n, Option.toList_some, Option.toList_none, List.cons_append, List.nil_append, List.getElem?_cons_zero, List.getElem?_cons_succ, List.length_cons, List.length_nil, List.set_cons_zero, List.set_cons_succ]
      exact ih0
    · have hq1 : m.testBit x = false := by simpa using q1
      simp only [hq1, Bool.false_eq_true, if_false, if_true, e5_36, e5_37, e5_40, e5_42, e5_43, eq_self, am_k1_t, am_bd_s, am_bd_n, am_nl_i, am_nl_r, am_nl_e, am_nl_n, Option.toList_some, Option.toList_none, List.cons_append, List.nil_append, List.getElem?_cons_zero, List.getElem?_cons_succ, List.length_cons, List.length_nil, List.set_cons_zero, List.set_cons_succ, am_fd_of c0, am_oc_of d0, rw1]
      simp only [e5_46, eq_self, am_k1_t, am_bd_s, am_bd_n, am_nl_i, am_nl_r, am_nl_e, am_nl_n, Option.toList_some, Option.toList_none, List.cons_append, List.nil_append, List.getElem?_cons_zero, List.getElem?_cons_succ, List.length_cons, List.length_nil, List.set_cons_zero, List.set_cons_succ]
      by_cases q2 : pl_cov fr la c x = true
      · have q3 : fr.getD x 0 ≤ (c : Int) ∧ (c : Int) ≤ la.getD x 0 := by simpa [pl_cov] using q2
        simp only [pl_b, if_pos q3, am_w_l1, show ¬ ((1 : Int) = 0) by decide, if_false, e5_49, e5_50, e5_53, e5_55, e5_56, eq_self, am_k1_t, am_bd_s, am_bd_n, am_nl_i, am_nl_r, am_nl_e, am_nl_n, Option.toList_some, Option.toList_none, List.cons_append, List.nil_append, List.getElem?_cons_zero, List.getElem?_cons_succ, List.length_cons, List.length_nil, List.set_cons_zero, List.set_cons_succ, am_fd_of c0, am_oc_of d0, cw, q2, Bool.not_false, Bool.true_and, if_true]
        simp only [e5_59, eq_self, am_k1_t, am_bd_s, am_bd_n, am_nl_i, am_nl_r, am_nl_e, am_nl_n, Option.toList_some, Option.toList_none, List.cons_append, List.nil_append, List.getElem?_cons_zero, List.getElem?_cons_succ, List.length_cons, List.length_nil, List.set_cons_zero, List.set_cons_succ]
        by_cases q4 : pl_cnt ki c x = true
        · have q5 : ki.getD x 0 = 0 ∨ ki.getD x 0 = 2 ∨ (ki.getD x 0 = 3 ∧ c % 2 = 0) := by simpa [pl_cnt, -List.getD_eq_getElem?_getD] using q4
          simp only [pl_b, if_pos q5, am_w_l1, show ¬ ((1 : Int) = 0) by decide, if_false, e5_62, e5_63, e5_66, e5_68, e5_69, eq_self, am_k1_t, am_bd_s, am_bd_n, am_nl_i, am_nl_r, am_nl_e, am_nl_n, Option.toList_some, Option.toList_none, List.cons_append, List.nil_append, List.getElem?_cons_zero, List.getElem?_cons_succ, List.length_cons, List.length_nil, List.set_cons_zero, List.set_cons_succ, am_fd_of c0, am_oc_of d0, nw, e5_72, q4, if_true, pl_cen]
        · have q5 : ¬ (ki.getD x 0 = 0 ∨ ki.getD x 0 = 2 ∨ (ki.getD x 0 = 3 ∧ c % 2 = 0)) := fun z => q4 (by simpa [pl_cnt, -List.getD_eq_getElem?_getD] using z)
          simp only [pl_b, if_neg q5, am_w_l0, if_true, e5_73, e5_76, e5_78, e5_80, e5_83, eq_self, am_k1_t, am_bd_s, am_bd_n, am_nl_i, am_nl_r, am_nl_e, am_nl_n, Option.toList_some, Option.toList_none, List.cons_append, List.nil_append, List.getElem?_cons_zero, List.getElem?_cons_succ, List.length_cons, List.length_nil, List.set_cons_zero, List.set_cons_succ, q4, if_false]
          exact ih1
      · have q3 : ¬ (fr.getD x 0 ≤ (c : Int) ∧ (c : Int) ≤ la.getD x 0) := fun z => q2 (by simpa [pl_cov] using z)
        simp only [pl_b, if_neg q3, am_w_l0, if_true, e5_80, e5_83, eq_self, am_k1_t, am_bd_s, am_bd_n, am_nl_i, am_nl_r, am_nl_e, am_nl_n, Option.toList_some, Option.toList_none, List.cons_append, List.nil_append, List.getElem?_cons_zero, List.getElem?_cons_succ, List.length_cons, List.length_nil, List.set_cons_zero, List.set_cons_succ, q2, Bool.not_false, Bool.true_and, if_false]
        exact ih0
/-- THE TIME OF A CELL in the class: those of the mask set aside -/
theorem X1_timeOf_w (l : LayC h r B A Wo ni) (lp : PartsC h p nb ns fr la ce ki wi) (lc : CellsC h rc p tm) (pv : PVal nb fr la ce ki) (hB : ∀ x ∈ B, x < nb) (hm : m < 64) (hc : c < 6) (hkw : ∀ y < 6, am_w (ki.getD y 0) = ki.getD y 0) : Wp E 5 0 [some (am_r (some rc)), some (am_r (some r)), some (am_i (m : Int)), some (am_i (c : Int)), none, none, none, none] [] h K = K (some (am_i (pl_tm fr la ce ki (B.filter fun b => !m.testBit b) c))) h := by
  simp only [e5_0, e5_1, e5_3, e5_5, e5_7, e5_8, eq_self, am_k1_t, am_bd_s, am_bd_n, am_nl_i, am_nl_r, am_nl_e, am_nl_n, Option.toList_some, Option.toList_none, List.cons_append, List.nil_append, List.getElem?_cons_zero, List.getElem?_cons_succ, List.length_cons, List.length_nil, List.set_cons_zero, List.set_cons_succ]
  have h1 := X1_timeOf_l (E := E) (K := K) l lp lc pv hB hm hc hkw (fun y hy => by rw [hkw y hy]) B [] 0 (-9) none rfl (by simp) (Or.inl rfl)
  have h2 : pl_tc (pl_vis fr la m c) ce ki c B 0 (-9) = pl_tm fr la ce ki (B.filter fun b => !m.testBit b) c := by
    rw [← pl_tc_tm pv (fun x hx => hB x (List.mem_filter.mp hx).1) (-9), pl_tc_filter, pl_tc_filter (vis := pl_cov fr la c), List.filter_filter]
    congr 1
    apply List.filter_congr
    intro x _
    simp [pl_vis, Bool.and_comm]
  rw [h2] at h1
  exact h1
end TIM
