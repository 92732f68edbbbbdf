/-- all six -/
def pl_tms (fr la ce ki : List Int) (B : List Nat) : List Int := (List.range 6).map (pl_tm fr la ce ki B)
theorem pl_cen_rng {nb : Nat} {fr la ce ki : List Int} (pv : PVal nb fr la ce ki) {b c : Nat} (hb : b < nb) (hc : c < 6) : 0 ≤ pl_cen ce ki c b ∧ pl_cen ce ki c b ≤ 9 := by
  obtain ⟨-, -, -, -, p1, p2, -, -⟩ := pv b hb
  unfold pl_cen
  split
  · obtain ⟨y, hy⟩ : ∃ y : Nat, ce.getD b 0 = (y : Int) := ⟨(ce.getD b 0).toNat, by omega⟩
    rw [hy]
    have hd : ∀ y < 10, ∀ c < 6, 0 ≤ am_rem (((y : Nat) : Int) + ((c : Nat) : Int)) 10 ∧ am_rem (((y : Nat) : Int) + ((c : Nat) : Int)) 10 ≤ 9 := by decide +kernel
    exact hd y (by omega) c hc
  · exact ⟨p1, p2⟩
theorem pl_tm_rng {nb : Nat} {fr la ce ki : List Int} (pv : PVal nb fr la ce ki) {B : List Nat} {c : Nat} (hB : ∀ x ∈ B, x < nb) (hc : c < 6) : 0 ≤ pl_tm fr la ce ki B c ∧ pl_tm fr la ce ki B c ≤ 10 := by
  unfold pl_tm
  split
  · rename_i q hq
    have hm := List.mem_of_find?_eq_some hq
    have h1 := pl_cen_rng pv (hB q (List.mem_filter.mp hm).1) hc
    omega
  · omega
section WAK
variable {E : List (List Int)} {h : am_H} {K : Option am_V → am_H → Prop} {r rc p nb ns m : Nat} {B : List Nat} {A Wo tm fr la ce ki wi : List Int} {ni : Int}
theorem X1_reckon_l (l : LayC h r B A Wo ni) (lp : PartsC h p nb ns fr la ce ki wi) (lc : CellsC h rc p tm) (pv : PVal nb fr la ce ki) (hB : ∀ x ∈ B, x < nb) (hm : m < 64) (hkw : ∀ y < 6, am_w (ki.getD y 0) = ki.getD y 0) (d1 : r + 4 ≤ rc ∨ rc + 2 ≤ r) (d2 : p + 6 ≤ rc ∨ rc + 2 ≤ p) :
    ∀ (n c : Nat) (D : List Int), c + n = 6 → D.length = n → Wp E 6 2 [some (am_r (some rc)), some (am_r (some r)), some (am_i (m : Int)), some (am_i (c : Int))] [] (h.set (rc + 1) (am_a 0 ((pl_tms fr la ce ki (B.filter fun b => !m.testBit b)).take c ++ D))) K = K none (h.set (rc + 1) (am_a 0 (pl_tms fr la ce ki (B.filter fun b => !m.testBit b))))
  | 0, c, D, e, eD => by
    have hD : D = [] := List.length_eq_zero_iff.mp eD
    have hc : c = 6 := by omega
    subst hD; subst hc
    have k1 : ¬ am_w ((6 : Nat) : Int) < am_w 6 := by decide
    rw [e6_2]
    simp only [e6_3, e6_5, e6_8, e6_9, e6_12, e6_13, e6_14, e6_15, e6_16, e6_17, e6_20, e6_21, e6_24, e6_27, if_neg k1]
    rw [List.append_nil, List.take_of_length_le (by simp [pl_tms])]
  | n + 1, c, D, e, eD => by
    obtain ⟨d0, D, rfl⟩ : ∃ d0 D1, D = d0 :: D1 := by
      cases D with
      | nil => cases eD
      | cons d0 D' => exact ⟨d0, D', rfl⟩
    have ih := X1_reckon_l l lp lc pv hB hm hkw d1 d2 n (c + 1) D (by omega) (by simpa using eD)
    obtain ⟨c0, c1, c2⟩ := id lc
    have tk : ((pl_tms fr la ce ki (B.filter fun b => !m.testBit b)).take c).length = c := by rw [List.length_take]; simp [pl_tms]; omega
    have tl : ((pl_tms fr la ce ki (B.filter fun b => !m.testBit b)).take c ++ d0 :: D).length = 6 := by rw [List.length_append, tk, List.length_cons]; simp at eD; omega
    have fx : Fr h (h.set (rc + 1) (am_a 0 ((pl_tms fr la ce ki (B.filter fun b => !m.testBit b)).take c ++ d0 :: D))) (rc + 1) 1 := Fr.rf.set (by omega) (by omega)
    have s0 : (h.set (rc + 1) (am_a 0 ((pl_tms fr la ce ki (B.filter fun b => !m.testBit b)).take c ++ d0 :: D)))[rc]? = some (am_o 1 [am_r (some p), am_r (some (rc + 1))]) := by rw [am_set_ne (by omega)]; exact c0
    have s1 : (h.set (rc + 1) (am_a 0 ((pl_tms fr la ce ki (B.filter fun b => !m.testBit b)).take c ++ d0 :: D)))[rc + 1]? = some (am_a 0 ((pl_tms fr la ce ki (B.filter fun b => !m.testBit b)).take c ++ d0 :: D)) := am_set_at c1
    have tw := fun E K => X1_timeOf_w (E := E) (K := K) (m := m) (c := c) (rc := rc) (tm := (pl_tms fr la ce ki (B.filter fun b => !m.testBit b)).take c ++ d0 :: D) (l.fr fx (by omega)) (lp.fr fx (by omega)) ⟨s0, s1, tl⟩ pv hB hm (by omega) hkw
    have k1 : am_w (c : Int) < am_w 6 := by rw [am_w_nat (by omega), am_w_l6]; omega
    have wr : am_wr ((pl_tms fr la ce ki (B.filter fun b => !m.testBit b)).take c ++ d0 :: D) (c : Int) (pl_tm fr la ce ki (B.filter fun b => !m.testBit b) c) = some ((pl_tms fr la ce ki (B.filter fun b => !m.testBit b)).take (c + 1) ++ D) := by
      have h1 := am_wr_mid (p := (pl_tms fr la ce ki (B.filter fun b => !m.testBit b)).take c) (t := D) (x := d0) (y := pl_tm fr la ce ki (B.filter fun b => !m.testBit b) c) (by omega)
      rw [tk] at h1
      rw [h1, List.take_add_one]
      simp [pl_tms, show c < 6 by omega]
    rw [e6_2]
    simp only [e6_3, e6_5, e6_8, e6_9, e6_12, e6_13, e6_14, e6_15, e6_16, e6_17, eq_self, am_k1_t, am_bd_s, am_bd_n, am_nl_i, am_nl_r, am_nl_e, am_nl_n, Option.toList_some, Option.toList_none, List.cons_append, List.nil_append, List.getElem?_cons_zero, List.getElem?_cons_succ, List.length_cons, List.length_nil, List.set_cons_zero, List.set_cons_succ, if_pos k1, am_fd_of s0, am_oc_of s0, tw]
    simp only [e6_20, e6_21, e6_24, eq_self, am_k1_t, am_bd_s, am_bd_n, am_nl_i, am_nl_r, am_nl_e, am_nl_n, Option.toList_some, Option.toList_none, List.cons_append, List.nil_append, List.getElem?_cons_zero, List.getElem?_cons_succ, List.length_cons, List.length_nil, List.set_cons_zero, List.set_cons_succ, am_wa_of s1, wr, Option.map_some, List.set_set]
    exact ih
theorem X1_reckon_w (l : LayC h r B A Wo ni) (lp : PartsC h p nb ns fr la ce ki wi) (lc : CellsC h rc p tm) (pv : PVal nb fr la ce ki) (hB : ∀ x ∈ B, x < nb) (hm : m < 64) (hkw : ∀ y < 6, am_w (ki.getD y 0) = ki.getD y 0) (d1 : r + 4 ≤ rc ∨ rc + 2 ≤ r) (d2 : p + 6 ≤ rc ∨ rc + 2 ≤ p) : Wp E 6 0 [some (am_r (some rc)), some (am_r (some r)), some (am_i (m : Int)), none] [] h K = K none (h.set (rc + 1) (am_a 0 (pl_tms fr la ce ki (B.filter fun b => !m.testBit b)))) := by
  simp only [e6_0, e6_1, eq_self, am_k1_t, am_bd_s, am_bd_n, am_nl_i, am_nl_r, am_nl_e, am_nl_n, Option.toList_some, Option.toList_none, List.cons_append, List.nil_append, List.getElem?_cons_zero, List.getElem?_cons_succ, List.length_cons, List.length_nil, List.set_cons_zero, List.set_cons_succ]
  have h1 := X1_reckon_l (E := E) (K := K) l lp lc pv hB hm hkw d1 d2 6 0 tm rfl lc.2.2
  rw [List.take_zero, List.nil_append, am_set_same lc.2.1] at h1
  exact h1
theorem X1_wakesAsReckoned_w {s f w : Nat} (l : LayC h r B A Wo ni) (lp : PartsC h p nb ns fr la ce ki wi) (lc : CellsC h rc p tm) (hs : s < 3) (ef : A[s]? = some (f : Int)) (ew : wi[s]? = some (w : Int)) (hf : f ≤ 6) (hw : w ≤ 6) (hv : ∀ v ∈ tm, am_w v = v) : Wp E 9 0 [some (am_r (some rc)), some (am_r (some r)), some (am_i (s : Int))] [] h K = K (some (am_i (pl_cm ((tm.drop f).take w)))) h := by
  obtain ⟨g, a0, a1, a2, a3, a4, a5, a6⟩ := l
  obtain ⟨b0, b1, b2, b3, b4, b5, b6, b7, b8, b9, b10, b11, b12⟩ := lp
  obtain ⟨c0, c1, c2⟩ := lc
  have cw := fun E K => X1_commonest_w (E := E) (K := K) c1 c2 hf hw hv
  simp only [e9_0, e9_1, e9_4, e9_5, e9_8, e9_9, e9_10, e9_11, e9_14, e9_17, e9_18, e9_19, eq_self, am_k1_t, am_bd_s, am_bd_n, am_nl_i, am_nl_r, am_nl_e, am_nl_n, Option.toList_some, Option.toList_none, List.cons_append, List.nil_append, List.getElem?_cons_zero, List.getElem?_cons_succ, List.length_cons, List.length_nil, List.set_cons_zero, List.set_cons_succ, am_fd_of c0, am_fd_of a1, am_fd_of b0, am_ra_of a3, am_ra_of b5, am_rd_at ef (by omega), am_rd_at ew (by omega), cw]
  simp only [e9_22, eq_self, am_k1_t, am_bd_s, am_bd_n, am_nl_i, am_nl_r, am_nl_e, am_nl_n, Option.toList_some, Option.toList_none, List.cons_append, List.nil_append, List.getElem?_cons_zero, List.getElem?_cons_succ, List.length_cons, List.length_nil, List.set_cons_zero, List.set_cons_succ]
end WAK
