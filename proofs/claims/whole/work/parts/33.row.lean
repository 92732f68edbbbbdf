def pl_rr : List (Option Nat) := (List.range 14).map fun i => some (22 + 4 * i)
theorem pl_rr_at {i : Nat} (h : i < 14) : pl_rr[i]? = some (some (22 + 4 * i)) := by simp [pl_rr, h]
theorem am_qa_of {h : am_H} {a i : Nat} {l : List (Option Nat)} {x : Option Nat} (he : h[a]? = some (am_q l)) (hx : l[i]? = some x) (h2 : i ≤ 100000) : am_qa h a (i : Int) = some x := by
  unfold am_qa
  rw [he]
  dsimp only
  rw [am_w_nat (by omega), if_pos (by omega), Int.toNat_natCast, hx]
/-- the row of acts: where the next one goes, how many, the fourteen layouts -/
def RowC (h : am_H) (nx len : Nat) (Ls : List pl_L) : Prop := h[20]? = some (am_o 6 [am_r (some 21), am_i (nx : Int), am_i (len : Int)]) ∧ h[21]? = some (am_q pl_rr) ∧ nx < 14 ∧ len ≤ 14 ∧ Ls.length = 14 ∧ ∀ (i : Nat) (L : pl_L), Ls[i]? = some L → LayL h (22 + 4 * i) L
theorem RowC.frT {h h' : am_H} {nx len q n : Nat} {Ls : List pl_L} (l : RowC h nx len Ls) (f : FrT h h' q n) (d : 78 ≤ q ∨ q + n ≤ 20) : RowC h' nx len Ls := by
  obtain ⟨h0, h1, h2, h3, h4, h5⟩ := l
  refine ⟨by rw [f.2 _ (by omega) (by omega)]; exact h0, by rw [f.2 _ (by omega) (by omega)]; exact h1, h2, h3, h4, fun i L e => ?_⟩
  have hi : i < 14 := by rw [← h4]; exact (List.getElem?_eq_some_iff.mp e).1
  exact (h5 i L e).frT f (by omega) (by omega)
theorem LayL.frT {h h' : am_H} {r q n : Nat} {L : pl_L} (l : LayL h r L) (f : FrT h h' q n) (h12 : 12 ≤ r) (d : r + 4 ≤ q ∨ q + n ≤ r) : LayL h' r L := LayC.frT l f h12 d
section ROW
variable {E : List (List Int)} {h : am_H} {K : Option am_V → am_H → Prop} {nx len : Nat} {Ls : List pl_L} {L : pl_L} {q : Nat}
theorem X6_forgetAll_w (l : RowC h nx len Ls) : ∃ h', (∀ E K, Wp E 60 0 [some (am_r (some 20))] [] h K = K none h') ∧ RowC h' nx 0 Ls ∧ Fr h h' 20 1 := by
  obtain ⟨h0, h1, h2, h3, h4, h5⟩ := l
  have fx : Fr h (h.set 20 (am_o 6 [am_r (some 21), am_i (nx : Int), am_i 0])) 20 1 := Fr.rf.set (by omega) (by omega)
  refine ⟨_, fun E K => ?_, ⟨am_set_at h0, by rw [am_set_ne (by omega)]; exact h1, h2, by omega, h4, fun i L e => (h5 i L e).frT fx.T (by omega) (by omega)⟩, fx⟩
  simp only [e60_0, e60_1, e60_2, e60_5, eq_self, am_k1_t, am_bd_s, am_bd_n, am_nl_i, am_nl_r, am_nl_e, am_nl_n, Option.toList_some, Option.toList_none, List.cons_append, List.nil_append, List.getElem?_cons_zero, List.getElem?_cons_succ, List.length_cons, List.length_nil, List.set_cons_zero, List.set_cons_succ, am_fu_of h0 (show 2 < [am_r (some 21), am_i (nx : Int), am_i (len : Int)].length from by simp)]
  rfl
theorem X6_remember_w (l : RowC h nx len Ls) (lq : LayL h q L) (hq : 78 ≤ q) : ∃ h', (∀ E K, Wp E 61 0 [some (am_r (some 20)), some (am_r (some q))] [] h K = K none h') ∧ RowC h' ((nx + 1) % 14) (min (len + 1) 14) (Ls.set nx L) ∧ Fr h h' 20 58 := by
  obtain ⟨h0, h1, h2, h3, h4, h5⟩ := l
  obtain ⟨L0, hL0⟩ : ∃ L0, Ls[nx]? = some L0 := ⟨_, List.getElem?_eq_getElem (by omega)⟩
  obtain ⟨hc, wc, lc, fc⟩ := X3_copyFrom_w (r := 22 + 4 * nx) (q := q) (h5 nx L0 hL0) lq (by omega)
  have lo := (LayC.obj (h5 nx L0 hL0)).1
  have g0 : hc[20]? = some (am_o 6 [am_r (some 21), am_i (nx : Int), am_i (len : Int)]) := by rw [fc.2 _ (by omega)]; exact h0
  have g1 : hc[21]? = some (am_q pl_rr) := by rw [fc.2 _ (by omega)]; exact h1
  have er : am_rem ((nx : Int) + 1) 14 = (((nx + 1) % 14 : Nat) : Int) := by
    have hd : ∀ n < 14, am_rem (((n : Nat) : Int) + 1) 14 = (((n + 1) % 14 : Nat) : Int) := by decide +kernel
    exact hd nx h2
  have em : (if am_w 14 < am_w ((len : Int) + 1) then 14 else (len : Int) + 1) = ((min (len + 1) 14 : Nat) : Int) := by
    rw [am_w_l14, am_w_id (by omega) (by omega)]
    split <;> omega
  have u0 : (hc.set 20 (am_o 6 [am_r (some 21), am_i (((nx + 1) % 14 : Nat) : Int), am_i (len : Int)]))[20]? = some (am_o 6 [am_r (some 21), am_i (((nx + 1) % 14 : Nat) : Int), am_i (len : Int)]) := am_set_at g0
  have fx : Fr hc (hc.set 20 (am_o 6 [am_r (some 21), am_i (((nx + 1) % 14 : Nat) : Int), am_i ((min (len + 1) 14 : Nat) : Int)])) 20 1 := Fr.rf.set (by omega) (by omega)
  refine ⟨_, fun E K => ?_, ⟨am_set_at g0, by rw [am_set_ne (by omega)]; exact g1, Nat.mod_lt _ (by omega), by omega, by rw [List.length_set]; exact h4, fun i M e => ?_⟩, (fc.wide (by omega) (by omega)).trans (fx.wide (by omega) (by omega))⟩
  · simp only [e61_0, e61_1, e61_4, e61_5, e61_8, e61_9, e61_10, eq_self, am_k1_t, am_bd_s, am_bd_n, am_nl_i, am_nl_r, am_nl_e, am_nl_n, Option.toList_some, Option.toList_none, List.cons_append, List.nil_append, List.getElem?_cons_zero, List.getElem?_cons_succ, List.length_cons, List.length_nil, List.set_cons_zero, List.set_cons_succ, am_fd_of h0, am_qa_of h1 (pl_rr_at h2) (by omega), am_oc_of lo, wc]
    simp only [e61_13, e61_14, e61_15, e61_18, e61_19, e61_20, e61_22, e61_23, e61_26, e61_27, e61_28, e61_31, e61_32, e61_33, e61_35, e61_38, e61_41, eq_self, am_k1_t, am_bd_s, am_bd_n, am_nl_i, am_nl_r, am_nl_e, am_nl_n, Option.toList_some, Option.toList_none, List.cons_append, List.nil_append, List.getElem?_cons_zero, List.getElem?_cons_succ, List.length_cons, List.length_nil, List.set_cons_zero, List.set_cons_succ, am_fd_of g0, am_w_l14, show ¬ ((14 : Int) = 0) by decide, if_false, er, am_fu_of g0 (show 1 < [am_r (some 21), am_i (nx : Int), am_i (len : Int)].length from by simp), am_fd_of u0, am_fu_of u0 (show 2 < [am_r (some 21), am_i (((nx + 1) % 14 : Nat) : Int), am_i (len : Int)].length from by simp), List.set_set]
    rw [am_w_l14] at em
    rw [em]
  · by_cases qi : nx = i
    · subst qi
      rw [List.getElem?_set_self (by omega)] at e
      cases e
      exact LayL.frT (L := L) lc fx.T (by omega) (by omega)
    · rw [List.getElem?_set_ne qi] at e
      have hi : i < 14 := by rw [← h4]; exact (List.getElem?_eq_some_iff.mp e).1
      exact ((h5 i M e).frT fc.T (by omega) (by omega)).frT fx.T (by omega) (by omega)
theorem X6_goBack_no (l : RowC h nx 0 Ls) : Wp E 62 0 [some (am_r (some 20)), some (am_r (some q))] [] h K = K (some (am_i 0)) h := by
  obtain ⟨h0, h1, h2, h3, h4, h5⟩ := l
  have e0 : am_w ((0 : Nat) : Int) = 0 := by decide
  simp only [e62_0, e62_1, e62_4, e62_7, e62_8, eq_self, am_k1_t, am_bd_s, am_bd_n, am_nl_i, am_nl_r, am_nl_e, am_nl_n, Option.toList_some, Option.toList_none, List.cons_append, List.nil_append, List.getElem?_cons_zero, List.getElem?_cons_succ, List.length_cons, List.length_nil, List.set_cons_zero, List.set_cons_succ, am_fd_of h0, e0, if_true]
  simp
theorem X6_goBack_w (l : RowC h nx (len + 1) Ls) (lq : LayL h q L) (hq : 78 ≤ q) : ∃ h', (∀ E K, Wp E 62 0 [some (am_r (some 20)), some (am_r (some q))] [] h K = K (some (am_i 1)) h') ∧ RowC h' ((nx + 13) % 14) len Ls ∧ LayL h' q (Ls.getD ((nx + 13) % 14) L) ∧ (∀ i, i ≠ 20 → i < q ∨ q + 4 ≤ i → h'[i]? = h[i]?) ∧ h'.length = h.length := by
  obtain ⟨h0, h1, h2, h3, h4, h5⟩ := l
  have hm : (nx + 13) % 14 < 14 := Nat.mod_lt _ (by omega)
  have er : am_rem ((nx : Int) + 14 - 1) 14 = (((nx + 13) % 14 : Nat) : Int) := by
    have hd : ∀ n < 14, am_rem (((n : Nat) : Int) + 14 - 1) 14 = (((n + 13) % 14 : Nat) : Int) := by decide +kernel
    exact hd nx h2
  have e9 : ((len + 1 : Nat) : Int) - 1 = (len : Int) := by omega
  have c0 : ¬ am_w ((len + 1 : Nat) : Int) = 0 := by rw [am_w_nat (by omega)]; omega
  have u0 : (h.set 20 (am_o 6 [am_r (some 21), am_i (((nx + 13) % 14 : Nat) : Int), am_i ((len + 1 : Nat) : Int)]))[20]? = some (am_o 6 [am_r (some 21), am_i (((nx + 13) % 14 : Nat) : Int), am_i ((len + 1 : Nat) : Int)]) := am_set_at h0
  have fx : Fr h (h.set 20 (am_o 6 [am_r (some 21), am_i (((nx + 13) % 14 : Nat) : Int), am_i (len : Int)])) 20 1 := Fr.rf.set (by omega) (by omega)
  have v0 : (h.set 20 (am_o 6 [am_r (some 21), am_i (((nx + 13) % 14 : Nat) : Int), am_i (len : Int)]))[20]? = some (am_o 6 [am_r (some 21), am_i (((nx + 13) % 14 : Nat) : Int), am_i (len : Int)]) := am_set_at h0
  have v1 : (h.set 20 (am_o 6 [am_r (some 21), am_i (((nx + 13) % 14 : Nat) : Int), am_i (len : Int)]))[21]? = some (am_q pl_rr) := by rw [am_set_ne (by omega)]; exact h1
  obtain ⟨L0, hL0⟩ : ∃ L0, Ls[(nx + 13) % 14]? = some L0 := ⟨_, List.getElem?_eq_getElem (by omega)⟩
  obtain ⟨hc, wc, lc, fc⟩ := X3_copyFrom_w (r := q) (q := 22 + 4 * ((nx + 13) % 14)) (lq.frT fx.T (by omega) (by omega)) ((h5 _ L0 hL0).frT fx.T (by omega) (by omega)) (by omega)
  have lo := (LayC.obj (lq.frT fx.T (by omega) (by omega))).1
  refine ⟨hc, fun E K => ?_, ⟨by rw [fc.2 _ (by omega)]; exact v0, by rw [fc.2 _ (by omega)]; exact v1, hm, by omega, h4, fun i M e => ?_⟩, ?_, fun i h1 h2 => by rw [fc.2 _ h2, fx.2 _ (by omega)], fc.1.trans fx.1⟩
  · simp only [e62_0, e62_1, e62_4, e62_7, e62_8, e62_9, e62_10, e62_11, e62_14, e62_16, e62_17, e62_18, e62_19, e62_21, e62_22, e62_25, e62_26, e62_27, e62_30, e62_31, e62_32, eq_self, am_k1_t, am_bd_s, am_bd_n, am_nl_i, am_nl_r, am_nl_e, am_nl_n, Option.toList_some, Option.toList_none, List.cons_append, List.nil_append, List.getElem?_cons_zero, List.getElem?_cons_succ, List.length_cons, List.length_nil, List.set_cons_zero, List.set_cons_succ, am_fd_of h0, if_neg c0, am_w_l14, show ¬ ((14 : Int) = 0) by decide, if_false, er, am_fu_of h0 (show 1 < [am_r (some 21), am_i (nx : Int), am_i ((len + 1 : Nat) : Int)].length from by simp), am_fd_of u0, e9, am_fu_of u0 (show 2 < [am_r (some 21), am_i (((nx + 13) % 14 : Nat) : Int), am_i ((len + 1 : Nat) : Int)].length from by simp), List.set_set]
    simp only [e62_35, e62_36, e62_37, e62_40, e62_41, e62_44, e62_45, eq_self, am_k1_t, am_bd_s, am_bd_n, am_nl_i, am_nl_r, am_nl_e, am_nl_n, Option.toList_some, Option.toList_none, List.cons_append, List.nil_append, List.getElem?_cons_zero, List.getElem?_cons_succ, List.length_cons, List.length_nil, List.set_cons_zero, List.set_cons_succ, am_fd_of v0, am_qa_of v1 (pl_rr_at hm) (by omega), am_oc_of lo, wc]
    simp only [e62_48, e62_49, eq_self, am_k1_t, am_bd_s, am_bd_n, am_nl_i, am_nl_r, am_nl_e, am_nl_n, Option.toList_some, Option.toList_none, List.cons_append, List.nil_append, List.getElem?_cons_zero, List.getElem?_cons_succ, List.length_cons, List.length_nil, List.set_cons_zero, List.set_cons_succ]
    simp
  · have hi : i < 14 := by rw [← h4]; exact (List.getElem?_eq_some_iff.mp e).1
    exact ((h5 i M e).frT fx.T (by omega) (by omega)).frT fc.T (by omega) (by omega)
  · rw [List.getD_eq_getElem?_getD, hL0]
    exact lc
end ROW
