/-! small rows for the methods' proofs -/
/-- what one knows of a run is enough -/
theorem am_w_nat {n : Nat} (h : n ≤ 2147483647) : am_w (n : Int) = (n : Int) := am_w_id (by omega) (by omega)
theorem am_rd_mid {p t : List Int} {x : Int} (h : p.length ≤ 100000) : am_rd (p ++ x :: t) (p.length : Int) = some x := by
  rw [am_rd_nat (by rw [List.length_append, List.length_cons]; omega) h]
  simp [List.getD_eq_getElem?_getD]
def pl_c (B : List Nat) : List Int := B.map Int.ofNat
theorem pl_c_len (B : List Nat) : (pl_c B).length = B.length := by simp [pl_c]
theorem pl_c_app (A B : List Nat) : pl_c (A ++ B) = pl_c A ++ pl_c B := by simp [pl_c]
theorem pl_c_cons (a : Nat) (B : List Nat) : pl_c (a :: B) = (a : Int) :: pl_c B := rfl
/-- the place of b, or -9 -/
def pl_ix (b : Nat) : List Nat → Nat → Int
  | [], _ => -9
  | x :: xs, i => if x = b then (i : Int) else pl_ix b xs (i + 1)
/-- only cells from r on, n of them, have changed -/
def Fr (h h' : am_H) (r n : Nat) : Prop := h'.length = h.length ∧ ∀ i : Nat, i < r ∨ r + n ≤ i → h'[i]? = h[i]?
theorem Fr.rf {h : am_H} {r n : Nat} : Fr h h r n := ⟨rfl, fun _ _ => rfl⟩
theorem Fr.set {h h' : am_H} {r n a : Nat} {x : am_C} (f : Fr h h' r n) (h1 : r ≤ a) (h2 : a < r + n) : Fr h (h'.set a x) r n := by
  refine ⟨by rw [List.length_set]; exact f.1, fun i hi => ?_⟩
  rw [List.getElem?_set_ne (by omega)]
  exact f.2 i hi
theorem Fr.trans {h h1 h2 : am_H} {r n : Nat} (f : Fr h h1 r n) (g : Fr h1 h2 r n) : Fr h h2 r n := ⟨g.1.trans f.1, fun i hi => (g.2 i hi).trans (f.2 i hi)⟩
theorem Fr.wide {h h' : am_H} {r n r' n' : Nat} (f : Fr h h' r n) (h1 : r' ≤ r) (h2 : r + n ≤ r' + n') : Fr h h' r' n' := ⟨f.1, fun i hi => f.2 i (by omega)⟩
theorem am_set_at {h : am_H} {a : Nat} {x y : am_C} (e : h[a]? = some y) : (h.set a x)[a]? = some x := List.getElem?_set_self (List.getElem?_eq_some_iff.mp e).1
theorem am_set_ne {h : am_H} {a b : Nat} {x : am_C} (e : a ≠ b) : (h.set a x)[b]? = h[b]? := List.getElem?_set_ne e
theorem am_rd_at {xs : List Int} {i : Nat} {x : Int} (h : xs[i]? = some x) (h2 : i ≤ 100000) : am_rd xs (i : Int) = some x := by
  rw [am_rd_nat (List.getElem?_eq_some_iff.mp h).1 h2, List.getD_eq_getElem?_getD, h]; rfl
theorem am_wr_mid {p t : List Int} {x y : Int} (h : p.length ≤ 100000) : am_wr (p ++ x :: t) (p.length : Int) y = some (p ++ y :: t) := by
  rw [am_wr_nat y (by rw [List.length_append, List.length_cons]; omega) h]
  simp
theorem am_w_l0 : am_w 0 = 0 := by decide
theorem am_w_l1 : am_w 1 = 1 := by decide
theorem am_w_l2 : am_w 2 = 2 := by decide
theorem am_w_l3 : am_w 3 = 3 := by decide
theorem am_w_l4 : am_w 4 = 4 := by decide
theorem am_w_l5 : am_w 5 = 5 := by decide
theorem am_w_l6 : am_w 6 = 6 := by decide
theorem am_w_l9 : am_w 9 = 9 := by decide
theorem am_w_l10 : am_w 10 = 10 := by decide
theorem am_w_l14 : am_w 14 = 14 := by decide
theorem am_w_m9 : am_w (-9) = -9 := by decide
/-- a Layout of the class: what lies in the bed, from the lowest on; where sleepers lie; when they woke; the night -/
def LayC (h : am_H) (r : Nat) (B : List Nat) (A Wo : List Int) (ni : Int) : Prop := ∃ g : List Int, B.length + g.length = 6 ∧ h[r]? = some (am_o 3 [am_r (some (r + 1)), am_i (B.length : Int), am_r (some (r + 2)), am_r (some (r + 3)), am_i ni]) ∧ h[r + 1]? = some (am_a 0 (pl_c B ++ g)) ∧ h[r + 2]? = some (am_a 0 A) ∧ h[r + 3]? = some (am_a 0 Wo) ∧ A.length = 3 ∧ Wo.length = 3
theorem LayC.fr {h h' : am_H} {r q n : Nat} {B : List Nat} {A Wo : List Int} {ni : Int} (l : LayC h r B A Wo ni) (f : Fr h h' q n) (d : r + 4 ≤ q ∨ q + n ≤ r) : LayC h' r B A Wo ni := by
  obtain ⟨g, h0, h1, h2, h3, h4, h5⟩ := l
  exact ⟨g, h0, by rw [f.2 _ (by omega)]; exact h1, by rw [f.2 _ (by omega)]; exact h2, by rw [f.2 _ (by omega)]; exact h3, by rw [f.2 _ (by omega)]; exact h4, h5⟩
