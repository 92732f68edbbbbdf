/-! small rows for the methods' proofs -/
/-- what one knows of a run is enough -/
theorem am_w_nat {n : Nat} (h : n ≤ 2147483647) : am_w (n : Int) = (n : Int) := am_w_id (by omega) (by omega)
theorem am_rd_mid {p t : List Int} {x : Int} (h : p.length ≤ 100000) : am_rd (p ++ x :: t) (p.length : Int) = some x := by
  rw [am_rd_nat (by rw [List.length_append, List.length_cons]; omega) h]
  simp [List.getD_eq_getElem?_getD]
def pl_c (B : List Nat) : List Int := B.map Int.ofNat
theorem pl_c_len (B : List Nat) : (pl_c B).length = B.length := by simp [pl_c]
theorem pl_c_app (A B : List Nat) : pl_c (A ++ B) = pl_c A ++ pl_c B := by simp [pl_c]
theorem pl_c_cons (a : Nat) (B : List Nat) : pl_c (a :: B) = (a : Int) :: pl_c B := rfl
/-- the place of b, or -9 -/
def pl_ix (b : Nat) : List Nat → Nat → Int
  | [], _ => -9
  | x :: xs, i => if x = b then (i : Int) else pl_ix b xs (i + 1)
