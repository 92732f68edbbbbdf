/-- every order is one of those that lie -/
theorem m_un_ok : ∀ m < 64, ∀ i < pl_fct (pl_pop m), (m_un (pl_pop m) m i).Nodup ∧ ∀ x ∈ m_un (pl_pop m) m i, x < 6 ∧ m.testBit x = true := by decide +kernel
def pl_swp (B : List Nat) (i j : Nat) : List Nat := (B.set i (B.getD j 0)).set j (B.getD i 0)
/-- the class's way to the next order -/
def pl_piv (B : List Nat) : Nat → Int → Int
  | 0, p => p
  | f + 1, p => if p < 0 then p else if B.getD (p.toNat + 1) 0 < B.getD p.toNat 0 then pl_piv B f (p - 1) else p
def pl_gre (B : List Nat) (p : Nat) : Nat → Nat → Nat
  | 0, g => g
  | f + 1, g => if p + 1 < g ∧ B.getD g 0 < B.getD p 0 then pl_gre B p f (g - 1) else g
def pl_rev : Nat → List Nat → Nat → Int → List Nat
  | 0, B, _, _ => B
  | f + 1, B, lo, hi => if (lo : Int) < hi then pl_rev f (pl_swp B lo hi.toNat) (lo + 1) (hi - 1) else B
def pl_nx (B : List Nat) : Option (List Nat) := if pl_piv B 6 ((B.length : Int) - 2) < 0 then none else some (pl_rev 6 (pl_swp B (pl_piv B 6 ((B.length : Int) - 2)).toNat (pl_gre B (pl_piv B 6 ((B.length : Int) - 2)).toNat 6 (B.length - 1))) ((pl_piv B 6 ((B.length : Int) - 2)).toNat + 1) ((B.length : Int) - 1))
/-- both ways go through the same orders -/
theorem pl_nx_un : ∀ m < 64, ∀ i < pl_fct (pl_pop m), pl_nx (m_un (pl_pop m) m i) = if i + 1 < pl_fct (pl_pop m) then some (m_un (pl_pop m) m (i + 1)) else none := by decide +kernel
theorem m_un_0 : ∀ m < 64, m_un (pl_pop m) m 0 = (List.range 6).filter fun b => m.testBit b := by decide +kernel
