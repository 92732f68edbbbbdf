/-! THE MODEL'S HEAP (by program): cells 0 to 95 are the class's (C), 96 the model's object with its fields S, 97 to 112 its arrays V -/
def up {α : Type} (S : Nat → α) (j : Nat) (v : α) : Nat → α := fun i => if i = j then v else S i
theorem up_eq {α : Type} {S : Nat → α} {j : Nat} {v : α} : up S j v j = v := if_pos rfl
theorem up_ne {α : Type} {S : Nat → α} {i j : Nat} {v : α} (h : i ≠ j) : up S j v i = S i := if_neg h
theorem up_up {α : Type} {S : Nat → α} {j : Nat} {v w : α} : up (up S j v) j w = up S j w := by
  funext i
  unfold up
  split <;> rfl
theorem up_same {α : Type} {S : Nat → α} {j : Nat} : up S j (S j) = S := by
  funext i
  unfold up
  split
  · rename_i h; rw [h]
  · rfl
theorem up_com {α : Type} {S : Nat → α} {i j : Nat} {v w : α} (h : i ≠ j) : up (up S j v) i w = up (up S i w) j v := by
  funext k
  unfold up
  by_cases q1 : k = i
  · rw [if_pos q1, if_pos q1, if_neg (by omega)]
  · rw [if_neg q1, if_neg q1]
theorem am_tls {E : List (List Int)} {k pc : Nat} {L : am_L} {v : am_V} {st : List am_V} {h : am_H} {K : Option am_V → am_H → Prop} : Wp E k pc L ((some v).toList ++ st) h K = Wp E k pc L (v :: st) h K := rfl
theorem am_tln {E : List (List Int)} {k pc : Nat} {L : am_L} {st : List am_V} {h : am_H} {K : Option am_V → am_H → Prop} : Wp E k pc L ((none : Option am_V).toList ++ st) h K = Wp E k pc L st h K := rfl
/-- arrays, by ints -/
def gi (xs : List Int) (j : Int) : Int := xs.getD j.toNat 0
def si (xs : List Int) (j x : Int) : List Int := xs.set j.toNat x
theorem gi_n {xs : List Int} {n : Nat} : gi xs (n : Int) = xs.getD n 0 := rfl
theorem si_len {xs : List Int} {j x : Int} : (si xs j x).length = xs.length := List.length_set
theorem gi_eq {xs : List Int} {j x : Int} (h : 0 ≤ j ∧ j < xs.length) : gi (si xs j x) j = x := by
  unfold gi si
  rw [List.getD_eq_getElem?_getD, List.getElem?_set_self (by omega)]
  rfl
theorem gi_ne {xs : List Int} {i j x : Int} (h : 0 ≤ i ∧ 0 ≤ j ∧ i ≠ j) : gi (si xs j x) i = gi xs i := by
  unfold gi si
  rw [List.getD_eq_getElem?_getD, List.getElem?_set_ne (by omega), ← List.getD_eq_getElem?_getD]
theorem gi_ext {xs ys : List Int} (h : xs.length = ys.length) (e : ∀ i : Int, 0 ≤ i → i < xs.length → gi xs i = gi ys i) : xs = ys := by
  apply List.ext_getElem?
  intro i
  by_cases q : i < xs.length
  · have h1 := e (i : Int) (by omega) (by omega)
    rw [gi_n, gi_n] at h1
    rw [am_gv (d := 0) q, am_gv (d := 0) (by omega), h1]
  · rw [List.getElem?_eq_none (by omega), List.getElem?_eq_none (by omega)]
/-- loops, their counters ints -/
def pl_fz {α : Type} (f : α → Int → α) : Int → Nat → α → α
  | _, 0, a => a
  | i, n + 1, a => pl_fz f (i + 1) n (f a i)
theorem am_foldz {α : Type} {W : Int → α → Prop} {f : α → Int → α} {I : Int → α → Prop} {lo N : Int} (st : ∀ i a, lo ≤ i → i < N → I i a → I (i + 1) (f a i) ∧ W i a = W (i + 1) (f a i)) : ∀ (n : Nat) (i : Int) (a : α), lo ≤ i → i + n = N → I i a → W i a = W N (pl_fz f i n a) ∧ I N (pl_fz f i n a)
  | 0, i, a, h0, e, hI => by
    have e1 : i = N := by omega
    subst e1
    exact ⟨rfl, hI⟩
  | n + 1, i, a, h0, e, hI => by
    obtain ⟨h1, w1⟩ := st i a h0 (by omega) hI
    obtain ⟨w2, h2⟩ := am_foldz st n (i + 1) (f a i) (by omega) (by omega) h1
    exact ⟨by rw [w1, w2]; rfl, h2⟩
theorem pl_fz_list {α : Type} {g : α → Nat → α} {f : α → Int → α} : ∀ (B : List Nat) (i : Int) (a : α), (∀ k : Nat, k < B.length → ∀ a, f a (i + (k : Int)) = g a (B.getD k 0)) → pl_fz f i B.length a = B.foldl g a
  | [], _, _, _ => rfl
  | x :: B, i, a, h => by
    rw [List.length_cons, pl_fz, List.foldl_cons]
    have h0 := h 0 (by rw [List.length_cons]; omega) a
    rw [Int.natCast_zero, Int.add_zero] at h0
    rw [h0]
    exact pl_fz_list B (i + 1) _ (fun k hk a => by
      have h1 := h (k + 1) (by rw [List.length_cons]; omega) a
      rw [show i + 1 + (k : Int) = i + ((k + 1 : Nat) : Int) by omega, h1]
      rfl)
theorem pl_fz_range {α : Type} {f : α → Int → α} : ∀ (n : Nat) (i : Nat) (a : α), pl_fz f (i : Int) n a = (List.range' i n).foldl (fun a (k : Nat) => f a (k : Int)) a
  | 0, _, _ => rfl
  | n + 1, i, a => by
    rw [pl_fz, List.range'_succ, List.foldl_cons, ← pl_fz_range n (i + 1)]
    rfl
theorem pl_fz_congr {α : Type} {f g : α → Int → α} : ∀ (n : Nat) (i : Int) (a : α), (∀ k : Int, i ≤ k → k < i + n → ∀ a, f a k = g a k) → pl_fz f i n a = pl_fz g i n a
  | 0, _, _, _ => rfl
  | n + 1, i, a, h => by
    rw [pl_fz, pl_fz, h i (by omega) (by omega), pl_fz_congr n (i + 1) _ (fun k h1 h2 => h k (by omega) (by omega))]
def mf (S : Nat → Int) : List am_V := [am_i (S 0), am_i (S 1), am_r (some 97), am_r (some 98), am_r (some 99), am_r (some 100), am_r (some 101), am_r (some 102), am_r (some 103), am_r (some 104), am_r (some 105), am_i (S 11), am_i (S 12), am_i (S 13), am_r (some 106), am_i (S 15), am_i (S 16), am_i (S 17), am_r (some 107), am_i (S 19), am_i (S 20), am_r (some 108), am_i (S 22), am_r (some 109), am_r (some 110), am_l (S 25), am_r (some 111), am_r (some 112)]
def mk (C : Nat → am_C) (S : Nat → Int) (V : Nat → List Int) : am_H := (List.range 113).map fun i => if i < 96 then C i else if i = 96 then am_o 10 (mf S) else am_a (if i = 111 then 1 else 0) (V i)
section MK
variable {C : Nat → am_C} {S : Nat → Int} {V : Nat → List Int}
theorem mk_len : (mk C S V).length = 113 := by simp [mk]
theorem mk_at {i : Nat} (h : i < 113) : (mk C S V)[i]? = some (if i < 96 then C i else if i = 96 then am_o 10 (mf S) else am_a (if i = 111 then 1 else 0) (V i)) := by
  unfold mk
  rw [List.getElem?_map, List.getElem?_range h]
  rfl
theorem mk_c {i : Nat} (h : i < 96) : (mk C S V)[i]? = some (C i) := by rw [mk_at (by omega), if_pos h]
theorem mk_o : (mk C S V)[96]? = some (am_o 10 (mf S)) := by rw [mk_at (by omega), if_neg (by omega), if_pos rfl]
theorem mk_a {i : Nat} (h : 97 ≤ i ∧ i < 113 ∧ i ≠ 111) : (mk C S V)[i]? = some (am_a 0 (V i)) := by rw [mk_at (by omega), if_neg (by omega), if_neg (by omega), if_neg (by omega)]
theorem mk_z : (mk C S V)[111]? = some (am_a 1 (V 111)) := by rw [mk_at (by omega), if_neg (by omega), if_neg (by omega), if_pos rfl]
theorem mk_so {S' : Nat → Int} : (mk C S V).set 96 (am_o 10 (mf S')) = mk C S' V := by
  apply List.ext_getElem?
  intro i
  by_cases h : i < 113
  · by_cases q : i = 96
    · subst q
      rw [am_set_at mk_o, mk_o]
    · rw [am_set_ne (by omega), mk_at h, mk_at h, if_neg q, if_neg q]
  · rw [List.getElem?_eq_none (by rw [List.length_set, mk_len]; omega), List.getElem?_eq_none (by rw [mk_len]; omega)]
theorem mk_sv {a t : Nat} {xs : List Int} (h : 97 ≤ a ∧ a < 113) (ht : t = if a = 111 then 1 else 0) : (mk C S V).set a (am_a t xs) = mk C S (up V a xs) := by
  apply List.ext_getElem?
  intro i
  by_cases hi : i < 113
  · by_cases q : i = a
    · subst q
      rw [am_set_at (mk_at hi), mk_at hi, if_neg (by omega), if_neg (by omega), up_eq, ht]
    · rw [am_set_ne (by omega), mk_at hi, mk_at hi]
      unfold up
      rw [if_neg q]
  · rw [List.getElem?_eq_none (by rw [List.length_set, mk_len]; omega), List.getElem?_eq_none (by rw [mk_len]; omega)]
theorem mk_oc {P : Prop} : am_oc (mk C S V) 96 10 P = P := am_oc_of mk_o P
theorem ma_r {a : Nat} {j : Int} {f : Int → Prop} (ha : 97 ≤ a ∧ a < 113 ∧ a ≠ 111) (hj : 0 ≤ j ∧ j < (V a).length ∧ j ≤ 100000) : am_bd (am_ra 0 (mk C S V) a j) f = f (gi (V a) j) := am_bra (mk_a ha) hj.1 hj.2.1 hj.2.2 f
theorem ma_w {a : Nat} {j x : Int} {f : am_H → Prop} (ha : 97 ≤ a ∧ a < 113 ∧ a ≠ 111) (hj : 0 ≤ j ∧ j < (V a).length ∧ j ≤ 100000) : am_bd (am_wa 0 (mk C S V) a j x) f = f (mk C S (up V a (si (V a) j x))) := by
  rw [am_bwa (mk_a ha) hj.1 hj.2.1 hj.2.2, mk_sv (by omega) (by rw [if_neg (by omega)])]
  rfl
theorem mz_r {j : Int} {f : Int → Prop} (hj : 0 ≤ j ∧ j < (V 111).length ∧ j ≤ 100000) : am_bd (am_ra 1 (mk C S V) 111 j) f = f (gi (V 111) j) := am_bra mk_z hj.1 hj.2.1 hj.2.2 f
theorem mz_w {j x : Int} {f : am_H → Prop} (hj : 0 ≤ j ∧ j < (V 111).length ∧ j ≤ 100000) : am_bd (am_wa 1 (mk C S V) 111 j x) f = f (mk C S (up V 111 (si (V 111) j x))) := by
  rw [am_bwa mk_z hj.1 hj.2.1 hj.2.2, mk_sv (a := 111) (t := 1) (by omega) rfl]
  rfl
theorem mr0 {f : am_V → Prop} : am_bd (am_fd (mk C S V) 96 10 0) f = f (am_i (S 0)) := by rw [am_bdf mk_o]; rfl
theorem mr1 {f : am_V → Prop} : am_bd (am_fd (mk C S V) 96 10 1) f = f (am_i (S 1)) := by rw [am_bdf mk_o]; rfl
theorem mr2 {f : am_V → Prop} : am_bd (am_fd (mk C S V) 96 10 2) f = f (am_r (some 97)) := by rw [am_bdf mk_o]; rfl
theorem mr3 {f : am_V → Prop} : am_bd (am_fd (mk C S V) 96 10 3) f = f (am_r (some 98)) := by rw [am_bdf mk_o]; rfl
theorem mr4 {f : am_V → Prop} : am_bd (am_fd (mk C S V) 96 10 4) f = f (am_r (some 99)) := by rw [am_bdf mk_o]; rfl
theorem mr5 {f : am_V → Prop} : am_bd (am_fd (mk C S V) 96 10 5) f = f (am_r (some 100)) := by rw [am_bdf mk_o]; rfl
theorem mr6 {f : am_V → Prop} : am_bd (am_fd (mk C S V) 96 10 6) f = f (am_r (some 101)) := by rw [am_bdf mk_o]; rfl
theorem mr7 {f : am_V → Prop} : am_bd (am_fd (mk C S V) 96 10 7) f = f (am_r (some 102)) := by rw [am_bdf mk_o]; rfl
theorem mr8 {f : am_V → Prop} : am_bd (am_fd (mk C S V) 96 10 8) f = f (am_r (some 103)) := by rw [am_bdf mk_o]; rfl
theorem mr9 {f : am_V → Prop} : am_bd (am_fd (mk C S V) 96 10 9) f = f (am_r (some 104)) := by rw [am_bdf mk_o]; rfl
theorem mr10 {f : am_V → Prop} : am_bd (am_fd (mk C S V) 96 10 10) f = f (am_r (some 105)) := by rw [am_bdf mk_o]; rfl
theorem mr11 {f : am_V → Prop} : am_bd (am_fd (mk C S V) 96 10 11) f = f (am_i (S 11)) := by rw [am_bdf mk_o]; rfl
theorem mr12 {f : am_V → Prop} : am_bd (am_fd (mk C S V) 96 10 12) f = f (am_i (S 12)) := by rw [am_bdf mk_o]; rfl
theorem mr13 {f : am_V → Prop} : am_bd (am_fd (mk C S V) 96 10 13) f = f (am_i (S 13)) := by rw [am_bdf mk_o]; rfl
theorem mr14 {f : am_V → Prop} : am_bd (am_fd (mk C S V) 96 10 14) f = f (am_r (some 106)) := by rw [am_bdf mk_o]; rfl
theorem mr15 {f : am_V → Prop} : am_bd (am_fd (mk C S V) 96 10 15) f = f (am_i (S 15)) := by rw [am_bdf mk_o]; rfl
theorem mr16 {f : am_V → Prop} : am_bd (am_fd (mk C S V) 96 10 16) f = f (am_i (S 16)) := by rw [am_bdf mk_o]; rfl
theorem mr17 {f : am_V → Prop} : am_bd (am_fd (mk C S V) 96 10 17) f = f (am_i (S 17)) := by rw [am_bdf mk_o]; rfl
theorem mr18 {f : am_V → Prop} : am_bd (am_fd (mk C S V) 96 10 18) f = f (am_r (some 107)) := by rw [am_bdf mk_o]; rfl
theorem mr19 {f : am_V → Prop} : am_bd (am_fd (mk C S V) 96 10 19) f = f (am_i (S 19)) := by rw [am_bdf mk_o]; rfl
theorem mr20 {f : am_V → Prop} : am_bd (am_fd (mk C S V) 96 10 20) f = f (am_i (S 20)) := by rw [am_bdf mk_o]; rfl
theorem mr21 {f : am_V → Prop} : am_bd (am_fd (mk C S V) 96 10 21) f = f (am_r (some 108)) := by rw [am_bdf mk_o]; rfl
theorem mr22 {f : am_V → Prop} : am_bd (am_fd (mk C S V) 96 10 22) f = f (am_i (S 22)) := by rw [am_bdf mk_o]; rfl
theorem mr23 {f : am_V → Prop} : am_bd (am_fd (mk C S V) 96 10 23) f = f (am_r (some 109)) := by rw [am_bdf mk_o]; rfl
theorem mr24 {f : am_V → Prop} : am_bd (am_fd (mk C S V) 96 10 24) f = f (am_r (some 110)) := by rw [am_bdf mk_o]; rfl
theorem mr25 {f : am_V → Prop} : am_bd (am_fd (mk C S V) 96 10 25) f = f (am_l (S 25)) := by rw [am_bdf mk_o]; rfl
theorem mr26 {f : am_V → Prop} : am_bd (am_fd (mk C S V) 96 10 26) f = f (am_r (some 111)) := by rw [am_bdf mk_o]; rfl
theorem mr27 {f : am_V → Prop} : am_bd (am_fd (mk C S V) 96 10 27) f = f (am_r (some 112)) := by rw [am_bdf mk_o]; rfl
theorem mw0 {x : Int} {f : am_H → Prop} : am_bd (am_fu (mk C S V) 96 10 0 (am_i x)) f = f (mk C (up S 0 x) V) := by
  rw [am_bfu mk_o, ← mk_so (S' := up S 0 x)]
  rfl
theorem mw1 {x : Int} {f : am_H → Prop} : am_bd (am_fu (mk C S V) 96 10 1 (am_i x)) f = f (mk C (up S 1 x) V) := by
  rw [am_bfu mk_o, ← mk_so (S' := up S 1 x)]
  rfl
theorem mw11 {x : Int} {f : am_H → Prop} : am_bd (am_fu (mk C S V) 96 10 11 (am_i x)) f = f (mk C (up S 11 x) V) := by
  rw [am_bfu mk_o, ← mk_so (S' := up S 11 x)]
  rfl
theorem mw12 {x : Int} {f : am_H → Prop} : am_bd (am_fu (mk C S V) 96 10 12 (am_i x)) f = f (mk C (up S 12 x) V) := by
  rw [am_bfu mk_o, ← mk_so (S' := up S 12 x)]
  rfl
theorem mw13 {x : Int} {f : am_H → Prop} : am_bd (am_fu (mk C S V) 96 10 13 (am_i x)) f = f (mk C (up S 13 x) V) := by
  rw [am_bfu mk_o, ← mk_so (S' := up S 13 x)]
  rfl
theorem mw15 {x : Int} {f : am_H → Prop} : am_bd (am_fu (mk C S V) 96 10 15 (am_i x)) f = f (mk C (up S 15 x) V) := by
  rw [am_bfu mk_o, ← mk_so (S' := up S 15 x)]
  rfl
theorem mw16 {x : Int} {f : am_H → Prop} : am_bd (am_fu (mk C S V) 96 10 16 (am_i x)) f = f (mk C (up S 16 x) V) := by
  rw [am_bfu mk_o, ← mk_so (S' := up S 16 x)]
  rfl
theorem mw17 {x : Int} {f : am_H → Prop} : am_bd (am_fu (mk C S V) 96 10 17 (am_i x)) f = f (mk C (up S 17 x) V) := by
  rw [am_bfu mk_o, ← mk_so (S' := up S 17 x)]
  rfl
theorem mw19 {x : Int} {f : am_H → Prop} : am_bd (am_fu (mk C S V) 96 10 19 (am_i x)) f = f (mk C (up S 19 x) V) := by
  rw [am_bfu mk_o, ← mk_so (S' := up S 19 x)]
  rfl
theorem mw20 {x : Int} {f : am_H → Prop} : am_bd (am_fu (mk C S V) 96 10 20 (am_i x)) f = f (mk C (up S 20 x) V) := by
  rw [am_bfu mk_o, ← mk_so (S' := up S 20 x)]
  rfl
theorem mw22 {x : Int} {f : am_H → Prop} : am_bd (am_fu (mk C S V) 96 10 22 (am_i x)) f = f (mk C (up S 22 x) V) := by
  rw [am_bfu mk_o, ← mk_so (S' := up S 22 x)]
  rfl
theorem mw25 {x : Int} {f : am_H → Prop} : am_bd (am_fu (mk C S V) 96 10 25 (am_l x)) f = f (mk C (up S 25 x) V) := by
  rw [am_bfu mk_o, ← mk_so (S' := up S 25 x)]
  rfl
end MK
