/-! rows by which a method is run from its head on -/
def am_bdl {α : Type} : List α → Nat → (α → Prop) → Prop
  | [], _, _ => False
  | v :: _, 0, f => f v
  | _ :: vs, j + 1, f => am_bdl vs j f
theorem am_bdl_z {α : Type} (v : α) (vs : List α) (f : α → Prop) : am_bdl (v :: vs) 0 f = f v := rfl
theorem am_bdl_s {α : Type} (v : α) (vs : List α) (j : Nat) (f : α → Prop) : am_bdl (v :: vs) (j + 1) f = am_bdl vs j f := rfl
theorem am_bdl_e {α : Type} : ∀ (vs : List α) (j : Nat) (f : α → Prop), am_bd vs[j]? f = am_bdl vs j f
  | [], _, _ => rfl
  | v :: vs, 0, f => rfl
  | v :: vs, j + 1, f => am_bdl_e vs j f
theorem am_bdf {h : am_H} {a c : Nat} {fs : List am_V} (he : h[a]? = some (am_o c fs)) (j : Nat) (f : am_V → Prop) : am_bd (am_fd h a c j) f = am_bdl fs j f := by
  rw [am_fd_of he, am_bdl_e]
theorem am_k1_i (x : Int) (P : Prop) : am_k1 (am_nl (some (am_i x))) P = P := rfl
theorem am_k1_r (x : Option Nat) (P : Prop) : am_k1 (am_nl (some (am_r x))) P = P := rfl
theorem am_k1_e (x : Nat) (P : Prop) : am_k1 (am_nl (some (am_e x))) P = P := rfl
theorem am_k1_n (P : Prop) : am_k1 (am_nl none) P = P := rfl
/-- reads and writes at a place that is there -/
theorem am_bra {h : am_H} {a t : Nat} {xs : List Int} (he : h[a]? = some (am_a t xs)) {j : Int} (h0 : 0 ≤ j) (h1 : j < xs.length) (h2 : j ≤ 100000) (f : Int → Prop) : am_bd (am_ra t h a j) f = f (xs.getD j.toNat 0) := by
  obtain ⟨i, rfl⟩ : ∃ i : Nat, j = (i : Int) := ⟨j.toNat, by omega⟩
  rw [am_ra_of he, am_rd_nat (by omega) (by omega), am_bd_s, Int.toNat_natCast]
theorem am_bwa {h : am_H} {a t : Nat} {xs : List Int} (he : h[a]? = some (am_a t xs)) {j : Int} (h0 : 0 ≤ j) (h1 : j < xs.length) (h2 : j ≤ 100000) (x : Int) (f : am_H → Prop) : am_bd (am_wa t h a j x) f = f (h.set a (am_a t (xs.set j.toNat x))) := by
  obtain ⟨i, rfl⟩ : ∃ i : Nat, j = (i : Int) := ⟨j.toNat, by omega⟩
  rw [am_wa_of he, am_wr_nat x (by omega) (by omega), Option.map_some, am_bd_s, Int.toNat_natCast]
theorem am_brn {h : am_H} {a t : Nat} {xs : List Int} (he : h[a]? = some (am_a t xs)) {j : Nat} (h1 : j < xs.length) (h2 : j ≤ 100000) (f : Int → Prop) : am_bd (am_ra t h a (j : Int)) f = f (xs.getD j 0) := am_bra he (by omega) (by omega) (by omega) f
theorem am_bwn {h : am_H} {a t : Nat} {xs : List Int} (he : h[a]? = some (am_a t xs)) {j : Nat} (h1 : j < xs.length) (h2 : j ≤ 100000) (x : Int) (f : am_H → Prop) : am_bd (am_wa t h a (j : Int) x) f = f (h.set a (am_a t (xs.set j x))) := am_bwa he (by omega) (by omega) (by omega) x f
def am_bsl {α : Type} : List α → Nat → α → (List α → Prop) → Prop
  | [], _, _, _ => False
  | _ :: vs, 0, v, g => g (v :: vs)
  | w :: vs, j + 1, v, g => am_bsl vs j v (fun vs' => g (w :: vs'))
theorem am_bsl_z {α : Type} (w v : α) (vs : List α) (g : List α → Prop) : am_bsl (w :: vs) 0 v g = g (v :: vs) := rfl
theorem am_bsl_s {α : Type} (w v : α) (vs : List α) (j : Nat) (g : List α → Prop) : am_bsl (w :: vs) (j + 1) v g = am_bsl vs j v (fun vs' => g (w :: vs')) := rfl
theorem am_bsl_e {α : Type} : ∀ (fs : List α) (j : Nat) (v : α) (g : List α → Prop), am_bsl fs j v g = if j < fs.length then g (fs.set j v) else False
  | [], j, v, g => by simp [am_bsl]
  | w :: vs, 0, v, g => by simp [am_bsl]
  | w :: vs, j + 1, v, g => by
    rw [am_bsl, am_bsl_e]
    simp
theorem am_bfu {h : am_H} {a c : Nat} {fs : List am_V} (he : h[a]? = some (am_o c fs)) (j : Nat) (v : am_V) (f : am_H → Prop) : am_bd (am_fu h a c j v) f = am_bsl fs j v (fun fs' => f (h.set a (am_o c fs'))) := by
  rw [am_bsl_e]
  by_cases q : j < fs.length
  · rw [am_fu_of he q, if_pos q, am_bd_s]
  · rw [if_neg q]
    unfold am_fu
    rw [he]
    dsimp only
    rw [if_neg (fun z => q z.2), am_bd_n]
/-- a value that is kept -/
theorem am_w_i {x : Int} (h : -2147483648 ≤ x ∧ x ≤ 2147483647) : am_w x = x := am_w_id h.1 h.2
/-! branches that are known -/
theorem am_ilp {α : Sort _} {x y : Int} {A B : α} (h : (-2147483648 ≤ x ∧ x ≤ 2147483647) ∧ (-2147483648 ≤ y ∧ y ≤ 2147483647) ∧ x < y) : (if am_w x < am_w y then A else B) = A := if_pos (by rw [am_w_i h.1, am_w_i h.2.1]; exact h.2.2)
theorem am_iln {α : Sort _} {x y : Int} {A B : α} (h : (-2147483648 ≤ x ∧ x ≤ 2147483647) ∧ (-2147483648 ≤ y ∧ y ≤ 2147483647) ∧ ¬ x < y) : (if am_w x < am_w y then A else B) = B := if_neg (by rw [am_w_i h.1, am_w_i h.2.1]; exact h.2.2)
theorem am_iep {α : Sort _} {x y : Int} {A B : α} (h : (-2147483648 ≤ x ∧ x ≤ 2147483647) ∧ (-2147483648 ≤ y ∧ y ≤ 2147483647) ∧ x = y) : (if am_w x = am_w y then A else B) = A := if_pos (by rw [am_w_i h.1, am_w_i h.2.1]; exact h.2.2)
theorem am_ien {α : Sort _} {x y : Int} {A B : α} (h : (-2147483648 ≤ x ∧ x ≤ 2147483647) ∧ (-2147483648 ≤ y ∧ y ≤ 2147483647) ∧ ¬ x = y) : (if am_w x = am_w y then A else B) = B := if_neg (by rw [am_w_i h.1, am_w_i h.2.1]; exact h.2.2)
theorem am_zlp {α : Sort _} {x y : Int} {A B : α} (h : (-2147483648 ≤ x ∧ x ≤ 2147483647) ∧ x < y) : (if am_w x < y then A else B) = A := if_pos (by rw [am_w_i h.1]; exact h.2)
theorem am_zln {α : Sort _} {x y : Int} {A B : α} (h : (-2147483648 ≤ x ∧ x ≤ 2147483647) ∧ ¬ x < y) : (if am_w x < y then A else B) = B := if_neg (by rw [am_w_i h.1]; exact h.2)
theorem am_zep {α : Sort _} {x y : Int} {A B : α} (h : (-2147483648 ≤ x ∧ x ≤ 2147483647) ∧ x = y) : (if am_w x = y then A else B) = A := if_pos (by rw [am_w_i h.1]; exact h.2)
theorem am_zen {α : Sort _} {x y : Int} {A B : α} (h : (-2147483648 ≤ x ∧ x ≤ 2147483647) ∧ ¬ x = y) : (if am_w x = y then A else B) = B := if_neg (by rw [am_w_i h.1]; exact h.2)
theorem am_zgp {α : Sort _} {x y : Int} {A B : α} (h : (-2147483648 ≤ x ∧ x ≤ 2147483647) ∧ y < x) : (if y < am_w x then A else B) = A := if_pos (by rw [am_w_i h.1]; exact h.2)
theorem am_zgn {α : Sort _} {x y : Int} {A B : α} (h : (-2147483648 ≤ x ∧ x ≤ 2147483647) ∧ ¬ y < x) : (if y < am_w x then A else B) = B := if_neg (by rw [am_w_i h.1]; exact h.2)
theorem am_zhp {α : Sort _} {x y : Int} {A B : α} (h : (-2147483648 ≤ x ∧ x ≤ 2147483647) ∧ y ≤ x) : (if y ≤ am_w x then A else B) = A := if_pos (by rw [am_w_i h.1]; exact h.2)
theorem am_zhn {α : Sort _} {x y : Int} {A B : α} (h : (-2147483648 ≤ x ∧ x ≤ 2147483647) ∧ ¬ y ≤ x) : (if y ≤ am_w x then A else B) = B := if_neg (by rw [am_w_i h.1]; exact h.2)
theorem am_b01 {x : Int} {A B : Prop} (h : x = 0 ∨ x = 1) : (if x = 0 ∨ x = 1 then A else B) = A := if_pos h
/-- loops -/
theorem am_loop {X α : Type} {W : X → Nat → α → Prop} {I : Nat → α → Prop} {N : Nat} (st : ∀ i a, i < N → I i a → ∃ a', I (i + 1) a' ∧ ∀ x, W x i a = W x (i + 1) a') : ∀ (n i : Nat) (a : α), i + n = N → I i a → ∃ a', I N a' ∧ ∀ x, W x i a = W x N a'
  | 0, i, a, e, hI => by
    have e1 : i = N := by omega
    subst e1
    exact ⟨a, hI, fun _ => rfl⟩
  | n + 1, i, a, e, hI => by
    obtain ⟨a1, h1, w1⟩ := st i a (by omega) hI
    obtain ⟨a2, h2, w2⟩ := am_loop st n (i + 1) a1 (by omega) h1
    exact ⟨a2, h2, fun x => (w1 x).trans (w2 x)⟩
/-- loops that may end early -/
theorem am_loopx {X α β : Type} {W : X → Nat → α → Prop} {I : Nat → α → Prop} {R : X → β → Prop} {Q : Nat → β → Prop} {N : Nat} (st : ∀ i a, i < N → I i a → (∃ a', I (i + 1) a' ∧ ∀ x, W x i a = W x (i + 1) a') ∨ (∃ r, Q i r ∧ ∀ x, W x i a = R x r)) : ∀ (n i : Nat) (a : α), i + n = N → I i a → (∃ a', I N a' ∧ ∀ x, W x i a = W x N a') ∨ (∃ j r, j < N ∧ Q j r ∧ ∀ x, W x i a = R x r)
  | 0, i, a, e, hI => by
    have e1 : i = N := by omega
    subst e1
    exact Or.inl ⟨a, hI, fun _ => rfl⟩
  | n + 1, i, a, e, hI => by
    rcases st i a (by omega) hI with ⟨a1, h1, w1⟩ | ⟨r, h1, w1⟩
    · rcases am_loopx st n (i + 1) a1 (by omega) h1 with ⟨a2, h2, w2⟩ | ⟨j, r, hj, h2, w2⟩
      · exact Or.inl ⟨a2, h2, fun x => (w1 x).trans (w2 x)⟩
      · exact Or.inr ⟨j, r, hj, h2, fun x => (w1 x).trans (w2 x)⟩
    · exact Or.inr ⟨i, r, by omega, h1, w1⟩
/-- loops whose steps are known -/
theorem am_fold {α : Type} {W : Nat → α → Prop} {f : α → Nat → α} {I : Nat → α → Prop} {N : Nat} (st : ∀ i a, i < N → I i a → I (i + 1) (f a i) ∧ W i a = W (i + 1) (f a i)) : ∀ (n i : Nat) (a : α), i + n = N → I i a → W i a = W N ((List.range' i n).foldl f a)
  | 0, i, a, e, hI => by
    have e1 : i = N := by omega
    subst e1
    rfl
  | n + 1, i, a, e, hI => by
    obtain ⟨h1, w1⟩ := st i a (by omega) hI
    rw [w1, am_fold st n (i + 1) _ (by omega) h1]
    rw [List.range'_succ, List.foldl_cons]
/-! cells that were just written: pushed apart -/
theorem am_sra_ne {h : am_H} {a b t : Nat} {x : am_C} {j : Int} {f : Int → Prop} (e : b ≠ a) : am_bd (am_ra t (h.set b x) a j) f = am_bd (am_ra t h a j) f := by
  unfold am_ra
  rw [am_set_ne e]
theorem am_sra_eq {h : am_H} {a t : Nat} {xs : List Int} {j : Int} {f : Int → Prop} (hl : a < h.length) (h0 : 0 ≤ j) (h1 : j < xs.length) (h2 : j ≤ 100000) : am_bd (am_ra t (h.set a (am_a t xs)) a j) f = f (xs.getD j.toNat 0) := am_bra (List.getElem?_set_self hl) h0 h1 h2 f
theorem am_sfd_ne {h : am_H} {a b c j : Nat} {x : am_C} {f : am_V → Prop} (e : b ≠ a) : am_bd (am_fd (h.set b x) a c j) f = am_bd (am_fd h a c j) f := by
  unfold am_fd
  rw [am_set_ne e]
theorem am_sfd_eq {h : am_H} {a c j : Nat} {fs : List am_V} {f : am_V → Prop} (hl : a < h.length) : am_bd (am_fd (h.set a (am_o c fs)) a c j) f = am_bdl fs j f := am_bdf (List.getElem?_set_self hl) j f
theorem am_soc_ne {h : am_H} {a b c : Nat} {x : am_C} {P : Prop} (e : b ≠ a) : am_oc (h.set b x) a c P = am_oc h a c P := by
  unfold am_oc
  rw [am_set_ne e]
theorem am_soc_eq {h : am_H} {a c : Nat} {fs : List am_V} {P : Prop} (hl : a < h.length) : am_oc (h.set a (am_o c fs)) a c P = P := am_oc_of (List.getElem?_set_self hl) P
theorem am_set_com {h : am_H} {a b : Nat} {x y : am_C} (e : b ≠ a) : (h.set b x).set a y = (h.set a y).set b x := List.set_comm x y e
theorem am_swa_ne {h : am_H} {a b t : Nat} {x : am_C} {j v : Int} {f : am_H → Prop} (e : b ≠ a) : am_bd (am_wa t (h.set b x) a j v) f = am_bd (am_wa t h a j v) (fun h' => f (h'.set b x)) := by
  unfold am_wa
  rw [am_set_ne e]
  rcases hq : h[a]? with _ | (⟨t', xs⟩ | ⟨c', fs⟩ | l)
  · rfl
  · dsimp only
    by_cases q : t' = t
    · rw [if_pos q, if_pos q]
      cases am_wr xs j v with
      | none => rfl
      | some ys => rw [Option.map_some, Option.map_some, am_bd_s, am_bd_s, am_set_com e]
    · rw [if_neg q, if_neg q]
      rfl
  · rfl
  · rfl
theorem am_swa_eq {h : am_H} {a t : Nat} {xs : List Int} {j v : Int} {f : am_H → Prop} (hl : a < h.length) (h0 : 0 ≤ j) (h1 : j < xs.length) (h2 : j ≤ 100000) : am_bd (am_wa t (h.set a (am_a t xs)) a j v) f = f (h.set a (am_a t (xs.set j.toNat v))) := by
  rw [am_bwa (List.getElem?_set_self hl) h0 h1 h2 v f, List.set_set]
theorem am_sfu_ne {h : am_H} {a b c j : Nat} {x : am_C} {v : am_V} {f : am_H → Prop} (e : b ≠ a) : am_bd (am_fu (h.set b x) a c j v) f = am_bd (am_fu h a c j v) (fun h' => f (h'.set b x)) := by
  unfold am_fu
  rw [am_set_ne e]
  rcases hq : h[a]? with _ | (⟨t', xs⟩ | ⟨c', fs⟩ | l)
  · rfl
  · rfl
  · dsimp only
    by_cases q : c' = c ∧ j < fs.length
    · rw [if_pos q, if_pos q, am_bd_s, am_bd_s, am_set_com e]
    · rw [if_neg q, if_neg q]
      rfl
  · rfl
theorem am_sfu_eq {h : am_H} {a c j : Nat} {fs : List am_V} {v : am_V} {f : am_H → Prop} (hl : a < h.length) : am_bd (am_fu (h.set a (am_o c fs)) a c j v) f = am_bsl fs j v (fun fs' => f (h.set a (am_o c fs'))) := by
  rw [am_bfu (List.getElem?_set_self hl)]
  simp only [List.set_set]
theorem am_lt {h : am_H} {a : Nat} {x : am_C} (e : h[a]? = some x) : a < h.length := (List.getElem?_eq_some_iff.mp e).1
/-- v.s are written from k on -/
def pl_put : List Int → Nat → List Int → List Int
  | xs, _, [] => xs
  | xs, k, v :: vs => pl_put (xs.set k v) (k + 1) vs
theorem pl_put_len : ∀ (vs xs : List Int) (k : Nat), (pl_put xs k vs).length = xs.length
  | [], _, _ => rfl
  | v :: vs, xs, k => by rw [pl_put, pl_put_len vs, List.length_set]
theorem pl_put_snoc {v : Int} : ∀ (vs xs : List Int) (k : Nat), pl_put xs k (vs ++ [v]) = (pl_put xs k vs).set (k + vs.length) v
  | [], _, _ => rfl
  | w :: vs, xs, k => by
    rw [List.cons_append, pl_put, pl_put, pl_put_snoc vs, List.length_cons]
    congr 1
    omega
theorem pl_put_lo : ∀ (vs xs : List Int) (k i : Nat), i < k → (pl_put xs k vs).getD i 0 = xs.getD i 0
  | [], _, _, _, _ => rfl
  | w :: vs, xs, k, i, h => by
    rw [pl_put, pl_put_lo vs _ (k + 1) i (by omega), List.getD_eq_getElem?_getD, List.getElem?_set_ne (by omega), ← List.getD_eq_getElem?_getD]
theorem pl_put_at : ∀ (vs xs : List Int) (k i : Nat), i < vs.length → k + i < xs.length → (pl_put xs k vs).getD (k + i) 0 = vs.getD i 0
  | [], _, _, _, h, _ => by cases h
  | w :: vs, xs, k, 0, h, h2 => by
    rw [pl_put, pl_put_lo vs _ (k + 1) (k + 0) (by omega), List.getD_eq_getElem?_getD, Nat.add_zero, List.getElem?_set_self (by omega)]
    rfl
  | w :: vs, xs, k, i + 1, h, h2 => by
    rw [pl_put, show k + (i + 1) = (k + 1) + i by omega, pl_put_at vs _ (k + 1) i (by simpa using h) (by rw [List.length_set]; omega)]
    rfl
