/-! rows by which a method is run from its head on -/
def am_bdl {α : Type} : List α → Nat → (α → Prop) → Prop
  | [], _, _ => False
  | v :: _, 0, f => f v
  | _ :: vs, j + 1, f => am_bdl vs j f
theorem am_bdl_z {α : Type} (v : α) (vs : List α) (f : α → Prop) : am_bdl (v :: vs) 0 f = f v := rfl
theorem am_bdl_s {α : Type} (v : α) (vs : List α) (j : Nat) (f : α → Prop) : am_bdl (v :: vs) (j + 1) f = am_bdl vs j f := rfl
theorem am_bdl_e {α : Type} : ∀ (vs : List α) (j : Nat) (f : α → Prop), am_bd vs[j]? f = am_bdl vs j f
  | [], _, _ => rfl
  | v :: vs, 0, f => rfl
  | v :: vs, j + 1, f => am_bdl_e vs j f
theorem am_bdf {h : am_H} {a c : Nat} {fs : List am_V} (he : h[a]? = some (am_o c fs)) (j : Nat) (f : am_V → Prop) : am_bd (am_fd h a c j) f = am_bdl fs j f := by
  rw [am_fd_of he, am_bdl_e]
theorem am_k1_i (x : Int) (P : Prop) : am_k1 (am_nl (some (am_i x))) P = P := rfl
theorem am_k1_r (x : Option Nat) (P : Prop) : am_k1 (am_nl (some (am_r x))) P = P := rfl
theorem am_k1_e (x : Nat) (P : Prop) : am_k1 (am_nl (some (am_e x))) P = P := rfl
theorem am_k1_n (P : Prop) : am_k1 (am_nl none) P = P := rfl
/-- reads and writes at a place that is there -/
theorem am_bra {h : am_H} {a t : Nat} {xs : List Int} (he : h[a]? = some (am_a t xs)) {j : Int} (h0 : 0 ≤ j) (h1 : j < xs.length) (h2 : j ≤ 100000) (f : Int → Prop) : am_bd (am_ra t h a j) f = f (xs.getD j.toNat 0) := by
  obtain ⟨i, rfl⟩ : ∃ i : Nat, j = (i : Int) := ⟨j.toNat, by omega⟩
  rw [am_ra_of he, am_rd_nat (by omega) (by omega), am_bd_s, Int.toNat_natCast]
theorem am_bwa {h : am_H} {a t : Nat} {xs : List Int} (he : h[a]? = some (am_a t xs)) {j : Int} (h0 : 0 ≤ j) (h1 : j < xs.length) (h2 : j ≤ 100000) (x : Int) (f : am_H → Prop) : am_bd (am_wa t h a j x) f = f (h.set a (am_a t (xs.set j.toNat x))) := by
  obtain ⟨i, rfl⟩ : ∃ i : Nat, j = (i : Int) := ⟨j.toNat, by omega⟩
  rw [am_wa_of he, am_wr_nat x (by omega) (by omega), Option.map_some, am_bd_s, Int.toNat_natCast]
def am_bsl {α : Type} : List α → Nat → α → (List α → Prop) → Prop
  | [], _, _, _ => False
  | _ :: vs, 0, v, g => g (v :: vs)
  | w :: vs, j + 1, v, g => am_bsl vs j v (fun vs' => g (w :: vs'))
theorem am_bsl_z {α : Type} (w v : α) (vs : List α) (g : List α → Prop) : am_bsl (w :: vs) 0 v g = g (v :: vs) := rfl
theorem am_bsl_s {α : Type} (w v : α) (vs : List α) (j : Nat) (g : List α → Prop) : am_bsl (w :: vs) (j + 1) v g = am_bsl vs j v (fun vs' => g (w :: vs')) := rfl
theorem am_bsl_e {α : Type} : ∀ (fs : List α) (j : Nat) (v : α) (g : List α → Prop), am_bsl fs j v g = if j < fs.length then g (fs.set j v) else False
  | [], j, v, g => by simp [am_bsl]
  | w :: vs, 0, v, g => by simp [am_bsl]
  | w :: vs, j + 1, v, g => by
    rw [am_bsl, am_bsl_e]
    simp
theorem am_bfu {h : am_H} {a c : Nat} {fs : List am_V} (he : h[a]? = some (am_o c fs)) (j : Nat) (v : am_V) (f : am_H → Prop) : am_bd (am_fu h a c j v) f = am_bsl fs j v (fun fs' => f (h.set a (am_o c fs'))) := by
  rw [am_bsl_e]
  by_cases q : j < fs.length
  · rw [am_fu_of he q, if_pos q, am_bd_s]
  · rw [if_neg q]
    unfold am_fu
    rw [he]
    dsimp only
    rw [if_neg (fun z => q z.2), am_bd_n]
/-- a value that is kept -/
theorem am_w_i {x : Int} (h : -2147483648 ≤ x ∧ x ≤ 2147483647) : am_w x = x := am_w_id h.1 h.2
/-- loops -/
theorem am_loop {X α : Type} {W : X → Nat → α → Prop} {I : Nat → α → Prop} {N : Nat} (st : ∀ i a, i < N → I i a → ∃ a', I (i + 1) a' ∧ ∀ x, W x i a = W x (i + 1) a') : ∀ (n i : Nat) (a : α), i + n = N → I i a → ∃ a', I N a' ∧ ∀ x, W x i a = W x N a'
  | 0, i, a, e, hI => by
    have e1 : i = N := by omega
    subst e1
    exact ⟨a, hI, fun _ => rfl⟩
  | n + 1, i, a, e, hI => by
    obtain ⟨a1, h1, w1⟩ := st i a (by omega) hI
    obtain ⟨a2, h2, w2⟩ := am_loop st n (i + 1) a1 (by omega) h1
    exact ⟨a2, h2, fun x => (w1 x).trans (w2 x)⟩
/-- loops that may end early -/
theorem am_loopx {X α β : Type} {W : X → Nat → α → Prop} {I : Nat → α → Prop} {R : X → β → Prop} {Q : Nat → β → Prop} {N : Nat} (st : ∀ i a, i < N → I i a → (∃ a', I (i + 1) a' ∧ ∀ x, W x i a = W x (i + 1) a') ∨ (∃ r, Q i r ∧ ∀ x, W x i a = R x r)) : ∀ (n i : Nat) (a : α), i + n = N → I i a → (∃ a', I N a' ∧ ∀ x, W x i a = W x N a') ∨ (∃ j r, j < N ∧ Q j r ∧ ∀ x, W x i a = R x r)
  | 0, i, a, e, hI => by
    have e1 : i = N := by omega
    subst e1
    exact Or.inl ⟨a, hI, fun _ => rfl⟩
  | n + 1, i, a, e, hI => by
    rcases st i a (by omega) hI with ⟨a1, h1, w1⟩ | ⟨r, h1, w1⟩
    · rcases am_loopx st n (i + 1) a1 (by omega) h1 with ⟨a2, h2, w2⟩ | ⟨j, r, hj, h2, w2⟩
      · exact Or.inl ⟨a2, h2, fun x => (w1 x).trans (w2 x)⟩
      · exact Or.inr ⟨j, r, hj, h2, fun x => (w1 x).trans (w2 x)⟩
    · exact Or.inr ⟨i, r, by omega, h1, w1⟩
/-- loops whose steps are known -/
theorem am_fold {α : Type} {W : Nat → α → Prop} {f : α → Nat → α} {I : Nat → α → Prop} {N : Nat} (st : ∀ i a, i < N → I i a → I (i + 1) (f a i) ∧ W i a = W (i + 1) (f a i)) : ∀ (n i : Nat) (a : α), i + n = N → I i a → W i a = W N ((List.range' i n).foldl f a)
  | 0, i, a, e, hI => by
    have e1 : i = N := by omega
    subst e1
    rfl
  | n + 1, i, a, e, hI => by
    obtain ⟨h1, w1⟩ := st i a (by omega) hI
    rw [w1, am_fold st n (i + 1) _ (by omega) h1]
    rw [List.range'_succ, List.foldl_cons]
