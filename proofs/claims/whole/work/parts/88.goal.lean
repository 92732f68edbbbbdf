/-! all of it -/
section ALL
def pl_L0 : pl_L := ([], [0, 0, 0], [0, 0, 0], 0)
theorem lay_0 : ∀ r ∈ [22, 26, 30, 34, 38, 42, 46, 50, 54, 58, 62, 66, 70, 74, 78, 82, 88, 92], LayL (mk am_C0 am_S0 am_V0) r pl_L0 := by
  intro r hr
  simp only [List.mem_cons, List.not_mem_nil, or_false] at hr
  rcases hr with rfl | rfl | rfl | rfl | rfl | rfl | rfl | rfl | rfl | rfl | rfl | rfl | rfl | rfl | rfl | rfl | rfl | rfl <;> exact ⟨[0, 0, 0, 0, 0, 0], rfl, rfl, rfl, rfl, rfl, rfl, rfl⟩
theorem rel_0 : Rel (mk am_C0 am_S0 am_V0) := by
  have gb : Gb 0 0 (am_V0 101) pl_L0 := ⟨⟨fun x hx => (by cases hx), List.nodup_nil, fun s hs => by omega⟩, fun s hs => by omega⟩
  refine ⟨am_C0, am_S0, am_V0, 0, 0, 0, pl_L0, 0, 0, List.replicate 14 pl_L0, [], [pl_L0, pl_L0], rfl, ⟨rfl, ⟨rfl, rfl, rfl, by omega, by decide +kernel⟩, ⟨[0, 0, 0, 0, 0, 0], ⟨rfl, rfl, rfl, rfl, rfl, rfl, rfl, rfl, rfl, rfl, rfl, by omega, by omega⟩, ⟨rfl, rfl, rfl⟩, rfl, fun b hb => by omega, by decide, by decide +kernel, fun s hs => by omega⟩, ⟨[0, 0, 0, 0, 0, 0], rfl, rfl, rfl⟩, ⟨[0, 0, 0, 0, 0, 0], [0, 0, 0, 0, 0, 0], 0, 0, rfl, rfl, rfl, rfl, rfl⟩, ⟨[0, 0, 0, 0, 0, 0], [0, 0, 0, 0, 0, 0], rfl, rfl, rfl, rfl, rfl, fun x hx => (by cases hx)⟩, ⟨rfl, rfl, by omega, by omega, rfl, fun i M e => ?_⟩, lay_0 78 (by decide), ⟨pl_L0, lay_0 82 (by decide)⟩, rfl, rfl, rfl, rfl, fun i M e => ?_⟩, ⟨rfl, rfl, by omega, by omega, rfl, rfl, rfl, rfl, rfl, rfl, rfl, fun b hb => by omega, fun s hs => by omega⟩, ?_, ⟨rfl, by omega, rfl, by decide +kernel, rfl, rfl, rfl⟩, ⟨rfl, rfl, by omega, by omega, rfl, rfl, fun i M e => ?_⟩, ⟨rfl, by decide, rfl, rfl, fun i hi => (by cases hi), fun x hx => (by cases hx)⟩, ⟨rfl, by decide +kernel, rfl, rfl, fun i M e => ?_⟩, gb, fun j hj => by omega, fun i M hi e => ?_⟩
  · rw [List.getElem?_replicate] at e
    split at e
    · rename_i hi
      injection e with e
      subst e
      exact lay_0 _ (by
        match i, hi with
        | 0, _ => decide
        | 1, _ => decide
        | 2, _ => decide
        | 3, _ => decide
        | 4, _ => decide
        | 5, _ => decide
        | 6, _ => decide
        | 7, _ => decide
        | 8, _ => decide
        | 9, _ => decide
        | 10, _ => decide
        | 11, _ => decide
        | 12, _ => decide
        | 13, _ => decide
        | k + 14, h => omega)
    · cases e
  · match i, e with
    | 0, e =>
      injection e with e
      subst e
      exact lay_0 88 (by decide)
    | 1, e =>
      injection e with e
      subst e
      exact lay_0 92 (by decide)
  · exact ⟨by decide, rfl, fun i hi => (by cases hi), rfl, rfl, by decide +kernel, by decide +kernel, rfl⟩
  · rw [List.getElem?_replicate] at e
    split at e
    · rename_i hi
      injection e with e
      subst e
      have z : ∀ j : Int, gi (am_V0 108) j = 0 := fun j => by
        show (List.replicate 196 (0 : Int)).getD j.toNat 0 = 0
        rw [List.getD_eq_getElem?_getD, List.getElem?_replicate]
        split <;> rfl
      have z3 : ∀ s < 3, ([0, 0, 0] : List Int).getD s 0 = 0 := by decide
      exact ⟨by decide, z _, fun i hi => (by cases hi), rfl, rfl, fun s hs => (z _).trans (z3 s hs).symm, fun s hs => (z _).trans (z3 s hs).symm, z _⟩
    · cases e
  · have z : ∀ j : Int, gi (am_V0 112) j = 0 := fun j => by
      show (List.replicate 28 (0 : Int)).getD j.toNat 0 = 0
      rw [List.getD_eq_getElem?_getD, List.getElem?_replicate]
      split <;> rfl
    have z3 : ∀ s < 3, ([0, 0, 0] : List Int).getD s 0 = 0 := by decide
    have hM : M = pl_L0 := by
      match i, e with
      | 0, e => injection e with e; exact e.symm
      | 1, e => injection e with e; exact e.symm
    subst hM
    exact ⟨by decide, z _, fun i hi => (by cases hi), rfl, rfl, fun s hs => (z _).trans (z3 s hs).symm, fun s hs => (z _).trans (z3 s hs).symm, z _⟩
  · have hM : M = pl_L0 := by
      match i, e with
      | 0, e => injection e with e; exact e.symm
      | 1, e => injection e with e; exact e.symm
    subst hM
    exact gb
/-- no cell is large -/
def Sm (h : am_H) (i : Nat) : Prop := ∀ x, h[i]? = some x → am_cs x ≤ 200
theorem Sm.of {h : am_H} {i : Nat} {y : am_C} (e : h[i]? = some y) (l : am_cs y ≤ 200) : Sm h i := fun x hx => by
  rw [e] at hx
  injection hx with hx
  subst hx
  exact l
theorem Sm.a {h : am_H} {i t : Nat} {xs : List Int} (e : h[i]? = some (am_a t xs)) (l : xs.length ≤ 200) : Sm h i := Sm.of e l
theorem LayL.sm {h : am_H} {r : Nat} {L : pl_L} (l : LayL h r L) {i : Nat} (i0 : r ≤ i) (i1 : i < r + 4) : Sm h i := by
  obtain ⟨g, h0, h1, h2, h3, h4, h5, h6⟩ := l
  have hc : i = r ∨ i = r + 1 ∨ i = r + 2 ∨ i = r + 3 := by omega
  rcases hc with rfl | rfl | rfl | rfl
  · exact Sm.of h1 (show 5 ≤ 200 by decide)
  · exact Sm.a h2 (by rw [List.length_append, pl_c_len]; omega)
  · exact Sm.a h3 (by omega)
  · exact Sm.a h4 (by omega)
theorem CI.sm {h : am_H} {X : List Int} {n nb ns : Nat} {fr la ce ki wi : List Int} {L : pl_L} {nx len : Nat} {Ls : List pl_L} {Q : List (Nat × Nat)} {kf : List Int} {Ks : List pl_L} {sd : Int} (ci : CI h X n nb ns fr la ce ki wi L nx len Ls Q kf Ks sd) {i : Nat} (hi : i < 96) : Sm h i := by
  obtain ⟨c0, ct, ⟨tm, lf⟩, ⟨tk, lp⟩, ⟨o1, o2, w1, w2, lc⟩, ⟨g, g', g0, g1, cs0, cs1, cs2, -⟩, cr, cl, ⟨M, lm⟩, c86, c87, k1, k2, k3⟩ := ci
  obtain ⟨⟨p0, p1, p2, p3, p4, p5, s1, s2, s3, s4, s5, s6, s7⟩, ⟨z0, z1, z2⟩, f11, -⟩ := lf
  obtain ⟨t1, t2, t3, -⟩ := ct
  obtain ⟨y12, y13, y⟩ := lp
  obtain ⟨u14, u15, u16, u1, u2⟩ := lc
  obtain ⟨r20, r21, -, -, rl, rr⟩ := cr
  by_cases q22 : i < 22
  · match i, q22 with
    | 0, _ => exact Sm.of c0 (show 13 ≤ 200 by decide)
    | 1, _ => exact Sm.of t1 (show 2 ≤ 200 by decide)
    | 2, _ => exact Sm.a t2 (by omega)
    | 3, _ => exact Sm.of p0 (show 7 ≤ 200 by decide)
    | 4, _ => exact Sm.a p1 (by omega)
    | 5, _ => exact Sm.a p2 (by omega)
    | 6, _ => exact Sm.a p3 (by omega)
    | 7, _ => exact Sm.a p4 (by omega)
    | 8, _ => exact Sm.a p5 (by omega)
    | 9, _ => exact Sm.of z0 (show 2 ≤ 200 by decide)
    | 10, _ => exact Sm.a z1 (by omega)
    | 11, _ => exact Sm.of f11 (show 2 ≤ 200 by decide)
    | 12, _ => exact Sm.of y12 (show 4 ≤ 200 by decide)
    | 13, _ => exact Sm.a y13 (by omega)
    | 14, _ => exact Sm.of u14 (show 6 ≤ 200 by decide)
    | 15, _ => exact Sm.a u15 (by omega)
    | 16, _ => exact Sm.a u16 (by omega)
    | 17, _ => exact Sm.of cs0 (show 5 ≤ 200 by decide)
    | 18, _ => exact Sm.a cs1 (by rw [List.length_append, pl_c_len, List.length_map]; omega)
    | 19, _ => exact Sm.a cs2 (by rw [List.length_append, pl_c_len, List.length_map]; omega)
    | 20, _ => exact Sm.of r20 (show 3 ≤ 200 by decide)
    | 21, _ => exact Sm.of r21 (show 14 ≤ 200 by decide)
    | k + 22, h => omega
  · by_cases q78 : i < 78
    · have hj : (i - 22) / 4 < Ls.length := by omega
      exact (rr ((i - 22) / 4) _ (List.getElem?_eq_getElem hj)).sm (by omega) (by omega)
    · by_cases q82 : i < 82
      · exact cl.sm (by omega) (by omega)
      · by_cases q86 : i < 86
        · exact lm.sm (by omega) (by omega)
        · by_cases q1 : i = 86
          · subst q1
            exact Sm.of c86 (show 2 ≤ 200 by decide)
          · by_cases q2 : i = 87
            · subst q2
              exact Sm.a c87 (by omega)
            · have hj : (i - 88) / 4 < Ks.length := by omega
              exact (k3 ((i - 88) / 4) _ (List.getElem?_eq_getElem hj)).sm (by omega) (by omega)
theorem am_sum_le : ∀ l : List am_C, (∀ x ∈ l, am_cs x ≤ 200) → (l.map am_cs).sum ≤ 200 * l.length
  | [], _ => by simp
  | x :: l, hh => by
    have a := hh x List.mem_cons_self
    have b := am_sum_le l (fun y hy => hh y (List.mem_cons_of_mem _ hy))
    rw [List.map_cons, List.sum_cons, List.length_cons]
    omega
theorem Rel.sz {h : am_H} (rel : Rel h) : h.length = 113 ∧ am_sz h ≤ 200 * 113 := by
  obtain ⟨C, S, V, n, nb, ns, L, nx, len, Ls, Q, Ks, rfl, cv, md⟩ := rel
  refine ⟨mk_len, ?_⟩
  have l : (mk C S V).length = 113 := mk_len
  rw [← l]
  refine am_sum_le _ fun x hx => ?_
  obtain ⟨i, hi, e⟩ := List.mem_iff_getElem.mp hx
  have e' : (mk C S V)[i]? = some x := by rw [List.getElem?_eq_getElem hi, e]
  rw [mk_len] at hi
  by_cases q : i < 96
  · exact CI.sm cv q x e'
  · obtain ⟨⟨m0, m1, m2, m3, l97, l98, l99, l100, l101, l102, l107, -⟩, -, ⟨-, -, l106, -, l103, l104, l105⟩, ⟨-, -, -, -, l108, -⟩, ⟨-, -, l109, l110, -⟩, ⟨l111, -, l112, -⟩, -⟩ := md
    rw [mk_at hi, if_neg q] at e'
    by_cases q1 : i = 96
    · rw [if_pos q1] at e'
      injection e' with e'
      subst e'
      exact (show 28 ≤ 200 by decide)
    · rw [if_neg q1] at e'
      injection e' with e'
      subst e'
      show (V i).length ≤ 200
      have hc : i = 97 ∨ i = 98 ∨ i = 99 ∨ i = 100 ∨ i = 101 ∨ i = 102 ∨ i = 103 ∨ i = 104 ∨ i = 105 ∨ i = 106 ∨ i = 107 ∨ i = 108 ∨ i = 109 ∨ i = 110 ∨ i = 111 ∨ i = 112 := by omega
      rcases hc with rfl | rfl | rfl | rfl | rfl | rfl | rfl | rfl | rfl | rfl | rfl | rfl | rfl | rfl | rfl | rfl <;> omega
theorem whole_goal : am_Goal := by
  intro xs hl hx
  obtain ⟨h', rel, w⟩ := law_loop hl hx 500 0 (mk am_C0 am_S0 am_V0) (by omega) (by omega) (by omega) rel_0
  have sz := rel.sz
  exact ⟨h', Ev_of fun K => by rw [law_init, w], by omega, by omega⟩
end ALL
