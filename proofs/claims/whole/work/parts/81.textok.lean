/-! what a text tells is a bed -/
theorem pl_cb_dk : ((List.range 6).all fun f => (List.range 4).all fun w => (List.range 6).all fun g => (List.range 4).all fun v => Nat.beq w 0 || Nat.beq v 0 || !(Nat.beq (pl_cb f w &&& pl_cb g v) 0) || Nat.ble (f + w) g || Nat.ble (g + v) f) = true := by decide +kernel
theorem pl_cb_dj (f : Nat) (hf : f < 6) (w : Nat) (hw : w < 4) (g : Nat) (hg : g < 6) (v : Nat) (hv : v < 4) : w = 0 ∨ v = 0 ∨ pl_cb f w &&& pl_cb g v ≠ 0 ∨ f + w ≤ g ∨ g + v ≤ f := by
  have a := List.all_eq_true.mp (List.all_eq_true.mp (List.all_eq_true.mp (List.all_eq_true.mp pl_cb_dk f (List.mem_range.mpr hf)) w (List.mem_range.mpr hw)) g (List.mem_range.mpr hg)) v (List.mem_range.mpr hv)
  simp only [Bool.or_eq_true, Bool.not_eq_true', Nat.beq_eq, Nat.ble_eq] at a
  rcases a with (((a | a) | a) | a) | a
  · exact Or.inl a
  · exact Or.inr (Or.inl a)
  · exact Or.inr (Or.inr (Or.inl (Nat.ne_of_beq_eq_false a)))
  · exact Or.inr (Or.inr (Or.inr (Or.inl a)))
  · exact Or.inr (Or.inr (Or.inr (Or.inr a)))
/-- a blanket, a sleeper as they should be -/
def QOk (q : pl_Q) : Prop := 0 ≤ q.1 ∧ q.1 ≤ 5 ∧ 0 ≤ q.2.1 ∧ q.2.1 ≤ 5 ∧ 0 ≤ q.2.2.1 ∧ q.2.2.1 ≤ 9 ∧ 0 ≤ q.2.2.2 ∧ q.2.2.2 ≤ 3
def SOk (q : Int × Int) : Prop := 0 ≤ q.1 ∧ 1 ≤ q.2 ∧ q.2 ≤ 3 ∧ q.1 + q.2 ≤ 6
def pl_db (a b : Int × Int) : Prop := pl_cb a.1.toNat a.2.toNat &&& pl_cb b.1.toNat b.2.toNat = 0
theorem pl_db_ok {a b : Int × Int} (ha : SOk a) (hb : SOk b) (h : pl_db a b) : a.1 + a.2 ≤ b.1 ∨ b.1 + b.2 ≤ a.1 := by
  unfold SOk at ha hb
  have := pl_cb_dj a.1.toNat (by omega) a.2.toNat (by omega) b.1.toNat (by omega) b.2.toNat (by omega)
  have h' : pl_cb a.1.toNat a.2.toNat &&& pl_cb b.1.toNat b.2.toNat = 0 := h
  omega
theorem pl_ff_rg {X : List Int} {n : Nat} {p lo hi : Int} (hp : 0 ≤ p) (hn : n ≤ 44) : -9 ≤ pl_ff X n p lo hi ∧ pl_ff X n p lo hi ≤ 44 := by
  unfold pl_ff
  split
  · omega
  · split <;> omega
theorem pl_bf_rng {X : List Int} {n : Nat} {p : Int} (hp : 0 ≤ p) (hn : n ≤ 44) : -9 ≤ pl_bf X n p ∧ pl_bf X n p ≤ 44 := by
  unfold pl_bf
  split
  · exact pl_ff_rg (by omega) hn
  · split
    · exact pl_ff_rg (by omega) hn
    · split
      · exact pl_ff_rg (by omega) hn
      · exact pl_ff_rg (by omega) hn
theorem pl_sf_rng {X : List Int} {n : Nat} {p : Int} {m : Nat} (hp : 0 ≤ p) (hn : n ≤ 44) (h : p < n) : -9 ≤ pl_sf X n p m ∧ pl_sf X n p m ≤ 50 := by
  unfold pl_sf
  split
  · have := pl_ff_rg (X := X) (p := p + 1) (lo := 0) (hi := 5) (by omega) hn
    omega
  · split
    · omega
    · split
      · have := pl_ff_rg (X := X) (p := p + 2) (lo := 1) (hi := min 3 (6 - pl_fa X n (p + 1))) (by omega) hn
        omega
      · split <;> omega
theorem pl_pr_ok {X : List Int} {n : Nat} (hn : n ≤ 44) : ∀ (f : Nat) (p : Int) (nb ns m : Nat), 0 ≤ p → (-9 ≤ (pl_pr X n f p nb ns m).1 ∧ (pl_pr X n f p nb ns m).1 ≤ 50) ∧ (∀ q ∈ (pl_pr X n f p nb ns m).2.1, QOk q) ∧ (∀ q ∈ (pl_pr X n f p nb ns m).2.2, SOk q ∧ m &&& pl_cb q.1.toNat q.2.toNat = 0) ∧ (pl_pr X n f p nb ns m).2.2.Pairwise pl_db
  | 0, p, nb, ns, m, hp => by
    unfold pl_pr
    exact ⟨by omega, by simp, by simp, List.Pairwise.nil⟩
  | f + 1, p, nb, ns, m, hp => by
    unfold pl_pr
    split
    · exact ⟨by dsimp only; omega, by simp, by simp, List.Pairwise.nil⟩
    · rename_i c0
      split
      · split
        · exact ⟨by have := pl_bf_rng (X := X) hp hn; dsimp only; omega, by simp, by simp, List.Pairwise.nil⟩
        · rename_i c1
          have a := pl_bf_ok (Decidable.not_not.mp c1) hp
          obtain ⟨i1, i2, i3, i4⟩ := pl_pr_ok hn f (p + 5) (nb + 1) ns m (by omega)
          refine ⟨i1, fun q hq => ?_, i3, i4⟩
          rcases List.mem_cons.mp hq with rfl | hq
          · unfold QOk
            dsimp only
            omega
          · exact i2 q hq
      · split
        · split
          · exact ⟨by have := pl_sf_rng (X := X) (m := m) hp hn (by omega); dsimp only; omega, by simp, by simp, List.Pairwise.nil⟩
          · rename_i c1
            have a := pl_sf_ok (Decidable.not_not.mp c1) hp
            obtain ⟨i1, i2, i3, i4⟩ := pl_pr_ok hn f (p + 3) nb (ns + 1) (m ||| pl_cb (pl_fa X n (p + 1)).toNat (pl_fa X n (p + 2)).toNat) (by omega)
            refine ⟨i1, i2, fun q hq => ?_, List.pairwise_cons.mpr ⟨fun q hq => ?_, i4⟩⟩
            · rcases List.mem_cons.mp hq with rfl | hq
              · refine ⟨?_, a.2.2.2.2.2⟩
                unfold SOk
                dsimp only
                omega
              · have b := (i3 q hq).2
                rw [Nat.and_or_distrib_right, Nat.or_eq_zero_iff] at b
                exact ⟨(i3 q hq).1, b.1⟩
            · have b := (i3 q hq).2
              rw [Nat.and_or_distrib_right, Nat.or_eq_zero_iff] at b
              exact b.2
        · exact ⟨by dsimp only; omega, by simp, by simp, List.Pairwise.nil⟩
theorem pl_text_rng {X : List Int} {n : Nat} (hn : n ≤ 44) : -9 ≤ (pl_text X n).1 ∧ (pl_text X n).1 ≤ 50 := by
  unfold pl_text
  split
  · dsimp only; omega
  · exact (pl_pr_ok hn 50 1 0 0 0 (by omega)).1
theorem pl_text_ok {X : List Int} {n : Nat} {Q : List pl_Q} {Sr : List (Int × Int)} (hn : n ≤ 44) (h : pl_text X n = (-9, Q, Sr)) : (∀ q ∈ Q, QOk q) ∧ (∀ q ∈ Sr, SOk q) ∧ Sr.Pairwise pl_db := by
  unfold pl_text at h
  split at h
  · injection h with h1 h2
    injection h2 with h2 h3
    subst h2
    subst h3
    exact ⟨by simp, by simp, List.Pairwise.nil⟩
  · have := pl_pr_ok (X := X) hn 50 1 0 0 0 (by omega)
    rw [h] at this
    exact ⟨this.2.1, fun q hq => (this.2.2.1 q hq).1, this.2.2.2⟩
theorem pl_getD_map {α : Type} {l : List α} {g : α → Int} {i : Nat} (h : i < l.length) : (l.map g).getD i 0 = g (l[i]'h) := by
  rw [List.getD_eq_getElem?_getD, List.getElem?_map, List.getElem?_eq_getElem h]
  rfl
section NB
variable {X : List Int} {n : Nat} {Q : List pl_Q} {Sr : List (Int × Int)} {fr la ce ki wi A : List Int}
theorem pl_put_m {α : Type} {l : List α} {g : α → Int} {xs : List Int} {i : Nat} (h : i < l.length) (hx : i < xs.length) : (pl_put xs 0 (l.map g)).getD i 0 = g (l[i]'h) := by
  have := pl_put_at (l.map g) xs 0 i (by rw [List.length_map]; exact h) (by omega)
  rw [Nat.zero_add] at this
  rw [this, pl_getD_map h]
theorem pl_new_pv (hq : ∀ q ∈ Q, QOk q) (lq : Q.length ≤ 6) (l1 : fr.length = 6) (l2 : la.length = 6) (l3 : ce.length = 6) (l4 : ki.length = 6) : PVal Q.length (pl_put fr 0 (Q.map fun q => q.1)) (pl_put la 0 (Q.map fun q => q.2.1)) (pl_put ce 0 (Q.map fun q => q.2.2.1)) (pl_put ki 0 (Q.map fun q => q.2.2.2)) := by
  intro b hb
  have a := hq _ (List.getElem_mem hb)
  unfold QOk at a
  rw [pl_put_m hb (by omega), pl_put_m hb (by omega), pl_put_m hb (by omega), pl_put_m hb (by omega)]
  exact a
theorem pl_new_ki (hq : ∀ q ∈ Q, QOk q) (l4 : ki.length = 6) (hk : ∀ y < 6, am_w (ki.getD y 0) = ki.getD y 0) : ∀ y < 6, am_w ((pl_put ki 0 (Q.map fun q => q.2.2.2)).getD y 0) = (pl_put ki 0 (Q.map fun q => q.2.2.2)).getD y 0 := by
  intro y hy
  by_cases hb : y < Q.length
  · have a := hq _ (List.getElem_mem hb)
    unfold QOk at a
    rw [pl_put_m hb (by omega)]
    exact am_w_i (by omega)
  · rw [pl_put_hi _ _ _ _ (by rw [List.length_map]; omega)]
    exact hk y hy
theorem pl_new_wi (hs : ∀ q ∈ Sr, SOk q) (ls : Sr.length ≤ 3) (l5 : wi.length = 3) : ∀ s < Sr.length, 1 ≤ (pl_put wi 0 (Sr.map fun q => q.2)).getD s 0 ∧ (pl_put wi 0 (Sr.map fun q => q.2)).getD s 0 ≤ 3 := by
  intro s h
  have a := hs _ (List.getElem_mem h)
  unfold SOk at a
  rw [pl_put_m h (by omega)]
  exact ⟨a.2.1, a.2.2.1⟩
theorem pl_new_wf (hs : ∀ q ∈ Sr, SOk q) (ls : Sr.length ≤ 3) (l5 : wi.length = 3) : WfL Q.length Sr.length (pl_put wi 0 (Sr.map fun q => q.2)) (List.range Q.length, pl_put [0, 0, 0] 0 (Sr.map fun q => q.1), [0, 0, 0], 0) := by
  refine ⟨fun x hx => List.mem_range.mp hx, List.nodup_range, fun s h => ?_⟩
  have a := hs _ (List.getElem_mem h)
  unfold SOk at a
  rw [pl_put_m (xs := wi) h (by omega), pl_put_m (xs := [0, 0, 0]) h (show s < 3 by omega)]
  exact ⟨a.1, a.2.2.2⟩
theorem pl_new_dj (hs : ∀ q ∈ Sr, SOk q) (hp : Sr.Pairwise pl_db) (ls : Sr.length ≤ 3) (l5 : wi.length = 3) : Dj Sr.length (pl_put wi 0 (Sr.map fun q => q.2)) (pl_put [0, 0, 0] 0 (Sr.map fun q => q.1)) := by
  intro s h t ht
  have h' : t < Sr.length := by omega
  have a := hs _ (List.getElem_mem h)
  have a' := hs _ (List.getElem_mem h')
  have d := pl_db_ok a' a (List.pairwise_iff_getElem.mp hp t s h' h ht)
  rw [pl_put_m (xs := wi) h (by omega), pl_put_m (xs := [0, 0, 0]) h (show s < 3 by omega), pl_put_m (xs := wi) h' (by omega), pl_put_m (xs := [0, 0, 0]) h' (show t < 3 by omega)]
  exact d
end NB
section PB6
variable {h : am_H} {X : List Int} {n nb ns : Nat} {fr la ce ki wi : List Int} {L : pl_L} {nx len : Nat} {Ls : List pl_L} {Q : List (Nat × Nat)} {kf : List Int} {Ks : List pl_L} {sd : Int}
theorem X9_bed_no (ci : CI h X n nb ns fr la ce ki wi L nx len Ls Q kf Ks sd) (hz : (pl_text X n).1 ≠ -9) (E : List (List Int)) (K : Option am_V → am_H → Prop) : Wp E 80 0 [some (am_r (some 0)), none] [] h K = K (some (am_i (-3))) h := by
  have c0 := ci.1
  have ct := ci.2.1
  have r := pl_text_rng (X := X) ct.2.2.2.1
  have w := fun E K => X8_firstFault_w (E := E) (K := K) ct
  simp (disch := first | omega | (simp only [List.length_set]; omega) | rfl) only [↓e80_0, ↓e80_1, ↓e80_4, ↓e80_7, ↓e80_9, ↓e80_12, ↓e80_14, ↓am_ilp, ↓am_iln, ↓am_iep, ↓am_ien, ↓am_zlp, ↓am_zln, ↓am_zep, ↓am_zen, ↓am_zgp, ↓am_zgn, ↓am_zhp, ↓am_zhn, ↓am_b01, true_or, true_and, and_true, or_true, if_true, if_false, ↓am_bdl_z, ↓am_bdl_s, ↓am_bsl_z, ↓am_bsl_s, ↓am_k1_i, ↓am_k1_r, ↓am_k1_e, ↓am_k1_n, ↓am_bd_s, am_k1_t, eq_self, am_nl_i, am_nl_r, am_nl_e, am_nl_n, Option.toList_some, Option.toList_none, Option.map_some, Option.map_none, List.cons_append, List.nil_append, List.length_cons, List.length_nil, List.set_cons_zero, List.set_cons_succ, List.getElem?_cons_zero, List.getElem?_cons_succ, am_bd_s, ↓am_tls, ↓am_bdf c0, am_bdf c0, ↓am_bfu c0, am_bfu c0, ↓am_oc_of c0, am_oc_of c0, ↓am_bdf ct.1, am_bdf ct.1, ↓am_bfu ct.1, am_bfu ct.1, ↓am_oc_of ct.1, am_oc_of ct.1, ↓w]
theorem X9_bed_s {g : am_H} {a : List Int} {i : Int} (c0 : ObC g sd) (c1 : g[87]? = some (am_a 1 a)) (la : a.length = 2) (i0 : 0 ≤ i) (i1 : i < 2) (E : List (List Int)) (K : Option am_V → am_H → Prop) : Wp E 80 39 [some (am_r (some 0)), some (am_i i)] [] g K = Wp E 80 39 [some (am_r (some 0)), some (am_i (i + 1))] [] (g.set 87 (am_a 1 (a.set i.toNat 0))) K := by
  unfold ObC at c0
  rw [e80_39]
  simp (disch := first | omega | (simp only [List.length_set]; omega) | rfl) only [↓e80_40, ↓e80_41, ↓e80_44, ↓e80_45, ↓e80_48, ↓e80_49, ↓e80_50, ↓e80_51, ↓e80_54, ↓am_ilp, ↓am_iln, ↓am_iep, ↓am_ien, ↓am_zlp, ↓am_zln, ↓am_zep, ↓am_zen, ↓am_zgp, ↓am_zgn, ↓am_zhp, ↓am_zhn, ↓am_b01, true_or, true_and, and_true, or_true, if_true, if_false, ↓am_bdl_z, ↓am_bdl_s, ↓am_bsl_z, ↓am_bsl_s, ↓am_k1_i, ↓am_k1_r, ↓am_k1_e, ↓am_k1_n, ↓am_bd_s, am_k1_t, eq_self, am_nl_i, am_nl_r, am_nl_e, am_nl_n, Option.toList_some, Option.toList_none, Option.map_some, Option.map_none, List.cons_append, List.nil_append, List.length_cons, List.length_nil, List.set_cons_zero, List.set_cons_succ, List.getElem?_cons_zero, List.getElem?_cons_succ, am_bd_s, ↓am_bdf c0, am_bdf c0, ↓am_bfu c0, am_bfu c0, ↓am_oc_of c0, am_oc_of c0, ↓am_bra c1, am_bra c1, ↓am_bwa c1, am_bwa c1]
theorem X9_bed_w {T : List pl_Q} {Sr : List (Int × Int)} (ci : CI h X n nb ns fr la ce ki wi L nx len Ls Q kf Ks sd) (e : pl_text X n = (-9, T, Sr)) : ∃ h', (∀ E K, Wp E 80 0 [some (am_r (some 0)), none] [] h K = K (some (am_i (10 * (T.length : Int) + (Sr.length : Int)))) h') ∧ CI h' X n T.length Sr.length (pl_put fr 0 (T.map fun q => q.1)) (pl_put la 0 (T.map fun q => q.2.1)) (pl_put ce 0 (T.map fun q => q.2.2.1)) (pl_put ki 0 (T.map fun q => q.2.2.2)) (pl_put wi 0 (Sr.map fun q => q.2)) (List.range T.length, pl_put [0, 0, 0] 0 (Sr.map fun q => q.1), [0, 0, 0], 0) nx 0 Ls Q [0, 0] Ks sd ∧ Up h h' := by
  obtain ⟨c0, ct, ⟨tm, lf⟩, ⟨tk, lp⟩, ⟨o1, o2, w1', w2', lc⟩, cs, cr, cl, ⟨M, lm⟩, c86, c87, k1, k2, k3⟩ := ci
  have w := fun E K => X8_firstFault_w (E := E) (K := K) ct
  have e1 : (pl_text X n).1 = -9 := by rw [e]
  rw [e1] at w
  obtain ⟨tq, ts, td⟩ := pl_text_ok ct.2.2.2.1 e
  obtain ⟨h1, w1, lp1, ll1, f1⟩ := X8_tell_w e ct lf.1 cl
  have sq : T.length ≤ 6 := lp1.2.2.2.2.2.2.2.2.2.2.2.1
  have ss : Sr.length ≤ 3 := lp1.2.2.2.2.2.2.2.2.2.2.2.2
  have cr1 : RowC h1 nx len Ls := cr.ag (fun i i0 i1 => f1.2 i (by omega))
  obtain ⟨h2, w2, cr2, f2⟩ := X6_forgetAll_w cr1
  have g2 : ∀ i : Nat, i ≠ 20 → i < 3 ∨ (9 ≤ i ∧ i < 78) ∨ 82 ≤ i → h2[i]? = h[i]? := fun i i0 hi => (f2.2 i (by omega)).trans (f1.2 i hi)
  have c871 := (g2 87 (by omega) (by omega)).trans c87
  obtain ⟨a0, a1, rfl⟩ : ∃ a0 a1, kf = [a0, a1] := by
    match kf, k1 with
    | [a0, a1], _ => exact ⟨a0, a1, rfl⟩
  obtain ⟨h3, hh3⟩ : ∃ h3, h3 = h2.set 87 (am_a 1 [0, 0]) := ⟨_, rfl⟩
  have f3 : Fr h2 h3 87 1 := by rw [hh3]; exact Fr.rf.set (by omega) (by omega)
  have g3 : ∀ i : Nat, i ≠ 20 → i ≠ 87 → i < 3 ∨ (9 ≤ i ∧ i < 78) ∨ 82 ≤ i → h3[i]? = h[i]? := fun i i0 i1 hi => (f3.2 i (by omega)).trans (g2 i i0 hi)
  have p3 : PartsC h3 3 T.length Sr.length (pl_put fr 0 (T.map fun q => q.1)) (pl_put la 0 (T.map fun q => q.2.1)) (pl_put ce 0 (T.map fun q => q.2.2.1)) (pl_put ki 0 (T.map fun q => q.2.2.2)) (pl_put wi 0 (Sr.map fun q => q.2)) := by
    obtain ⟨y0, y1, y2, y3, y4, y5, y6⟩ := lp1
    have g : ∀ i : Nat, i < 20 → h3[i]? = h1[i]? := fun i hi => (f3.2 i (by omega)).trans (f2.2 i (by omega))
    exact ⟨(g _ (by omega)).trans y0, (g _ (by omega)).trans y1, (g _ (by omega)).trans y2, (g _ (by omega)).trans y3, (g _ (by omega)).trans y4, (g _ (by omega)).trans y5, y6⟩
  obtain ⟨⟨p0, p1, p2, p3', p4, p5, s1, s2, s3, s4, s5, s6, s7⟩, ⟨z0, z1, z2⟩, lf2, lf3, lf4, lf5, lf6⟩ := lf
  have nf : Fix h3 T.length Sr.length (pl_put fr 0 (T.map fun q => q.1)) (pl_put la 0 (T.map fun q => q.2.1)) (pl_put ce 0 (T.map fun q => q.2.2.1)) (pl_put ki 0 (T.map fun q => q.2.2.2)) (pl_put wi 0 (Sr.map fun q => q.2)) tm := ⟨p3, ⟨(g3 _ (by omega) (by omega) (by omega)).trans z0, (g3 _ (by omega) (by omega) (by omega)).trans z1, z2⟩, (g3 _ (by omega) (by omega) (by omega)).trans lf2, pl_new_pv tq sq s1 s2 s3 s4, lf4, pl_new_ki tq s4 lf5, pl_new_wi ts ss s5⟩
  have cl3 : LayL h3 78 (List.range T.length, pl_put [0, 0, 0] 0 (Sr.map fun q => q.1), [0, 0, 0], 0) := LayL.ag (show LayL h1 78 (List.range T.length, pl_put [0, 0, 0] 0 (Sr.map fun q => q.1), [0, 0, 0], 0) from ll1) (fun j j0 j1 => (f3.2 j (by omega)).trans (f2.2 j (by omega)))
  have c01 := (f1.2 0 (by omega)).trans c0
  have c02 := (g2 0 (by omega) (by omega)).trans c0
  have c03 := (g3 0 (by omega) (by omega) (by omega)).trans c0
  have q0 := p3.1
  refine ⟨h3, fun E K => ?_, ⟨c03, ct.ag (fun i i0 i1 => g3 i (by omega) (by omega) (by omega)), ⟨tm, nf⟩, ⟨tk, lp.ag (fun i i0 i1 => g3 i (by omega) (by omega) (by omega))⟩, ⟨o1, o2, w1', w2', lc.ag (fun i i0 i1 => g3 i (by omega) (by omega) (by omega))⟩, cs.ag (fun i i0 i1 => g3 i (by omega) (by omega) (by omega)), cr2.ag (fun i i0 i1 => f3.2 i (by omega)), cl3, ⟨M, lm.ag (fun i i0 i1 => g3 i (by omega) (by omega) (by omega))⟩, (g3 _ (by omega) (by omega) (by omega)).trans c86, by rw [hh3]; exact am_set_at c871, rfl, k2, fun i M' e => (k3 i M' e).ag (fun j j0 j1 => g3 j (by omega) (by omega) (by omega))⟩, ⟨f3.1.trans (f2.1.trans f1.1), fun i hi => g3 i (by omega) (by omega) (by omega)⟩⟩
  have m10 : am_w (10 * (T.length : Int)) = 10 * (T.length : Int) := am_w_i (by omega)
  simp (disch := first | omega | (simp only [List.length_set]; omega) | rfl) only [↓e80_0, ↓e80_1, ↓e80_4, ↓e80_7, ↓e80_9, ↓e80_12, ↓e80_14, ↓e80_15, ↓e80_16, ↓e80_19, ↓e80_20, ↓e80_23, ↓e80_24, ↓e80_27, ↓e80_30, ↓e80_31, ↓e80_34, ↓e80_37, ↓e80_38, ↓am_ilp, ↓am_iln, ↓am_iep, ↓am_ien, ↓am_zlp, ↓am_zln, ↓am_zep, ↓am_zen, ↓am_zgp, ↓am_zgn, ↓am_zhp, ↓am_zhn, ↓am_b01, true_or, true_and, and_true, or_true, if_true, if_false, ↓am_bdl_z, ↓am_bdl_s, ↓am_bsl_z, ↓am_bsl_s, ↓am_k1_i, ↓am_k1_r, ↓am_k1_e, ↓am_k1_n, ↓am_bd_s, am_k1_t, eq_self, am_nl_i, am_nl_r, am_nl_e, am_nl_n, Option.toList_some, Option.toList_none, Option.map_some, Option.map_none, List.cons_append, List.nil_append, List.length_cons, List.length_nil, List.set_cons_zero, List.set_cons_succ, List.getElem?_cons_zero, List.getElem?_cons_succ, am_bd_s, ↓am_tls, ↓am_tln, ↓am_bdf c0, am_bdf c0, ↓am_bfu c0, am_bfu c0, ↓am_oc_of c0, am_oc_of c0, ↓am_bdf c01, am_bdf c01, ↓am_bfu c01, am_bfu c01, ↓am_oc_of c01, am_oc_of c01, ↓am_bdf ct.1, am_bdf ct.1, ↓am_bfu ct.1, am_bfu ct.1, ↓am_oc_of ct.1, am_oc_of ct.1, ↓am_bdf cr1.1, am_bdf cr1.1, ↓am_bfu cr1.1, am_bfu cr1.1, ↓am_oc_of cr1.1, am_oc_of cr1.1, ↓w, ↓w1, ↓w2]
  have y1 : (h2.set 87 (am_a 1 [0, a1]))[87]? = some (am_a 1 [0, a1]) := am_set_at c871
  have y0 : ObC (h2.set 87 (am_a 1 [0, a1])) sd := by
    unfold ObC
    rw [am_set_ne (by omega)]
    exact c02
  have z1 := X9_bed_s (i := 0) c02 c871 rfl (by omega) (by omega) E K
  have z2 := X9_bed_s (i := 0 + 1) y0 y1 rfl (by omega) (by omega) E K
  have z3 : (h2.set 87 (am_a 1 [0, a1])).set 87 (am_a 1 ([0, a1].set (Int.toNat (0 + 1)) 0)) = h3 := by rw [List.set_set, hh3]; rfl
  rw [z3] at z2
  refine z1.trans (z2.trans ?_)
  rw [e80_39]
  simp (disch := first | omega | (simp only [List.length_set]; omega) | rfl) only [↓e80_40, ↓e80_41, ↓e80_57, ↓e80_59, ↓e80_60, ↓e80_63, ↓e80_66, ↓e80_67, ↓e80_68, ↓e80_71, ↓e80_74, ↓e80_75, ↓am_ilp, ↓am_iln, ↓am_iep, ↓am_ien, ↓am_zlp, ↓am_zln, ↓am_zep, ↓am_zen, ↓am_zgp, ↓am_zgn, ↓am_zhp, ↓am_zhn, ↓am_b01, true_or, true_and, and_true, or_true, if_true, if_false, ↓am_bdl_z, ↓am_bdl_s, ↓am_bsl_z, ↓am_bsl_s, ↓am_k1_i, ↓am_k1_r, ↓am_k1_e, ↓am_k1_n, ↓am_bd_s, am_k1_t, eq_self, am_nl_i, am_nl_r, am_nl_e, am_nl_n, Option.toList_some, Option.toList_none, Option.map_some, Option.map_none, List.cons_append, List.nil_append, List.length_cons, List.length_nil, List.set_cons_zero, List.set_cons_succ, List.getElem?_cons_zero, List.getElem?_cons_succ, am_bd_s, ↓am_bdf c03, am_bdf c03, ↓am_bfu c03, am_bfu c03, ↓am_oc_of c03, am_oc_of c03, ↓am_bdf q0, am_bdf q0, ↓am_bfu q0, am_bfu q0, ↓am_oc_of q0, am_oc_of q0, m10]
end PB6
