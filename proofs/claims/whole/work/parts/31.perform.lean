/-- how all lies: blankets from the lowest on, sleepers' first cells, when they woke, the night -/
abbrev pl_L : Type := List Nat × List Int × List Int × Int
def LayL (h : am_H) (r : Nat) (L : pl_L) : Prop := LayC h r L.1 L.2.1 L.2.2.1 L.2.2.2
/-- a layout that can be, with these parts -/
def WfL (nb ns : Nat) (wi : List Int) (L : pl_L) : Prop := (∀ x ∈ L.1, x < nb) ∧ L.1.Nodup ∧ AtOk ns wi L.2.1
/-- can this one lie from f on -/
def pl_may (ns : Nat) (wi A : List Int) (s : Nat) (f : Int) : Bool := decide (0 ≤ f ∧ f + wi.getD s 0 ≤ 6) && pl_free ns wi A s f.toNat (wi.getD s 0).toNat
/-- an act: how it lies then; none: it can not be -/
def pl_do (nb ns : Nat) (fr la ce ki wi : List Int) (L : pl_L) (how who : Nat) : Option pl_L := match how with
  | 0 => if who = 0 then some (L.1, L.2.1, (List.range' 0 ns).foldl (pl_wos fun s => pl_wk fr la ce ki L.1 (L.2.1.getD s 0).toNat (wi.getD s 0).toNat) L.2.2.1, L.2.2.2 + 1) else none
  | 1 => if who < nb ∧ who ∈ L.1 then some (L.1.erase who, L.2) else none
  | 2 => if who < nb ∧ who ∉ L.1 then some (L.1 ++ [who], L.2) else none
  | 3 => if who < nb ∧ who ∉ L.1 then some (who :: L.1, L.2) else none
  | 4 => if who < ns ∧ pl_may ns wi L.2.1 who (L.2.1.getD who 0 + 1) = true then some (L.1, L.2.1.set who (L.2.1.getD who 0 + 1), L.2.2) else none
  | 5 => if who < ns ∧ pl_may ns wi L.2.1 who (L.2.1.getD who 0 - 1) = true then some (L.1, L.2.1.set who (L.2.1.getD who 0 - 1), L.2.2) else none
  | _ => none
theorem pl_nd : ∀ (n : Nat) (B : List Nat), B.Nodup → (∀ x ∈ B, x < n) → B.length ≤ n
  | 0, [], _, _ => Nat.le_refl 0
  | 0, x :: B, _, h => absurd (h x List.mem_cons_self) (Nat.not_lt_zero x)
  | n + 1, B, hn, h => by
    have h1 : (B.erase n).Nodup := hn.erase n
    have h2 : ∀ x ∈ B.erase n, x < n := by
      intro x hx
      have h3 := h x (List.mem_of_mem_erase hx)
      have h4 : x ≠ n := ((List.Nodup.mem_erase_iff hn).mp hx).1
      omega
    have h5 := pl_nd n (B.erase n) h1 h2
    rw [List.length_erase] at h5
    split at h5 <;> omega
theorem pl_few {nb : Nat} {B : List Nat} {b : Nat} (hn : B.Nodup) (hB : ∀ x ∈ B, x < nb) (hb : b < nb) (hm : b ∉ B) (h6 : nb ≤ 6) : B.length < 6 := by
  have h3 := pl_nd nb (b :: B) (List.nodup_cons.mpr ⟨hm, hn⟩) (fun x hx => by
    rcases List.mem_cons.mp hx with q | q
    · rw [q]; exact hb
    · exact hB x q)
  rw [List.length_cons] at h3
  omega
theorem pl_erase {b : Nat} {P S : List Nat} (h : b ∉ P) : (P ++ b :: S).erase b = P ++ S := by
  rw [List.erase_append_right _ h, List.erase_cons_head]
section PRF
variable {E : List (List Int)} {h : am_H} {K : Option am_V → am_H → Prop} {r nb ns : Nat} {L : pl_L} {tm fr la ce ki wi : List Int}
theorem X0_moveTo_f {s : Nat} {f : Int} (l : LayL h r L) (lf : Fix h nb ns fr la ce ki wi tm) (wf : WfL nb ns wi L) (hs : s < ns) (hf : -1 ≤ f) (hf2 : f ≤ 7) (hr : 12 ≤ r) : ∃ h', (∀ E K, Wp E 3 0 [some (am_r (some 11)), some (am_r (some r)), some (am_i (s : Int)), some (am_i f), none, none, none] [] h K = K (some (am_i (pl_b (pl_may ns wi L.2.1 s f = true)))) h') ∧ LayL h' r (if pl_may ns wi L.2.1 s f = true then (L.1, L.2.1.set s f, L.2.2) else L) ∧ Fr h h' r 4 := by
  have h3 : ns ≤ 3 := lf.1.2.2.2.2.2.2.2.2.2.2.2.2
  have lw : wi.length = 3 := lf.1.2.2.2.2.2.2.2.2.2.2.1
  obtain ⟨y1, y2⟩ := lf.2.2.2.2.2.2 s hs
  have ef : am_w f = f := am_w_id (by omega) (by omega)
  have ee : am_w (f + wi.getD s 0) = f + wi.getD s 0 := am_w_id (by omega) (by omega)
  have st : ∀ E K, Wp E 3 0 [some (am_r (some 11)), some (am_r (some r)), some (am_i (s : Int)), some (am_i f), none, none, none] [] h K = if f < 0 then K (some (am_i 0)) h else if 6 < f + wi.getD s 0 then K (some (am_i 0)) h else Wp E 3 29 [some (am_r (some 11)), some (am_r (some r)), some (am_i (s : Int)), some (am_i f), some (am_i (f + wi.getD s 0)), some (am_i f), none] [] h K := by
    intro E K
    simp only [e3_0, e3_1, e3_2, e3_5, e3_8, e3_9, e3_10, e3_11, e3_13, e3_14, e3_17, e3_19, e3_21, e3_24, e3_25, e3_26, e3_27, eq_self, am_k1_t, am_bd_s, am_bd_n, am_nl_i, am_nl_r, am_nl_e, am_nl_n, Option.toList_some, Option.toList_none, List.cons_append, List.nil_append, List.getElem?_cons_zero, List.getElem?_cons_succ, List.length_cons, List.length_nil, List.set_cons_zero, List.set_cons_succ, am_fd_of lf.2.2.1, am_fd_of lf.1.1, am_ra_of lf.1.2.2.2.2.2.1, am_rd_at (am_gv (d := 0) (show s < wi.length by omega)) (by omega), ef, ee, am_w_l6]
    simp
  by_cases q1 : f < 0
  · have em : pl_may ns wi L.2.1 s f = false := by simp [pl_may, show ¬ 0 ≤ f by omega]
    refine ⟨h, fun E K => ?_, by simp only [em]; exact l, Fr.rf⟩
    rw [st, if_pos q1, em]
    rfl
  · by_cases q2 : 6 < f + wi.getD s 0
    · have em : pl_may ns wi L.2.1 s f = false := by
        have : ¬ (0 ≤ f ∧ f + wi.getD s 0 ≤ 6) := by omega
        simp only [pl_may, this, decide_false, Bool.false_and]
      refine ⟨h, fun E K => ?_, by simp only [em]; exact l, Fr.rf⟩
      rw [st, if_neg q1, if_pos q2, em]
      rfl
    · obtain ⟨f, rfl⟩ : ∃ n : Nat, f = (n : Int) := ⟨f.toNat, by omega⟩
      obtain ⟨w, hw⟩ : ∃ w : Nat, wi.getD s 0 = (w : Int) := ⟨(wi.getD s 0).toNat, by omega⟩
      have em : pl_may ns wi L.2.1 s (f : Int) = pl_free ns wi L.2.1 s f w := by
        have h7 : (0 ≤ (f : Int) ∧ (f : Int) + wi.getD s 0 ≤ 6) := by omega
        rw [pl_may, decide_eq_true h7, Bool.true_and, Int.toNat_natCast, hw, Int.toNat_natCast]
      have lp := fun E K => X0_moveTo_l (E := E) (K := K) (s := s) (f := (f : Int)) (e9 := (f : Int) + wi.getD s 0) l lf wf.2.2 (by omega) ee w f none (by omega) (by omega)
      obtain ⟨h', w', l', f'⟩ := X3_place_w (s := s) (f := (f : Int)) l (by omega)
      by_cases q3 : pl_free ns wi L.2.1 s f w = true
      · refine ⟨h', fun E K => ?_, ?_, f'⟩
        · rw [st, if_neg q1, if_neg q2, lp, if_pos q3, em]
          have lo := LayC.obj l
          simp only [e3_69, e3_70, e3_71, e3_72, eq_self, am_k1_t, am_bd_s, am_bd_n, am_nl_i, am_nl_r, am_nl_e, am_nl_n, Option.toList_some, Option.toList_none, List.cons_append, List.nil_append, List.getElem?_cons_zero, List.getElem?_cons_succ, List.length_cons, List.length_nil, List.set_cons_zero, List.set_cons_succ, am_oc_of lo.1, w']
          simp only [e3_75, e3_76, eq_self, am_k1_t, am_bd_s, am_bd_n, am_nl_i, am_nl_r, am_nl_e, am_nl_n, Option.toList_some, Option.toList_none, List.cons_append, List.nil_append, List.getElem?_cons_zero, List.getElem?_cons_succ, List.length_cons, List.length_nil, List.set_cons_zero, List.set_cons_succ, pl_b, q3, if_true]
          simp
        · rw [em, if_pos q3]
          exact l'
      · refine ⟨h, fun E K => ?_, ?_, Fr.rf⟩
        · rw [st, if_neg q1, if_neg q2, lp, if_neg q3, em]
          simp only [pl_b, q3, if_false]
          simp
        · rw [em, if_neg q3]
          exact l
theorem X0_perform_1 {b : Nat} (l : LayL h r L) (lf : Fix h nb ns fr la ce ki wi tm) (wf : WfL nb ns wi L) (hb : b ≤ 9) (hr : 12 ≤ r) : ∃ h', (∀ E K, Wp E 1 0 [some (am_r (some 11)), some (am_r (some r)), some (am_i 1), some (am_i (b : Int))] [] h K = K (some (am_i (pl_b ((pl_do nb ns fr la ce ki wi L 1 b).isSome = true)))) h') ∧ LayL h' r ((pl_do nb ns fr la ce ki wi L 1 b).getD L) ∧ Fr h h' r 4 := by
  have h6 : nb ≤ 6 := lf.1.2.2.2.2.2.2.2.2.2.2.2.1
  have hw := fun E K => X4_hasBlanket_w (E := E) (K := K) (x := (b : Int)) lf.1
  have eb : am_w (b : Int) = (b : Int) := am_w_nat (by omega)
  simp only [eb] at hw
  have lo := LayC.obj l
  by_cases q1 : b < nb
  · have c1 : (0 ≤ (b : Int) ∧ (b : Int) < (nb : Int)) := by omega
    by_cases q2 : b ∈ L.1
    · obtain ⟨P, S, e, hP⟩ := pl_split q2
      obtain ⟨B, A, Wo, ni⟩ := L
      dsimp only at e q2
      subst e
      obtain ⟨h', w', l', f'⟩ := X3_takeOff_w (b := b) (P := P) (S := S) l (fun x hx => by have := wf.1 x hx; omega) (by omega) hP
      have ed : pl_do nb ns fr la ce ki wi (P ++ b :: S, A, Wo, ni) 1 b = some (P ++ S, A, Wo, ni) := by rw [pl_do, if_pos ⟨q1, q2⟩, pl_erase hP]
      refine ⟨h', fun E K => ?_, by rw [ed]; exact l', f'.wide (by omega) (by omega)⟩
      simp only [e1_0, e1_1, eq_self, am_k1_t, am_bd_s, am_bd_n, am_nl_i, am_nl_r, am_nl_e, am_nl_n, Option.toList_some, Option.toList_none, List.cons_append, List.nil_append, List.getElem?_cons_zero, List.getElem?_cons_succ, List.length_cons, List.length_nil, List.set_cons_zero, List.set_cons_succ, am_w_l1, show ¬ ((1 : Int) = 0) by decide, if_false, if_true, e1_58, e1_59, e1_62, e1_63, am_fd_of lf.2.2.1, am_oc_of lf.1.1, hw, pl_b, if_pos c1]
      simp only [e1_66, e1_69, e1_70, e1_71, eq_self, am_k1_t, am_bd_s, am_bd_n, am_nl_i, am_nl_r, am_nl_e, am_nl_n, Option.toList_some, Option.toList_none, List.cons_append, List.nil_append, List.getElem?_cons_zero, List.getElem?_cons_succ, List.length_cons, List.length_nil, List.set_cons_zero, List.set_cons_succ, am_w_l1, show ¬ ((1 : Int) = 0) by decide, if_false, am_oc_of lo.1, w']
      simp only [e1_74, e1_77, e1_78, e1_81, e1_82, eq_self, am_k1_t, am_bd_s, am_bd_n, am_nl_i, am_nl_r, am_nl_e, am_nl_n, Option.toList_some, Option.toList_none, List.cons_append, List.nil_append, List.getElem?_cons_zero, List.getElem?_cons_succ, List.length_cons, List.length_nil, List.set_cons_zero, List.set_cons_succ, am_w_l1, show ¬ ((1 : Int) = 0) by decide, if_false, ed]
      simp
    · have ed : pl_do nb ns fr la ce ki wi L 1 b = none := by rw [pl_do, if_neg (fun z => q2 z.2)]
      have tw := fun E K => X3_takeOff_no (E := E) (K := K) (b := b) l (fun x hx => by have := wf.1 x hx; omega) (by omega) q2
      refine ⟨h, fun E K => ?_, by rw [ed]; exact l, Fr.rf⟩
      simp only [e1_0, e1_1, eq_self, am_k1_t, am_bd_s, am_bd_n, am_nl_i, am_nl_r, am_nl_e, am_nl_n, Option.toList_some, Option.toList_none, List.cons_append, List.nil_append, List.getElem?_cons_zero, List.getElem?_cons_succ, List.length_cons, List.length_nil, List.set_cons_zero, List.set_cons_succ, am_w_l1, show ¬ ((1 : Int) = 0) by decide, if_false, if_true, e1_58, e1_59, e1_62, e1_63, am_fd_of lf.2.2.1, am_oc_of lf.1.1, hw, pl_b, if_pos c1]
      simp only [e1_66, e1_69, e1_70, e1_71, eq_self, am_k1_t, am_bd_s, am_bd_n, am_nl_i, am_nl_r, am_nl_e, am_nl_n, Option.toList_some, Option.toList_none, List.cons_append, List.nil_append, List.getElem?_cons_zero, List.getElem?_cons_succ, List.length_cons, List.length_nil, List.set_cons_zero, List.set_cons_succ, am_w_l1, show ¬ ((1 : Int) = 0) by decide, if_false, am_oc_of lo.1, tw]
      simp only [e1_74, e1_77, e1_78, e1_81, e1_82, eq_self, am_k1_t, am_bd_s, am_bd_n, am_nl_i, am_nl_r, am_nl_e, am_nl_n, Option.toList_some, Option.toList_none, List.cons_append, List.nil_append, List.getElem?_cons_zero, List.getElem?_cons_succ, List.length_cons, List.length_nil, List.set_cons_zero, List.set_cons_succ, am_w_l0, if_true, ed]
      simp
  · have c1 : ¬ (0 ≤ (b : Int) ∧ (b : Int) < (nb : Int)) := by omega
    have ed : pl_do nb ns fr la ce ki wi L 1 b = none := by rw [pl_do, if_neg (fun z => q1 z.1)]
    refine ⟨h, fun E K => ?_, by rw [ed]; exact l, Fr.rf⟩
    simp only [e1_0, e1_1, eq_self, am_k1_t, am_bd_s, am_bd_n, am_nl_i, am_nl_r, am_nl_e, am_nl_n, Option.toList_some, Option.toList_none, List.cons_append, List.nil_append, List.getElem?_cons_zero, List.getElem?_cons_succ, List.length_cons, List.length_nil, List.set_cons_zero, List.set_cons_succ, am_w_l1, show ¬ ((1 : Int) = 0) by decide, if_false, if_true, e1_58, e1_59, e1_62, e1_63, am_fd_of lf.2.2.1, am_oc_of lf.1.1, hw, pl_b, if_neg c1]
    simp only [e1_66, e1_69, e1_70, e1_71, e1_74, e1_77, e1_78, e1_81, e1_82, eq_self, am_k1_t, am_bd_s, am_bd_n, am_nl_i, am_nl_r, am_nl_e, am_nl_n, Option.toList_some, Option.toList_none, List.cons_append, List.nil_append, List.getElem?_cons_zero, List.getElem?_cons_succ, List.length_cons, List.length_nil, List.set_cons_zero, List.set_cons_succ, am_w_l0, if_true, ed]
    simp
theorem X0_perform_2 {b : Nat} (l : LayL h r L) (lf : Fix h nb ns fr la ce ki wi tm) (wf : WfL nb ns wi L) (hb : b ≤ 9) (hr : 12 ≤ r) : ∃ h', (∀ E K, Wp E 1 0 [some (am_r (some 11)), some (am_r (some r)), some (am_i 2), some (am_i (b : Int))] [] h K = K (some (am_i (pl_b ((pl_do nb ns fr la ce ki wi L 2 b).isSome = true)))) h') ∧ LayL h' r ((pl_do nb ns fr la ce ki wi L 2 b).getD L) ∧ Fr h h' r 4 := by
  have h6 : nb ≤ 6 := lf.1.2.2.2.2.2.2.2.2.2.2.2.1
  have hw := fun E K => X4_hasBlanket_w (E := E) (K := K) (x := (b : Int)) lf.1
  have eb : am_w (b : Int) = (b : Int) := am_w_nat (by omega)
  simp only [eb] at hw
  have lo := LayC.obj l
  by_cases q1 : b < nb
  · have c1 : (0 ≤ (b : Int) ∧ (b : Int) < (nb : Int)) := by omega
    by_cases q2 : b ∈ L.1
    · have ed : pl_do nb ns fr la ce ki wi L 2 b = none := by rw [pl_do, if_neg (fun z => z.2 q2)]
      have tw := fun E K => X3_layOnTop_no (E := E) (K := K) (b := b) l (fun x hx => by have := wf.1 x hx; omega) (by omega) q2
      refine ⟨h, fun E K => ?_, by rw [ed]; exact l, Fr.rf⟩
      simp only [e1_0, e1_1, eq_self, am_k1_t, am_bd_s, am_bd_n, am_nl_i, am_nl_r, am_nl_e, am_nl_n, Option.toList_some, Option.toList_none, List.cons_append, List.nil_append, List.getElem?_cons_zero, List.getElem?_cons_succ, List.length_cons, List.length_nil, List.set_cons_zero, List.set_cons_succ, am_w_l2, show ¬ ((2 : Int) = 0) by decide, show ¬ ((2 : Int) = 1) by decide, if_false, if_true, e1_83, e1_84, e1_87, e1_88, am_fd_of lf.2.2.1, am_oc_of lf.1.1, hw, pl_b, if_pos c1]
      simp only [e1_91, e1_94, e1_95, e1_96, eq_self, am_k1_t, am_bd_s, am_bd_n, am_nl_i, am_nl_r, am_nl_e, am_nl_n, Option.toList_some, Option.toList_none, List.cons_append, List.nil_append, List.getElem?_cons_zero, List.getElem?_cons_succ, List.length_cons, List.length_nil, List.set_cons_zero, List.set_cons_succ, am_w_l1, show ¬ ((1 : Int) = 0) by decide, if_false, am_oc_of lo.1, tw]
      simp only [e1_99, e1_102, e1_103, e1_106, e1_107, eq_self, am_k1_t, am_bd_s, am_bd_n, am_nl_i, am_nl_r, am_nl_e, am_nl_n, Option.toList_some, Option.toList_none, List.cons_append, List.nil_append, List.getElem?_cons_zero, List.getElem?_cons_succ, List.length_cons, List.length_nil, List.set_cons_zero, List.set_cons_succ, am_w_l0, if_true, ed]
      simp
    · obtain ⟨h', w', l', f'⟩ := X3_layOnTop_w (b := b) l (fun x hx => by have := wf.1 x hx; omega) (by omega) q2 (pl_few wf.2.1 wf.1 q1 q2 h6)
      have ed : pl_do nb ns fr la ce ki wi L 2 b = some (L.1 ++ [b], L.2) := by rw [pl_do, if_pos ⟨q1, q2⟩]
      refine ⟨h', fun E K => ?_, by rw [ed]; exact l', f'.wide (by omega) (by omega)⟩
      simp only [e1_0, e1_1, eq_self, am_k1_t, am_bd_s, am_bd_n, am_nl_i, am_nl_r, am_nl_e, am_nl_n, Option.toList_some, Option.toList_none, List.cons_append, List.nil_append, List.getElem?_cons_zero, List.getElem?_cons_succ, List.length_cons, List.length_nil, List.set_cons_zero, List.set_cons_succ, am_w_l2, show ¬ ((2 : Int) = 0) by decide, show ¬ ((2 : Int) = 1) by decide, if_false, if_true, e1_83, e1_84, e1_87, e1_88, am_fd_of lf.2.2.1, am_oc_of lf.1.1, hw, pl_b, if_pos c1]
      simp only [e1_91, e1_94, e1_95, e1_96, eq_self, am_k1_t, am_bd_s, am_bd_n, am_nl_i, am_nl_r, am_nl_e, am_nl_n, Option.toList_some, Option.toList_none, List.cons_append, List.nil_append, List.getElem?_cons_zero, List.getElem?_cons_succ, List.length_cons, List.length_nil, List.set_cons_zero, List.set_cons_succ, am_w_l1, show ¬ ((1 : Int) = 0) by decide, if_false, am_oc_of lo.1, w']
      simp only [e1_99, e1_102, e1_103, e1_106, e1_107, eq_self, am_k1_t, am_bd_s, am_bd_n, am_nl_i, am_nl_r, am_nl_e, am_nl_n, Option.toList_some, Option.toList_none, List.cons_append, List.nil_append, List.getElem?_cons_zero, List.getElem?_cons_succ, List.length_cons, List.length_nil, List.set_cons_zero, List.set_cons_succ, am_w_l1, show ¬ ((1 : Int) = 0) by decide, if_false, ed]
      simp
  · have c1 : ¬ (0 ≤ (b : Int) ∧ (b : Int) < (nb : Int)) := by omega
    have ed : pl_do nb ns fr la ce ki wi L 2 b = none := by rw [pl_do, if_neg (fun z => q1 z.1)]
    refine ⟨h, fun E K => ?_, by rw [ed]; exact l, Fr.rf⟩
    simp only [e1_0, e1_1, eq_self, am_k1_t, am_bd_s, am_bd_n, am_nl_i, am_nl_r, am_nl_e, am_nl_n, Option.toList_some, Option.toList_none, List.cons_append, List.nil_append, List.getElem?_cons_zero, List.getElem?_cons_succ, List.length_cons, List.length_nil, List.set_cons_zero, List.set_cons_succ, am_w_l2, show ¬ ((2 : Int) = 0) by decide, show ¬ ((2 : Int) = 1) by decide, if_false, if_true, e1_83, e1_84, e1_87, e1_88, am_fd_of lf.2.2.1, am_oc_of lf.1.1, hw, pl_b, if_neg c1]
    simp only [e1_91, e1_94, e1_95, e1_96, e1_99, e1_102, e1_103, e1_106, e1_107, eq_self, am_k1_t, am_bd_s, am_bd_n, am_nl_i, am_nl_r, am_nl_e, am_nl_n, Option.toList_some, Option.toList_none, List.cons_append, List.nil_append, List.getElem?_cons_zero, List.getElem?_cons_succ, List.length_cons, List.length_nil, List.set_cons_zero, List.set_cons_succ, am_w_l0, if_true, ed]
    simp
theorem X0_perform_3 {b : Nat} (l : LayL h r L) (lf : Fix h nb ns fr la ce ki wi tm) (wf : WfL nb ns wi L) (hb : b ≤ 9) (hr : 12 ≤ r) : ∃ h', (∀ E K, Wp E 1 0 [some (am_r (some 11)), some (am_r (some r)), some (am_i 3), some (am_i (b : Int))] [] h K = K (some (am_i (pl_b ((pl_do nb ns fr la ce ki wi L 3 b).isSome = true)))) h') ∧ LayL h' r ((pl_do nb ns fr la ce ki wi L 3 b).getD L) ∧ Fr h h' r 4 := by
  have h6 : nb ≤ 6 := lf.1.2.2.2.2.2.2.2.2.2.2.2.1
  have hw := fun E K => X4_hasBlanket_w (E := E) (K := K) (x := (b : Int)) lf.1
  have eb : am_w (b : Int) = (b : Int) := am_w_nat (by omega)
  simp only [eb] at hw
  have lo := LayC.obj l
  by_cases q1 : b < nb
  · have c1 : (0 ≤ (b : Int) ∧ (b : Int) < (nb : Int)) := by omega
    by_cases q2 : b ∈ L.1
    · have ed : pl_do nb ns fr la ce ki wi L 3 b = none := by rw [pl_do, if_neg (fun z => z.2 q2)]
      have tw := fun E K => X3_tuckUnder_no (E := E) (K := K) (b := b) l (fun x hx => by have := wf.1 x hx; omega) (by omega) q2
      refine ⟨h, fun E K => ?_, by rw [ed]; exact l, Fr.rf⟩
      simp only [e1_0, e1_1, eq_self, am_k1_t, am_bd_s, am_bd_n, am_nl_i, am_nl_r, am_nl_e, am_nl_n, Option.toList_some, Option.toList_none, List.cons_append, List.nil_append, List.getElem?_cons_zero, List.getElem?_cons_succ, List.length_cons, List.length_nil, List.set_cons_zero, List.set_cons_succ, am_w_l3, show ¬ ((3 : Int) = 0) by decide, show ¬ ((3 : Int) = 1) by decide, show ¬ ((3 : Int) = 2) by decide, if_false, if_true, e1_108, e1_109, e1_112, e1_113, am_fd_of lf.2.2.1, am_oc_of lf.1.1, hw, pl_b, if_pos c1]
      simp only [e1_116, e1_119, e1_120, e1_121, eq_self, am_k1_t, am_bd_s, am_bd_n, am_nl_i, am_nl_r, am_nl_e, am_nl_n, Option.toList_some, Option.toList_none, List.cons_append, List.nil_append, List.getElem?_cons_zero, List.getElem?_cons_succ, List.length_cons, List.length_nil, List.set_cons_zero, List.set_cons_succ, am_w_l1, show ¬ ((1 : Int) = 0) by decide, if_false, am_oc_of lo.1, tw]
      simp only [e1_124, e1_127, e1_128, e1_131, e1_132, eq_self, am_k1_t, am_bd_s, am_bd_n, am_nl_i, am_nl_r, am_nl_e, am_nl_n, Option.toList_some, Option.toList_none, List.cons_append, List.nil_append, List.getElem?_cons_zero, List.getElem?_cons_succ, List.length_cons, List.length_nil, List.set_cons_zero, List.set_cons_succ, am_w_l0, if_true, ed]
      simp
    · obtain ⟨h', w', l', f'⟩ := X3_tuckUnder_w (b := b) l (fun x hx => by have := wf.1 x hx; omega) (by omega) q2 (pl_few wf.2.1 wf.1 q1 q2 h6)
      have ed : pl_do nb ns fr la ce ki wi L 3 b = some (b :: L.1, L.2) := by rw [pl_do, if_pos ⟨q1, q2⟩]
      refine ⟨h', fun E K => ?_, by rw [ed]; exact l', f'.wide (by omega) (by omega)⟩
      simp only [e1_0, e1_1, eq_self, am_k1_t, am_bd_s, am_bd_n, am_nl_i, am_nl_r, am_nl_e, am_nl_n, Option.toList_some, Option.toList_none, List.cons_append, List.nil_append, List.getElem?_cons_zero, List.getElem?_cons_succ, List.length_cons, List.length_nil, List.set_cons_zero, List.set_cons_succ, am_w_l3, show ¬ ((3 : Int) = 0) by decide, show ¬ ((3 : Int) = 1) by decide, show ¬ ((3 : Int) = 2) by decide, if_false, if_true, e1_108, e1_109, e1_112, e1_113, am_fd_of lf.2.2.1, am_oc_of lf.1.1, hw, pl_b, if_pos c1]
      simp only [e1_116, e1_119, e1_120, e1_121, eq_self, am_k1_t, am_bd_s, am_bd_n, am_nl_i, am_nl_r, am_nl_e, am_nl_n, Option.toList_some, Option.toList_none, List.cons_append, List.nil_append, List.getElem?_cons_zero, List.getElem?_cons_succ, List.length_cons, List.length_nil, List.set_cons_zero, List.set_cons_succ, am_w_l1, show ¬ ((1 : Int) = 0) by decide, if_false, am_oc_of lo.1, w']
      simp only [e1_124, e1_127, e1_128, e1_131, e1_132, eq_self, am_k1_t, am_bd_s, am_bd_n, am_nl_i, am_nl_r, am_nl_e, am_nl_n, Option.toList_some, Option.toList_none, List.cons_append, List.nil_append, List.getElem?_cons_zero, List.getElem?_cons_succ, List.length_cons, List.length_nil, List.set_cons_zero, List.set_cons_succ, am_w_l1, show ¬ ((1 : Int) = 0) by decide, if_false, ed]
      simp
  · have c1 : ¬ (0 ≤ (b : Int) ∧ (b : Int) < (nb : Int)) := by omega
    have ed : pl_do nb ns fr la ce ki wi L 3 b = none := by rw [pl_do, if_neg (fun z => q1 z.1)]
    refine ⟨h, fun E K => ?_, by rw [ed]; exact l, Fr.rf⟩
    simp only [e1_0, e1_1, eq_self, am_k1_t, am_bd_s, am_bd_n, am_nl_i, am_nl_r, am_nl_e, am_nl_n, Option.toList_some, Option.toList_none, List.cons_append, List.nil_append, List.getElem?_cons_zero, List.getElem?_cons_succ, List.length_cons, List.length_nil, List.set_cons_zero, List.set_cons_succ, am_w_l3, show ¬ ((3 : Int) = 0) by decide, show ¬ ((3 : Int) = 1) by decide, show ¬ ((3 : Int) = 2) by decide, if_false, if_true, e1_108, e1_109, e1_112, e1_113, am_fd_of lf.2.2.1, am_oc_of lf.1.1, hw, pl_b, if_neg c1]
    simp only [e1_116, e1_119, e1_120, e1_121, e1_124, e1_127, e1_128, e1_131, e1_132, eq_self, am_k1_t, am_bd_s, am_bd_n, am_nl_i, am_nl_r, am_nl_e, am_nl_n, Option.toList_some, Option.toList_none, List.cons_append, List.nil_append, List.getElem?_cons_zero, List.getElem?_cons_succ, List.length_cons, List.length_nil, List.set_cons_zero, List.set_cons_succ, am_w_l0, if_true, ed]
    simp
theorem X0_perform_4 {b : Nat} (l : LayL h r L) (lf : Fix h nb ns fr la ce ki wi tm) (wf : WfL nb ns wi L) (hb : b ≤ 9) (hr : 12 ≤ r) : ∃ h', (∀ E K, Wp E 1 0 [some (am_r (some 11)), some (am_r (some r)), some (am_i 4), some (am_i (b : Int))] [] h K = K (some (am_i (pl_b ((pl_do nb ns fr la ce ki wi L 4 b).isSome = true)))) h') ∧ LayL h' r ((pl_do nb ns fr la ce ki wi L 4 b).getD L) ∧ Fr h h' r 4 := by
  have h3 : ns ≤ 3 := lf.1.2.2.2.2.2.2.2.2.2.2.2.2
  have hw := fun E K => X4_hasSleeper_w (E := E) (K := K) (x := (b : Int)) lf.1
  have eb : am_w (b : Int) = (b : Int) := am_w_nat (by omega)
  simp only [eb] at hw
  have lo := LayC.obj l
  have ll := LayC.lens l
  by_cases q1 : b < ns
  · have c1 : (0 ≤ (b : Int) ∧ (b : Int) < (ns : Int)) := by omega
    obtain ⟨x1, x2⟩ := wf.2.2 b q1
    obtain ⟨y1, y2⟩ := lf.2.2.2.2.2.2 b q1
    obtain ⟨h', w', l', f'⟩ := X0_moveTo_f (s := b) (f := L.2.1.getD b 0 + 1) l lf wf q1 (by omega) (by omega) hr
    have ed : pl_do nb ns fr la ce ki wi L 4 b = if pl_may ns wi L.2.1 b (L.2.1.getD b 0 + 1) = true then some (L.1, L.2.1.set b (L.2.1.getD b 0 + 1), L.2.2) else none := by
      rw [pl_do]
      simp only [q1, true_and]
    refine ⟨h', fun E K => ?_, ?_, f'⟩
    · simp only [e1_0, e1_1, eq_self, am_k1_t, am_bd_s, am_bd_n, am_nl_i, am_nl_r, am_nl_e, am_nl_n, Option.toList_some, Option.toList_none, List.cons_append, List.nil_append, List.getElem?_cons_zero, List.getElem?_cons_succ, List.length_cons, List.length_nil, List.set_cons_zero, List.set_cons_succ, am_w_l4, show ¬ ((4 : Int) = 0) by decide, show ¬ ((4 : Int) = 1) by decide, show ¬ ((4 : Int) = 2) by decide, show ¬ ((4 : Int) = 3) by decide, if_false, if_true, e1_133, e1_134, e1_137, e1_138, am_fd_of lf.2.2.1, am_oc_of lf.1.1, hw, pl_b, if_pos c1]
      simp only [e1_141, e1_144, e1_145, e1_146, e1_147, e1_148, e1_151, e1_152, e1_153, e1_154, e1_155, eq_self, am_k1_t, am_bd_s, am_bd_n, am_nl_i, am_nl_r, am_nl_e, am_nl_n, Option.toList_some, Option.toList_none, List.cons_append, List.nil_append, List.getElem?_cons_zero, List.getElem?_cons_succ, List.length_cons, List.length_nil, List.set_cons_zero, List.set_cons_succ, am_w_l1, show ¬ ((1 : Int) = 0) by decide, if_false, am_oc_of lf.2.2.1, am_fd_of lo.1, am_ra_of lo.2.1, am_rd_at (am_gv (d := 0) (show b < L.2.1.length by omega)) (by omega), w']
      rw [ed]
      by_cases q3 : pl_may ns wi L.2.1 b (L.2.1.getD b 0 + 1) = true
      · simp only [e1_158, e1_161, e1_162, e1_165, e1_166, eq_self, am_k1_t, am_bd_s, am_bd_n, am_nl_i, am_nl_r, am_nl_e, am_nl_n, Option.toList_some, Option.toList_none, List.cons_append, List.nil_append, List.getElem?_cons_zero, List.getElem?_cons_succ, List.length_cons, List.length_nil, List.set_cons_zero, List.set_cons_succ, pl_b, q3, if_true, am_w_l1, show ¬ ((1 : Int) = 0) by decide, if_false]
        simp
      · simp only [e1_158, e1_161, e1_162, e1_165, e1_166, eq_self, am_k1_t, am_bd_s, am_bd_n, am_nl_i, am_nl_r, am_nl_e, am_nl_n, Option.toList_some, Option.toList_none, List.cons_append, List.nil_append, List.getElem?_cons_zero, List.getElem?_cons_succ, List.length_cons, List.length_nil, List.set_cons_zero, List.set_cons_succ, pl_b, q3, if_false, am_w_l0, if_true]
        simp [am_w_l0]
    · rw [ed]
      by_cases q3 : pl_may ns wi L.2.1 b (L.2.1.getD b 0 + 1) = true
      · rw [if_pos q3] at l' ⊢
        exact l'
      · rw [if_neg q3] at l' ⊢
        exact l'
  · have c1 : ¬ (0 ≤ (b : Int) ∧ (b : Int) < (ns : Int)) := by omega
    have ed : pl_do nb ns fr la ce ki wi L 4 b = none := by rw [pl_do, if_neg (fun z => q1 z.1)]
    refine ⟨h, fun E K => ?_, by rw [ed]; exact l, Fr.rf⟩
    simp only [e1_0, e1_1, eq_self, am_k1_t, am_bd_s, am_bd_n, am_nl_i, am_nl_r, am_nl_e, am_nl_n, Option.toList_some, Option.toList_none, List.cons_append, List.nil_append, List.getElem?_cons_zero, List.getElem?_cons_succ, List.length_cons, List.length_nil, List.set_cons_zero, List.set_cons_succ, am_w_l4, show ¬ ((4 : Int) = 0) by decide, show ¬ ((4 : Int) = 1) by decide, show ¬ ((4 : Int) = 2) by decide, show ¬ ((4 : Int) = 3) by decide, if_false, if_true, e1_133, e1_134, e1_137, e1_138, am_fd_of lf.2.2.1, am_oc_of lf.1.1, hw, pl_b, if_neg c1]
    simp only [e1_141, e1_144, e1_145, e1_146, e1_147, e1_148, e1_151, e1_152, e1_153, e1_154, e1_155, e1_158, e1_161, e1_162, e1_165, e1_166, eq_self, am_k1_t, am_bd_s, am_bd_n, am_nl_i, am_nl_r, am_nl_e, am_nl_n, Option.toList_some, Option.toList_none, List.cons_append, List.nil_append, List.getElem?_cons_zero, List.getElem?_cons_succ, List.length_cons, List.length_nil, List.set_cons_zero, List.set_cons_succ, am_w_l0, if_true, ed]
    simp
theorem X0_perform_5 {b : Nat} (l : LayL h r L) (lf : Fix h nb ns fr la ce ki wi tm) (wf : WfL nb ns wi L) (hb : b ≤ 9) (hr : 12 ≤ r) : ∃ h', (∀ E K, Wp E 1 0 [some (am_r (some 11)), some (am_r (some r)), some (am_i 5), some (am_i (b : Int))] [] h K = K (some (am_i (pl_b ((pl_do nb ns fr la ce ki wi L 5 b).isSome = true)))) h') ∧ LayL h' r ((pl_do nb ns fr la ce ki wi L 5 b).getD L) ∧ Fr h h' r 4 := by
  have h3 : ns ≤ 3 := lf.1.2.2.2.2.2.2.2.2.2.2.2.2
  have hw := fun E K => X4_hasSleeper_w (E := E) (K := K) (x := (b : Int)) lf.1
  have eb : am_w (b : Int) = (b : Int) := am_w_nat (by omega)
  simp only [eb] at hw
  have lo := LayC.obj l
  have ll := LayC.lens l
  by_cases q1 : b < ns
  · have c1 : (0 ≤ (b : Int) ∧ (b : Int) < (ns : Int)) := by omega
    obtain ⟨x1, x2⟩ := wf.2.2 b q1
    obtain ⟨y1, y2⟩ := lf.2.2.2.2.2.2 b q1
    obtain ⟨h', w', l', f'⟩ := X0_moveTo_f (s := b) (f := L.2.1.getD b 0 - 1) l lf wf q1 (by omega) (by omega) hr
    have ed : pl_do nb ns fr la ce ki wi L 5 b = if pl_may ns wi L.2.1 b (L.2.1.getD b 0 - 1) = true then some (L.1, L.2.1.set b (L.2.1.getD b 0 - 1), L.2.2) else none := by
      rw [pl_do]
      simp only [q1, true_and]
    refine ⟨h', fun E K => ?_, ?_, f'⟩
    · simp only [e1_0, e1_1, eq_self, am_k1_t, am_bd_s, am_bd_n, am_nl_i, am_nl_r, am_nl_e, am_nl_n, Option.toList_some, Option.toList_none, List.cons_append, List.nil_append, List.getElem?_cons_zero, List.getElem?_cons_succ, List.length_cons, List.length_nil, List.set_cons_zero, List.set_cons_succ, am_w_l5, show ¬ ((5 : Int) = 0) by decide, show ¬ ((5 : Int) = 1) by decide, show ¬ ((5 : Int) = 2) by decide, show ¬ ((5 : Int) = 3) by decide, show ¬ ((5 : Int) = 4) by decide, if_false, if_true, e1_167, e1_168, e1_171, e1_172, am_fd_of lf.2.2.1, am_oc_of lf.1.1, hw, pl_b, if_pos c1]
      simp only [e1_175, e1_178, e1_179, e1_180, e1_181, e1_182, e1_185, e1_186, e1_187, e1_188, e1_189, eq_self, am_k1_t, am_bd_s, am_bd_n, am_nl_i, am_nl_r, am_nl_e, am_nl_n, Option.toList_some, Option.toList_none, List.cons_append, List.nil_append, List.getElem?_cons_zero, List.getElem?_cons_succ, List.length_cons, List.length_nil, List.set_cons_zero, List.set_cons_succ, am_w_l1, show ¬ ((1 : Int) = 0) by decide, if_false, am_oc_of lf.2.2.1, am_fd_of lo.1, am_ra_of lo.2.1, am_rd_at (am_gv (d := 0) (show b < L.2.1.length by omega)) (by omega), w']
      rw [ed]
      by_cases q3 : pl_may ns wi L.2.1 b (L.2.1.getD b 0 - 1) = true
      · simp only [e1_192, e1_195, e1_196, e1_199, e1_200, eq_self, am_k1_t, am_bd_s, am_bd_n, am_nl_i, am_nl_r, am_nl_e, am_nl_n, Option.toList_some, Option.toList_none, List.cons_append, List.nil_append, List.getElem?_cons_zero, List.getElem?_cons_succ, List.length_cons, List.length_nil, List.set_cons_zero, List.set_cons_succ, pl_b, q3, if_true, am_w_l1, show ¬ ((1 : Int) = 0) by decide, if_false]
        simp
      · simp only [e1_192, e1_195, e1_196, e1_199, e1_200, eq_self, am_k1_t, am_bd_s, am_bd_n, am_nl_i, am_nl_r, am_nl_e, am_nl_n, Option.toList_some, Option.toList_none, List.cons_append, List.nil_append, List.getElem?_cons_zero, List.getElem?_cons_succ, List.length_cons, List.length_nil, List.set_cons_zero, List.set_cons_succ, pl_b, q3, if_false, am_w_l0, if_true]
        simp [am_w_l0]
    · rw [ed]
      by_cases q3 : pl_may ns wi L.2.1 b (L.2.1.getD b 0 - 1) = true
      · rw [if_pos q3] at l' ⊢
        exact l'
      · rw [if_neg q3] at l' ⊢
        exact l'
  · have c1 : ¬ (0 ≤ (b : Int) ∧ (b : Int) < (ns : Int)) := by omega
    have ed : pl_do nb ns fr la ce ki wi L 5 b = none := by rw [pl_do, if_neg (fun z => q1 z.1)]
    refine ⟨h, fun E K => ?_, by rw [ed]; exact l, Fr.rf⟩
    simp only [e1_0, e1_1, eq_self, am_k1_t, am_bd_s, am_bd_n, am_nl_i, am_nl_r, am_nl_e, am_nl_n, Option.toList_some, Option.toList_none, List.cons_append, List.nil_append, List.getElem?_cons_zero, List.getElem?_cons_succ, List.length_cons, List.length_nil, List.set_cons_zero, List.set_cons_succ, am_w_l5, show ¬ ((5 : Int) = 0) by decide, show ¬ ((5 : Int) = 1) by decide, show ¬ ((5 : Int) = 2) by decide, show ¬ ((5 : Int) = 3) by decide, show ¬ ((5 : Int) = 4) by decide, if_false, if_true, e1_167, e1_168, e1_171, e1_172, am_fd_of lf.2.2.1, am_oc_of lf.1.1, hw, pl_b, if_neg c1]
    simp only [e1_175, e1_178, e1_179, e1_180, e1_181, e1_182, e1_185, e1_186, e1_187, e1_188, e1_189, e1_192, e1_195, e1_196, e1_199, e1_200, eq_self, am_k1_t, am_bd_s, am_bd_n, am_nl_i, am_nl_r, am_nl_e, am_nl_n, Option.toList_some, Option.toList_none, List.cons_append, List.nil_append, List.getElem?_cons_zero, List.getElem?_cons_succ, List.length_cons, List.length_nil, List.set_cons_zero, List.set_cons_succ, am_w_l0, if_true, ed]
    simp
end PRF
