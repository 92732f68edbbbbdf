section PR2
variable {E : List (List Int)} {h : am_H} {K : Option am_V → am_H → Prop} {r nb ns : Nat} {L : pl_L} {tm fr la ce ki wi : List Int}
theorem X0_perform_0 {b : Nat} (l : LayL h r L) (lf : Fix h nb ns fr la ce ki wi tm) (wf : WfL nb ns wi L) (hb : b ≤ 9) (hr : 12 ≤ r) : ∃ h' tm', (∀ E K, Wp E 1 0 [some (am_r (some 11)), some (am_r (some r)), some (am_i 0), some (am_i (b : Int))] [] h K = K (some (am_i (pl_b ((pl_do nb ns fr la ce ki wi L 0 b).isSome = true)))) h') ∧ LayL h' r ((pl_do nb ns fr la ce ki wi L 0 b).getD L) ∧ Fix h' nb ns fr la ce ki wi tm' ∧ FrT h h' r 4 := by
  have eb : am_w (b : Int) = (b : Int) := am_w_nat (by omega)
  by_cases q : b = 0
  · obtain ⟨h', w', l', f', r'⟩ := X0_sleepThrough_f l lf wf.1 wf.2.2 hr
    have ed : pl_do nb ns fr la ce ki wi L 0 b = some (L.1, L.2.1, (List.range' 0 ns).foldl (pl_wos fun s => pl_wk fr la ce ki L.1 (L.2.1.getD s 0).toNat (wi.getD s 0).toNat) L.2.2.1, L.2.2.2 + 1) := by rw [pl_do, if_pos q]
    have c1 : (b : Int) = 0 := by omega
    refine ⟨h', _, fun E K => ?_, by rw [ed]; exact l', f', r'⟩
    simp only [e1_0, e1_1, eq_self, am_k1_t, am_bd_s, am_bd_n, am_nl_i, am_nl_r, am_nl_e, am_nl_n, Option.toList_some, Option.toList_none, List.cons_append, List.nil_append, List.getElem?_cons_zero, List.getElem?_cons_succ, List.length_cons, List.length_nil, List.set_cons_zero, List.set_cons_succ, am_w_l0, if_true, e1_40, e1_41, e1_44, e1_45, e1_46, eb, if_pos c1, am_oc_of lf.2.2.1, w']
    simp only [e1_49, e1_52, e1_53, e1_56, e1_57, eq_self, am_k1_t, am_bd_s, am_bd_n, am_nl_i, am_nl_r, am_nl_e, am_nl_n, Option.toList_some, Option.toList_none, List.cons_append, List.nil_append, List.getElem?_cons_zero, List.getElem?_cons_succ, List.length_cons, List.length_nil, List.set_cons_zero, List.set_cons_succ, am_w_l1, show ¬ ((1 : Int) = 0) by decide, if_false, ed, pl_b]
    simp
  · have ed : pl_do nb ns fr la ce ki wi L 0 b = none := by rw [pl_do, if_neg q]
    have c1 : ¬ (b : Int) = 0 := by omega
    refine ⟨h, tm, fun E K => ?_, by rw [ed]; exact l, lf, FrT.rf⟩
    simp only [e1_0, e1_1, eq_self, am_k1_t, am_bd_s, am_bd_n, am_nl_i, am_nl_r, am_nl_e, am_nl_n, Option.toList_some, Option.toList_none, List.cons_append, List.nil_append, List.getElem?_cons_zero, List.getElem?_cons_succ, List.length_cons, List.length_nil, List.set_cons_zero, List.set_cons_succ, am_w_l0, if_true, e1_40, e1_41, e1_44, e1_45, e1_46, e1_49, e1_52, e1_53, e1_56, e1_57, eb, if_neg c1, ed, pl_b]
    simp
theorem X0_perform_f {k b : Nat} (l : LayL h r L) (lf : Fix h nb ns fr la ce ki wi tm) (wf : WfL nb ns wi L) (hk : k ≤ 9) (hb : b ≤ 9) (hr : 12 ≤ r) : ∃ h' tm', (∀ E K, Wp E 1 0 [some (am_r (some 11)), some (am_r (some r)), some (am_i (k : Int)), some (am_i (b : Int))] [] h K = K (some (am_i (pl_b ((pl_do nb ns fr la ce ki wi L k b).isSome = true)))) h') ∧ LayL h' r ((pl_do nb ns fr la ce ki wi L k b).getD L) ∧ Fix h' nb ns fr la ce ki wi tm' ∧ FrT h h' r 4 := by
  match k, hk with
  | 0, _ => exact X0_perform_0 l lf wf hb hr
  | 1, _ =>
    obtain ⟨h', w', l', f'⟩ := X0_perform_1 (b := b) l lf wf hb hr
    exact ⟨h', tm, w', l', lf.fr f' hr, f'.T⟩
  | 2, _ =>
    obtain ⟨h', w', l', f'⟩ := X0_perform_2 (b := b) l lf wf hb hr
    exact ⟨h', tm, w', l', lf.fr f' hr, f'.T⟩
  | 3, _ =>
    obtain ⟨h', w', l', f'⟩ := X0_perform_3 (b := b) l lf wf hb hr
    exact ⟨h', tm, w', l', lf.fr f' hr, f'.T⟩
  | 4, _ =>
    obtain ⟨h', w', l', f'⟩ := X0_perform_4 (b := b) l lf wf hb hr
    exact ⟨h', tm, w', l', lf.fr f' hr, f'.T⟩
  | 5, _ =>
    obtain ⟨h', w', l', f'⟩ := X0_perform_5 (b := b) l lf wf hb hr
    exact ⟨h', tm, w', l', lf.fr f' hr, f'.T⟩
  | k + 6, hk =>
    have ed : pl_do nb ns fr la ce ki wi L (k + 6) b = none := by rw [pl_do] <;> omega
    have ek : am_w ((k + 6 : Nat) : Int) = ((k + 6 : Nat) : Int) := am_w_nat (by omega)
    refine ⟨h, tm, fun E K => ?_, by rw [ed]; exact l, lf, FrT.rf⟩
    simp only [e1_0, e1_1, ek, if_neg (show ¬ (((k + 6 : Nat) : Int) = 0) by omega), if_neg (show ¬ (((k + 6 : Nat) : Int) = 1) by omega), if_neg (show ¬ (((k + 6 : Nat) : Int) = 2) by omega), if_neg (show ¬ (((k + 6 : Nat) : Int) = 3) by omega), if_neg (show ¬ (((k + 6 : Nat) : Int) = 4) by omega), if_neg (show ¬ (((k + 6 : Nat) : Int) = 5) by omega), e1_201, e1_202, ed, pl_b]
    simp
/-- an act keeps a layout one that can be -/
theorem pl_do_wf {L' : pl_L} {k b : Nat} (lA : L.2.1.length = 3) (h3 : ns ≤ 3) (wf : WfL nb ns wi L) (e : pl_do nb ns fr la ce ki wi L k b = some L') : WfL nb ns wi L' := by
  have hset : ∀ f : Int, pl_may ns wi L.2.1 b f = true → b < ns → AtOk ns wi (L.2.1.set b f) := by
    intro f hm hb s hs
    by_cases q : b = s
    · subst q
      have h1 : (L.2.1.set b f).getD b 0 = f := by simp [List.getD_eq_getElem?_getD, show b < L.2.1.length by omega]
      have h2 : 0 ≤ f ∧ f + wi.getD b 0 ≤ 6 := by
        have h4 : decide (0 ≤ f ∧ f + wi.getD b 0 ≤ 6) = true := by
          rw [pl_may, Bool.and_eq_true] at hm
          exact hm.1
        exact of_decide_eq_true h4
      rw [h1]
      exact h2
    · have h1 : (L.2.1.set b f).getD s 0 = L.2.1.getD s 0 := by simp [List.getD_eq_getElem?_getD, List.getElem?_set_ne q]
      rw [h1]
      exact wf.2.2 s hs
  match k, e with
  | 0, e =>
    rw [pl_do] at e
    split at e
    · cases e; exact wf
    · cases e
  | 1, e =>
    rw [pl_do] at e
    split at e
    · cases e; exact ⟨fun x hx => wf.1 x (List.mem_of_mem_erase hx), wf.2.1.erase b, wf.2.2⟩
    · cases e
  | 2, e =>
    rw [pl_do] at e
    split at e
    · rename_i q
      cases e
      refine ⟨fun x hx => ?_, ?_, wf.2.2⟩
      · rcases List.mem_append.mp hx with z | z
        · exact wf.1 x z
        · rw [List.mem_singleton.mp z]; exact q.1
      · exact List.nodup_append.mpr ⟨wf.2.1, by simp, fun x hx y hy e => q.2 (by rw [← List.mem_singleton.mp hy, ← e]; exact hx)⟩
    · cases e
  | 3, e =>
    rw [pl_do] at e
    split at e
    · rename_i q
      cases e
      refine ⟨fun x hx => ?_, List.nodup_cons.mpr ⟨q.2, wf.2.1⟩, wf.2.2⟩
      rcases List.mem_cons.mp hx with z | z
      · rw [z]; exact q.1
      · exact wf.1 x z
    · cases e
  | 4, e =>
    rw [pl_do] at e
    split at e
    · rename_i q
      cases e
      exact ⟨wf.1, wf.2.1, hset _ q.2 q.1⟩
    · cases e
  | 5, e =>
    rw [pl_do] at e
    split at e
    · rename_i q
      cases e
      exact ⟨wf.1, wf.2.1, hset _ q.2 q.1⟩
    · cases e
  | k + 6, e =>
    have ed : pl_do nb ns fr la ce ki wi L (k + 6) b = none := by rw [pl_do] <;> omega
    rw [ed] at e
    cases e
end PR2
