/-- what lies at its fixed places in the class and no act changes: Parts at 3, Cells at 9, Acts at 11 -/
def Fix (h : am_H) (nb ns : Nat) (fr la ce ki wi tm : List Int) : Prop := PartsC h 3 nb ns fr la ce ki wi ∧ CellsC h 9 3 tm ∧ h[11]? = some (am_o 0 [am_r (some 3), am_r (some 9)]) ∧ PVal nb fr la ce ki ∧ (∀ v ∈ tm, 0 ≤ v ∧ v ≤ 10) ∧ (∀ y < 6, am_w (ki.getD y 0) = ki.getD y 0) ∧ (∀ s < ns, 1 ≤ wi.getD s 0 ∧ wi.getD s 0 ≤ 3)
/-- sleepers lie on cells -/
def AtOk (ns : Nat) (wi A : List Int) : Prop := ∀ s < ns, 0 ≤ A.getD s 0 ∧ A.getD s 0 + wi.getD s 0 ≤ 6
def pl_wk (fr la ce ki : List Int) (B : List Nat) (f w : Nat) : Int := pl_cm (((pl_tms fr la ce ki B).drop f).take w)
theorem pl_f0 (B : List Nat) : (B.filter fun b => !Nat.testBit 0 b) = B := by
  apply List.filter_eq_self.mpr
  intro x _
  simp
theorem pl_tms_v {nb : Nat} {fr la ce ki : List Int} (pv : PVal nb fr la ce ki) {B : List Nat} (hB : ∀ x ∈ B, x < nb) : ∀ v ∈ pl_tms fr la ce ki B, 0 ≤ v ∧ v ≤ 10 := by
  intro v hv
  obtain ⟨c, hc, rfl⟩ := List.mem_map.mp hv
  exact pl_tm_rng pv hB (List.mem_range.mp hc)
theorem Fix.fr {h h' : am_H} {q n nb ns : Nat} {fr la ce ki wi tm : List Int} (l : Fix h nb ns fr la ce ki wi tm) (f : Fr h h' q n) (d : 12 ≤ q) : Fix h' nb ns fr la ce ki wi tm :=
  ⟨l.1.fr f (by omega), l.2.1.fr f (by omega), by rw [f.2 _ (by omega)]; exact l.2.2.1, l.2.2.2⟩
theorem Fix.tm {h h' : am_H} {nb ns : Nat} {fr la ce ki wi tm tm' : List Int} (l : Fix h nb ns fr la ce ki wi tm) (f : Fr h h' 10 1) (e : h'[10]? = some (am_a 0 tm')) (e6 : tm'.length = 6) (hv : ∀ v ∈ tm', 0 ≤ v ∧ v ≤ 10) : Fix h' nb ns fr la ce ki wi tm' :=
  ⟨l.1.fr f (by omega), ⟨by rw [f.2 _ (by omega)]; exact l.2.1.1, e, e6⟩, by rw [f.2 _ (by omega)]; exact l.2.2.1, l.2.2.2.1, hv, l.2.2.2.2.2⟩
section CE2
variable {E : List (List Int)} {h : am_H} {K : Option am_V → am_H → Prop} {r nb ns m : Nat} {B : List Nat} {A Wo tm fr la ce ki wi : List Int} {ni : Int}
theorem X1_timeOf_f {c : Nat} (l : LayC h r B A Wo ni) (lf : Fix h nb ns fr la ce ki wi tm) (hB : ∀ x ∈ B, x < nb) (hm : m < 64) (hc : c < 6) : Wp E 5 0 [some (am_r (some 9)), some (am_r (some r)), some (am_i (m : Int)), some (am_i (c : Int)), none, none, none, none] [] h K = K (some (am_i (pl_tm fr la ce ki (B.filter fun b => !m.testBit b) c))) h :=
  X1_timeOf_w l lf.1 lf.2.1 lf.2.2.2.1 hB hm hc lf.2.2.2.2.2.1
/-- reckon, at its fixed place -/
theorem X1_reckon_f (l : LayC h r B A Wo ni) (lf : Fix h nb ns fr la ce ki wi tm) (hB : ∀ x ∈ B, x < nb) (hm : m < 64) (hr : 12 ≤ r) : ∃ h', (∀ E K, Wp E 6 0 [some (am_r (some 9)), some (am_r (some r)), some (am_i (m : Int)), none] [] h K = K none h') ∧ Fix h' nb ns fr la ce ki wi (pl_tms fr la ce ki (B.filter fun b => !m.testBit b)) ∧ Fr h h' 10 1 := by
  have fx : Fr h (h.set 10 (am_a 0 (pl_tms fr la ce ki (B.filter fun b => !m.testBit b)))) 10 1 := Fr.rf.set (by omega) (by omega)
  exact ⟨_, fun E K => X1_reckon_w l lf.1 lf.2.1 lf.2.2.2.1 hB hm lf.2.2.2.2.2.1 (by omega) (by omega), lf.tm fx (am_set_at lf.2.1.2.1) (by simp [pl_tms]) (pl_tms_v lf.2.2.2.1 (fun x hx => hB x (List.mem_filter.mp hx).1)), fx⟩
theorem X1_wakesAsReckoned_f {s : Nat} (l : LayC h r B A Wo ni) (lf : Fix h nb ns fr la ce ki wi tm) (ha : AtOk ns wi A) (hs : s < ns) : Wp E 9 0 [some (am_r (some 9)), some (am_r (some r)), some (am_i (s : Int))] [] h K = K (some (am_i (pl_cm ((tm.drop (A.getD s 0).toNat).take (wi.getD s 0).toNat)))) h := by
  have h3 : ns ≤ 3 := lf.1.2.2.2.2.2.2.2.2.2.2.2.2
  have lA : A.length = 3 := by obtain ⟨g, a0, a1, a2, a3, a4, a5, a6⟩ := l; exact a5
  have lw : wi.length = 3 := lf.1.2.2.2.2.2.2.2.2.2.2.1
  obtain ⟨x1, x2⟩ := ha s hs
  obtain ⟨y1, y2⟩ := lf.2.2.2.2.2.2 s hs
  refine X1_wakesAsReckoned_w (s := s) l lf.1 lf.2.1 (by omega) ?_ ?_ (by omega) (by omega) (fun v hv => ?_)
  · rw [am_gv (d := 0) (by omega)]; congr 1; omega
  · rw [am_gv (d := 0) (by omega)]; congr 1; omega
  · obtain ⟨v1, v2⟩ := lf.2.2.2.2.1 v hv
    exact am_w_id (by omega) (by omega)
/-- all wakings of now, added up -/
def pl_tog (fr la ce ki : List Int) (B : List Nat) (A wi : List Int) (l : List Nat) (y : Int) : Int := l.foldl (fun a s => a + pl_wk fr la ce ki B (A.getD s 0).toNat (wi.getD s 0).toNat) y
theorem X1_wakingsTogether_l (l : LayC h r B A Wo ni) (lf : Fix h nb ns fr la ce ki wi (pl_tms fr la ce ki B)) (ha : AtOk ns wi A) :
    ∀ (n s : Nat) (y : Int), s + n = ns → Wp E 10 10 [some (am_r (some 9)), some (am_r (some r)), some (am_i y), some (am_i (s : Int))] [] h K = K (some (am_i (pl_tog fr la ce ki B A wi (List.range' s n) y))) h
  | 0, s, y, e => by
    have h3 : ns ≤ 3 := lf.1.2.2.2.2.2.2.2.2.2.2.2.2
    have k1 : ¬ am_w (s : Int) < am_w (ns : Int) := by rw [am_w_nat (by omega), am_w_nat (by omega)]; omega
    rw [e10_10]
    simp only [e10_11, e10_12, e10_15, e10_18, e10_21, e10_22, e10_23, e10_24, e10_25, e10_28, e10_29, e10_30, e10_33, e10_36, e10_37, eq_self, am_k1_t, am_bd_s, am_bd_n, am_nl_i, am_nl_r, am_nl_e, am_nl_n, Option.toList_some, Option.toList_none, List.cons_append, List.nil_append, List.getElem?_cons_zero, List.getElem?_cons_succ, List.length_cons, List.length_nil, List.set_cons_zero, List.set_cons_succ, am_fd_of lf.2.1.1, am_fd_of lf.1.1, if_neg k1, pl_tog, List.range'_zero, List.foldl_nil]
  | n + 1, s, y, e => by
    have h3 : ns ≤ 3 := lf.1.2.2.2.2.2.2.2.2.2.2.2.2
    have k1 : am_w (s : Int) < am_w (ns : Int) := by rw [am_w_nat (by omega), am_w_nat (by omega)]; omega
    have ih := X1_wakingsTogether_l l lf ha n (s + 1) (y + pl_wk fr la ce ki B (A.getD s 0).toNat (wi.getD s 0).toNat) (by omega)
    have ww := fun E K => X1_wakesAsReckoned_f (E := E) (K := K) l lf ha (show s < ns by omega)
    rw [e10_10]
    simp only [e10_11, e10_12, e10_15, e10_18, e10_21, e10_22, e10_23, e10_24, e10_25, eq_self, am_k1_t, am_bd_s, am_bd_n, am_nl_i, am_nl_r, am_nl_e, am_nl_n, Option.toList_some, Option.toList_none, List.cons_append, List.nil_append, List.getElem?_cons_zero, List.getElem?_cons_succ, List.length_cons, List.length_nil, List.set_cons_zero, List.set_cons_succ, am_fd_of lf.2.1.1, am_fd_of lf.1.1, if_pos k1, am_oc_of lf.2.1.1, ww]
    simp only [e10_28, e10_29, e10_30, e10_33, eq_self, am_k1_t, am_bd_s, am_bd_n, am_nl_i, am_nl_r, am_nl_e, am_nl_n, Option.toList_some, Option.toList_none, List.cons_append, List.nil_append, List.getElem?_cons_zero, List.getElem?_cons_succ, List.length_cons, List.length_nil, List.set_cons_zero, List.set_cons_succ]
    exact ih
theorem X1_wakingsTogether_f (l : LayC h r B A Wo ni) (lf : Fix h nb ns fr la ce ki wi tm) (hB : ∀ x ∈ B, x < nb) (ha : AtOk ns wi A) (hr : 12 ≤ r) : ∃ h', (∀ E K, Wp E 10 0 [some (am_r (some 9)), some (am_r (some r)), none, none] [] h K = K (some (am_i (pl_tog fr la ce ki B A wi (List.range' 0 ns) 0))) h') ∧ Fix h' nb ns fr la ce ki wi (pl_tms fr la ce ki B) ∧ Fr h h' 10 1 := by
  obtain ⟨h', w', f', r'⟩ := X1_reckon_f (m := 0) l lf hB (by omega) hr
  rw [pl_f0] at f'
  refine ⟨h', fun E K => ?_, f', r'⟩
  have e0 : ((0 : Nat) : Int) = 0 := rfl
  rw [e0] at w'
  simp only [e10_0, e10_1, e10_2, e10_3, eq_self, am_k1_t, am_bd_s, am_bd_n, am_nl_i, am_nl_r, am_nl_e, am_nl_n, Option.toList_some, Option.toList_none, List.cons_append, List.nil_append, List.getElem?_cons_zero, List.getElem?_cons_succ, List.length_cons, List.length_nil, List.set_cons_zero, List.set_cons_succ, am_oc_of lf.2.1.1, w']
  simp only [e10_6, e10_7, e10_8, e10_9, eq_self, am_k1_t, am_bd_s, am_bd_n, am_nl_i, am_nl_r, am_nl_e, am_nl_n, Option.toList_some, Option.toList_none, List.cons_append, List.nil_append, List.getElem?_cons_zero, List.getElem?_cons_succ, List.length_cons, List.length_nil, List.set_cons_zero, List.set_cons_succ]
  exact X1_wakingsTogether_l (l.fr r' (by omega)) f' ha ns 0 0 (by omega)
def pl_mbs (fr la ce ki : List Int) (B : List Nat) (a : Int) (c : Nat) : Int := if pl_tm fr la ce ki B c = 10 then am_or a (am_shl 1 (c : Int)) else a
theorem X1_modernBits_l (l : LayC h r B A Wo ni) (lf : Fix h nb ns fr la ce ki wi tm) (hB : ∀ x ∈ B, x < nb) :
    ∀ (n c : Nat) (y : Int), c + n = 6 → Wp E 11 4 [some (am_r (some 9)), some (am_r (some r)), some (am_i y), some (am_i (c : Int))] [] h K = K (some (am_i ((List.range' c n).foldl (pl_mbs fr la ce ki B) y))) h
  | 0, c, y, e => by
    have k1 : ¬ am_w (c : Int) < am_w 6 := by rw [am_w_nat (by omega), am_w_l6]; omega
    rw [e11_4]
    simp only [e11_5, e11_7, e11_10, e11_11, e11_12, e11_13, e11_14, e11_17, e11_19, e11_22, e11_23, e11_24, e11_25, e11_26, e11_27, e11_28, e11_31, e11_34, e11_35, if_neg k1, List.range'_zero, List.foldl_nil]
  | n + 1, c, y, e => by
    have k1 : am_w (c : Int) < am_w 6 := by rw [am_w_nat (by omega), am_w_l6]; omega
    have ih := X1_modernBits_l l lf hB n (c + 1) (pl_mbs fr la ce ki B y c) (by omega)
    have tw := fun E K => X1_timeOf_f (E := E) (K := K) (m := 0) l lf hB (by omega) (show c < 6 by omega)
    have e0 : ((0 : Nat) : Int) = 0 := rfl
    simp only [pl_f0, e0] at tw
    have tr := pl_tm_rng lf.2.2.2.1 hB (show c < 6 by omega)
    have ew : am_w (pl_tm fr la ce ki B c) = pl_tm fr la ce ki B c := am_w_id (by omega) (by omega)
    rw [e11_4]
    simp only [e11_5, e11_7, e11_10, e11_11, e11_12, e11_13, e11_14, eq_self, am_k1_t, am_bd_s, am_bd_n, am_nl_i, am_nl_r, am_nl_e, am_nl_n, Option.toList_some, Option.toList_none, List.cons_append, List.nil_append, List.getElem?_cons_zero, List.getElem?_cons_succ, List.length_cons, List.length_nil, List.set_cons_zero, List.set_cons_succ, if_pos k1, am_oc_of lf.2.1.1, tw]
    simp only [e11_17, e11_19, e11_22, e11_23, e11_24, e11_25, e11_26, e11_27, e11_28, e11_31, eq_self, am_k1_t, am_bd_s, am_bd_n, am_nl_i, am_nl_r, am_nl_e, am_nl_n, Option.toList_some, Option.toList_none, List.cons_append, List.nil_append, List.getElem?_cons_zero, List.getElem?_cons_succ, List.length_cons, List.length_nil, List.set_cons_zero, List.set_cons_succ, ew, am_w_l10]
    rw [List.range'_succ, List.foldl_cons]
    unfold pl_mbs at ih ⊢
    by_cases q : pl_tm fr la ce ki B c = 10
    · rw [if_pos q] at ih ⊢
      rw [if_pos q]
      exact ih
    · rw [if_neg q] at ih ⊢
      rw [if_neg q]
      exact ih
theorem X1_modernBits_f (l : LayC h r B A Wo ni) (lf : Fix h nb ns fr la ce ki wi tm) (hB : ∀ x ∈ B, x < nb) : Wp E 11 0 [some (am_r (some 9)), some (am_r (some r)), none, none] [] h K = K (some (am_i ((List.range' 0 6).foldl (pl_mbs fr la ce ki B) 0))) h := by
  simp only [e11_0, e11_1, e11_2, e11_3, eq_self, am_k1_t, am_bd_s, am_bd_n, am_nl_i, am_nl_r, am_nl_e, am_nl_n, Option.toList_some, Option.toList_none, List.cons_append, List.nil_append, List.getElem?_cons_zero, List.getElem?_cons_succ, List.length_cons, List.length_nil, List.set_cons_zero, List.set_cons_succ]
  exact X1_modernBits_l l lf hB 6 0 0 rfl
/-- how many cells aren't modern -/
def pl_nm (fr la ce ki : List Int) (B : List Nat) (l : List Nat) : Nat := l.countP fun c => decide (pl_tm fr la ce ki B c ≠ 10)
theorem X1_howManyNotModern_l (l : LayC h r B A Wo ni) (lf : Fix h nb ns fr la ce ki wi tm) (hB : ∀ x ∈ B, x < nb) (hm : m < 64) :
    ∀ (n c y : Nat), c + n = 6 → Wp E 12 5 [some (am_r (some 9)), some (am_r (some r)), some (am_i (m : Int)), some (am_i (y : Int)), some (am_i (c : Int))] [] h K = K (some (am_i ((y + pl_nm fr la ce ki (B.filter fun b => !m.testBit b) (List.range' c n) : Nat) : Int))) h
  | 0, c, y, e => by
    have k1 : ¬ am_w (c : Int) < am_w 6 := by rw [am_w_nat (by omega), am_w_l6]; omega
    rw [e12_5]
    simp only [e12_7, e12_9, e12_12, e12_13, e12_14, e12_15, e12_17, e12_20, e12_22, e12_25, e12_28, e12_31, e12_34, e12_35, if_neg k1, pl_nm, List.range'_zero, List.countP_nil, Nat.add_zero]
  | n + 1, c, y, e => by
    have k1 : am_w (c : Int) < am_w 6 := by rw [am_w_nat (by omega), am_w_l6]; omega
    have ih1 := X1_howManyNotModern_l l lf hB hm n (c + 1) (y + 1) (by omega)
    have ih0 := X1_howManyNotModern_l l lf hB hm n (c + 1) y (by omega)
    have tw := fun E K => X1_timeOf_f (E := E) (K := K) (m := m) l lf hB hm (show c < 6 by omega)
    have tr := pl_tm_rng lf.2.2.2.1 (B := B.filter fun b => !m.testBit b) (fun x hx => hB x (List.mem_filter.mp hx).1) (show c < 6 by omega)
    have ew : am_w (pl_tm fr la ce ki (B.filter fun b => !m.testBit b) c) = pl_tm fr la ce ki (B.filter fun b => !m.testBit b) c := am_w_id (by omega) (by omega)
    rw [e12_5]
    simp only [e12_7, e12_9, e12_12, e12_13, e12_14, e12_15, e12_17, eq_self, am_k1_t, am_bd_s, am_bd_n, am_nl_i, am_nl_r, am_nl_e, am_nl_n, Option.toList_some, Option.toList_none, List.cons_append, List.nil_append, List.getElem?_cons_zero, List.getElem?_cons_succ, List.length_cons, List.length_nil, List.set_cons_zero, List.set_cons_succ, if_pos k1, am_oc_of lf.2.1.1, tw]
    simp only [e12_20, e12_22, e12_25, e12_28, e12_31, eq_self, am_k1_t, am_bd_s, am_bd_n, am_nl_i, am_nl_r, am_nl_e, am_nl_n, Option.toList_some, Option.toList_none, List.cons_append, List.nil_append, List.getElem?_cons_zero, List.getElem?_cons_succ, List.length_cons, List.length_nil, List.set_cons_zero, List.set_cons_succ, ew, am_w_l10]
    unfold pl_nm at ih0 ih1 ⊢
    rw [List.range'_succ, List.countP_cons]
    by_cases q : pl_tm fr la ce ki (B.filter fun b => !m.testBit b) c = 10
    · rw [if_pos q, if_neg (by simpa using q)]
      exact ih0
    · rw [if_neg q, if_pos (by simpa using q)]
      refine Eq.trans ih1 ?_
      rw [show y + 1 + (List.range' (c + 1) n).countP (fun c => decide (pl_tm fr la ce ki (B.filter fun b => !m.testBit b) c ≠ 10)) = y + ((List.range' (c + 1) n).countP (fun c => decide (pl_tm fr la ce ki (B.filter fun b => !m.testBit b) c ≠ 10)) + 1) by omega]
theorem X1_howManyNotModern_f (l : LayC h r B A Wo ni) (lf : Fix h nb ns fr la ce ki wi tm) (hB : ∀ x ∈ B, x < nb) (hm : m < 64) : Wp E 12 0 [some (am_r (some 9)), some (am_r (some r)), some (am_i (m : Int)), none, none] [] h K = K (some (am_i (pl_nm fr la ce ki (B.filter fun b => !m.testBit b) (List.range' 0 6) : Int))) h := by
  simp only [e12_0, e12_1, e12_2, e12_3, eq_self, am_k1_t, am_bd_s, am_bd_n, am_nl_i, am_nl_r, am_nl_e, am_nl_n, Option.toList_some, Option.toList_none, List.cons_append, List.nil_append, List.getElem?_cons_zero, List.getElem?_cons_succ, List.length_cons, List.length_nil, List.set_cons_zero, List.set_cons_succ]
  have h1 := X1_howManyNotModern_l (E := E) (K := K) l lf hB hm 6 0 0 rfl
  rw [Nat.zero_add] at h1
  exact h1
end CE2
