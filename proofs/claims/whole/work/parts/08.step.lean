/-! ONE STEP OF THE ABSTRACT MACHINE IS ONE OF THE MACHINE -/
def am_nw (q : Nat × Nat × Nat) : Cond := .methodLinkNest (am_cn q.1) q.2.1 (am_rc q.2.2).1 "CenturyBeds"
/-- what stays as it was at the start -/
def am_St (G : am_G) (E : List (List Int)) (U : State) (H : Heap) : Prop :=
  va_K G.1 vwCl (am_tys G) U ∧ va_Z "CenturyBeds$Chances" "FACTORIALS" "[I" (.ref (G.2.2.2 1)) (am_Ab G) U H ∧ (∀ (x : Nat) (xs : List Int), E[x]? = some xs → va_X (G.2.2.2 x) xs.length (am_ai xs) U H ∧ G.2.2.2 x < H.size ∧ G.2.2.2 x < G.2.2.1) ∧ (∀ q ∈ am_MN, va_Nw (am_nw q) U) ∧ va_AO "CenturyBeds$Layout" U ∧ G.2.2.1 ≤ H.size
theorem am_St.moved {G : am_G} {E : List (List Int)} {u U : State} {H H1 : Heap} {locs : List Loc} (h : am_St G E u H) (hW : u.WarmedH U.vm) (hs : va_S (am_Ab G) H H1 locs) : am_St G E U H1 := by
  obtain ⟨hK, hZ, hX, hN, hO, hB⟩ := h
  have hal := hW.alike
  refine ⟨va_K.moved hal hK, (va_Z.moved hal hZ).kept hs.2.1, fun x xs ex => ?_, fun q hq => va_Nw.warmM hW (hN q hq), va_AO.moved hal hO, Nat.le_trans hB hs.1⟩
  obtain ⟨h1, h2, h3⟩ := hX x xs ex
  exact ⟨(va_X.moved hal h1).kept (hs.2.1 _ h2 (Nat.not_le.mpr h3)), Nat.lt_of_lt_of_le h2 hs.1, h3⟩
theorem am_St.same {G : am_G} {E : List (List Int)} {u U : State} {H : Heap} (h : am_St G E u H) (hvm : u.vm = U.vm) : am_St G E U H := by
  obtain ⟨hK, hZ, hX, hN, hO, hB⟩ := h
  have hal : u.vm.Alike U.vm := by rw [hvm]; exact Vm.Alike.refl U.vm
  exact ⟨va_K.moved hal hK, va_Z.moved hal hZ, fun x xs ex => ⟨va_X.moved hal (hX x xs ex).1, (hX x xs ex).2⟩, fun q hq => va_Nw.same rfl hvm (hN q hq), va_AO.moved hal hO, hB⟩
def am_Cx (p : Program) (R : Room) (s : State) (m : MethodId) (args : Array Value) (meth : Method) (c : Code) (G : am_G) (E : List (List Int)) (k : Nat) : Prop :=
  p.tables.exec = Jvm.exec ∧ c.code = (am_rc k).2.1 ∧ c.maxLocals = am_ml k ∧ s.vm.findClass (am_cn (am_ow k)) = some m.cls ∧ (∀ w ∈ am_gw, w.before args s = true) ∧ am_St G E s s.heap ∧ am_fr k ≤ R.frames ∧ am_lo k ≤ R.locals ∧ ((am_rc k).1.name = "<init>" → meth.name = "<init>")
theorem am_in_of {j : Int} {n : Nat} (h0 : 0 ≤ am_w j) (h1 : (am_w j).toNat < n) : vp_in (Int32.ofInt j) n := by
  rintro (q | q)
  · rw [Int32.lt_iff_toInt_lt] at q
    exact absurd q (Int.not_lt.mpr h0)
  · exact absurd q (Nat.not_le.mpr h1)
theorem am_eq_iff (x y : Int) : Int32.ofInt x = Int32.ofInt y ↔ am_w x = am_w y := by
  rw [← Int32.toInt_inj]
  exact Iff.rfl
theorem am_lt_iff (x y : Int) : Int32.ofInt x < Int32.ofInt y ↔ am_w x < am_w y := Int32.lt_iff_toInt_lt
theorem am_le_iff (x y : Int) : Int32.ofInt x ≤ Int32.ofInt y ↔ am_w x ≤ am_w y := Int32.le_iff_toInt_le
theorem am_w0 : am_w 0 = 0 := by decide
theorem am_jp_at {pc : Nat} {off : Int} {t : Nat} (h : am_jp pc off = some t) : (pc : Int) + off = (t : Int) := by
  unfold am_jp at h
  split at h
  · rename_i h0
    cases h
    exact (Int.toNat_of_nonneg h0).symm
  · cases h
theorem am_get_lt {α : Type} {xs : List α} {n : Nat} {x : α} (h : xs[n]? = some x) : n < xs.length := (List.getElem?_eq_some_iff.mp h).1
theorem am_ai_at {xs : List Int} {n : Nat} {x : Int} (h : xs[n]? = some x) : am_ai xs n = Int32.ofInt x := by
  simp [am_ai, List.getD_eq_getElem?_getD, h]
theorem am_key {E : List (List Int)} {i : am_I} {pc pc' : Nat} {L L' : am_L} {st st' : List am_V} {h h' : am_H} (hs : am_step E i pc L st h = some (pc', L', st', h')) :
    h' = h ∨ (∃ (a : Nat) (y x : am_C), h[a]? = some x ∧ am_cs y = am_cs x ∧ h' = h.set a y) ∨ ∃ x : am_C, h' = h ++ [x] := by
  obtain ⟨ins, len, r1, r2⟩ := i
  cases ins
  case putfield n =>
    simp only [am_step] at hs
    split at hs
    · rename_i v a st0
      obtain ⟨h1, e1, e2⟩ := Option.map_eq_some_iff.mp hs
      cases e2
      unfold am_fs at e1
      split at e1
      · rename_i c' fs he
        split at e1
        · rename_i hc
          cases e1
          exact Or.inr (Or.inl ⟨a, _, _, he, by simp [am_cs], rfl⟩)
        · cases e1
      · cases e1
    · cases hs
  case iastore =>
    simp only [am_step] at hs
    split at hs
    · rename_i x j a st0
      obtain ⟨h1, e1, e2⟩ := Option.map_eq_some_iff.mp hs
      cases e2
      unfold am_is at e1
      split at e1
      · rename_i t' xs he
        split at e1
        · cases e1
          exact Or.inr (Or.inl ⟨a, _, _, he, by simp [am_cs], rfl⟩)
        · cases e1
      · cases e1
    · cases hs
  case bastore =>
    simp only [am_step] at hs
    split at hs
    · rename_i x j a st0
      split at hs
      · obtain ⟨h1, e1, e2⟩ := Option.map_eq_some_iff.mp hs
        cases e2
        unfold am_is at e1
        split at e1
        · rename_i t' xs he
          split at e1
          · cases e1
            exact Or.inr (Or.inl ⟨a, _, _, he, by simp [am_cs], rfl⟩)
          · cases e1
        · cases e1
      · cases hs
    · cases hs
  case aastore =>
    simp only [am_step] at hs
    split at hs
    · rename_i v j a st0
      obtain ⟨h1, e1, e2⟩ := Option.map_eq_some_iff.mp hs
      cases e2
      unfold am_qs at e1
      split at e1
      · rename_i l fs he hv
        split at e1
        · cases e1
          exact Or.inr (Or.inl ⟨a, _, _, he, by simp [am_cs], rfl⟩)
        · cases e1
      · cases e1
    · cases hs
  case newarray t =>
    cases t <;> simp only [am_step] at hs <;> (repeat' split at hs) <;> first | (cases hs; done) | (cases hs; exact Or.inr (Or.inr ⟨_, rfl⟩))
  case anewarray n =>
    simp only [am_step] at hs
    (repeat' split at hs) <;> first | (cases hs; done) | (cases hs; exact Or.inr (Or.inr ⟨_, rfl⟩))
  case new n =>
    simp only [am_step] at hs
    cases hs
    exact Or.inr (Or.inr ⟨_, rfl⟩)
  all_goals
    simp only [am_step] at hs
    first
      | (cases hs; done)
      | (cases hs; exact Or.inl rfl)
      | ((repeat' split at hs) <;> first
          | (cases hs; done)
          | (cases hs; exact Or.inl rfl)
          | (obtain ⟨_, _, e2⟩ := Option.map_eq_some_iff.mp hs; cases e2; exact Or.inl rfl)
          | (obtain ⟨_, _, e2⟩ := Option.map_eq_some_iff.mp hs; split at e2 <;> (cases e2; exact Or.inl rfl)))
      | (obtain ⟨_, _, e2⟩ := Option.map_eq_some_iff.mp hs; cases e2; exact Or.inl rfl)
theorem am_mono1 {E : List (List Int)} {i : am_I} {pc pc' : Nat} {L L' : am_L} {st st' : List am_V} {h h' : am_H} (hs : am_step E i pc L st h = some (pc', L', st', h')) : h.length ≤ h'.length ∧ am_sz h ≤ am_sz h' := by
  rcases am_key hs with rfl | ⟨a, y, x, e1, e2, rfl⟩ | ⟨x, rfl⟩
  · exact ⟨Nat.le_refl _, Nat.le_refl _⟩
  · exact ⟨by rw [List.length_set]; exact Nat.le_refl _, by rw [am_sz_set e1 e2]; exact Nat.le_refl _⟩
  · exact ⟨by rw [List.length_append]; omega, by rw [am_sz_push]; omega⟩
theorem am_mono2 {E : List (List Int)} : ∀ (n k pc : Nat) (L : am_L) (st : List am_V) (h : am_H) (v : Option am_V) (h' : am_H), am_run E n k pc L st h = some (v, h') → h.length ≤ h'.length ∧ am_sz h ≤ am_sz h'
  | 0, _, _, _, _, _, _, _, hr => by cases hr
  | n + 1, k, pc, L, st, h, v, h', hr => by
    have ih := am_mono2 (E := E) n
    unfold am_run at hr
    split at hr
    · cases hr
    · rename_i i hi
      split at hr
      · cases hr
        exact ⟨Nat.le_refl _, Nat.le_refl _⟩
      · split at hr
        · rename_i j as rest hv
          split at hr
          · rename_i v1 h1 hc
            have a1 := ih _ _ _ _ _ _ _ hc
            have a2 := ih _ _ _ _ _ _ _ hr
            omega
          · cases hr
        · split at hr
          · rename_i pc1 L1 st1 h1 hs
            have a1 := am_mono1 hs
            have a2 := ih _ _ _ _ _ _ _ hr
            omega
          · cases hr
