/-! THE MACHINE'S HEAP AND THE ABSTRACT ONE: cell a of the list lies at the address base + a. -/
/-- classes and slots; the array classes (int, boolean, Layout); the base; where the script and FACTORIALS lie -/
abbrev am_G : Type := va_G × (ClassId × ClassId × ClassId) × Nat × (Nat → Nat)
def am_tr (G : am_G) : am_V → Value
  | .inl x => .int (Int32.ofInt x)
  | .inr (.inl x) => .long (Int64.ofInt x)
  | .inr (.inr (.inl none)) => .null
  | .inr (.inr (.inl (some a))) => .ref (G.2.2.1 + a)
  | .inr (.inr (.inr x)) => .ref (G.2.2.2 x)
def am_ai (xs : List Int) : Nat → Int32 := fun j => Int32.ofInt (xs.getD j 0)
def am_aq (G : am_G) (l : List (Option Nat)) : Nat → Option Nat := fun j => (l.getD j none).map (fun a => G.2.2.1 + a)
def am_tc (G : am_G) : am_C → va_E
  | .inl (0, xs) => .inl (G.2.1.1, xs.length, .inl (am_ai xs))
  | .inl (_, xs) => .inl (G.2.1.2.1, xs.length, .inl (am_ai xs))
  | .inr (.inl (c, fs)) => .inr (c, fs.map (am_tr G))
  | .inr (.inr l) => .inl (G.2.1.2.2, l.length, .inr (.inr (.inr (.inr (am_aq G l)))))
def am_ws (G : am_G) (h : am_H) : va_W := h.mapIdx fun a c => (G.2.2.1 + a, am_tc G c)
def am_Wd (G : am_G) (h : am_H) (H : Heap) : Prop := va_P G.1 vwCl (am_ws G h) H ∧ H.size = G.2.2.1 + h.length
def am_Ab (G : am_G) : Nat → Prop := fun q => G.2.2.1 ≤ q
theorem am_ws_get {G : am_G} {h : am_H} {a : Nat} {x : am_C} (e : h[a]? = some x) : (am_ws G h)[a]? = some (G.2.2.1 + a, am_tc G x) := by
  simp [am_ws, e]
theorem am_ws_set (G : am_G) (h : am_H) (a : Nat) (x : am_C) : am_ws G (h.set a x) = (am_ws G h).set a (G.2.2.1 + a, am_tc G x) := by
  apply List.ext_getElem?
  intro i
  by_cases hi : a = i
  · subst hi
    simp only [am_ws, List.getElem?_mapIdx, List.getElem?_set, List.length_mapIdx]
    by_cases hl : a < h.length <;> simp [hl]
  · simp [am_ws, List.getElem?_set, hi]
theorem am_ws_push (G : am_G) (h : am_H) (x : am_C) : am_ws G (h ++ [x]) = am_ws G h ++ [(G.2.2.1 + h.length, am_tc G x)] := by
  simp [am_ws]
theorem am_ws_at {G : am_G} {h : am_H} {k : Nat} {q : Nat × va_E} (e : (am_ws G h)[k]? = some q) : q.1 = G.2.2.1 + k := by
  simp only [am_ws, List.getElem?_mapIdx, Option.map_eq_some_iff] at e
  obtain ⟨c, -, rfl⟩ := e
  rfl
theorem am_D (G : am_G) (h : am_H) : va_D (am_Ab G) (am_ws G h) := by
  refine ⟨fun i j p q hp hq e => ?_, fun k q hk => ?_⟩
  · have h1 := am_ws_at hp
    have h2 := am_ws_at hq
    omega
  · have h1 := am_ws_at hk
    show G.2.2.1 ≤ q.1
    omega
theorem am_ai_set {xs : List Int} {j : Nat} (x : Int) (hj : j < xs.length) : am_ai (xs.set j x) = upd (am_ai xs) j (Int32.ofInt x) := by
  funext i
  by_cases h : i = j
  · subst h
    simp [am_ai, upd, List.getD_eq_getElem?_getD, hj]
  · simp [am_ai, upd, List.getD_eq_getElem?_getD, h, List.getElem?_set_ne (Ne.symm h)]
theorem am_aq_set {G : am_G} {l : List (Option Nat)} {j : Nat} (v : Nat) (hj : j < l.length) : am_aq G (l.set j (some v)) = va_up (am_aq G l) j (some (G.2.2.1 + v)) := by
  funext i
  by_cases h : i = j
  · subst h
    simp [am_aq, va_up, List.getD_eq_getElem?_getD, hj]
  · simp [am_aq, va_up, List.getD_eq_getElem?_getD, h, List.getElem?_set_ne (Ne.symm h)]
def am_tys (G : am_G) : List (ClassId × FieldType) := [(G.2.1.1, .int), (G.2.1.2.1, .boolean), (G.2.1.2.2, .object "CenturyBeds$Layout")]
def am_cs : am_C → Nat
  | .inl (_, xs) => xs.length
  | .inr (.inl (_, fs)) => fs.length
  | .inr (.inr l) => l.length
def am_sz (h : am_H) : Nat := (h.map am_cs).sum
theorem am_sz_set {h : am_H} {a : Nat} {x y : am_C} (e : h[a]? = some x) (hc : am_cs y = am_cs x) : am_sz (h.set a y) = am_sz h := by
  have hm : (h.set a y).map am_cs = h.map am_cs := by
    apply List.ext_getElem?
    intro i
    by_cases hi : a = i
    · subst hi
      obtain ⟨hl, e1⟩ := List.getElem?_eq_some_iff.mp e
      simp [hl, hc, e1]
    · simp [List.getElem?_set, hi]
  rw [am_sz, am_sz, hm]
theorem am_sz_push (h : am_H) (x : am_C) : am_sz (h ++ [x]) = am_sz h + am_cs x := by simp [am_sz]
theorem am_cat (G : am_G) (v : am_V) : (am_tr G v).category = am_ct v := by
  rcases v with x | x | (_ | x) | x <;> rfl
theorem am_cats (G : am_G) (vs : List am_V) : ((vs.map (am_tr G)).map fun v => v.category).sum = (vs.map am_ct).sum := by
  rw [List.map_map]
  congr 1
  exact List.map_congr_left (fun v _ => am_cat G v)
/-- the locals -/
def am_LR (G : am_G) (ls : Array Slot) (n : Nat) (L : am_L) : Prop := ls.size = n ∧ L.length = n ∧ lv_wf ls ∧ ∀ (j : Nat) (v : am_V), L[j]? = some (some v) → ls[j]? = some (.val (am_tr G v))
def am_lv (G : am_G) (L : am_L) : List (Nat × Value) := (List.range L.length).filterMap fun j => (am_lg L j).map fun v => (j, am_tr G v)
theorem am_lg_at {L : am_L} {j : Nat} {v : am_V} : am_lg L j = some v ↔ L[j]? = some (some v) := by
  unfold am_lg
  constructor
  · intro h
    split at h
    · rename_i w hw
      cases h
      exact hw
    · cases h
  · intro h
    rw [h]
theorem am_LR.has {G : am_G} {ls : Array Slot} {n : Nat} {L : am_L} (h : am_LR G ls n L) : lv_has ls n (am_lv G L) := by
  obtain ⟨h1, h2, h3, h4⟩ := h
  refine ⟨h1, h3, fun q hq => ?_⟩
  obtain ⟨j, -, hj⟩ := List.mem_filterMap.mp hq
  obtain ⟨v, hv, rfl⟩ := Option.map_eq_some_iff.mp hj
  exact h4 j v (am_lg_at.mp hv)
theorem am_LR.get {G : am_G} {ls : Array Slot} {n : Nat} {L : am_L} (h : am_LR G ls n L) {j : Nat} {v : am_V} (e : am_lg L j = some v) : ls[j]? = some (.val (am_tr G v)) := h.2.2.2 j v (am_lg_at.mp e)
theorem am_lv_mem {G : am_G} {L : am_L} {j : Nat} {v : am_V} (e : L[j]? = some (some v)) : (j, am_tr G v) ∈ am_lv G L :=
  List.mem_filterMap.mpr ⟨j, List.mem_range.mpr (List.getElem?_eq_some_iff.mp e).1, by rw [am_lg_at.mpr e]; rfl⟩
theorem am_lb_at {L : am_L} {i j : Nat} {v : am_V} (hb : am_lb L i = true) (e : L[j]? = some (some v)) (h : j + 1 = i) : am_ct v = 1 := by
  subst h
  unfold am_lb at hb
  dsimp only at hb
  rw [e] at hb
  rcases v with x | x | (_ | x) | x
  · rfl
  · cases hb
  · rfl
  · rfl
  · rfl
theorem am_LR.put1 {G : am_G} {ls ls' : Array Slot} {n i : Nat} {L L' : am_L} {v : am_V} (h : am_LR G ls n L) (e : am_ls L i v = some L') (hh : lv_has ls' n ((i, am_tr G v) :: (am_lv G L).filter (fun q => !(q.1 == i) && !(q.1 + 1 == i && q.2.category == 2)))) : am_LR G ls' n L' := by
  unfold am_ls at e
  split at e
  · rename_i hi
    cases e
    refine ⟨hh.1, by rw [List.length_set]; exact h.2.1, hh.2.1, fun j w hw => ?_⟩
    by_cases hj : i = j
    · subst hj
      rw [List.getElem?_set_self hi.1] at hw
      cases hw
      exact hh.2.2 _ List.mem_cons_self
    · rw [List.getElem?_set_ne hj] at hw
      refine hh.2.2 (j, am_tr G w) (List.mem_cons_of_mem _ (List.mem_filter.mpr ⟨am_lv_mem hw, ?_⟩))
      have hne : (j == i) = false := by simpa using fun q => hj q.symm
      by_cases hq : j + 1 = i
      · have hc := am_lb_at hi.2 hw hq
        simp [hne, am_cat, hc]
      · have hne2 : (j + 1 == i) = false := by simpa using hq
        simp [hne, hne2]
  · cases e
theorem am_LR.put2 {G : am_G} {ls ls' : Array Slot} {n i : Nat} {L L' : am_L} {v : am_V} (h : am_LR G ls n L) (e : am_l2 L i v = some L') (hh : lv_has ls' n ((i, am_tr G v) :: (am_lv G L).filter (fun q => !(q.1 == i) && (!(q.1 == i + 1) && !(q.1 + 1 == i && q.2.category == 2))))) : am_LR G ls' n L' := by
  unfold am_l2 at e
  split at e
  · rename_i hi
    cases e
    refine ⟨hh.1, by rw [List.length_set, List.length_set]; exact h.2.1, hh.2.1, fun j w hw => ?_⟩
    by_cases h2 : i + 1 = j
    · subst h2
      rw [List.getElem?_set_self (by rw [List.length_set]; exact hi.1)] at hw
      cases hw
    · rw [List.getElem?_set_ne h2] at hw
      by_cases hj : i = j
      · subst hj
        rw [List.getElem?_set_self (by omega)] at hw
        cases hw
        exact hh.2.2 _ List.mem_cons_self
      · rw [List.getElem?_set_ne hj] at hw
        refine hh.2.2 (j, am_tr G w) (List.mem_cons_of_mem _ (List.mem_filter.mpr ⟨am_lv_mem hw, ?_⟩))
        have hne : (j == i) = false := by simpa using fun q => hj q.symm
        have hne3 : (j == i + 1) = false := by simpa using fun q => h2 q.symm
        by_cases hq : j + 1 = i
        · have hc := am_lb_at hi.2 hw hq
          simp [hne, hne3, am_cat, hc]
        · have hne2 : (j + 1 == i) = false := by simpa using hq
          simp [hne, hne2, hne3]
  · cases e
theorem am_ls_lt {L L' : am_L} {i : Nat} {v : am_V} (e : am_ls L i v = some L') : i < L.length := by
  unfold am_ls at e
  split at e
  · rename_i hi
    exact hi.1
  · cases e
theorem am_l2_lt {L L' : am_L} {i : Nat} {v : am_V} (e : am_l2 L i v = some L') : i + 1 < L.length := by
  unfold am_l2 at e
  split at e
  · rename_i hi
    exact hi.1
  · cases e
/-! rows that tell the heap's size -/
section AMR
variable {p : Program} {l : Launch} {e : Env} {R : Room} {s : State} {m : MethodId} {args : Array Value} {below : List Frame} {meth : Method} {c : Code} {H : Heap} {locs : List Loc} {cells slots : Nat} {Q : State → Prop}
variable {cc : ByteArray} {pc : Nat} {ls : Array Slot} {rest : List Value} {H0 : Heap} {G : am_G} {h : am_H} {a : Nat}
theorem am_rput (hexec : p.tables.exec = Jvm.exec) (hb : c.code = cc) {own C : String} {T : u_T} {N ci index : Nat} {Ts : List Cond} (hts : ∀ w ∈ Ts, w.before args s = true) (hin : ∀ w ∈ u_ws C T N, w ∈ Ts) (ty0 : Nat → FieldType) (hty : ∀ k, k < N → parseFieldDescriptor (T k).2.2.1 = some (ty0 k)) (hnm : ∀ a, a < N → ∀ b, b < N → a ≠ b → (T a).2.1 ≠ (T b).2.1) (hown : s.vm.findClass own = some m.cls) {tys : List (ClassId × FieldType)} (hK : va_K G.1 vwCl tys s) (hP : am_Wd G h H) (hS0 : va_S (am_Ab G) H0 H locs) {fs : List am_V} (he : h[a]? = some (am_o ci fs)) (hc : vwCl[ci]? = some (C, T, N)) (k : Nat) (hk : k < N) (hlink : (Cond.fieldLink own index (T k).1 (T k).2.1 (T k).2.2.1).before args s = true) (hfin : (T k).2.2.2 = false ∨ ((T k).2.2.2 = true ∧ meth.name = "<init>" ∧ (T k).1 = own)) {v : am_V} (hn : narrow (ty0 k) (am_tr G v) = am_tr G v) (hfit : fits (ty0 k) (am_tr G v) = true) (hl : k < fs.length)
    (hdg : decode cc pc = .ok (.putfield index, 3)) (kk : ∀ (H1 : Heap) (locs1 : List Loc), am_Wd G (h.set a (am_o ci (fs.set k v))) H1 → va_S (am_Ab G) H0 H1 locs1 → W p l e R s m args below meth c H1 locs1 cells slots Q (F0 m (pc + 3) ls rest)) : W p l e R s m args below meth c H locs cells slots Q (F0 m pc ls (am_tr G v :: .ref (G.2.2.1 + a) :: rest)) := by
  have hD := am_D G h
  have hap := va_apart (own := own) hts hin ty0 hty hnm hK hc
  have heW : (am_ws G h)[a]? = some (G.2.2.1 + a, .inr (ci, fs.map (am_tr G))) := am_ws_get he
  obtain ⟨r, h1, cell, q1, q2, q3, q4⟩ := hP.1 a _ heW
  have hr : r = (C, T, N) := Option.some.inj (h1.symm.trans hc)
  subst hr
  obtain ⟨hS, hfc, kC, hkC, hkind⟩ := hK.1 ci _ hc
  obtain ⟨cf, kf, fi, f, hi, hsl⟩ := hS k hk
  have hlay := hts _ (hin _ (u_in_lay hk))
  have hst := (u_facts hfc hkC (u_lays hts hin hk) hi).1
  have hend : ∀ H' : Heap, H'[G.2.2.1 + a]? = some (cell.setSlot f.slot (am_tr G v)) → H'.size = H.size → (∀ q, q ≠ G.2.2.1 + a → H'[q]? = H[q]?) → W p l e R s m args below meth c H' (locs ++ [⟨G.2.2.1 + a, f.slot⟩]) cells slots Q (F0 m (pc + 3) ls rest) := by
    intro H' e1 e2 e3
    rw [hsl] at e1 ⊢
    refine kk H' _ ⟨?_, by rw [e2, hP.2, List.length_set]⟩ (hS0.put e2 e3 (hD.2 a _ heW))
    rw [am_ws_set]
    show va_P G.1 vwCl ((am_ws G h).set a (G.2.2.1 + a, .inr (ci, (fs.set k v).map (am_tr G)))) H'
    rw [List.map_set]
    exact hP.1.set hD heW ⟨_, hc, t_OB.to (V := updV (vp_V (fs.map (am_tr G))) k (am_tr G v)) ⟨_, e1, q2, q3, t_set q4 hap hk (am_tr G v)⟩ (fun j _ => vp_updV_set (by rw [List.length_map]; exact hl) (am_tr G v) j)⟩ e3
  rcases hfin with hfin | ⟨hfin, hin2, hdecl⟩
  · unfold u_lay at hlay
    rw [if_neg (by rw [hfin]; decide)] at hlay
    have h6 := u_store hfc hkC hkind hlay hi (hty k hk) hn hfit
    exact W.putK hexec hb (f := f) ⟨hown, hlink, ⟨_, _, _, hi⟩, hst⟩ (by rw [q2]; exact h6) q1 q3 (by rw [hsl]; exact k2_hasslot (q4 k hk)) rfl rfl hdg hend
  · unfold u_lay at hlay
    rw [if_pos hfin] at hlay
    have hcf : m.cls = cf := by
      obtain ⟨_, _, c', _, _, _, -, -, hf', -, -, -, hown2, -⟩ := Cond.laysFinal_spec hlay
      have e1 : c' = cf := by have := hi.symm.trans hf'; simp at this; exact this.1.symm
      rw [hdecl] at hown2
      rw [← e1]; exact Option.some.inj (hown.symm.trans hown2)
    have h6 := u_fits hfc hkC hkind (Or.inr hlay) hi (hty k hk) hn hfit
    exact W.putFinK hexec hb hown hlink hi hst hcf hin2 (by rw [q2]; exact h6) q1 q3 (by rw [hsl]; exact k2_hasslot (q4 k hk)) rfl rfl hdg hend
theorem am_rist (hexec : p.tables.exec = Jvm.exec) (hb : c.code = cc) (hK : va_K G.1 vwCl (am_tys G) s) (hP : am_Wd G h H) (hS : va_S (am_Ab G) H0 H locs) {xs : List Int} (ha : h[a]? = some (am_a 0 xs)) {j x : Int} (h0 : 0 ≤ am_w j) (h1 : (am_w j).toNat < xs.length) (hdg : decode cc pc = .ok (.iastore, 1))
    (kk : ∀ (H1 : Heap) (locs1 : List Loc), am_Wd G (h.set a (am_a 0 (xs.set (am_w j).toNat x))) H1 → va_S (am_Ab G) H0 H1 locs1 → W p l e R s m args below meth c H1 locs1 cells slots Q (F0 m (pc + 1) ls rest)) : W p l e R s m args below meth c H locs cells slots Q (F0 m pc ls (.int (Int32.ofInt x) :: .int (Int32.ofInt j) :: .ref (G.2.2.1 + a) :: rest)) := by
  have hD := am_D G h
  have haW : (am_ws G h)[a]? = some (G.2.2.1 + a, .inl (G.2.1.1, xs.length, .inl (am_ai xs))) := am_ws_get ha
  have hin : ¬ (Int32.ofInt j < 0 ∨ xs.length ≤ (Int32.ofInt j).toNatClampNeg) := by
    rintro (q | q)
    · rw [Int32.lt_iff_toInt_lt] at q
      exact absurd q (Int.not_lt.mpr h0)
    · exact absurd q (Nat.not_le.mpr h1)
  refine W.iast hexec hb (hP.1 a _ haW) ((hK.2 0 _ rfl).1 xs.length (fun j => .int (am_ai xs j))) (fun q => by cases q) (by show ¬ (_ ∨ (arrV _ _ _).slots.size ≤ _); rw [arrV_size]; exact hin) rfl rfl hdg fun H1 e z oq => ?_
  refine kk H1 _ ⟨?_, by rw [z, hP.2, List.length_set]⟩ (hS.put z oq (hD.2 a _ haW))
  rw [am_ws_set]
  refine hP.1.set hD haW ?_ oq
  show H1[G.2.2.1 + a]? = some (vp_cell _ (_, .inl (am_ai (xs.set (am_w j).toNat x))))
  rw [e, am_ai_set x h1, List.length_set, vp_cell_i, vp_cell_i, arrV_store]
  congr 2
  funext q
  by_cases hq : q = (am_w j).toNat
  · subst hq
    simp [updV, upd, am_w, Int32.toNatClampNeg]
  · have hq' : ¬ q = (Int32.ofInt j).toNatClampNeg := hq
    simp [updV, upd, hq, hq']
theorem am_rzst (hexec : p.tables.exec = Jvm.exec) (hb : c.code = cc) (hK : va_K G.1 vwCl (am_tys G) s) (hP : am_Wd G h H) (hS : va_S (am_Ab G) H0 H locs) {xs : List Int} (ha : h[a]? = some (am_a 1 xs)) {j x : Int} (hx : x = 0 ∨ x = 1) (h0 : 0 ≤ am_w j) (h1 : (am_w j).toNat < xs.length) (hdg : decode cc pc = .ok (.bastore, 1))
    (kk : ∀ (H1 : Heap) (locs1 : List Loc), am_Wd G (h.set a (am_a 1 (xs.set (am_w j).toNat x))) H1 → va_S (am_Ab G) H0 H1 locs1 → W p l e R s m args below meth c H1 locs1 cells slots Q (F0 m (pc + 1) ls rest)) : W p l e R s m args below meth c H locs cells slots Q (F0 m pc ls (.int (Int32.ofInt x) :: .int (Int32.ofInt j) :: .ref (G.2.2.1 + a) :: rest)) := by
  have hD := am_D G h
  have haW : (am_ws G h)[a]? = some (G.2.2.1 + a, .inl (G.2.1.2.1, xs.length, .inl (am_ai xs))) := am_ws_get ha
  have hin : ¬ (Int32.ofInt j < 0 ∨ xs.length ≤ (Int32.ofInt j).toNatClampNeg) := by
    rintro (q | q)
    · rw [Int32.lt_iff_toInt_lt] at q
      exact absurd q (Int.not_lt.mpr h0)
    · exact absurd q (Nat.not_le.mpr h1)
  refine W.zast hexec hb (hP.1 a _ haW) ((hK.2 1 _ rfl).1 xs.length (fun j => .int (am_ai xs j))) (fun q => by cases q) (by show ¬ (_ ∨ (arrV _ _ _).slots.size ≤ _); rw [arrV_size]; exact hin) rfl rfl hdg fun H1 e z oq => ?_
  refine kk H1 _ ⟨?_, by rw [z, hP.2, List.length_set]⟩ (hS.put z oq (hD.2 a _ haW))
  rw [am_ws_set]
  refine hP.1.set hD haW ?_ oq
  show H1[G.2.2.1 + a]? = some (vp_cell _ (_, .inl (am_ai (xs.set (am_w j).toNat x))))
  rw [show narrow .boolean (.int (Int32.ofInt x)) = .int (Int32.ofInt x) by rcases hx with rfl | rfl <;> decide] at e
  rw [e, am_ai_set x h1, List.length_set, vp_cell_i, vp_cell_i, arrV_store]
  congr 2
  funext q
  by_cases hq : q = (am_w j).toNat
  · subst hq
    simp [updV, upd, am_w, Int32.toNatClampNeg]
  · have hq' : ¬ q = (Int32.ofInt j).toNatClampNeg := hq
    simp [updV, upd, hq, hq']
theorem am_rqst (hexec : p.tables.exec = Jvm.exec) (hb : c.code = cc) (hK : va_K G.1 vwCl (am_tys G) s) (hP : am_Wd G h H) (hS : va_S (am_Ab G) H0 H locs) {xs : List (Option Nat)} {v : Nat} {fs : List am_V} (ha : h[a]? = some (am_q xs)) (hv : h[v]? = some (am_o 3 fs)) {j : Int} (h0 : 0 ≤ am_w j) (h1 : (am_w j).toNat < xs.length) (hdg : decode cc pc = .ok (.aastore, 1))
    (kk : ∀ (H1 : Heap) (locs1 : List Loc), am_Wd G (h.set a (am_q (xs.set (am_w j).toNat (some v)))) H1 → va_S (am_Ab G) H0 H1 locs1 → W p l e R s m args below meth c H1 locs1 cells slots Q (F0 m (pc + 1) ls rest)) : W p l e R s m args below meth c H locs cells slots Q (F0 m pc ls (.ref (G.2.2.1 + v) :: .int (Int32.ofInt j) :: .ref (G.2.2.1 + a) :: rest)) := by
  have hD := am_D G h
  have haW : (am_ws G h)[a]? = some (G.2.2.1 + a, .inl (G.2.1.2.2, xs.length, .inr (.inr (.inr (.inr (am_aq G xs)))))) := am_ws_get ha
  have hvW : (am_ws G h)[v]? = some (G.2.2.1 + v, .inr (3, fs.map (am_tr G))) := am_ws_get hv
  have h00 : ¬ Int32.ofInt j < 0 := fun q => by
    rw [Int32.lt_iff_toInt_lt] at q
    exact absurd q (Int.not_lt.mpr h0)
  obtain ⟨r', hr', cellV, g1, g2, g3, -⟩ := hP.1 v _ hvW
  have hcls := (hK.1 3 (RX3, TX3, 5) rfl).2
  obtain ⟨kA, comp, k1, k2, k3, -⟩ := (hK.2 2 _ rfl).2
  have hcomp : comp = G.1.1 3 := Option.some.inj (k3.symm.trans hcls.1)
  subst hcomp
  obtain ⟨kC, hkC, -⟩ := hcls.2
  refine W.aast hexec hb (hP.1 a _ haW) (fun q h => by cases h) (fun h => by cases h) k1 k2 rfl hkC ⟨h00, by show _ < (arrV _ _ _).slots.size; rw [arrV_size]; exact h1⟩ g1 (fun q h => by rw [g3] at h; cases h) (by rw [g2]; exact hkC) (by rw [g2]; exact va_assign hcls) rfl rfl hdg fun H1 e z oq => ?_
  refine kk H1 _ ⟨?_, by rw [z, hP.2, List.length_set]⟩ (hS.put z oq (hD.2 a _ haW))
  rw [am_ws_set]
  refine hP.1.set hD haW ?_ oq
  show H1[G.2.2.1 + a]? = some (vp_cell _ (_, .inr (.inr (.inr (.inr (am_aq G (xs.set (am_w j).toNat (some v))))))))
  rw [e, am_aq_set v h1, List.length_set, vp_cell_q, vp_cell_q, arrV_store]
  congr 2
  funext q
  by_cases hq : q = (am_w j).toNat
  · subst hq
    simp [updV, va_up, va_rf, am_w, Int32.toNatClampNeg]
  · have hq' : ¬ q = (Int32.ofInt j).toNatClampNeg := hq
    simp [updV, va_up, hq, hq']
theorem am_born {H1 : Heap} {x : am_C} (hP : am_Wd G h H) (z1 : H1.size = H.size + 1) (o1 : ∀ q : Nat, q < H.size → H1[q]? = H[q]?) (hx : va_at G.1 vwCl (H.size, am_tc G x) H1) : am_Wd G (h ++ [x]) H1 := by
  have hk : ∀ (k : Nat) (x : Nat × va_E), (am_ws G h)[k]? = some x → H1[x.1]? = H[x.1]? := fun k x hx => o1 x.1 ((hP.1 k x hx).lt)
  refine ⟨?_, by rw [z1, hP.2, List.length_append]; rfl⟩
  rw [am_ws_push]
  refine (hP.1.kept hk).app (fun k q hq => ?_)
  have hz : k < 1 := (List.getElem?_eq_some_iff.mp hq).1
  rw [show k = 0 by omega] at hq
  cases hq
  rw [← hP.2]
  exact hx
theorem am_grow {H1 : Heap} {A : Nat → Prop} (hS : va_S A H0 H locs) (z1 : H1.size = H.size + 1) (o1 : ∀ q : Nat, q < H.size → H1[q]? = H[q]?) : va_S A H0 H1 locs :=
  ⟨Nat.le_trans hS.1 (by omega), fun x h1 h2 => (o1 x (Nat.lt_of_lt_of_le h1 hS.1)).trans (hS.2.1 x h1 h2), hS.2.2⟩
theorem am_rnew (hexec : p.tables.exec = Jvm.exec) (hb : c.code = cc) {own C : String} {T : u_T} {N ci index : Nat} {Ts : List Cond} (hts : ∀ w ∈ Ts, w.before args s = true) (hin : ∀ w ∈ u_ws C T N, w ∈ Ts) (ty : Nat → FieldType) (hty : ∀ k, k < N → parseFieldDescriptor (T k).2.2.1 = some (ty k)) (hown : s.vm.findClass own = some m.cls) (hcl : (Cond.classLink own index C).before args s = true) (hinst : (Cond.instantiable C N).before args s = true) (hini : (Cond.initialized C).before args s = true)
    {tys : List (ClassId × FieldType)} (hK : va_K G.1 vwCl tys s) (hP : am_Wd G h H) (hS : va_S (am_Ab G) H0 H locs) (hc : vwCl[ci]? = some (C, T, N)) {fs : List am_V} (hfs : ∀ j, j < N → defaultValue (ty j) = vp_V (fs.map (am_tr G)) j) (hcells : cells + 1 ≤ R.cells) (hslots : slots + N ≤ R.slots) (hdg : decode cc pc = .ok (.new index, 3))
    (kk : ∀ (H1 : Heap), am_Wd G (h ++ [am_o ci fs]) H1 → va_S (am_Ab G) H0 H1 locs →
      W p l e R s m args below meth c H1 locs (cells + 1) (slots + N) Q (F0 m (pc + 3) ls (.ref (G.2.2.1 + h.length) :: rest))) : W p l e R s m args below meth c H locs cells slots Q (F0 m pc ls rest) := by
  have hKn := hK.1 ci _ hc
  refine W.newcK hexec hb hown hcl hinst hini rfl hdg hcells hslots hKn.2.1 rfl fun H1 kC hkC e1 z1 o1 => ?_
  have h3 := kk H1 (am_born hP z1 o1 ⟨_, hc, (u_born ty hts hin hKn hkC e1 hty).to hfs⟩) (am_grow hS z1 o1)
  rw [← hP.2] at h3
  exact h3
theorem am_rnewa (hexec : p.tables.exec = Jvm.exec) (hb : c.code = cc) {atype : ArrayType} (harr : (Cond.arrayClass (newarray.typeOf atype)).before args s = true) {x : am_C} {N' : Nat} (hP : am_Wd G h H) (hS : va_S (am_Ab G) H0 H locs)
    {n : Int32} (ha : ∀ (cA : ClassId) (H1 : Heap), H1[H.size]? = some (arrV cA N' (fun _ => defaultValue (newarray.typeOf atype))) → s.vm.findClass ("[" ++ (newarray.typeOf atype).toString) = some cA → va_at G.1 vwCl (H.size, am_tc G x) H1) (hn : ¬ n < 0) (hN : n.toNatClampNeg = N') (hbytes : N' * componentBytes (newarray.typeOf atype) ≤ 536870912) (hcells : cells + 1 ≤ R.cells) (hslots : slots + N' ≤ R.slots) (hdg : decode cc pc = .ok (.newarray atype, 2))
    (kk : ∀ (H1 : Heap), am_Wd G (h ++ [x]) H1 → va_S (am_Ab G) H0 H1 locs →
      W p l e R s m args below meth c H1 locs (cells + 1) (slots + N') Q (F0 m (pc + 2) ls (.ref (G.2.2.1 + h.length) :: rest))) : W p l e R s m args below meth c H locs cells slots Q (F0 m pc ls (.int n :: rest)) := by
  refine va_newaK hexec hb harr rfl hdg rfl hn hN hbytes hcells hslots rfl fun H1 cA e1 z1 o1 hAr hNm => ?_
  have h3 := kk H1 (am_born hP z1 o1 (ha cA H1 e1 hNm)) (am_grow hS z1 o1)
  rw [← hP.2] at h3
  exact h3
theorem am_rnewq (hexec : p.tables.exec = Jvm.exec) (hb : c.code = cc) {own : String} {index : Nat} (hown : s.vm.findClass own = some m.cls) (hclink : (Cond.classLink own index "CenturyBeds$Layout").before args s = true) (hover : va_AO "CenturyBeds$Layout" s) (hK : va_K G.1 vwCl (am_tys G) s) (hP : am_Wd G h H) (hS : va_S (am_Ab G) H0 H locs)
    {n : Int32} {N' : Nat} (hn : ¬ n < 0) (hN : n.toNatClampNeg = N') (hbytes : N' * 4 ≤ 536870912) (hcells : cells + 1 ≤ R.cells) (hslots : slots + N' ≤ R.slots) (hdg : decode cc pc = .ok (.anewarray index, 3))
    (kk : ∀ (H1 : Heap), am_Wd G (h ++ [am_q (List.replicate N' none)]) H1 → va_S (am_Ab G) H0 H1 locs →
      W p l e R s m args below meth c H1 locs (cells + 1) (slots + N') Q (F0 m (pc + 3) ls (.ref (G.2.2.1 + h.length) :: rest))) : W p l e R s m args below meth c H locs cells slots Q (F0 m pc ls (.int n :: rest)) := by
  subst hN
  refine W.anew hexec hb hown hclink (va_AO.use hover) rfl hdg rfl hn hbytes hcells hslots fun cA kA comp f1 f2 f3 f4 => ?_
  generalize hH1 : H.push ({ cls := cA, slots := Array.replicate n.toNatClampNeg .null, vm := .none } : Cell) = H1
  have z1 : H1.size = H.size + 1 := by rw [← hH1, Array.size_push]
  have e1 : H1[H.size]? = some (arrV cA n.toNatClampNeg (fun _ => .null)) := by rw [← hH1, Array.getElem?_push_size, ← arrV_new]
  have o1 : ∀ q : Nat, q < H.size → H1[q]? = H[q]? := fun q hq => by rw [← hH1, Array.getElem?_push, if_neg (Nat.ne_of_lt hq)]
  obtain ⟨kA', comp', k1, k2, k3, k4⟩ := (hK.2 2 _ rfl).2
  have hcA : cA = G.2.1.2.2 := Option.some.inj (f1.symm.trans k4)
  have h3 := kk H1 (am_born hP z1 o1 (by
    show H1[H.size]? = some (vp_cell _ _)
    rw [e1, List.length_replicate, vp_cell_q, hcA]
    congr 2
    funext j
    simp only [am_aq, List.getD_eq_getElem?_getD, List.getElem?_replicate]
    split <;> rfl)) (am_grow hS z1 o1)
  rw [← hP.2] at h3
  exact h3
end AMR
