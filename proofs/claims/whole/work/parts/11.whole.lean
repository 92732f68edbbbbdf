/-! THE CLAIM OUT OF ONE WALK OF THE LAW'S BODY. Your part is whole_start (and what it stands on); all else here is the same for every law, but numbers. -/
def R_law : String := "CenturyBedsLaw"
def lw_P (b : Addr) (xs : List Int32) (args : Array Value) (s : State) : Prop := args = #[.ref b] ∧ s.IntsAt b xs ∧ xs.length ≤ 384 ∧ (Jvm.Cond.and given_1 narrow_1).before args s = true
def lw_Q (_ : Array Value) (s : State) (o : Outcome) (t : State) : Prop := o = .returned (some (.int 1)) ∧ Framed s o t [] 600000 7302249
def lw_Z (below : List Frame) (a : Array Value) (s : State) : State → Prop := fun t => ∃ o, t.status = .running ∧ Ended t below o ∧ lw_Q a s o t
/-- the law's own end, with 1 on the stack, nothing written that was there before, its room as the claim has it -/
theorem lw_ret {p : Program} {l : Launch} {e : Env} {s : State} {m : MethodId} {below : List Frame} {meth : Method} {c : Code} {b : Nat} (hx : p.tables.exec = Jvm.exec) (hb : c.code = code) (hr : meth.sig.returnType = ret) (hlocks : meth.locks = false) {pc : Nat} {H : Heap} {ls : Array Slot} (hdg : decode code pc = .ok (.ireturn, 1)) : W p l e room_1 s m #[Value.ref b] below meth c H [] 600000 7302249 (lw_Z below #[Value.ref b] s) (F0 m pc ls [.int 1]) := by
  intro T hT X
  obtain ⟨fs, hret, hrun, hended, hW, hframe⟩ := X.leave (v := some (.int 1)) (hlocks := hlocks) (fun h => by rw [hr] at h; cases h)
  have hmeth' : T.vm.method? m = some meth := X.method'
  refine ⟨T.setFrames fs, ?_, .returned (some (.int 1)), hrun, hended, rfl, ⟨_, rfl⟩, hW, hframe⟩
  jvm_step X.here [X.here.top, hx, hb, hdg, hmeth', hr, ret, narrow_b1]
  (try refine ⟨rfl, ?_⟩); (try refine ⟨rfl, ?_⟩)
  first | (intro acts; rw [hret _ acts rfl rfl rfl]) | rw [hret _ _ rfl rfl rfl]
  exact Steps.refl _
/-- what holds at the law's entry: the machine, the code, the tables' words (any of lw_tbl by 'hts w (by decide +kernel)'), the script of L ints xs at the cell b, what the Statement gives of the start (any of its parts by flat_of_before) -/
def lw_At (p : Program) (s : State) (m : MethodId) (meth : Method) (c : Code) (b L : Nat) (xs : Nat → Int32) : Prop :=
  p.tables.exec = Jvm.exec ∧ c.code = code ∧ meth.sig.returnType = ret ∧ c.maxLocals = 4 ∧ s.vm.findClass R_law = some m.cls ∧ (∀ w ∈ lw_tbl, w.before #[Value.ref b] s = true) ∧ va_X b L xs s s.heap ∧ b < s.heap.size ∧ meth.locks = false ∧ (Jvm.Cond.and given_1 narrow_1).before #[Value.ref b] s = true
def am_fac7 : List Int := [1, 1, 2, 6, 24, 120, 720]
theorem am_inst : ∀ c < 11, Cond.instantiable (am_cn c) (am_nf c) ∈ lw_tbl := by decide +kernel
theorem am_arr {s : State} {args0 : Array Value} {ty : FieldType} (hp : ∀ C, ty ≠ .object C) (h : (Cond.arrayClass ty).before args0 s = true) : ∃ cA : ClassId, ArrOfT s cA ty ∧ va_RA s cA ty := by
  obtain ⟨c, k, comp, h1, h2, h3⟩ := Cond.arrayClass_spec h
  refine ⟨c, fun n z => ⟨(fun q hq => by cases hq), k, h2, comp, h3⟩, ?_⟩
  cases ty <;> first | exact h1 | exact absurd rfl (hp _)
theorem am_arq {s : State} {args0 : Array Value} (h : (Cond.arrayOver (.object "CenturyBeds$Layout")).before args0 s = true) : ∃ cA : ClassId, ArrOfT s cA (.object "CenturyBeds$Layout") ∧ va_RA s cA (.object "CenturyBeds$Layout") := by
  obtain ⟨comp, c, k, h1, -, h2, h3, h4⟩ := Cond.arrayOver_spec h
  exact ⟨c, fun n z => ⟨(fun q hq => by cases hq), k, h2, comp, h3⟩, k, comp, h2, h3, h1, h4⟩
theorem am_ai_map (xs : Nat → Int32) (L : Nat) {j : Nat} (hj : j < L) : am_ai ((List.range L).map fun j => (xs j).toInt) j = xs j := by
  simp [am_ai, List.getD_eq_getElem?_getD, hj]
theorem am_len31 {args : Array Value} {s : State} {tm : Term} {v : Value} {t : Addr} {cell : Cell} (hlen : (Term.length tm).eval args s none [] s = some v) (ht : tm.eval args s none [] s = some (.ref t)) (hat : s.arrayAt? t = some cell) : cell.slots.size < 2 ^ 31 := by
  simp only [Term.eval, ht, hat, Option.bind_eq_bind, Option.bind_some] at hlen
  by_cases hlt : cell.slots.size < 2147483648
  · exact hlt
  · simp [hlt] at hlen
theorem am_stat {args : Array Value} {s : State} (hgv : (Jvm.Cond.and given_1 narrow_1).before args s = true) : ∃ f : Nat, (Term.static "CenturyBeds$Chances" "FACTORIALS" "[I").eval args s none [] s = some (.ref f) ∧ va_X f am_fac7.length (am_ai am_fac7) s s.heap ∧ f < s.heap.size := by
  have hs := flat_of_before _ hgv
  have harr : (Cond.arrayOf (.static "CenturyBeds$Chances" "FACTORIALS" "[I") .int).before args s = true := hs _ (by decide +kernel)
  have hlen := va_eqt (hs (Cond.eq (.length (.static "CenturyBeds$Chances" "FACTORIALS" "[I")) (.int 7)) (by decide +kernel))
  have e0 := va_eqt (hs (Cond.eq (.elem (.static "CenturyBeds$Chances" "FACTORIALS" "[I") (.int 0)) (.int 1)) (by decide +kernel))
  have e1 := va_eqt (hs (Cond.eq (.elem (.static "CenturyBeds$Chances" "FACTORIALS" "[I") (.int 1)) (.int 1)) (by decide +kernel))
  have e2 := va_eqt (hs (Cond.eq (.elem (.static "CenturyBeds$Chances" "FACTORIALS" "[I") (.int 2)) (.int 2)) (by decide +kernel))
  have e3 := va_eqt (hs (Cond.eq (.elem (.static "CenturyBeds$Chances" "FACTORIALS" "[I") (.int 3)) (.int 6)) (by decide +kernel))
  have e4 := va_eqt (hs (Cond.eq (.elem (.static "CenturyBeds$Chances" "FACTORIALS" "[I") (.int 4)) (.int 24)) (by decide +kernel))
  have e5 := va_eqt (hs (Cond.eq (.elem (.static "CenturyBeds$Chances" "FACTORIALS" "[I") (.int 5)) (.int 120)) (by decide +kernel))
  have e6 := va_eqt (hs (Cond.eq (.elem (.static "CenturyBeds$Chances" "FACTORIALS" "[I") (.int 6)) (.int 720)) (by decide +kernel))
  obtain ⟨t, cell, ht, hat, hv⟩ := Term.length_spec hlen
  have hsz : cell.slots.size < 2 ^ 31 := am_len31 hlen ht hat
  have h7 : cell.slots.size = 7 := by
    have h8 : Int32.ofNat cell.slots.size = Int32.ofNat 7 := (Value.int.inj hv).symm
    exact (nI_eq hsz (by decide)).mp h8
  obtain ⟨hcell, hkn, -, -⟩ := State.arrayAt?_spec hat
  obtain ⟨hof, -⟩ := Cond.arrayOf_spec harr ht hcell
  have key : ∀ (j : Nat) (z : Int32), j < 7 → (Term.elem (.static "CenturyBeds$Chances" "FACTORIALS" "[I") (.int (Int32.ofNat j))).eval args s none [] s = some (.int z) → cell.slots[j]? = some (.int z) := by
    intro j z hj hel
    obtain ⟨a, i, cell2, h1, h2, h3, h4, h5⟩ := Term.elem_spec hel
    cases ht.symm.trans h1
    cases hat.symm.trans h3
    have hi : i = Int32.ofNat j := by
      have e : (Term.int (Int32.ofNat j)).eval args s none [] s = some (.int (Int32.ofNat j)) := rfl
      cases h2.symm.trans e
      rfl
    have hc : i.toNatClampNeg = j := by rw [hi]; exact Int32.toNatClampNeg_ofNat_of_lt (by omega)
    rw [hc] at h5
    exact h5
  refine ⟨t, ht, ⟨cell, hcell, hof, hkn, h7, fun j hj => ?_⟩, (Array.getElem?_eq_some_iff.mp hcell).1⟩
  match j, hj with
  | 0, _ => exact key 0 1 (by decide) e0
  | 1, _ => exact key 1 1 (by decide) e1
  | 2, _ => exact key 2 2 (by decide) e2
  | 3, _ => exact key 3 6 (by decide) e3
  | 4, _ => exact key 4 24 (by decide) e4
  | 5, _ => exact key 5 120 (by decide) e5
  | 6, _ => exact key 6 720 (by decide) e6
  | j + 7, h => exact absurd h (by simp [am_fac7])
/-- what is owed of the abstract machine -/
def am_Goal : Prop := ∀ xs : List Int, xs.length ≤ 384 → (∀ x ∈ xs, -2147483648 ≤ x ∧ x ≤ 2147483647) → ∃ h' : am_H, Ev [xs, am_fac7] 182 0 [some (am_e 0), none, none, none] [] [] (some (am_i 1), h') ∧ h'.length ≤ 600000 ∧ am_sz h' ≤ 7302249
set_option maxHeartbeats 4000000 in
set_option maxRecDepth 100000 in
theorem whole_open (goal : am_Goal) {p : Program} {e : Env} {s : State} {m : MethodId} {below : List Frame} {meth : Method} {c : Code} (l : Launch) {b L : Nat} {xs : Nat → Int32} (hL : L ≤ 384) (C0 : lw_At p s m meth c b L xs) : W p l e room_1 s m #[Value.ref b] below meth c s.heap [] 0 0 (lw_Z below #[Value.ref b] s) (entryFrame m ([Value.ref b] : List Value).toArray 4) := by
  obtain ⟨hx, hb, hr, hml, hown, hts, hX, hbl, hlocks, hgv⟩ := id C0
  obtain ⟨f, hf1, hf2, hf3⟩ := am_stat hgv
  obtain ⟨cI, hcI⟩ := am_arr (fun C h => by cases h) (hts _ am_fac.1)
  obtain ⟨cZ, hcZ⟩ := am_arr (fun C h => by cases h) (hts _ am_fac.2.1)
  obtain ⟨cL, hcL⟩ := am_arq (hts _ am_fac.2.2.1)
  have hkn : ∀ c : Nat, ∃ (q : ClassId × (Nat → Nat)), c < 11 → u_Kn s (am_cn c) (am_tx c) (am_nf c) q.1 q.2 := by
    intro c
    by_cases hc : c < 11
    · obtain ⟨g1, g2, g3, g4⟩ := am_cf c hc
      obtain ⟨c0, iS0, h0⟩ := u_known (C := am_cn c) (T := am_tx c) (N := am_nf c) (n := am_nf c) hts g2 (hts _ (am_inst c hc))
      exact ⟨(c0, iS0), fun _ => h0⟩
    · exact ⟨(0, fun _ => 0), fun h => absurd h hc⟩
  let ys : List Int := (List.range L).map fun j => (xs j).toInt
  let D : va_G := (fun c => (Classical.choose (hkn c)).1, fun c => (Classical.choose (hkn c)).2)
  let G : am_G := (D, (cI, cZ, cL), s.heap.size, fun x => if x = 0 then b else f)
  have hK : va_K G.1 vwCl (am_tys G) s := by
    refine ⟨fun c q hq => ?_, fun k q hk => ?_⟩
    · have hc : c < 11 := (List.getElem?_eq_some_iff.mp hq).1
      obtain ⟨g1, -⟩ := am_cf c hc
      cases hq.symm.trans g1
      exact Classical.choose_spec (hkn c) hc
    · match k, hk with
      | 0, hk => cases hk; exact hcI
      | 1, hk => cases hk; exact hcZ
      | 2, hk => cases hk; exact hcL
      | k + 3, hk => simp [am_tys] at hk
  have hA0 : ∀ a : Nat, a < s.heap.size → ¬ am_Ab G a := fun a h => Nat.not_le.mpr h
  have hSt : am_St G [ys, am_fac7] s s.heap := by
    refine ⟨hK, va_Zof (hts _ am_fac.2.2.2.1) (hts _ am_fac.2.2.2.2) hf1 hA0, fun x zs hx0 => ?_, fun q hq => va_Nw.of rfl (hts _ (am_fMN q hq).2.2.2.1), va_AO.of (hts _ am_fac.2.2.1), Nat.le_refl _⟩
    match x, hx0 with
    | 0, hx0 =>
      cases hx0
      obtain ⟨scr, h1, h2, h3, h4, h5⟩ := hX
      have hly : ys.length = L := by simp [ys]
      refine ⟨⟨scr, h1, h2, h3, by rw [hly]; exact h4, fun j hj => ?_⟩, hbl, hbl⟩
      rw [hly] at hj
      rw [h5 j hj]
      exact congrArg (fun z => some (Value.int z)) (am_ai_map xs L hj).symm
    | 1, hx0 => cases hx0; exact ⟨hf2, hf3, hf3⟩
    | x + 2, hx0 => simp at hx0
  have hC : am_Cx p room_1 s m #[Value.ref b] meth c G [ys, am_fac7] 182 := ⟨hx, hb, hml, hown, fun w hw => hts w (List.mem_filter.mp hw).1, hSt, by decide +kernel, by decide +kernel, fun h => absurd h (by decide +kernel)⟩
  have hW : am_Wd G [] s.heap := ⟨fun k q h => by simp [am_ws] at h, rfl⟩
  obtain ⟨h', ⟨n, hn⟩, hc6, hs7⟩ := goal ys (by simp [ys]; exact hL) (by
    intro x hx0
    obtain ⟨j, -, rfl⟩ := List.mem_map.mp hx0
    exact ⟨(xs j).le_toInt, by have := (xs j).toInt_lt; omega⟩)
  have hl := am_LR0 G [am_e 0] 4 (by decide)
  rw [show ([Value.ref b] : List Value) = ([am_e 0] : List am_V).map (am_tr G) from rfl, lg_entry_eq]
  generalize (lg_sl (([am_e 0] : List am_V).map (am_tr G)) ++ List.replicate (4 - (lg_sl (([am_e 0] : List am_V).map (am_tr G))).length) Slot.unset).toArray = ls at hl ⊢
  refine am_sim l G [ys, am_fac7] n 182 0 _ [] [] (some (am_i 1)) h' (by decide) hn p e room_1 s m #[Value.ref b] below meth c s.heap [] 0 0 (lw_Z below #[Value.ref b] s) ls hC hW va_S.rf hl (by show 0 + (h'.length - 0) ≤ 600000; omega) (by show 0 + (am_sz h' - 0) ≤ 7302249; omega) ?_
  intro H' locs' ls' pc' i st' hi hre hW' hS'
  obtain ⟨f1, f2, -⟩ := am_atf (show 182 < 183 by decide) hi
  refine va_forget (fun q hq => hS'.2.2 q hq) ?_
  refine W.widen (k := 600000) (n := 7302249) (by show 0 + (h'.length - 0) ≤ 600000; omega) (by show 0 + (am_sz h' - 0) ≤ 7302249; omega) ?_
  obtain ⟨ins, len, r1, r2⟩ := i
  unfold am_re at hre
  dsimp only at hre
  split at hre
  · rename_i x
    have hlen : len = 1 := by simpa [am_ok] using f2
    subst hlen
    split at hre
    · cases hre
      exact lw_ret hx hb hr hlocks f1
    · cases hre
  · split at hre <;> cases hre
  · split at hre <;> cases hre
  · cases hre
