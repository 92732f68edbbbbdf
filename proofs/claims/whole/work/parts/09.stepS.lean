/-! the row of the kit for each instruction -/
theorem am_txo : ∀ c < 11, ∀ j < am_nf c, (am_tx c j).1 = am_cn c := by decide +kernel
section AMT
variable {p : Program} {l : Launch} {e : Env} {R : Room} {s : State} {m : MethodId} {args : Array Value} {below : List Frame} {meth : Method} {c : Code} {H : Heap} {locs : List Loc} {cells slots : Nat} {Q : State → Prop}
variable {ls : Array Slot} {G : am_G} {E : List (List Int)} {k pc pc' : Nat} {L L' : am_L} {st st' : List am_V} {h h' : am_H}
theorem am_cmp_eq (x y : Int) : Int32.ofInt (am_cmp x y) = lg_cmp (Int64.ofInt x) (Int64.ofInt y) := by
  have h1 : (Int64.ofInt x > Int64.ofInt y) ↔ am_v y < am_v x := Int64.lt_iff_toInt_lt
  have h2 : (Int64.ofInt x = Int64.ofInt y) ↔ am_v x = am_v y := by rw [← Int64.toInt_inj]; exact Iff.rfl
  unfold am_cmp lg_cmp
  by_cases q1 : am_v y < am_v x
  · rw [if_pos q1, if_pos (h1.mpr q1)]; rfl
  · rw [if_neg q1, if_neg (fun q => q1 (h1.mp q))]
    by_cases q2 : am_v x = am_v y
    · rw [if_pos q2, if_pos (h2.mpr q2)]; rfl
    · rw [if_neg q2, if_neg (fun q => q2 (h2.mp q))]; rfl
theorem am_gwS {w : Cond} (hts : ∀ w ∈ am_gw, w.before args s = true) (h : w ∈ lw_tbl) (g : goodWord w = true) : w.before args s = true := hts w (am_gwin h g)
theorem am_inS {c : Nat} (hc : c < 11) : ∀ w ∈ u_ws (am_cn c) (am_tx c) (am_nf c), w ∈ am_gw := by
  intro w hw
  refine am_gwin ((am_cf c hc).2.1 w hw) ?_
  obtain ⟨k, -, rfl⟩ := List.mem_map.mp hw
  unfold u_lay
  split <;> rfl
theorem am_df_eq (G : am_G) (t : FieldType) : defaultValue t = am_tr G (am_df t) ∨ t = .float ∨ t = .double := by
  cases t <;> first | exact Or.inr (Or.inl rfl) | exact Or.inr (Or.inr rfl) | exact Or.inl rfl
theorem am_ty_ok : ∀ c < 11, ∀ j < am_nf c, am_ty c j ≠ .float ∧ am_ty c j ≠ .double := by decide +kernel
theorem am_ft_ok {G : am_G} {t : FieldType} {v : am_V} (h : am_ft t v = true) : narrow t (am_tr G v) = am_tr G v ∧ fits t (am_tr G v) = true := by
  rcases v with x | x | (_ | x) | x <;> cases t <;> first | (cases h; done) | exact ⟨rfl, rfl⟩
set_option maxHeartbeats 4000000 in
theorem am_stepS (C : am_Cx p R s m args meth c G E k) {i : am_I} (hi : decode (am_rc k).2.1 pc = .ok (i.1, i.2.1)) (hok : am_ok (am_ow k) ((am_rc k).1.name == "<init>") i = true) (hrk : am_rk k i = true) (hW : am_Wd G h H) (hS : va_S (am_Ab G) s.heap H locs) (hl : am_LR G ls (am_ml k) L) (hs : am_step E i pc L st h = some (pc', L', st', h')) (hc : cells + (h'.length - h.length) ≤ R.cells) (hsl : slots + (am_sz h' - am_sz h) ≤ R.slots)
    (kk : ∀ (H' : Heap) (locs' : List Loc) (ls' : Array Slot), am_Wd G h' H' → va_S (am_Ab G) s.heap H' locs' → am_LR G ls' (am_ml k) L' → W p l e R s m args below meth c H' locs' (cells + (h'.length - h.length)) (slots + (am_sz h' - am_sz h)) Q (F0 m pc' ls' (st'.map (am_tr G)))) : W p l e R s m args below meth c H locs cells slots Q (F0 m pc ls (st.map (am_tr G))) := by
  obtain ⟨hx, hb, hml, hown, hts, hSt, hfr, hlo, hnm⟩ := C
  obtain ⟨ins, len, r1, r2⟩ := i
  have k0 : h' = h → ∀ ls', am_LR G ls' (am_ml k) L' → W p l e R s m args below meth c H locs cells slots Q (F0 m pc' ls' (st'.map (am_tr G))) := by
    intro e1 ls' hl'
    subst e1
    have h1 := kk H locs ls' hW hS hl'
    simp only [Nat.sub_self, Nat.add_zero] at h1
    exact h1
  have hc0 : cells ≤ R.cells := Nat.le_trans (Nat.le_add_right _ _) hc
  have hs0 : slots ≤ R.slots := Nat.le_trans (Nat.le_add_right _ _) hsl
  have hmls : c.maxLocals = ls.size := by rw [hml, hl.1]
  cases ins
  case iconst n =>
    have hlen : len = 1 := by simpa [am_ok] using hok
    subst hlen
    simp only [am_step] at hs
    cases hs
    exact lv_iconst hx hb hi rfl (k0 rfl ls hl)
  case bipush n =>
    have hlen : len = 2 := by simpa [am_ok] using hok
    subst hlen
    simp only [am_step] at hs
    cases hs
    exact lv_bipush hx hb hi (Int32.ofInt_toInt _).symm (k0 rfl ls hl)
  case sipush n =>
    have hlen : len = 3 := by simpa [am_ok] using hok
    subst hlen
    simp only [am_step] at hs
    cases hs
    exact lv_sipush hx hb hi (Int32.ofInt_toInt _).symm (k0 rfl ls hl)
  case lconst n =>
    have hlen : len = 1 := by simpa [am_ok] using hok
    subst hlen
    simp only [am_step] at hs
    cases hs
    exact lv_lconst hx hb hi Int64.ofInt_eq_ofNat.symm (k0 rfl ls hl)
  case ldc_w x =>
    simp only [am_ok, Bool.and_eq_true, beq_iff_eq, List.contains_iff_mem] at hok
    obtain ⟨rfl, hm⟩ := hok
    simp only [am_step] at hs
    cases hs
    exact lv_ldcw hx hb hown (am_gwS hts (am_fKI _ hm) rfl) hi (k0 rfl ls hl)
  case ldc2_w x =>
    simp only [am_ok, Bool.and_eq_true, beq_iff_eq, List.contains_iff_mem] at hok
    obtain ⟨rfl, hm⟩ := hok
    simp only [am_step] at hs
    cases hs
    exact W.ldc2 hx hb hown (am_gwS hts (am_fKL _ hm) rfl) rfl hi (k0 rfl ls hl)
  case iload_n n =>
    have hlen : len = 1 := by simpa [am_ok] using hok
    subst hlen
    simp only [am_step] at hs
    split at hs
    · rename_i x hg
      cases hs
      exact lv_iload_n hx hb hi rfl (hl.get hg) (k0 rfl ls hl)
    · cases hs
  case iload n =>
    have hlen : len = 2 := by simpa [am_ok] using hok
    subst hlen
    simp only [am_step] at hs
    split at hs
    · rename_i x hg
      cases hs
      exact lv_iload hx hb hi (hl.get hg) (k0 rfl ls hl)
    · cases hs
  case lload_n n =>
    have hlen : len = 1 := by simpa [am_ok] using hok
    subst hlen
    simp only [am_step] at hs
    split at hs
    · rename_i x hg
      cases hs
      exact lv_lload_n hx hb hi rfl (hl.get hg) (k0 rfl ls hl)
    · cases hs
  case lload n =>
    have hlen : len = 2 := by simpa [am_ok] using hok
    subst hlen
    simp only [am_step] at hs
    split at hs
    · rename_i x hg
      cases hs
      exact lv_lload hx hb hi (hl.get hg) (k0 rfl ls hl)
    · cases hs
  case aload_n n =>
    have hlen : len = 1 := by simpa [am_ok] using hok
    subst hlen
    simp only [am_step] at hs
    split at hs
    · rename_i x hg
      cases hs
      exact lv_aload_n hx hb hi rfl (hl.get hg) (k0 rfl ls hl)
    · rename_i x hg
      cases hs
      exact lv_aload_n hx hb hi rfl (hl.get hg) (k0 rfl ls hl)
    · cases hs
  case aload n =>
    have hlen : len = 2 := by simpa [am_ok] using hok
    subst hlen
    simp only [am_step] at hs
    split at hs
    · rename_i x hg
      cases hs
      exact lv_aload hx hb hi (hl.get hg) (k0 rfl ls hl)
    · rename_i x hg
      cases hs
      exact lv_aload hx hb hi (hl.get hg) (k0 rfl ls hl)
    · cases hs
  case istore_n n =>
    have hlen : len = 1 := by simpa [am_ok] using hok
    subst hlen
    simp only [am_step] at hs
    split at hs
    · rename_i x st0
      obtain ⟨L1, e1, e2⟩ := Option.map_eq_some_iff.mp hs
      cases e2
      exact lv_istore_n hx hb hi rfl hl.has (by rw [← hl.2.1]; exact am_ls_lt e1) rfl (fun ls1 hl1 => k0 rfl ls1 (hl.put1 e1 hl1))
    · cases hs
  case istore n =>
    have hlen : len = 2 := by simpa [am_ok] using hok
    subst hlen
    simp only [am_step] at hs
    split at hs
    · rename_i x st0
      obtain ⟨L1, e1, e2⟩ := Option.map_eq_some_iff.mp hs
      cases e2
      exact lv_istore hx hb hi hl.has (by rw [← hl.2.1]; exact am_ls_lt e1) rfl (fun ls1 hl1 => k0 rfl ls1 (hl.put1 e1 hl1))
    · cases hs
  case astore_n n =>
    have hlen : len = 1 := by simpa [am_ok] using hok
    subst hlen
    simp only [am_step] at hs
    split at hs
    · rename_i x st0
      obtain ⟨L1, e1, e2⟩ := Option.map_eq_some_iff.mp hs
      cases e2
      exact lv_astore_n hx hb hi rfl hl.has (by rw [← hl.2.1]; exact am_ls_lt e1) rfl (fun ls1 hl1 => k0 rfl ls1 (hl.put1 e1 hl1))
    · cases hs
  case lstore_n n =>
    have hlen : len = 1 := by simpa [am_ok] using hok
    subst hlen
    simp only [am_step] at hs
    split at hs
    · rename_i x st0
      obtain ⟨L1, e1, e2⟩ := Option.map_eq_some_iff.mp hs
      cases e2
      exact lv_lstore_n hx hb hi rfl hl.has (by rw [← hl.2.1]; exact am_l2_lt e1) rfl (fun ls1 hl1 => k0 rfl ls1 (hl.put2 e1 hl1))
    · cases hs
  case iinc n d =>
    have hlen : len = 3 := by simpa [am_ok] using hok
    subst hlen
    simp only [am_step] at hs
    split at hs
    · rename_i x hg
      obtain ⟨L1, e1, e2⟩ := Option.map_eq_some_iff.mp hs
      cases e2
      obtain ⟨q, hq⟩ := List.getElem?_of_mem (am_lv_mem (G := G) (am_lg_at.mp hg))
      exact lv_iinc hx hb hi hl.has hq (Int32.ofInt_add x d).symm (by rw [← hl.2.1]; exact am_ls_lt e1) rfl (fun ls1 hl1 => k0 rfl ls1 (hl.put1 e1 hl1))
    · cases hs
  case iadd  =>
    have hlen : len = 1 := by simpa [am_ok] using hok
    subst hlen
    simp only [am_step] at hs
    split at hs
    · rename_i y x st0
      cases hs
      refine lv_iadd hx hb hi ?_
      rw [← Int32.ofInt_add x y]
      exact k0 rfl ls hl
    · cases hs
  case isub  =>
    have hlen : len = 1 := by simpa [am_ok] using hok
    subst hlen
    simp only [am_step] at hs
    split at hs
    · rename_i y x st0
      cases hs
      refine lv_isub hx hb hi ?_
      rw [← Int32.ofInt_sub x y]
      exact k0 rfl ls hl
    · cases hs
  case imul  =>
    have hlen : len = 1 := by simpa [am_ok] using hok
    subst hlen
    simp only [am_step] at hs
    split at hs
    · rename_i y x st0
      cases hs
      refine lv_imul hx hb hi ?_
      rw [← Int32.ofInt_mul x y]
      exact k0 rfl ls hl
    · cases hs
  case ladd  =>
    have hlen : len = 1 := by simpa [am_ok] using hok
    subst hlen
    simp only [am_step] at hs
    split at hs
    · rename_i y x st0
      cases hs
      refine lv_ladd hx hb hi ?_
      rw [← Int64.ofInt_add x y]
      exact k0 rfl ls hl
    · cases hs
  case lmul  =>
    have hlen : len = 1 := by simpa [am_ok] using hok
    subst hlen
    simp only [am_step] at hs
    split at hs
    · rename_i y x st0
      cases hs
      refine lv_lmul hx hb hi ?_
      rw [← Int64.ofInt_mul x y]
      exact k0 rfl ls hl
    · cases hs
  case ineg  =>
    have hlen : len = 1 := by simpa [am_ok] using hok
    subst hlen
    simp only [am_step] at hs
    split at hs
    · rename_i x st0
      cases hs
      refine lv_ineg hx hb hi ?_
      rw [← Int32.ofInt_neg x]
      exact k0 rfl ls hl
    · cases hs
  case iand  =>
    have hlen : len = 1 := by simpa [am_ok] using hok
    subst hlen
    simp only [am_step] at hs
    split at hs
    · rename_i y x st0
      cases hs
      refine lv_iand hx hb hi ?_
      have h1 := k0 rfl ls hl
      simp only [List.map_cons, am_tr, am_and, Int32.ofInt_toInt] at h1
      exact h1
    · cases hs
  case ior  =>
    have hlen : len = 1 := by simpa [am_ok] using hok
    subst hlen
    simp only [am_step] at hs
    split at hs
    · rename_i y x st0
      cases hs
      refine lv_ior hx hb hi ?_
      have h1 := k0 rfl ls hl
      simp only [List.map_cons, am_tr, am_or, Int32.ofInt_toInt] at h1
      exact h1
    · cases hs
  case ixor  =>
    have hlen : len = 1 := by simpa [am_ok] using hok
    subst hlen
    simp only [am_step] at hs
    split at hs
    · rename_i y x st0
      cases hs
      refine lv_ixor hx hb hi ?_
      have h1 := k0 rfl ls hl
      simp only [List.map_cons, am_tr, am_xor, Int32.ofInt_toInt] at h1
      exact h1
    · cases hs
  case ishl  =>
    have hlen : len = 1 := by simpa [am_ok] using hok
    subst hlen
    simp only [am_step] at hs
    split at hs
    · rename_i y x st0
      cases hs
      refine lv_ishl hx hb hi ?_
      have h1 := k0 rfl ls hl
      simp only [List.map_cons, am_tr, am_shl, Int32.ofInt_toInt] at h1
      exact h1
    · cases hs
  case ishr  =>
    have hlen : len = 1 := by simpa [am_ok] using hok
    subst hlen
    simp only [am_step] at hs
    split at hs
    · rename_i y x st0
      cases hs
      refine lv_ishr hx hb hi ?_
      have h1 := k0 rfl ls hl
      simp only [List.map_cons, am_tr, am_shr, Int32.ofInt_toInt] at h1
      exact h1
    · cases hs
  case land  =>
    have hlen : len = 1 := by simpa [am_ok] using hok
    subst hlen
    simp only [am_step] at hs
    split at hs
    · rename_i y x st0
      cases hs
      refine lv_land hx hb hi ?_
      have h1 := k0 rfl ls hl
      simp only [List.map_cons, am_tr, am_land, Int64.ofInt_toInt] at h1
      exact h1
    · cases hs
  case lor  =>
    have hlen : len = 1 := by simpa [am_ok] using hok
    subst hlen
    simp only [am_step] at hs
    split at hs
    · rename_i y x st0
      cases hs
      refine lv_lor hx hb hi ?_
      have h1 := k0 rfl ls hl
      simp only [List.map_cons, am_tr, am_lor, Int64.ofInt_toInt] at h1
      exact h1
    · cases hs
  case iushr  =>
    have hlen : len = 1 := by simpa [am_ok] using hok
    subst hlen
    simp only [am_step] at hs
    split at hs
    · rename_i y x st0
      cases hs
      exact lv_iushr hx hb hi (Int32.ofInt_toInt _).symm (k0 rfl ls hl)
    · cases hs
  case lshl  =>
    have hlen : len = 1 := by simpa [am_ok] using hok
    subst hlen
    simp only [am_step] at hs
    split at hs
    · rename_i y x st0
      cases hs
      exact lv_lshl hx hb hi (Int64.ofInt_toInt _).symm (k0 rfl ls hl)
    · cases hs
  case lushr  =>
    have hlen : len = 1 := by simpa [am_ok] using hok
    subst hlen
    simp only [am_step] at hs
    split at hs
    · rename_i y x st0
      cases hs
      exact lv_lushr hx hb hi (Int64.ofInt_toInt _).symm (k0 rfl ls hl)
    · cases hs
  case idiv  =>
    have hlen : len = 1 := by simpa [am_ok] using hok
    subst hlen
    simp only [am_step] at hs
    split at hs
    · rename_i y x st0
      split at hs
      · cases hs
      · rename_i hne
        cases hs
        refine lv_idiv hx hb hi (fun q => hne (((am_eq_iff y 0).mp q).trans am_w0)) ?_
        have h1 := k0 rfl ls hl
        simp only [List.map_cons, am_tr, am_div, Int32.ofInt_toInt] at h1
        exact h1
    · cases hs
  case irem  =>
    have hlen : len = 1 := by simpa [am_ok] using hok
    subst hlen
    simp only [am_step] at hs
    split at hs
    · rename_i y x st0
      split at hs
      · cases hs
      · rename_i hne
        cases hs
        refine lv_irem hx hb hi (fun q => hne (((am_eq_iff y 0).mp q).trans am_w0)) ?_
        have h1 := k0 rfl ls hl
        simp only [List.map_cons, am_tr, am_rem, Int32.ofInt_toInt] at h1
        exact h1
    · cases hs
  case lrem  =>
    have hlen : len = 1 := by simpa [am_ok] using hok
    subst hlen
    simp only [am_step] at hs
    split at hs
    · rename_i y x st0
      split at hs
      · cases hs
      · rename_i hne
        cases hs
        refine lv_lrem hx hb hi (fun q => hne (by unfold am_v; rw [q]; rfl)) ?_
        have h1 := k0 rfl ls hl
        simp only [List.map_cons, am_tr, am_lrem, Int64.ofInt_toInt] at h1
        exact h1
    · cases hs
  case lcmp  =>
    have hlen : len = 1 := by simpa [am_ok] using hok
    subst hlen
    simp only [am_step] at hs
    split at hs
    · rename_i y x st0
      cases hs
      refine W.lcmp hx hb hi ?_
      rw [← am_cmp_eq x y]
      exact k0 rfl ls hl
    · cases hs
  case i2l  =>
    have hlen : len = 1 := by simpa [am_ok] using hok
    subst hlen
    simp only [am_step] at hs
    split at hs
    · rename_i x st0
      cases hs
      exact lv_i2l hx hb hi (Int64.ofInt_int32ToInt _).symm (k0 rfl ls hl)
    · cases hs
  case l2i  =>
    have hlen : len = 1 := by simpa [am_ok] using hok
    subst hlen
    simp only [am_step] at hs
    split at hs
    · rename_i x st0
      cases hs
      exact lv_l2i hx hb hi (Int32.ofInt_toInt _).symm (k0 rfl ls hl)
    · cases hs
  case dup  =>
    have hlen : len = 1 := by simpa [am_ok] using hok
    subst hlen
    simp only [am_step] at hs
    split at hs
    · rename_i v st0
      split at hs
      · rename_i hv
        cases hs
        exact lv_dup (va := am_tr G v) hx hb hi (by rw [am_cat]; exact hv) (k0 rfl ls hl)
      · cases hs
    · cases hs
  case pop  =>
    have hlen : len = 1 := by simpa [am_ok] using hok
    subst hlen
    simp only [am_step] at hs
    split at hs
    · rename_i v st0
      split at hs
      · rename_i hv
        cases hs
        exact lv_pop (va := am_tr G v) hx hb hi (by rw [am_cat]; exact hv) (k0 rfl ls hl)
      · cases hs
    · cases hs
  case dup2  =>
    have hlen : len = 1 := by simpa [am_ok] using hok
    subst hlen
    simp only [am_step] at hs
    split at hs
    · rename_i v u st0
      split at hs
      · rename_i hv
        cases hs
        exact lv_dup2_11 (va := am_tr G v) (vb := am_tr G u) hx hb hi (by rw [am_cat]; exact hv.1) (by rw [am_cat]; exact hv.2) (k0 rfl ls hl)
      · cases hs
    · cases hs
  case goto off =>
    have hlen : len = 3 := by simpa [am_ok] using hok
    subst hlen
    simp only [am_step] at hs
    obtain ⟨t, e1, e2⟩ := Option.map_eq_some_iff.mp hs
    cases e2
    exact lv_goto hx hb hi (am_jp_at e1) (k0 rfl ls hl)
  case ifCond cd off =>
    have hlen : len = 3 := by simpa [am_ok] using hok
    subst hlen
    simp only [am_step] at hs
    split at hs
    · rename_i x st0
      obtain ⟨t, e1, e2⟩ := Option.map_eq_some_iff.mp hs
      have ht := am_jp_at e1
      have q0 : (Int32.ofInt x = 0) ↔ am_w x = 0 := (am_eq_iff x 0).trans (by rw [am_w0])
      have q1 : (Int32.ofInt x < 0) ↔ am_w x < 0 := (am_lt_iff x 0).trans (by rw [am_w0])
      have q2 : (0 ≤ Int32.ofInt x) ↔ 0 ≤ am_w x := (am_le_iff 0 x).trans (by rw [am_w0])
      have q3 : (0 < Int32.ofInt x) ↔ 0 < am_w x := (am_lt_iff 0 x).trans (by rw [am_w0])
      have q4 : (Int32.ofInt x ≤ 0) ↔ am_w x ≤ 0 := (am_le_iff x 0).trans (by rw [am_w0])
      cases cd
      case eq =>
        by_cases e3 : am_cz .eq x = true
        · rw [if_pos e3] at e2
          cases e2
          exact lv_if_eq hx hb hi ht (fun _ => k0 rfl ls hl) (fun z => absurd (q0.mpr (by simpa [am_cz] using e3)) z)
        · rw [if_neg e3] at e2
          cases e2
          exact lv_if_eq hx hb hi ht (fun z => absurd (by simpa [am_cz] using q0.mp z) e3) (fun _ => k0 rfl ls hl)
      case ne =>
        by_cases e3 : am_cz .ne x = true
        · rw [if_pos e3] at e2
          cases e2
          exact lv_if_ne hx hb hi ht (fun _ => k0 rfl ls hl) (fun z => absurd e3 (by simp [am_cz, q0.mp z]))
        · rw [if_neg e3] at e2
          cases e2
          exact lv_if_ne hx hb hi ht (fun z => absurd (by simp [am_cz, mt q0.mpr z]) e3) (fun _ => k0 rfl ls hl)
      case lt =>
        by_cases e3 : am_cz .lt x = true
        · rw [if_pos e3] at e2
          cases e2
          exact lv_if_lt hx hb hi ht (fun _ => k0 rfl ls hl) (fun z => absurd (q1.mpr (by simpa [am_cz] using e3)) z)
        · rw [if_neg e3] at e2
          cases e2
          exact lv_if_lt hx hb hi ht (fun z => absurd (by simpa [am_cz] using q1.mp z) e3) (fun _ => k0 rfl ls hl)
      case ge =>
        by_cases e3 : am_cz .ge x = true
        · rw [if_pos e3] at e2
          cases e2
          exact lv_if_ge hx hb hi ht (fun _ => k0 rfl ls hl) (fun z => absurd (q2.mpr (by simpa [am_cz] using e3)) z)
        · rw [if_neg e3] at e2
          cases e2
          exact lv_if_ge hx hb hi ht (fun z => absurd (by simpa [am_cz] using q2.mp z) e3) (fun _ => k0 rfl ls hl)
      case gt =>
        by_cases e3 : am_cz .gt x = true
        · rw [if_pos e3] at e2
          cases e2
          exact lv_if_gt hx hb hi ht (fun _ => k0 rfl ls hl) (fun z => absurd (q3.mpr (by simpa [am_cz] using e3)) z)
        · rw [if_neg e3] at e2
          cases e2
          exact lv_if_gt hx hb hi ht (fun z => absurd (by simpa [am_cz] using q3.mp z) e3) (fun _ => k0 rfl ls hl)
      case le =>
        by_cases e3 : am_cz .le x = true
        · rw [if_pos e3] at e2
          cases e2
          exact lv_if_le hx hb hi ht (fun _ => k0 rfl ls hl) (fun z => absurd (q4.mpr (by simpa [am_cz] using e3)) z)
        · rw [if_neg e3] at e2
          cases e2
          exact lv_if_le hx hb hi ht (fun z => absurd (by simpa [am_cz] using q4.mp z) e3) (fun _ => k0 rfl ls hl)
    · cases hs
  case if_icmp cd off =>
    have hlen : len = 3 := by simpa [am_ok] using hok
    subst hlen
    simp only [am_step] at hs
    split at hs
    · rename_i y x st0
      obtain ⟨t, e1, e2⟩ := Option.map_eq_some_iff.mp hs
      have ht := am_jp_at e1
      have q0 := am_eq_iff x y
      have q1 := am_lt_iff x y
      have q2 := am_le_iff y x
      have q3 := am_lt_iff y x
      have q4 := am_le_iff x y
      cases cd
      case eq =>
        by_cases e3 : am_cc .eq x y = true
        · rw [if_pos e3] at e2
          cases e2
          exact lv_icmp_eq hx hb hi ht (fun _ => k0 rfl ls hl) (fun z => absurd (q0.mpr (by simpa [am_cc] using e3)) z)
        · rw [if_neg e3] at e2
          cases e2
          exact lv_icmp_eq hx hb hi ht (fun z => absurd (by simpa [am_cc] using q0.mp z) e3) (fun _ => k0 rfl ls hl)
      case ne =>
        by_cases e3 : am_cc .ne x y = true
        · rw [if_pos e3] at e2
          cases e2
          exact lv_icmp_ne hx hb hi ht (fun _ => k0 rfl ls hl) (fun z => absurd e3 (by simp [am_cc, q0.mp z]))
        · rw [if_neg e3] at e2
          cases e2
          exact lv_icmp_ne hx hb hi ht (fun z => absurd (by simp [am_cc, mt q0.mpr z]) e3) (fun _ => k0 rfl ls hl)
      case lt =>
        by_cases e3 : am_cc .lt x y = true
        · rw [if_pos e3] at e2
          cases e2
          exact lv_icmp_lt hx hb hi ht (fun _ => k0 rfl ls hl) (fun z => absurd (q1.mpr (by simpa [am_cc] using e3)) z)
        · rw [if_neg e3] at e2
          cases e2
          exact lv_icmp_lt hx hb hi ht (fun z => absurd (by simpa [am_cc] using q1.mp z) e3) (fun _ => k0 rfl ls hl)
      case ge =>
        by_cases e3 : am_cc .ge x y = true
        · rw [if_pos e3] at e2
          cases e2
          exact lv_icmp_ge hx hb hi ht (fun _ => k0 rfl ls hl) (fun z => absurd (q2.mpr (by simpa [am_cc] using e3)) z)
        · rw [if_neg e3] at e2
          cases e2
          exact lv_icmp_ge hx hb hi ht (fun z => absurd (by simpa [am_cc] using q2.mp z) e3) (fun _ => k0 rfl ls hl)
      case gt =>
        by_cases e3 : am_cc .gt x y = true
        · rw [if_pos e3] at e2
          cases e2
          exact lv_icmp_gt hx hb hi ht (fun _ => k0 rfl ls hl) (fun z => absurd (q3.mpr (by simpa [am_cc] using e3)) z)
        · rw [if_neg e3] at e2
          cases e2
          exact lv_icmp_gt hx hb hi ht (fun z => absurd (by simpa [am_cc] using q3.mp z) e3) (fun _ => k0 rfl ls hl)
      case le =>
        by_cases e3 : am_cc .le x y = true
        · rw [if_pos e3] at e2
          cases e2
          exact lv_icmp_le hx hb hi ht (fun _ => k0 rfl ls hl) (fun z => absurd (q4.mpr (by simpa [am_cc] using e3)) z)
        · rw [if_neg e3] at e2
          cases e2
          exact lv_icmp_le hx hb hi ht (fun z => absurd (by simpa [am_cc] using q4.mp z) e3) (fun _ => k0 rfl ls hl)
    · cases hs
  case tableswitch dflt lo hi2 offs =>
    simp only [am_step] at hs
    split at hs
    · rename_i x st0
      obtain ⟨t, e1, e2⟩ := Option.map_eq_some_iff.mp hs
      cases e2
      unfold am_sw at e1
      split at e1
      · rename_i hq
        exact lv_tableOut hx hb hi hq (am_jp_at e1) (k0 rfl ls hl)
      · rename_i hq
        split at e1
        · rename_i off ho
          exact lv_tableIn hx hb hi (fun z => hq (Or.inl z)) (fun z => hq (Or.inr z)) ho (am_jp_at e1) (k0 rfl ls hl)
        · cases e1
    · cases hs
  case getfield x =>
    simp only [am_ok, Bool.and_eq_true, beq_iff_eq, List.contains_iff_mem] at hok
    obtain ⟨rfl, hm⟩ := hok
    obtain ⟨f1, f2, f3⟩ := am_fFL _ hm
    dsimp only at f1 f2 f3
    simp only [am_step] at hs
    split at hs
    · rename_i a st0
      obtain ⟨v, e1, e2⟩ := Option.map_eq_some_iff.mp hs
      cases e2
      unfold am_fd at e1
      split at e1
      · rename_i c' fs he
        split at e1
        · rename_i hcc
          subst hcc
          obtain ⟨g1, g2, g3, g4⟩ := am_cf c' f1
          exact va_get (v := am_tr G v) hx hb hts (am_inS f1) hown hSt.1 hW.1 a (am_ws_get he) g1 r2 f2 (am_gwS hts f3 rfl) (fun _ h9 => h9) (by rw [List.getElem?_map, e1]; rfl) hi (k0 rfl ls hl)
        · cases e1
      · cases e1
    · cases hs
  case putfield x =>
    simp only [am_ok, Bool.and_eq_true, beq_iff_eq, List.contains_iff_mem, Bool.or_eq_true, Bool.not_eq_true'] at hok
    obtain ⟨⟨rfl, hm⟩, hf⟩ := hok
    obtain ⟨f1, f2, f3⟩ := am_fFL _ hm
    dsimp only at f1 f2 f3
    simp only [am_step] at hs
    split at hs
    · rename_i v a st0
      obtain ⟨h1, e1, e2⟩ := Option.map_eq_some_iff.mp hs
      cases e2
      unfold am_fs at e1
      split at e1
      · rename_i c' fs he
        split at e1
        · rename_i hcc
          obtain ⟨rfl, hj, hft⟩ := hcc
          cases e1
          obtain ⟨g1, g2, g3, g4⟩ := am_cf c' f1
          have hz : am_sz (h.set a (am_o c' (fs.set r2 v))) = am_sz h := am_sz_set he (by simp [am_cs])
          simp only [List.length_set, hz, Nat.sub_self, Nat.add_zero] at kk
          refine am_rput hx hb hts (am_inS f1) (am_ty c') g3 g4 hown hSt.1 hW hS he g1 r2 f2 (am_gwS hts f3 rfl) ?_ (am_ft_ok hft).1 (am_ft_ok hft).2 hj hi (fun H1 locs1 hW1 hS1 => kk H1 locs1 ls hW1 hS1 hl)
          rcases hf with hf | hf
          · exact Or.inl hf
          · by_cases hfin : (am_tx c' r2).2.2.2 = true
            · refine Or.inr ⟨hfin, hnm hf.1, ?_⟩
              rw [← hf.2]
              exact am_txo c' f1 r2 f2
            · exact Or.inl (by simpa using hfin)
        · cases e1
      · cases e1
    · cases hs
  case getstatic x =>
    simp only [am_ok, Bool.and_eq_true, beq_iff_eq, List.contains_iff_mem] at hok
    obtain ⟨rfl, hm⟩ := hok
    simp only [am_step] at hs
    cases hs
    exact va_gets hx hb hSt.2.1 hS hown (am_gwS hts (am_fGS _ hm) rfl) (fun _ h9 => h9) hi (k0 rfl ls hl)
  case iaload =>
    have hlen : len = 1 := by simpa [am_ok] using hok
    subst hlen
    simp only [am_step] at hs
    split at hs
    · rename_i j a st0
      obtain ⟨x, e1, e2⟩ := Option.map_eq_some_iff.mp hs
      cases e2
      unfold am_ia at e1
      split at e1
      · rename_i a0
        split at e1
        · rename_i t' xs he
          split at e1
          · rename_i hq
            obtain ⟨rfl, h0⟩ := hq
            refine va_iald hx hb hSt.1 hW.1 a0 0 (am_ws_get he) rfl (am_in_of h0 (am_get_lt e1)) hi ?_
            have h2 : am_ai xs (Int32.ofInt j).toNatClampNeg = Int32.ofInt x := am_ai_at e1
            rw [h2]
            exact k0 rfl ls hl
          · cases e1
        · cases e1
      · rename_i x0
        split at e1
        · rename_i xs he
          split at e1
          · rename_i hq
            obtain ⟨z1, z2, z3⟩ := hSt.2.2.1 x0 xs he
            refine va_sld hx hb z1 z2 (Nat.not_le.mpr z3) hS (am_in_of hq.2 (am_get_lt e1)) hi ?_
            have h2 : am_ai xs (Int32.ofInt j).toNatClampNeg = Int32.ofInt x := am_ai_at e1
            rw [h2]
            exact k0 rfl ls hl
          · cases e1
        · cases e1
      · cases e1
    · cases hs
  case baload =>
    have hlen : len = 1 := by simpa [am_ok] using hok
    subst hlen
    simp only [am_step] at hs
    split at hs
    · rename_i j a st0
      obtain ⟨x, e1, e2⟩ := Option.map_eq_some_iff.mp hs
      cases e2
      unfold am_ia at e1
      rcases a with _ | a0
      · cases e1
      · dsimp only at e1
        split at e1
        · rename_i t' xs he
          split at e1
          · rename_i hq
            obtain ⟨rfl, h0⟩ := hq
            refine va_zald hx hb hSt.1 hW.1 a0 1 (am_ws_get he) rfl (am_in_of h0 (am_get_lt e1)) hi ?_
            have h2 : am_ai xs (Int32.ofInt j).toNatClampNeg = Int32.ofInt x := am_ai_at e1
            rw [h2]
            exact k0 rfl ls hl
          · cases e1
        · cases e1
    · cases hs
  case iastore =>
    have hlen : len = 1 := by simpa [am_ok] using hok
    subst hlen
    simp only [am_step] at hs
    split at hs
    · rename_i x j a st0
      obtain ⟨h1, e1, e2⟩ := Option.map_eq_some_iff.mp hs
      cases e2
      unfold am_is at e1
      split at e1
      · rename_i t' xs he
        split at e1
        · rename_i hq
          obtain ⟨rfl, h0, h2⟩ := hq
          cases e1
          have hz : am_sz (h.set a (am_a 0 (xs.set (am_w j).toNat x))) = am_sz h := am_sz_set he (by simp [am_cs])
          simp only [List.length_set, hz, Nat.sub_self, Nat.add_zero] at kk
          exact am_rist hx hb hSt.1 hW hS he h0 h2 hi (fun H1 locs1 hW1 hS1 => kk H1 locs1 ls hW1 hS1 hl)
        · cases e1
      · cases e1
    · cases hs
  case bastore =>
    have hlen : len = 1 := by simpa [am_ok] using hok
    subst hlen
    simp only [am_step] at hs
    split at hs
    · rename_i x j a st0
      split at hs
      · rename_i hx01
        obtain ⟨h1, e1, e2⟩ := Option.map_eq_some_iff.mp hs
        cases e2
        unfold am_is at e1
        split at e1
        · rename_i t' xs he
          split at e1
          · rename_i hq
            obtain ⟨rfl, h0, h2⟩ := hq
            cases e1
            have hz : am_sz (h.set a (am_a 1 (xs.set (am_w j).toNat x))) = am_sz h := am_sz_set he (by simp [am_cs])
            simp only [List.length_set, hz, Nat.sub_self, Nat.add_zero] at kk
            exact am_rzst hx hb hSt.1 hW hS he hx01 h0 h2 hi (fun H1 locs1 hW1 hS1 => kk H1 locs1 ls hW1 hS1 hl)
          · cases e1
        · cases e1
      · cases hs
    · cases hs
  case aaload =>
    have hlen : len = 1 := by simpa [am_ok] using hok
    subst hlen
    simp only [am_step] at hs
    split at hs
    · rename_i j a st0
      obtain ⟨x, e1, e2⟩ := Option.map_eq_some_iff.mp hs
      cases e2
      unfold am_qa at e1
      split at e1
      · rename_i xs he
        split at e1
        · rename_i h0
          refine va_aldq hx hb hSt.1 hW.1 a 2 (am_ws_get he) rfl (am_in_of h0 (am_get_lt e1)) hi ?_
          have h2 : va_rf (am_aq G xs (Int32.ofInt j).toNatClampNeg) = am_tr G (am_r x) := by
            have h3 : xs[(Int32.ofInt j).toNatClampNeg]? = some x := e1
            simp only [am_aq, List.getD_eq_getElem?_getD, h3, Option.getD_some]
            cases x <;> rfl
          rw [h2]
          exact k0 rfl ls hl
        · cases e1
      · cases e1
    · cases hs
  case aastore =>
    have hlen : len = 1 := by simpa [am_ok] using hok
    subst hlen
    simp only [am_step] at hs
    split at hs
    · rename_i v j a st0
      obtain ⟨h1, e1, e2⟩ := Option.map_eq_some_iff.mp hs
      cases e2
      unfold am_qs at e1
      split at e1
      · rename_i xs fs he hv
        split at e1
        · rename_i hq
          cases e1
          have hz : am_sz (h.set a (am_q (xs.set (am_w j).toNat (some v)))) = am_sz h := am_sz_set he (by simp [am_cs])
          simp only [List.length_set, hz, Nat.sub_self, Nat.add_zero] at kk
          exact am_rqst hx hb hSt.1 hW hS he hv hq.1 hq.2 hi (fun H1 locs1 hW1 hS1 => kk H1 locs1 ls hW1 hS1 hl)
        · cases e1
      · cases e1
    · cases hs
  case arraylength =>
    have hlen : len = 1 := by simpa [am_ok] using hok
    subst hlen
    simp only [am_step] at hs
    split at hs
    · rename_i a st0
      obtain ⟨x, e1, e2⟩ := Option.map_eq_some_iff.mp hs
      cases e2
      unfold am_al at e1
      split at e1
      · rename_i a0
        split at e1
        · rename_i t' xs he
          cases e1
          rcases t' with _ | t'
          · exact va_alen hx hb hSt.1 hW.1 a0 0 (am_ws_get he) rfl Int32.ofInt_eq_ofNat.symm hi (k0 rfl ls hl)
          · exact va_alen hx hb hSt.1 hW.1 a0 1 (am_ws_get he) rfl Int32.ofInt_eq_ofNat.symm hi (k0 rfl ls hl)
        · rename_i xs he
          cases e1
          exact va_alen hx hb hSt.1 hW.1 a0 2 (am_ws_get he) rfl Int32.ofInt_eq_ofNat.symm hi (k0 rfl ls hl)
        · cases e1
      · rename_i x0
        split at e1
        · rename_i xs he
          cases e1
          obtain ⟨z1, z2, z3⟩ := hSt.2.2.1 x0 xs he
          refine va_slen hx hb z1 z2 (Nat.not_le.mpr z3) hS hi ?_
          rw [← Int32.ofInt_eq_ofNat]
          exact k0 rfl ls hl
        · cases e1
      · cases e1
    · cases hs
  case newarray t =>
    cases t
    case int =>
      have hlen : len = 2 := by simpa [am_ok] using hok
      subst hlen
      simp only [am_step] at hs
      split at hs
      · rename_i n st0
        split at hs
        · rename_i hq
          cases hs
          simp only [List.length_append, List.length_singleton, am_sz_push, am_cs, List.length_replicate, Nat.add_sub_cancel_left] at kk hc hsl
          refine am_rnewa (atype := .int) (N' := (am_w n).toNat) hx hb (am_gwS hts am_fac.1 rfl) hW hS (fun cA H1 e1 hNm => ?_) (fun z => absurd ((am_lt_iff n 0).mp z) (by rw [am_w0]; omega)) rfl (by show (am_w n).toNat * 4 ≤ _; omega) hc hsl hi (fun H1 hW1 hS1 => kk H1 locs ls hW1 hS1 hl)
          have hcA : cA = G.2.1.1 := Option.some.inj (hNm.symm.trans (hSt.1.2 0 _ rfl).2)
          show H1[H.size]? = some (vp_cell _ _)
          rw [e1, List.length_replicate, vp_cell_i, hcA]
          congr 2
          funext j
          simp only [am_ai, List.getD_eq_getElem?_getD, List.getElem?_replicate]
          split <;> rfl
        · cases hs
      · cases hs
    case boolean =>
      have hlen : len = 2 := by simpa [am_ok] using hok
      subst hlen
      simp only [am_step] at hs
      split at hs
      · rename_i n st0
        split at hs
        · rename_i hq
          cases hs
          simp only [List.length_append, List.length_singleton, am_sz_push, am_cs, List.length_replicate, Nat.add_sub_cancel_left] at kk hc hsl
          refine am_rnewa (atype := .boolean) (N' := (am_w n).toNat) hx hb (am_gwS hts am_fac.2.1 rfl) hW hS (fun cA H1 e1 hNm => ?_) (fun z => absurd ((am_lt_iff n 0).mp z) (by rw [am_w0]; omega)) rfl (by show (am_w n).toNat * 1 ≤ _; omega) hc hsl hi (fun H1 hW1 hS1 => kk H1 locs ls hW1 hS1 hl)
          have hcA : cA = G.2.1.2.1 := Option.some.inj (hNm.symm.trans (hSt.1.2 1 _ rfl).2)
          show H1[H.size]? = some (vp_cell _ _)
          rw [e1, List.length_replicate, vp_cell_i, hcA]
          congr 2
          funext j
          simp only [am_ai, List.getD_eq_getElem?_getD, List.getElem?_replicate]
          split <;> rfl
        · cases hs
      · cases hs
    all_goals (simp only [am_step] at hs; cases hs)
  case anewarray x =>
    simp only [am_ok, Bool.and_eq_true, beq_iff_eq, List.contains_iff_mem] at hok
    obtain ⟨rfl, hm⟩ := hok
    simp only [am_step] at hs
    split at hs
    · rename_i n st0
      split at hs
      · rename_i hq
        cases hs
        simp only [List.length_append, List.length_singleton, am_sz_push, am_cs, List.length_replicate, Nat.add_sub_cancel_left] at kk hc hsl
        exact am_rnewq (N' := (am_w n).toNat) hx hb hown (am_gwS hts (am_fAN _ hm) rfl) hSt.2.2.2.2.1 hSt.1 hW hS (fun z => absurd ((am_lt_iff n 0).mp z) (by rw [am_w0]; omega)) rfl (by omega) hc hsl hi (fun H1 hW1 hS1 => kk H1 locs ls hW1 hS1 hl)
      · cases hs
    · cases hs
  case new x =>
    simp only [am_ok, Bool.and_eq_true, beq_iff_eq, List.contains_iff_mem] at hok
    obtain ⟨rfl, hm⟩ := hok
    obtain ⟨f1, f2, f3, f4⟩ := am_fNW _ hm
    dsimp only at f1 f2 f3 f4
    simp only [am_step] at hs
    cases hs
    obtain ⟨g1, g2, g3, g4⟩ := am_cf r1 f1
    simp only [List.length_append, List.length_singleton, am_sz_push, am_cs, List.length_map, List.length_range, Nat.add_sub_cancel_left] at kk hc hsl
    refine am_rnew hx hb hts (am_inS f1) (am_ty r1) g3 hown (am_gwS hts f2 rfl) (am_gwS hts f3 rfl) (am_gwS hts f4 rfl) hSt.1 hW hS g1 (fun j hj => ?_) hc hsl hi (fun H1 hW1 hS1 => kk H1 locs ls hW1 hS1 hl)
    have h1 : vp_V (((List.range (am_nf r1)).map fun j => am_df (am_ty r1 j)).map (am_tr G)) j = am_tr G (am_df (am_ty r1 j)) := by
      simp [vp_V, List.getD_eq_getElem?_getD, hj]
    rw [h1]
    rcases am_df_eq G (am_ty r1 j) with h2 | h2 | h2
    · exact h2
    · exact absurd h2 (am_ty_ok r1 f1 j hj).1
    · exact absurd h2 (am_ty_ok r1 f1 j hj).2
  case invokespecial x =>
    simp only [am_step] at hs
    split at hs
    · rename_i a st0
      split at hs
      · rename_i hq
        obtain ⟨h4, h8⟩ := hq
        subst h4
        have h9 : ((st0.map (am_tr G)).map fun v => v.category).sum ≤ 8 := by rw [am_cats]; exact h8
        cases hs
        simp [am_ok] at hok
        obtain ⟨rfl, hm⟩ := hok
        simp [am_rk] at hrk
        refine W.objInit hx hb hown (am_gwS hts (am_fMO _ hm) rfl) (am_gwS hts am_fob rfl) (am_gwS hts am_cwob rfl) rfl (by rw [hmls]) rfl hi (Nat.le_trans hrk.1 hfr) ?_ (k0 rfl ls hl)
        show 2 * 0 + ((st'.map (am_tr G)).map fun v => v.category).sum + 12 ≤ R.locals
        have h10 : 20 ≤ R.locals := Nat.le_trans hrk.2 hlo
        omega
      · cases hs
    · cases hs
  case invokestatic ix =>
    simp only [am_step] at hs
    have h10 : ∀ st0 : List am_V, (st0.map am_ct).sum ≤ 8 → ¬ r1 = 1 → ((st0.map (am_tr G)).map fun v => v.category).sum + 13 ≤ R.locals ∧ 1 ≤ R.frames := by
      intro st0 h8 hr
      simp [am_rk, hr] at hrk
      have h9 : ((st0.map (am_tr G)).map fun v => v.category).sum ≤ 8 := by rw [am_cats]; exact h8
      have h11 : 21 ≤ R.locals := Nat.le_trans hrk.2 hlo
      exact ⟨by omega, Nat.le_trans hrk.1 hfr⟩
    simp only [am_ok, Bool.and_eq_true, beq_iff_eq, List.contains_iff_mem, Bool.or_eq_true] at hok
    obtain ⟨rfl, hm⟩ := hok
    split at hs
    · rename_i y x st0
      split at hs
      · rename_i h8
        cases hs
        have hm : (am_ow k, ix, 5) ∈ am_MM := by rcases hm with hm | hm; exact absurd hm.1 (by decide); exact hm
        refine va_mmax hx hb hmls hown (am_gwS hts (am_fMM _ hm).2 rfl) (am_gwS hts am_fmath.1 rfl) (am_gwS hts am_fmath.2.2.2 rfl) (am_gwS hts am_fmmax rfl) (h10 st0 h8 (by decide)).2 (h10 st0 h8 (by decide)).1 hc0 hs0 hi ?_
        have h1 := k0 rfl ls hl
        have h2 : Int32.ofInt (if am_w x < am_w y then y else x) = if Int32.ofInt x < Int32.ofInt y then Int32.ofInt y else Int32.ofInt x := by
          by_cases q : am_w x < am_w y
          · rw [if_pos q, if_pos ((am_lt_iff x y).mpr q)]
          · rw [if_neg q, if_neg (fun z => q ((am_lt_iff x y).mp z))]
        rw [← h2]
        exact h1
      · cases hs
    · rename_i y x st0
      split at hs
      · rename_i h8
        cases hs
        have hm : (am_ow k, ix, 6) ∈ am_MM := by rcases hm with hm | hm; exact absurd hm.1 (by decide); exact hm
        refine va_mmin hx hb hmls hown (am_gwS hts (am_fMM _ hm).2 rfl) (am_gwS hts am_fmath.2.1 rfl) (am_gwS hts am_fmath.2.2.2 rfl) (am_gwS hts am_fmmin rfl) (h10 st0 h8 (by decide)).2 (h10 st0 h8 (by decide)).1 hc0 hs0 hi ?_
        have h1 := k0 rfl ls hl
        have h2 : Int32.ofInt (if am_w y < am_w x then y else x) = if Int32.ofInt y < Int32.ofInt x then Int32.ofInt y else Int32.ofInt x := by
          by_cases q : am_w y < am_w x
          · rw [if_pos q, if_pos ((am_lt_iff y x).mpr q)]
          · rw [if_neg q, if_neg (fun z => q ((am_lt_iff y x).mp z))]
        rw [← h2]
        exact h1
      · cases hs
    · rename_i x st0
      split at hs
      · rename_i h8
        cases hs
        have hm : (am_ow k, ix, 7) ∈ am_MM := by rcases hm with hm | hm; exact absurd hm.1 (by decide); exact hm
        refine va_mabs hx hb hmls hown (am_gwS hts (am_fMM _ hm).2 rfl) (am_gwS hts am_fmath.2.2.1 rfl) (am_gwS hts am_fmath.2.2.2 rfl) (am_gwS hts am_fmabs rfl) (h10 st0 h8 (by decide)).2 (h10 st0 h8 (by decide)).1 hc0 hs0 hi ?_
        have h1 := k0 rfl ls hl
        have h2 : Int32.ofInt (if 0 ≤ am_w x then x else 0 - x) = if 0 ≤ Int32.ofInt x then Int32.ofInt x else 0 - Int32.ofInt x := by
          have q0 : (0 ≤ Int32.ofInt x) ↔ 0 ≤ am_w x := (am_le_iff 0 x).trans (by rw [am_w0])
          by_cases q : 0 ≤ am_w x
          · rw [if_pos q, if_pos (q0.mpr q)]
          · rw [if_neg q, if_neg (fun z => q (q0.mp z)), Int32.ofInt_sub]
            rfl
        rw [← h2]
        exact h1
      · cases hs
    · cases hs
  all_goals (simp only [am_step] at hs; cases hs)
end AMT
