/-! THE SOUNDNESS OF THE ABSTRACT MACHINE -/
def am_Pc (G : am_G) (E : List (List Int)) (vs : List am_V) (h : am_H) : Array Value → State → Prop := va_Pc (vs.map (am_tr G)) (fun U => am_St G E U U.heap ∧ am_Wd G h U.heap)
def am_Qc (G : am_G) (rv : Option am_V) (h' : am_H) : Array Value → State → Outcome → State → Prop := fun _ st oc t => (oc = .returned (rv.map (am_tr G)) ∧ am_Wd G h' t.heap) ∧ va_F (am_Ab G) st t
def am_rm (k : Nat) (h h' : am_H) : Room := { frames := am_fr k, cells := h'.length - h.length, slots := am_sz h' - am_sz h, locals := am_lo k }
def am_wl (k : Nat) : List Cond := am_cw k :: am_gw
def am_Met (l : Launch) (G : am_G) (E : List (List Int)) (k : Nat) (vs : List am_V) (h : am_H) (rv : Option am_V) (h' : am_H) : Prop := Met l (am_rc k).1 (am_wl k) (am_rm k h h') (am_Pc G E vs h) (am_Qc G rv h') (h'.length - h.length) (am_sz h' - am_sz h) (am_Ab G)
theorem am_look {α : Type} {pc : Nat} {x : α} : ∀ {l : List (Nat × α)}, l.lookup pc = some x → (pc, x) ∈ l
  | [], h => by cases h
  | (a, b) :: l, h => by
    unfold List.lookup at h
    split at h
    · rename_i e
      cases h
      have e1 : pc = a := by simpa using e
      rw [e1]
      exact List.mem_cons_self
    · exact List.mem_cons_of_mem _ (am_look h)
theorem am_atf {k pc : Nat} {i : am_I} (hk : k < 183) (h : am_at k pc = some i) : decode (am_rc k).2.1 pc = .ok (i.1, i.2.1) ∧ am_ok (am_ow k) ((am_rc k).1.name == "<init>") i = true ∧ am_rk k i = true := by
  unfold am_at at h
  cases hq : am_P[k]? with
  | none => rw [hq] at h; cases h
  | some q =>
    rw [hq] at h
    have hm := am_look (show q.2.lookup pc = some i from h)
    have h1 := am_gall q (List.mem_of_getElem? hq) (pc, i) hm
    have h2 : am_rc k = q.1 := by unfold am_rc; rw [hq]
    have h3 := am_rks k hk (pc, i) (by rw [List.getD_eq_getElem?_getD, hq]; exact hm)
    refine ⟨by rw [h2]; exact h1.1, ?_, h3⟩
    show am_ok (am_rc k).2.2.2.2.1 ((am_rc k).1.name == "<init>") i = true
    rw [h2]
    exact h1.2
theorem am_sl_len (G : am_G) : ∀ vs : List am_V, (lg_sl (vs.map (am_tr G))).length = (am_sl vs).length
  | [] => rfl
  | v :: vs => by
    have ih := am_sl_len G vs
    unfold lg_sl am_sl at ih ⊢
    rw [List.map_cons, List.flatMap_cons, List.flatMap_cons, List.length_append, List.length_append, ih, am_cat]
    split <;> rfl
theorem am_sl_at (G : am_G) : ∀ (vs : List am_V) (j : Nat) (v : am_V), (am_sl vs)[j]? = some (some v) → (lg_sl (vs.map (am_tr G)))[j]? = some (.val (am_tr G v))
  | [], j, v, h => by simp [am_sl] at h
  | u :: vs, j, v, h => by
    have ih := am_sl_at G vs
    unfold lg_sl am_sl at ih
    unfold am_sl at h
    unfold lg_sl
    rw [List.flatMap_cons] at h
    rw [List.map_cons, List.flatMap_cons, am_cat]
    by_cases hc : am_ct u = 2
    · rw [if_pos hc] at h ⊢
      match j, h with
      | 0, h => cases h; rfl
      | 1, h => cases h
      | j + 2, h => exact ih j v h
    · rw [if_neg hc] at h ⊢
      match j, h with
      | 0, h => cases h; rfl
      | j + 1, h => exact ih j v h
theorem am_LR0 (G : am_G) (vs : List am_V) (n : Nat) (hn : (am_sl vs).length ≤ n) : am_LR G ((lg_sl (vs.map (am_tr G)) ++ List.replicate (n - (lg_sl (vs.map (am_tr G))).length) Slot.unset).toArray) n (am_L0 vs n) := by
  have h := lv_entry (vs.map (am_tr G)) (n := n) (by rw [am_sl_len]; exact hn)
  refine ⟨h.1, by rw [am_L0, List.length_append, List.length_replicate]; omega, h.2.1, fun j v hv => ?_⟩
  unfold am_L0 at hv
  by_cases hj : j < (am_sl vs).length
  · rw [List.getElem?_append_left hj] at hv
    have h1 := am_sl_at G vs j v hv
    rw [List.getElem?_toArray, List.getElem?_append_left (by rw [am_sl_len]; exact hj)]
    exact h1
  · rw [List.getElem?_append_right (by omega), List.getElem?_replicate] at hv
    split at hv <;> cases hv
section AMU
variable {p : Program} {l : Launch} {e : Env} {R : Room} {s : State} {m : MethodId} {args : Array Value} {below : List Frame} {meth : Method} {c : Code} {H : Heap} {locs : List Loc} {cells slots : Nat} {Q : State → Prop}
variable {ls : Array Slot} {G : am_G} {E : List (List Int)} {k pc : Nat} {h h' : am_H} {rv : Option am_V}
theorem am_callx {mc ms : Nat} {st0 rest : List Value} {a : Array Value} (hr : va_Run p l e R s m args below meth c H locs cells slots mc ms (F0 m pc ls st0) rest (am_Qc G rv h' a) (am_Ab G)) (hS : va_S (am_Ab G) s.heap H locs)
    (kk : ∀ (H1 : Heap) (locs1 : List Loc), am_Wd G h' H1 → va_S (am_Ab G) s.heap H1 locs1 → W p l e R s m args below meth c H1 locs1 (cells + mc) (slots + ms) Q (F0 m (pc + 3) ls ((rv.map (am_tr G)).toList ++ rest))) : W p l e R s m args below meth c H locs cells slots Q (F0 m pc ls st0) := by
  intro T hT X
  obtain ⟨v, st₀, t, T', L, h0, X', hL, e1, e2, ⟨⟨hv, hw⟩, hz, hk⟩, st⟩ := hr T hT X
  cases hv
  rw [h0] at hz hk
  obtain ⟨t2, a1, b1⟩ := kk T'.heap (locs ++ L) (by rw [e1]; exact hw) ⟨Nat.le_trans hS.1 (by rw [e1]; exact hz), fun q h1 h2 => by rw [e1, hk q (Nat.lt_of_lt_of_le h1 hS.1) h2]; exact hS.2.1 q h1 h2, fun q hq => by
      rcases List.mem_append.mp hq with h | h
      · exact hS.2.2 q h
      · exact hL q h⟩ T' rfl X'
  exact ⟨t2, st t2 a1, b1⟩
theorem am_retM {i : am_I} {st : List am_V} {args : Array Value} (hx : p.tables.exec = Jvm.exec) (hb : c.code = (am_rc k).2.1) (hr : meth.sig.returnType = am_rt k) (hlocks : meth.locks = false) (hi : decode (am_rc k).2.1 pc = .ok (i.1, i.2.1)) (hok : am_ok (am_ow k) ((am_rc k).1.name == "<init>") i = true) (hre : am_re (am_rt k) i st = some rv) (hW : am_Wd G h' H) (hS : va_S (am_Ab G) s.heap H locs) :
    W p l e R s m args below meth c H locs cells slots (MQ below (am_Qc G rv h') args s cells slots (am_Ab G)) (F0 m pc ls (st.map (am_tr G))) := by
  obtain ⟨ins, len, r1, r2⟩ := i
  unfold am_re at hre
  dsimp only at hre
  split at hre
  · rename_i x
    have hlen : len = 1 := by simpa [am_ok] using hok
    subst hlen
    split at hre
    · rename_i hty
      cases hre
      rcases hty with hty | ⟨hty, h01⟩
      · exact W.iret hx hb (hr.trans hty) (fun t ht hWm => ⟨⟨rfl, by rw [ht]; exact hW⟩, hS.F ht⟩) hS.2.2 hi hlocks
      · exact W.zret (ty := .boolean) hx hb (hr.trans hty) (by rcases h01 with rfl | rfl <;> decide) (fun t ht hWm => ⟨⟨rfl, by rw [ht]; exact hW⟩, hS.F ht⟩) hS.2.2 hi hlocks
    · cases hre
  · rename_i x
    have hlen : len = 1 := by simpa [am_ok] using hok
    subst hlen
    split at hre
    · rename_i hty
      cases hre
      exact W.lret hx hb (hr.trans hty) (fun t ht hWm => ⟨⟨rfl, by rw [ht]; exact hW⟩, hS.F ht⟩) hS.2.2 hi hlocks
    · cases hre
  · have hlen : len = 1 := by simpa [am_ok] using hok
    subst hlen
    split at hre
    · rename_i hty
      cases hre
      exact W.vret hx hb (hr.trans hty) (fun t ht hWm => ⟨⟨rfl, by rw [ht]; exact hW⟩, hS.F ht⟩) hS.2.2 hi hlocks
    · cases hre
  · cases hre
end AMU
def am_SimN (l : Launch) (G : am_G) (E : List (List Int)) (n : Nat) : Prop := ∀ (k pc : Nat) (L : am_L) (st : List am_V) (h : am_H) (rv : Option am_V) (h' : am_H), k < 183 → am_run E n k pc L st h = some (rv, h') →
  ∀ (p : Program) (e : Env) (R : Room) (s : State) (m : MethodId) (args : Array Value) (below : List Frame) (meth : Method) (c : Code) (H : Heap) (locs : List Loc) (cells slots : Nat) (Q : State → Prop) (ls : Array Slot), am_Cx p R s m args meth c G E k → am_Wd G h H → va_S (am_Ab G) s.heap H locs → am_LR G ls (am_ml k) L → cells + (h'.length - h.length) ≤ R.cells → slots + (am_sz h' - am_sz h) ≤ R.slots →
  (∀ (H' : Heap) (locs' : List Loc) (ls' : Array Slot) (pc' : Nat) (i : am_I) (st' : List am_V), am_at k pc' = some i → am_re (am_rt k) i st' = some rv → am_Wd G h' H' → va_S (am_Ab G) s.heap H' locs' → W p l e R s m args below meth c H' locs' (cells + (h'.length - h.length)) (slots + (am_sz h' - am_sz h)) Q (F0 m pc' ls' (st'.map (am_tr G)))) →
  W p l e R s m args below meth c H locs cells slots Q (F0 m pc ls (st.map (am_tr G)))
set_option maxHeartbeats 4000000 in
theorem am_met {l : Launch} {G : am_G} {E : List (List Int)} {n : Nat} (sim : am_SimN l G E n) {k : Nat} (hk : k < 182) {vs : List am_V} {h : am_H} {rv : Option am_V} {h' : am_H} (hr : am_run E n k 0 (am_L0 vs (am_ml k)) [] h = some (rv, h')) (hn : (am_sl vs).length ≤ am_ml k) : am_Met l G E k vs h rv h' := by
  refine Met.ofW (cc := (am_rc k).2.1) (maxL := am_ml k) (ret := am_rt k) (am_mws k hk).1 rfl ?_
  intro p e s m args below meth c s₁ B hml hv
  obtain ⟨rfl, hSt, hW⟩ := hv
  have hts0 := atoms_spec (ws := am_wl k) B.pre
  have hown : s.vm.findClass (am_rc k).1.cls = some m.cls := findClass_of_methodNamed B.named
  rw [(am_mws k hk).2.1] at hown
  have C : am_Cx p (am_rm k h h') s m (vs.map (am_tr G)).toArray meth c G E k := ⟨B.exec, B.bytes, hml, hown, fun w hw => hts0 w (List.mem_cons_of_mem _ hw), hSt, Nat.le_refl _, Nat.le_refl _, fun hq => (name_of_methodNamed B.named B.method).1.trans hq⟩
  rw [lg_entry_eq]
  have hl := am_LR0 G vs (am_ml k) hn
  generalize (lg_sl (vs.map (am_tr G)) ++ List.replicate (am_ml k - (lg_sl (vs.map (am_tr G))).length) Slot.unset).toArray = ls at hl ⊢
  refine sim k 0 _ [] h rv h' (by omega) hr p e (am_rm k h h') s m _ below meth c s.heap [] 0 0 (MQ below (am_Qc G rv h') _ s (h'.length - h.length) (am_sz h' - am_sz h) (am_Ab G)) ls C hW va_S.rf hl (by simp [am_rm]) (by simp [am_rm]) ?_
  intro H' locs' ls' pc' i st' hi hre hW' hS'
  obtain ⟨f1, f2, -⟩ := am_atf (show k < 183 by omega) hi
  rw [Nat.zero_add, Nat.zero_add]
  exact am_retM B.exec B.bytes B.returns B.notSynchronized f1 f2 hre hW' hS'
theorem am_goodV {k idx j : Nat} (hm : (am_ow k, idx, j) ∈ am_MV) : GoodIn am_gw (wsV (am_cn (am_ow k)) idx (am_rc j).1.cls (am_rc j).1 (am_wl j)) := by
  have hj := (am_fMV _ hm).1
  have hin : ∀ w ∈ wsV (am_cn (am_ow k)) idx (am_rc j).1.cls (am_rc j).1 (am_wl j), w ∈ am_gw := by
    intro w hw
    unfold wsV am_wl at hw
    simp only [List.mem_append, List.mem_cons, List.not_mem_nil, or_false] at hw
    rcases hw with (rfl | rfl | rfl | rfl) | rfl | hw
    · exact am_gwin (am_byp am_pMV1 hm) rfl
    · exact am_gwin (am_byp am_pMV2 hm) rfl
    · exact am_gwin (am_byp am_pMV3 hm) rfl
    · refine am_gwin ?_ rfl
      rw [(am_mws j hj).2.1]
      exact am_mwi _ (am_mws j hj).2.2.2.2
    · exact am_gwin (am_cwin hj) rfl
    · exact hw
  exact fun w hw => ⟨hin w hw, am_gwgood w (hin w hw)⟩
theorem am_goodS {k idx j : Nat} (hm : (am_ow k, idx, j) ∈ am_MS) : GoodIn am_gw (va_wsS (am_cn (am_ow k)) idx (am_rc j).1 (am_wl j)) := by
  have hj := am_fMS _ hm
  have hin : ∀ w ∈ va_wsS (am_cn (am_ow k)) idx (am_rc j).1 (am_wl j), w ∈ am_gw := by
    intro w hw
    unfold va_wsS am_wl at hw
    simp only [List.mem_append, List.mem_cons, List.not_mem_nil, or_false] at hw
    rcases hw with (rfl | rfl | rfl) | rfl | hw
    · exact am_gwin (am_byp am_pMS1 hm) rfl
    · exact am_gwin (am_byp am_pMS2 hm) rfl
    · refine am_gwin ?_ rfl
      rw [(am_mws j hj).2.1]
      exact am_mwi _ (am_mws j hj).2.2.2.2
    · exact am_gwin (am_cwin hj) rfl
    · exact hw
  exact fun w hw => ⟨hin w hw, am_gwgood w (hin w hw)⟩
theorem am_goodW {j : Nat} (hj : j < 182) : GoodIn am_gw (am_wl j) := by
  intro w hw
  rcases List.mem_cons.mp hw with rfl | hw
  · exact ⟨am_gwin (am_cwin hj) rfl, am_gwgood _ (am_gwin (am_cwin hj) rfl)⟩
  · exact ⟨hw, am_gwgood w hw⟩
theorem am_blind (G : am_G) (E : List (List Int)) (vs : List am_V) (h : am_H) : FrameBlind (am_Pc G E vs h) := by
  intro a U g mk q
  obtain ⟨q0, q1, q2⟩ := q
  exact ⟨q0, q1.same rfl, q2⟩
theorem am_stk {G : am_G} {st rest : List am_V} {n : Nat} (hd : st.drop n = rest) : st.map (am_tr G) = (((st.take n).reverse).map (am_tr G)).reverse ++ rest.map (am_tr G) := by
  rw [← hd, List.map_reverse, List.reverse_reverse, ← List.map_append, List.take_append_drop]
theorem am_iv_or {i : am_I} {st : List am_V} {h : am_H} {r : Nat × List am_V × List am_V} (hv : am_iv i st h = some r) : (∃ x, i.1 = .invokevirtual x) ∨ (∃ x, i.1 = .invokestatic x) ∨ ∃ x, i.1 = .invokespecial x := by
  obtain ⟨ins, len, r1, r2⟩ := i
  cases ins <;> first | (cases hv; done) | exact Or.inl ⟨_, rfl⟩ | exact Or.inr (Or.inl ⟨_, rfl⟩) | exact Or.inr (Or.inr ⟨_, rfl⟩)
set_option maxHeartbeats 4000000 in
theorem am_sim (l : Launch) (G : am_G) (E : List (List Int)) : ∀ n, am_SimN l G E n
  | 0 => by
    intro k pc L st h rv h' hk hr
    cases hr
  | n + 1 => by
    have ih := am_sim l G E n
    intro k pc L st h rv h' hk hr p e R s m args below meth c H locs cells slots Q ls C hW hS hl hcl hsl hret
    unfold am_run at hr
    split at hr
    · cases hr
    · rename_i i hi
      obtain ⟨f1, f2, f3⟩ := am_atf hk hi
      split at hr
      · rename_i v hre
        cases hr
        have h9 := hret H locs ls pc i st hi hre hW hS
        simp only [Nat.sub_self, Nat.add_zero] at h9
        exact h9
      · split at hr
        · rename_i j as rest hv
          split at hr
          · rename_i v1 h1 hc1
            have m1 := am_mono2 _ _ _ _ _ _ _ _ hc1
            have m2 := am_mono2 _ _ _ _ _ _ _ _ hr
            have ec : cells + (h1.length - h.length) + (h'.length - h1.length) = cells + (h'.length - h.length) := by omega
            have es : slots + (am_sz h1 - am_sz h) + (am_sz h' - am_sz h1) = slots + (am_sz h' - am_sz h) := by omega
            have hC := C
            obtain ⟨hx, hb, hml, hown, hts, hSt, hfr, hlo, hnm⟩ := C
            have go : ∀ a, va_Run p l e R s m args below meth c H locs cells slots (h1.length - h.length) (am_sz h1 - am_sz h) (F0 m pc ls (st.map (am_tr G))) (rest.map (am_tr G)) (am_Qc G v1 h1 a) (am_Ab G) → W p l e R s m args below meth c H locs cells slots Q (F0 m pc ls (st.map (am_tr G))) := by
              intro a hrun
              refine am_callx hrun hS (fun H1 locs1 hW1 hS1 => ?_)
              have h9 := ih k (pc + 3) L (v1.toList ++ rest) h1 rv h' hk hr p e R s m args below meth c H1 locs1 (cells + (h1.length - h.length)) (slots + (am_sz h1 - am_sz h)) Q ls hC hW1 hS1 hl (by rw [ec]; exact hcl) (by rw [es]; exact hsl) (by rw [ec, es]; exact hret)
              rw [List.map_append] at h9
              cases v1 <;> exact h9
            have hU : ∀ (U : State), U.heap = H → s.WarmedH U.vm → am_Pc G E as h (as.map (am_tr G)).toArray U := fun U hU hWm => ⟨rfl, by rw [hU]; exact hSt.moved hWm hS, by rw [hU]; exact hW⟩
            have hroom : ∀ q : Prop, q → cells + (h1.length - h.length) ≤ R.cells ∧ slots + (am_sz h1 - am_sz h) ≤ R.slots := fun _ _ => ⟨by omega, by omega⟩
            have hor := am_iv_or hv
            obtain ⟨ins, len, r1, r2⟩ := i
            unfold am_iv at hv
            dsimp only at hv hor
            rcases hor with ⟨ix, hor⟩ | ⟨ix, hor⟩ | ⟨ix, hor⟩ <;> subst hor
            · simp only [am_ok, Bool.and_eq_true, beq_iff_eq, List.contains_iff_mem] at f2
              obtain ⟨rfl, hm⟩ := f2
              simp only [am_rk, Bool.and_eq_true, decide_eq_true_eq] at f3
              dsimp only at hv
              split at hv
              · rename_i o rest0 hd
                split at hv
                · rename_i c0 fs he
                  split at hv
                  · rename_i hq
                    obtain ⟨hc0, h8, hr1, hsl0⟩ := hq
                    cases hv
                    have hj := (am_fMV _ hm).1
                    have hcl11 := (am_fMV _ hm).2
                    have hM := am_met ih hj hc1 hsl0
                    have hlen : ((st.take (am_np j)).reverse).length = am_np j := by
                      have h7 : (st.drop (am_np j)).length = rest.length + 1 := by rw [hd]; rfl
                      rw [List.length_drop] at h7
                      rw [List.length_reverse, List.length_take]
                      omega
                    obtain ⟨cell, g1, g2, g3⟩ := va_recv (s := s) hSt.1 hW.1 (am_cf c0 (by rw [hc0]; exact hcl11)).1 (am_ws_get he)
                    rw [hc0, ← (am_mws j hj).2.1] at g3
                    exact go _ (va_runV (cc := (am_rc k).2.1) (nL := am_ml k) (own := am_cn (am_ow k)) (index := ix) (As := ((st.take (am_np j)).reverse).map (am_tr G)) ⟨hx, hb, hml, hown, hts⟩ hM (cwV (am_np j) hts (am_goodV hm) rfl rfl rfl ⟨rfl, (am_mws j hj).2.2.1, (am_mws j hj).2.2.2.1, am_mwd j hj⟩ ⟨Nat.le_trans f3.1 hfr, Nat.le_trans f3.2 hlo⟩) ⟨am_blind G E _ h, ⟨cell, g1, g2, g3⟩, hU⟩ rfl (by rw [List.length_map]; exact hlen) hl.1 (am_stk hd) (lv_room (by rw [am_cats]; exact h8)) f1 (hroom True trivial))
                  · cases hv
                · cases hv
              · cases hv
            · simp only [am_ok, Bool.and_eq_true, beq_iff_eq, List.contains_iff_mem, Bool.or_eq_true] at f2
              obtain ⟨rfl, hm⟩ := f2
              dsimp only at hv
              split at hv
              · rename_i hq
                obtain ⟨hr1, hnp, h8, hsl0⟩ := hq
                subst hr1
                cases hv
                have hm : (am_ow k, ix, j) ∈ am_MS := by
                  rcases hm with hm | hm
                  · exact hm.2
                  · have h5 := (am_fMM _ hm).1
                    dsimp only at h5
                    omega
                simp only [am_rk, Bool.and_eq_true, decide_eq_true_eq, if_true] at f3
                have hj := am_fMS _ hm
                have hM := am_met ih hj hc1 hsl0
                exact go _ (va_runS (cc := (am_rc k).2.1) (nL := am_ml k) (own := am_cn (am_ow k)) (index := ix) (As := ((st.take (am_np j)).reverse).map (am_tr G)) ⟨hx, hb, hml, hown, hts⟩ hM (va_cwS (am_np j) hts (am_goodS hm) rfl rfl rfl ⟨(am_mws j hj).2.2.1, (am_mws j hj).2.2.2.1, am_mwd j hj⟩ ⟨Nat.le_trans f3.1 hfr, Nat.le_trans f3.2 hlo⟩) ⟨am_blind G E _ h, hU⟩ rfl (by rw [List.length_map, List.length_reverse, List.length_take]; omega) hl.1 (am_stk rfl) (lv_room (by rw [am_cats]; exact h8)) f1 (hroom True trivial))
              · cases hv
            · simp only [am_ok, Bool.and_eq_true, beq_iff_eq, List.contains_iff_mem, Bool.or_eq_true] at f2
              obtain ⟨rfl, hm⟩ := f2
              dsimp only at hv
              split at hv
              · rename_i o rest0 hd
                split at hv
                · rename_i hq
                  obtain ⟨hr4, h8, hsl0⟩ := hq
                  cases hv
                  simp only [am_rk, if_neg hr4, Bool.and_eq_true, decide_eq_true_eq] at f3
                  have hlen : ((st.take (am_np j)).reverse).length = am_np j := by
                    have h7 : (st.drop (am_np j)).length = rest.length + 1 := by rw [hd]; rfl
                    rw [List.length_drop] at h7
                    rw [List.length_reverse, List.length_take]
                    omega
                  rcases hm with (⟨hr2, hm⟩ | ⟨hr3, hm⟩) | ⟨hr44, hm⟩
                  · obtain ⟨hj, hn1, hrt, w1, w2⟩ := am_fMI _ hm
                    dsimp only at hj hn1 hrt w1 w2
                    have hM := am_met ih hj hc1 hsl0
                    exact go _ (va_runI (cc := (am_rc k).2.1) (nL := am_ml k) (own := am_cn (am_ow k)) (index := ix) (As := ((st.take (am_np j)).reverse).map (am_tr G)) ⟨hx, hb, hml, hown, hts⟩ hM (cwI (bytes := (am_rc j).2.1) (maxL := am_ml j) (am_np j) hts (am_goodW hj) (by unfold am_wl am_cw; rw [hrt]) rfl rfl (am_gwS hts (by rw [(am_mws j hj).2.1]; exact am_mwi _ (am_mws j hj).2.2.2.2) rfl) (am_gwS hts w1 rfl) (am_gwS hts w2 rfl) hn1 ⟨(am_mws j hj).2.2.1, (am_mws j hj).2.2.2.1, am_mwd j hj⟩ ⟨Nat.le_trans f3.1 hfr, Nat.le_trans f3.2 hlo⟩) ⟨am_blind G E _ h, hU⟩ rfl (by rw [List.length_map]; exact hlen) hl.1 (am_stk hd) (lv_room (by rw [am_cats]; exact h8)) f1 (hroom True trivial))
                  · obtain ⟨hj, hn1, hrt, w1, w2⟩ := am_fMN _ hm
                    dsimp only at hj hn1 hrt w1 w2
                    have hM := am_met ih hj hc1 hsl0
                    exact go _ (va_runIN (cc := (am_rc k).2.1) (nL := am_ml k) (own := am_cn (am_ow k)) (host := "CenturyBeds") (index := ix) (As := ((st.take (am_np j)).reverse).map (am_tr G)) ⟨hx, hb, hml, hown, hts⟩ hM ⟨va_cnB (bytes := (am_rc j).2.1) (maxL := am_ml j) (ret := none) (am_np j) hts (am_goodW hj) (by unfold am_wl am_cw; rw [hrt]) rfl rfl (hSt.2.2.2.1 _ hm) (am_gwS hts (by rw [(am_mws j hj).2.1]; exact am_mwi _ (am_mws j hj).2.2.2.2) rfl) ⟨(am_mws j hj).2.2.1, (am_mws j hj).2.2.2.1, am_mwd j hj⟩ ⟨Nat.le_trans f3.1 hfr, Nat.le_trans f3.2 hlo⟩, hn1, am_gwS hts w2 rfl⟩ ⟨am_blind G E _ h, hU⟩ rfl (by rw [List.length_map]; exact hlen) hl.1 (am_stk hd) (lv_room (by rw [am_cats]; exact h8)) f1 (hroom True trivial))
                  · exact absurd hr44 hr4
                · cases hv
              · cases hv
          · cases hr
        · split at hr
          · rename_i pc1 L1 st1 h1 hs
            have m1 := am_mono1 hs
            have m2 := am_mono2 _ _ _ _ _ _ _ _ hr
            have ec : cells + (h1.length - h.length) + (h'.length - h1.length) = cells + (h'.length - h.length) := by omega
            have es : slots + (am_sz h1 - am_sz h) + (am_sz h' - am_sz h1) = slots + (am_sz h' - am_sz h) := by omega
            refine am_stepS C f1 f2 f3 hW hS hl hs (by omega) (by omega) (fun H1 locs1 ls1 hW1 hS1 hl1 => ?_)
            exact ih k pc1 L1 st1 h1 rv h' hk hr p e R s m args below meth c H1 locs1 (cells + (h1.length - h.length)) (slots + (am_sz h1 - am_sz h)) Q ls1 C hW1 hS1 hl1 (by rw [ec]; exact hcl) (by rw [es]; exact hsl) (by rw [ec, es]; exact hret)
          · cases hr
