section OPS
variable {C : Nat → am_C} {S : Nat → Int} {V : Nat → List Int} {n nb ns nx len : Nat} {L : pl_L} {Ls Ks : List pl_L} {Q : List (Nat × Nat)} {E : List (List Int)}
theorem op_write {x : Int} (cv : CV (mk C S V) S V n nb ns L nx len Ls Q Ks) (md : Md S V n nb ns L nx len Ls Q Ks) (hx : am_w x = x) : Op E 77 114 [some (am_i x)] [some (am_i x)] (mk C S V) := by
  by_cases c : 0 ≤ x ∧ x ≤ 255
  · by_cases d : n < 44
    · obtain ⟨h1, w, ci, u⟩ := X9_write_w cv d c
      refine Op.of u (w E) fun C1 e1 => ⟨up S 15 ((n : Int) + 1), up V 106 ((V 106).set n x), n + 1, nb, ns, L, nx, len, Ls, Q, Ks, X10_write_w md.2.2.1 d hx c E, ?_, ?_⟩
      · rw [← e1]
        exact ci
      · obtain ⟨mp, ly, mt, mw, ms, mk', gw⟩ := md
        have ct := ci.2.1
        exact ⟨mp, ly, ⟨rfl, ct.2.2.2.1, ct.2.2.1, ct.2.2.2.2, mt.2.2.2.2⟩, mw, ms, mk', gw⟩
    · have e : n = 44 := by have := md.2.2.1.2.1; omega
      subst e
      exact Op.rf cv md (X9_write_full cv c E) (X10_write_full md.2.2.1 hx c E)
  · exact Op.rf cv md (X9_write_out hx c E) (X10_write_out hx c E)
theorem op_wipe (cv : CV (mk C S V) S V n nb ns L nx len Ls Q Ks) (md : Md S V n nb ns L nx len Ls Q Ks) : Op E 78 115 [none] [none] (mk C S V) := by
  obtain ⟨h1, w, ci, u⟩ := X9_wipe_w cv
  refine Op.of u (w E) fun C1 e1 => ⟨up S 15 0, V, 0, nb, ns, L, nx, len, Ls, Q, Ks, X10_wipe_w md.2.2.1 E, ?_, ?_⟩
  · rw [← e1]
    exact ci
  · obtain ⟨mp, ly, mt, mw, ms, mk', gw⟩ := md
    exact ⟨mp, ly, ⟨rfl, by omega, mt.2.2⟩, mw, ms, mk', gw⟩
theorem Md.kf {S' : Nat → Int} {V' : Nat → List Int} (md : Md S V n nb ns L nx len Ls Q Ks) (kp : Kp [11, 12, 13, 16, 17] [103, 104, 105] S S' V V') (l3 : (V' 103).length = 24) (l4 : (V' 104).length = 3) (l5 : (V' 105).length = 3) : Md S' V' n nb ns L nx len Ls Q Ks := by
  obtain ⟨mp, ly, mt, mw, ms, mk', gw⟩ := md
  obtain ⟨k1, k2⟩ := kp
  have v1 : V' 101 = V 101 := k2 101 (by decide)
  have v2 : V' 111 = V 111 := k2 111 (by decide)
  have v3 : V' 102 = V 102 := k2 102 (by decide)
  have v4 : V' 106 = V 106 := k2 106 (by decide)
  have v5 : S' 15 = S 15 := k1 15 (by decide)
  refine ⟨mp.eq (k1 _ (by decide)) (k1 _ (by decide)) (k2 _ (by decide)) (k2 _ (by decide)) (k2 _ (by decide)) (k2 _ (by decide)) v1 v3 (k2 _ (by decide)), by rw [v3]; exact ly, ⟨v5.trans mt.1, mt.2.1, by rw [v4]; exact mt.2.2.1, by rw [v4]; exact mt.2.2.2.1, l3, l4, l5⟩, mw.eq (k1 _ (by decide)) (k1 _ (by decide)) (k2 _ (by decide)), ms.eq (k1 _ (by decide)) (k2 _ (by decide)) (k2 _ (by decide)), mk'.eq v2 (k2 _ (by decide)), by rw [v1, v2]; exact gw⟩
theorem CV.kf {h : am_H} {S' : Nat → Int} {V' : Nat → List Int} (cv : CV h S V n nb ns L nx len Ls Q Ks) (kp : Kp [11, 12, 13, 16, 17] [103, 104, 105] S S' V V') : CV h S' V' n nb ns L nx len Ls Q Ks := by
  obtain ⟨k1, k2⟩ := kp
  unfold CV at cv ⊢
  rw [k2 101 (by decide), k2 111 (by decide), k2 106 (by decide), k2 97 (by decide), k2 98 (by decide), k2 99 (by decide), k2 100 (by decide), k1 25 (by decide)]
  exact cv
theorem op_fault (cv : CV (mk C S V) S V n nb ns L nx len Ls Q Ks) (md : Md S V n nb ns L nx len Ls Q Ks) : Op E 79 120 [] [] (mk C S V) := by
  refine Op.of Up.rf (X9_fault_w cv E) fun C1 e1 => ?_
  obtain ⟨S', V', kp, l3, l4, l5, w⟩ := X10_fault_w (C := C1) md.2.2.1
  refine ⟨S', V', n, nb, ns, L, nx, len, Ls, Q, Ks, w E, ?_, md.kf kp l3 l4 l5⟩
  rw [← e1]
  exact cv.kf kp
theorem op_bed (cv : CV (mk C S V) S V n nb ns L nx len Ls Q Ks) (md : Md S V n nb ns L nx len Ls Q Ks) : Op E 80 121 [none] [none] (mk C S V) := by
  have r := pl_text_rng (X := V 106) md.2.2.1.2.1
  by_cases c : (pl_text (V 106) n).1 = -9
  · obtain ⟨T, Sr, e⟩ : ∃ T Sr, pl_text (V 106) n = (-9, T, Sr) := ⟨_, _, Prod.ext c rfl⟩
    obtain ⟨h1, w, ci, u⟩ := X9_bed_w cv e
    obtain ⟨tq, ts, td⟩ := pl_text_ok md.2.2.1.2.1 e
    obtain ⟨mp, ly, mt, mw, ms, mk', gw⟩ := md
    refine Op.of u (w E) fun C1 e1 => ?_
    obtain ⟨lq, ls, S', V', ⟨k1, k2⟩, l3, l4, l5, s0, s1, s19, v97, v98, v99, v100, v101, l102, v111, ly', w'⟩ := X10_bed_w (C := C1) mp mt mk'.1 e
    obtain ⟨s0', s1', hnb, hns, l97, l98, l99, l100, l101, l102', l107, pv, wv⟩ := mp
    refine ⟨S', V', n, T.length, Sr.length, _, nx, 0, Ls, Q, Ks, w' E, ?_, ⟨s0, s1, lq, ls, by rw [v97, pl_put_len]; exact l97, by rw [v98, pl_put_len]; exact l98, by rw [v99, pl_put_len]; exact l99, by rw [v100, pl_put_len]; exact l100, by rw [v101, pl_put_len]; exact l101, l102, by rw [k2 107 (by decide)]; exact l107, ?_, ?_⟩, ly', ⟨(k1 15 (by decide)).trans mt.1, mt.2.1, by rw [k2 106 (by decide)]; exact mt.2.2.1, by rw [k2 106 (by decide)]; exact mt.2.2.2.1, l3, l4, l5⟩, ⟨s19, (k1 20 (by decide)).trans mw.2.1, mw.2.2.1, by omega, by rw [k2 108 (by decide)]; exact mw.2.2.2.2⟩, ms.eq (k1 _ (by decide)) (k2 _ (by decide)) (k2 _ (by decide)), ⟨by rw [v111]; rfl, fun i hi => ?_, by rw [k2 112 (by decide)]; exact mk'.2.2⟩, ⟨?_, ?_⟩, fun j hj => by omega, fun i M hi => ?_⟩
    · unfold CV
      rw [v97, v98, v99, v100, v101, v111, k2 106 (by decide), k1 25 (by decide), ← e1]
      exact ci
    · rw [v97, v98, v99, v100]
      exact pl_new_pv tq lq l97 l98 l99 l100
    · rw [v101]
      exact pl_new_wi ts ls l101
    · rw [v111]
      match i, hi with
      | 0, _ => exact Or.inl rfl
      | 1, _ => exact Or.inl rfl
    · rw [v101]
      exact pl_new_wf ts ls l101
    · rw [v101]
      exact pl_new_dj ts td ls l101
    · rw [v111] at hi
      match i, hi with
      | 0, hi => cases hi
      | 1, hi => cases hi
      | k + 2, hi => cases hi
  · refine Op.of Up.rf (X9_bed_no cv c E) fun C1 e1 => ?_
    obtain ⟨S', V', kp, l3, l4, l5, w⟩ := X10_bed_no (C := C1) md.1 md.2.2.1 c (by omega)
    refine ⟨S', V', n, nb, ns, L, nx, len, Ls, Q, Ks, w E, ?_, md.kf kp l3 l4 l5⟩
    rw [← e1]
    exact cv.kf kp
theorem op_blanket {q x : Int} (cv : CV (mk C S V) S V n nb ns L nx len Ls Q Ks) (md : Md S V n nb ns L nx len Ls Q Ks) (hq : am_w q = q) (hx : am_w x = x) : Op E 81 130 [some (am_i q), some (am_i x)] [some (am_i q), some (am_i x)] (mk C S V) := by
  by_cases c : 0 ≤ q ∧ q < nb
  · obtain ⟨q', rfl⟩ : ∃ q' : Nat, q = (q' : Int) := ⟨q.toNat, by omega⟩
    exact Op.rf cv md (X9_blanket_w cv md.2.2.2.2.2.2.1.1 (by omega) hx E) (X10_blanket_w md.1 md.2.1 md.2.2.2.2.2.2.1.1 hq c hx E)
  · exact Op.rf cv md (X9_blanket_no cv hq c E) (X10_blanket_no md.1 hq c E)
theorem op_sleeper {s x : Int} (cv : CV (mk C S V) S V n nb ns L nx len Ls Q Ks) (md : Md S V n nb ns L nx len Ls Q Ks) (hs : am_w s = s) (hx : am_w x = x) : Op E 82 131 [some (am_i s), some (am_i x)] [some (am_i s), some (am_i x)] (mk C S V) := by
  by_cases c : 0 ≤ s ∧ s < ns
  · obtain ⟨s', rfl⟩ : ∃ q' : Nat, s = (q' : Int) := ⟨s.toNat, by omega⟩
    obtain ⟨h1, w, ci, u⟩ := X9_sleeper_w cv md.2.2.2.2.2.2.1.1 (show s' < ns by omega) hx
    exact Op.sc md w ci u fun C1 => X10_sleeper_w md.1 md.2.1 md.2.2.2.2.2.2.1.1 hs c hx
  · exact Op.rf cv md (X9_sleeper_no cv hs c E) (X10_sleeper_no md.1 hs c E)
theorem op_cell {s x : Int} (cv : CV (mk C S V) S V n nb ns L nx len Ls Q Ks) (md : Md S V n nb ns L nx len Ls Q Ks) (hs : am_w s = s) (hx : am_w x = x) : Op E 83 133 [some (am_i s), some (am_i x)] [some (am_i s), some (am_i x)] (mk C S V) := by
  by_cases c : 0 ≤ s ∧ s ≤ 5
  · obtain ⟨s', rfl⟩ : ∃ q' : Nat, s = (q' : Int) := ⟨s.toNat, by omega⟩
    exact Op.rf cv md (X9_cell_w cv md.2.2.2.2.2.2.1.1 (by omega) hx E) (X10_cell_w md.1 md.2.1 md.2.2.2.2.2.2.1.1 md.2.2.2.2.2.2.1.2 hs c hx E)
  · exact Op.rf cv md (X9_cell_out hs c E) (X10_cell_out hs c E)
theorem AR.map {W W' : List (List Int) → (Option am_V → am_H → Prop) → Prop} {ans : pl_L → Int} {o : Option pl_L} (f : ∀ a h', (∀ E K, W E K = K (some (am_i a)) h') → ∀ E K, W' E K = K (some (am_i a)) h') (ar : AR C S V nb ns L nx len Ls W ans o) : AR C S V nb ns L nx len Ls W' ans o := by
  cases o with
  | none => exact f _ _ ar
  | some L' =>
    obtain ⟨S', V', w, r⟩ := ar
    exact ⟨S', V', f _ _ w, r⟩
theorem op_take {q : Int} (cv : CV (mk C S V) S V n nb ns L nx len Ls Q Ks) (md : Md S V n nb ns L nx len Ls Q Ks) (hq : am_w q = q) : Op E 84 140 [some (am_i q)] [some (am_i q)] (mk C S V) := by
  have wf := md.2.2.2.2.2.2.1.1
  by_cases c : 0 ≤ q ∧ q < nb
  · obtain ⟨q', rfl⟩ : ∃ q' : Nat, q = (q' : Int) := ⟨q.toNat, by omega⟩
    refine Op.ar (k := 1) (q := q') (ans := fun M => (M.1.length : Int)) cv md (fun e => ?_) (fun L' e => ?_) (fun C1 => X10_take_w md.1 md.2.1 wf md.2.2.2.1 hq c)
    · obtain ⟨h1, w, ci, u⟩ := X9_move_r (k := 1) (q := q') cv wf (by omega) (by omega) e
      exact ⟨h1, X9_take_e w cv.1, ci, u⟩
    · obtain ⟨h1, w, ci, u⟩ := X9_move_w (k := 1) (q := q') cv wf (by omega) (by omega) e
      exact ⟨h1, X9_take_e w cv.1, ci, u⟩
  · exact Op.rf cv md (X9_take_e (fun E K => X9_move_no cv hq c E K) cv.1 E) (X10_take_no md.1 hq c E)
theorem op_lay {q : Int} (cv : CV (mk C S V) S V n nb ns L nx len Ls Q Ks) (md : Md S V n nb ns L nx len Ls Q Ks) (hq : am_w q = q) : Op E 85 142 [some (am_i q)] [some (am_i q)] (mk C S V) := by
  have wf := md.2.2.2.2.2.2.1.1
  by_cases c : 0 ≤ q ∧ q < nb
  · obtain ⟨q', rfl⟩ : ∃ q' : Nat, q = (q' : Int) := ⟨q.toNat, by omega⟩
    refine Op.ar (k := 2) (q := q') (ans := fun M => (M.1.length : Int)) cv md (fun e => ?_) (fun L' e => ?_) (fun C1 => AR.map (fun a h' w => X10_lay_e mk_o w) (X10_put_0 md.1 md.2.1 wf md.2.2.2.1 hq c))
    · obtain ⟨h1, w, ci, u⟩ := X9_move_r (k := 2) (q := q') cv wf (by omega) (by omega) e
      exact ⟨h1, X9_lay_e w cv.1, ci, u⟩
    · obtain ⟨h1, w, ci, u⟩ := X9_move_w (k := 2) (q := q') cv wf (by omega) (by omega) e
      exact ⟨h1, X9_lay_e w cv.1, ci, u⟩
  · exact Op.rf cv md (X9_lay_e (fun E K => X9_move_no cv hq c E K) cv.1 E) (X10_lay_e mk_o (fun E K => X10_put_no md.1 hq c E K) E)
theorem op_tuck {q : Int} (cv : CV (mk C S V) S V n nb ns L nx len Ls Q Ks) (md : Md S V n nb ns L nx len Ls Q Ks) (hq : am_w q = q) : Op E 86 143 [some (am_i q)] [some (am_i q)] (mk C S V) := by
  have wf := md.2.2.2.2.2.2.1.1
  by_cases c : 0 ≤ q ∧ q < nb
  · obtain ⟨q', rfl⟩ : ∃ q' : Nat, q = (q' : Int) := ⟨q.toNat, by omega⟩
    refine Op.ar (k := 3) (q := q') (ans := fun M => (M.1.length : Int)) cv md (fun e => ?_) (fun L' e => ?_) (fun C1 => AR.map (fun a h' w => X10_tuck_e mk_o w) (X10_put_1 md.1 md.2.1 wf md.2.2.2.1 hq c))
    · obtain ⟨h1, w, ci, u⟩ := X9_move_r (k := 3) (q := q') cv wf (by omega) (by omega) e
      exact ⟨h1, X9_tuck_e w cv.1, ci, u⟩
    · obtain ⟨h1, w, ci, u⟩ := X9_move_w (k := 3) (q := q') cv wf (by omega) (by omega) e
      exact ⟨h1, X9_tuck_e w cv.1, ci, u⟩
  · exact Op.rf cv md (X9_tuck_e (fun E K => X9_move_no cv hq c E K) cv.1 E) (X10_tuck_e mk_o (fun E K => X10_put_no md.1 hq c E K) E)
theorem op_turn {s x : Int} (cv : CV (mk C S V) S V n nb ns L nx len Ls Q Ks) (md : Md S V n nb ns L nx len Ls Q Ks) (hs : am_w s = s) (hx : am_w x = x) : Op E 87 144 [some (am_i s), some (am_i x)] [some (am_i s), some (am_i x)] (mk C S V) := by
  have wf := md.2.2.2.2.2.2.1.1
  by_cases c : 0 ≤ s ∧ s < ns
  · obtain ⟨s', rfl⟩ : ∃ q' : Nat, s = (q' : Int) := ⟨s.toNat, by omega⟩
    by_cases d1 : x = 1
    · subst d1
      refine Op.ar (k := 4) (q := s') (ans := fun M => M.2.1.getD s' 0) cv md (fun e => ?_) (fun L' e => ?_) (fun C1 => X10_turn_1 md.1 md.2.1 wf md.2.2.2.2.2.2.1.2 md.2.2.2.1 hs c)
      · exact X9_turn_r (w := 1) cv wf (show s' < ns by omega) (Or.inl rfl) e
      · exact X9_turn_w (w := 1) cv wf (show s' < ns by omega) (Or.inl rfl) e
    · by_cases d2 : x = 2
      · subst d2
        refine Op.ar (k := 5) (q := s') (ans := fun M => M.2.1.getD s' 0) cv md (fun e => ?_) (fun L' e => ?_) (fun C1 => X10_turn_2 md.1 md.2.1 wf md.2.2.2.2.2.2.1.2 md.2.2.2.1 hs c)
        · exact X9_turn_r (w := 2) cv wf (show s' < ns by omega) (Or.inr rfl) e
        · exact X9_turn_w (w := 2) cv wf (show s' < ns by omega) (Or.inr rfl) e
      · exact Op.rf cv md (X9_turn_out cv (show s' < ns by omega) hx (by omega) E) (X10_turn_out md.1 hs c hx (by omega) E)
  · exact Op.rf cv md (X9_turn_no cv hs c E) (X10_turn_no md.1 hs c E)
theorem op_night (cv : CV (mk C S V) S V n nb ns L nx len Ls Q Ks) (md : Md S V n nb ns L nx len Ls Q Ks) : Op E 88 145 [] [] (mk C S V) := by
  have wf := md.2.2.2.2.2.2.1.1
  refine Op.ar (k := 0) (q := 0) (ans := fun M => M.2.2.2) cv md (fun e => ?_) (fun L' e => ?_) (fun C1 => X10_night_w md.1 md.2.1 wf md.2.2.2.1)
  · unfold pl_do at e
    simp at e
  · exact X9_night_w cv wf e
theorem op_undo (cv : CV (mk C S V) S V n nb ns L nx len Ls Q Ks) (md : Md S V n nb ns L nx len Ls Q Ks) : Op E 89 146 [] [none] (mk C S V) := by
  cases len with
  | zero => exact Op.rf cv md (X9_undo_no cv E) (X10_undo_no md.2.2.2.1 E)
  | succ len =>
    obtain ⟨h1, w, ci, u⟩ := X9_undo_w cv
    refine Op.of u (w E) fun C1 e1 => ?_
    obtain ⟨mp, ly, mt, mw, ms, mk', gw⟩ := md
    obtain ⟨S', N, rfl, af, ly', mw', mp', w'⟩ := X10_undo_w (C := C1) (L := L) mp mw
    refine ⟨_, _, n, nb, ns, _, _, len, Ls, Q, Ks, w' E, ?_, mp', ly', mt, mw', ms, mk', ?_, fun j hj M e => ?_, gw.2.2⟩
    · rw [← e1]
      exact ci
    · have lt : (nx + 13) % 14 < Ls.length := by rw [mw.2.2.2.2.2.1]; omega
      have := gw.2.1 0 (by omega) (Ls[(nx + 13) % 14]'lt) (by rw [Nat.sub_zero]; exact List.getElem?_eq_getElem lt)
      rw [List.getD_eq_getElem?_getD, List.getElem?_eq_getElem lt]
      exact this
    · refine gw.2.1 (j + 1) (by omega) M ?_
      rw [← e]
      congr 1
      have := mw.2.2.2.1
      have := mw.2.2.1
      omega
end OPS
