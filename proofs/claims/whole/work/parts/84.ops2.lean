section OPS2
variable {C : Nat → am_C} {S : Nat → Int} {V : Nat → List Int} {n nb ns nx len : Nat} {L : pl_L} {Ls Ks : List pl_L} {Q : List (Nat × Nat)} {E : List (List Int)}
theorem op_toTake {s t : Int} (cv : CV (mk C S V) S V n nb ns L nx len Ls Q Ks) (md : Md S V n nb ns L nx len Ls Q Ks) (hs : am_w s = s) (ht : am_w t = t) : Op E 92 151 [some (am_i s), some (am_i t)] [some (am_i s), some (am_i t), none, none, none] (mk C S V) := by
  have wf := md.2.2.2.2.2.2.1.1
  by_cases c : 0 ≤ s ∧ s < ns
  · obtain ⟨s', rfl⟩ : ∃ q' : Nat, s = (q' : Int) := ⟨s.toNat, by omega⟩
    by_cases d : 0 ≤ t ∧ t ≤ 10
    · obtain ⟨h1, w, ci, u⟩ := X9_toTake_w cv wf (show s' < ns by omega) ht d
      exact Op.sc md w ci u fun C1 => X10_toTake_w md.1 md.2.1 wf hs c ht d
    · exact Op.rf cv md (X9_toTake_out cv (show s' < ns by omega) ht d E) (X10_toTake_out md.1 hs c ht d E)
  · exact Op.rf cv md (X9_toTake_no cv hs c E) (X10_toTake_no md.1 hs c E)
theorem op_toTurn {s t : Int} (cv : CV (mk C S V) S V n nb ns L nx len Ls Q Ks) (md : Md S V n nb ns L nx len Ls Q Ks) (hs : am_w s = s) (ht : am_w t = t) : Op E 93 153 [some (am_i s), some (am_i t)] [some (am_i s), some (am_i t), none] (mk C S V) := by
  have wf := md.2.2.2.2.2.2.1.1
  by_cases c : 0 ≤ s ∧ s < ns
  · obtain ⟨s', rfl⟩ : ∃ q' : Nat, s = (q' : Int) := ⟨s.toNat, by omega⟩
    by_cases d : 0 ≤ t ∧ t ≤ 10
    · obtain ⟨h1, w, ci, u⟩ := X9_toTurn_w cv wf (show s' < ns by omega) ht d
      exact Op.sc md w ci u fun C1 => X10_toTurn_w md.1 md.2.1 wf hs c ht d
    · exact Op.rf cv md (X9_toTurn_out cv (show s' < ns by omega) ht d E) (X10_toTurn_out md.1 hs c ht d E)
  · exact Op.rf cv md (X9_toTurn_no cv hs c E) (X10_toTurn_no md.1 hs c E)
theorem op_toTuck {s t : Int} (cv : CV (mk C S V) S V n nb ns L nx len Ls Q Ks) (md : Md S V n nb ns L nx len Ls Q Ks) (hs : am_w s = s) (ht : am_w t = t) : Op E 94 154 [some (am_i s), some (am_i t)] [some (am_i s), some (am_i t), none, none] (mk C S V) := by
  have wf := md.2.2.2.2.2.2.1.1
  by_cases c : 0 ≤ s ∧ s < ns
  · obtain ⟨s', rfl⟩ : ∃ q' : Nat, s = (q' : Int) := ⟨s.toNat, by omega⟩
    by_cases d : 0 ≤ t ∧ t ≤ 9
    · obtain ⟨h1, w, ci, u⟩ := X9_toTuck_w cv wf (show s' < ns by omega) ht d
      exact Op.sc md w ci u fun C1 => X10_toTuck_w md.1 md.2.1 wf hs c ht d
    · exact Op.rf cv md (X9_toTuck_out cv (show s' < ns by omega) ht d E) (X10_toTuck_out md.1 hs c ht d E)
  · exact Op.rf cv md (X9_toTuck_no cv hs c E) (X10_toTuck_no md.1 hs c E)
theorem op_orders {s t : Int} (u : Bool) (cv : CV (mk C S V) S V n nb ns L nx len Ls Q Ks) (md : Md S V n nb ns L nx len Ls Q Ks) (hs : am_w s = s) (ht : am_w t = t) : Op E 95 158 [some (am_i s), some (am_i t), some (am_i (if u = true then 1 else 0))] [some (am_i s), some (am_i t), some (am_i (if u = true then 1 else 0)), none, none, none] (mk C S V) := by
  have wf := md.2.2.2.2.2.2.1.1
  by_cases c : 0 ≤ s ∧ s < ns
  · obtain ⟨s', rfl⟩ : ∃ q' : Nat, s = (q' : Int) := ⟨s.toNat, by omega⟩
    by_cases d : 0 ≤ t ∧ t ≤ 10
    · obtain ⟨h1, w, ci, up⟩ := X9_orders_w (u := u) cv wf (show s' < ns by omega) ht d
      exact Op.sc md w ci up fun C1 => X10_orders_w md.1 md.2.1 wf hs c ht d
    · exact Op.rf cv md (X9_orders_out cv (show s' < ns by omega) ht d E) (X10_orders_out md.1 hs c ht d E)
  · exact Op.rf cv md (X9_orders_no cv hs c E) (X10_orders_no md.1 hs c E)
theorem pl_100 {m : Nat} (h : 1 ≤ m ∧ m ≤ 4) : (10 : Int) ^ (2 * (m : Int)).toNat = ((100 ^ m : Nat) : Int) := by
  obtain ⟨h1, h2⟩ := h
  match m, h1, h2 with
  | 1, _, _ => rfl
  | 2, _, _ => rfl
  | 3, _, _ => rfl
  | 4, _, _ => rfl
theorem op_judge {s t : Int} (cv : CV (mk C S V) S V n nb ns L nx len Ls Q Ks) (md : Md S V n nb ns L nx len Ls Q Ks) (hs : am_w s = s) (ht : am_w t = t) : Op E 96 161 [some (am_i s), some (am_i t), none, none] [some (am_i s), some (am_i t), none, none] (mk C S V) := by
  have wf := md.2.2.2.2.2.2.1.1
  by_cases c : 1 ≤ s ∧ s ≤ 4 ∧ 0 ≤ t ∧ t < (10 : Int) ^ (2 * s).toNat
  · obtain ⟨s', rfl⟩ : ∃ q' : Nat, s = (q' : Int) := ⟨s.toNat, by omega⟩
    obtain ⟨t', rfl⟩ : ∃ q' : Nat, t = (q' : Int) := ⟨t.toNat, by omega⟩
    have hm : 1 ≤ s' ∧ s' ≤ 4 := by omega
    have hr : t' < 100 ^ s' := by
      have := c.2.2.2
      rw [pl_100 hm] at this
      exact Int.ofNat_lt.mp this
    obtain ⟨h1, w, ci, u⟩ := X9_judge_w cv wf hm hr
    exact Op.sc md w ci u fun C1 => X10_judge_w md.1 md.2.1 wf md.2.2.2.2.2.2.1.2 hm hr
  · exact Op.rf cv md (X9_judge_out hs ht c E) (X10_judge_out hs ht c E)
theorem op_see {s t : Int} (cv : CV (mk C S V) S V n nb ns L nx len Ls Q Ks) (md : Md S V n nb ns L nx len Ls Q Ks) (hs : am_w s = s) (ht : am_w t = t) : Op E 98 162 [some (am_i s), some (am_i t)] [some (am_i s), some (am_i t)] (mk C S V) := by
  by_cases c : 0 ≤ s ∧ s < ns
  · obtain ⟨s', rfl⟩ : ∃ q' : Nat, s = (q' : Int) := ⟨s.toNat, by omega⟩
    by_cases d : 0 ≤ t ∧ t ≤ 10
    · obtain ⟨t', rfl⟩ : ∃ q' : Nat, t = (q' : Int) := ⟨t.toNat, by omega⟩
      obtain ⟨mp, ly, mt, mw, ms, mk', gw⟩ := id md
      by_cases q : Q.length < 6
      · obtain ⟨h1, w, ci, u⟩ := X9_see_w cv (show s' < ns by omega) (show t' ≤ 10 by omega) q
        refine Op.of u (w E) fun C1 e1 => ?_
        obtain ⟨A, B, ms', w'⟩ := X10_see_w (C := C1) mp ms q hs c ht d
        refine ⟨_, _, n, nb, ns, L, nx, len, Ls, _, Ks, w' E, ?_, mp, ly, mt, mw, ms', mk', gw⟩
        rw [← e1]
        exact ci
      · have q6 : Q.length = 6 := by have := ms.2.1; omega
        exact Op.rf cv md (X9_see_full cv (show s' < ns by omega) (show t' ≤ 10 by omega) q6 E) (X10_see_full mp ms q6 hs c ht d E)
    · exact Op.rf cv md (X9_see_out cv (show s' < ns by omega) ht d E) (X10_see_out md.1 hs c ht d E)
  · exact Op.rf cv md (X9_see_no cv hs c E) (X10_see_no md.1 hs c E)
theorem op_unsee (cv : CV (mk C S V) S V n nb ns L nx len Ls Q Ks) (md : Md S V n nb ns L nx len Ls Q Ks) : Op E 99 163 [none] [none] (mk C S V) := by
  obtain ⟨mp, ly, mt, mw, ms, mk', gw⟩ := md
  obtain ⟨h1, w, ci, u⟩ := X9_unsee_w cv
  refine Op.of u (w E) fun C1 e1 => ⟨_, _, n, nb, ns, L, nx, len, Ls, [], Ks, X10_unsee_w ms E, ?_, mp, ly, mt, mw, ms.un, mk', gw⟩
  rw [← e1]
  exact ci
theorem op_gone (cv : CV (mk C S V) S V n nb ns L nx len Ls Q Ks) (md : Md S V n nb ns L nx len Ls Q Ks) : Op E 100 165 [] [none, none] (mk C S V) := by
  have wf := md.2.2.2.2.2.2.1.1
  obtain ⟨h1, w, ci, u⟩ := X9_gone_w cv wf
  exact Op.sc md w ci u fun C1 => X10_gone_w md.1 md.2.1 wf md.2.2.2.2.1
theorem op_where {s t : Int} (cv : CV (mk C S V) S V n nb ns L nx len Ls Q Ks) (md : Md S V n nb ns L nx len Ls Q Ks) (hs : am_w s = s) (ht : am_w t = t) : Op E 101 166 [some (am_i s), some (am_i t), none, none] [some (am_i s), some (am_i t), none, none] (mk C S V) := by
  have wf := md.2.2.2.2.2.2.1.1
  by_cases c : 1 ≤ s ∧ s ≤ 3 ∧ 0 ≤ t ∧ t ≤ 10
  · obtain ⟨s', rfl⟩ : ∃ q' : Nat, s = (q' : Int) := ⟨s.toNat, by omega⟩
    obtain ⟨h1, w, ci, u⟩ := X9_where_w (w := s') cv wf (by omega) ht (by omega)
    refine Op.sc md w ci u fun C1 => ?_
    have e : (7 - (s' : Int)).toNat = 7 - s' := by omega
    rw [← e]
    exact X10_where_w md.1 md.2.1 wf hs ht (by omega) (by omega)
  · exact Op.rf cv md (X9_where_out hs ht c E) (X10_where_out hs ht c E)
theorem op_share {q : Int} (u : Bool) (cv : CV (mk C S V) S V n nb ns L nx len Ls Q Ks) (md : Md S V n nb ns L nx len Ls Q Ks) (hq : am_w q = q) (he : E[1]? = some am_fac7) : Op E 102 169 [some (am_i q), some (am_i (if u = true then 1 else 0))] [some (am_i q), some (am_i (if u = true then 1 else 0)), none, none, none, none] (mk C S V) := by
  have wf := md.2.2.2.2.2.2.1.1
  by_cases c : 0 ≤ q ∧ q < nb
  · obtain ⟨q', rfl⟩ : ∃ q' : Nat, q = (q' : Int) := ⟨q.toNat, by omega⟩
    refine Op.of Up.rf (fun K => X9_share_w cv wf (show q' < nb by omega) E K he) fun C1 e1 => ?_
    obtain ⟨V', sc, w⟩ := X10_share_w (C := C1) (u := u) md.1 md.2.1 wf hq c
    refine ⟨S, V', n, nb, ns, L, nx, len, Ls, Q, Ks, w E, ?_, md.sc sc⟩
    rw [← e1]
    exact cv.sc sc
  · exact Op.rf cv md (X9_share_no cv hq c E) (X10_share_no md.1 hq c E)
theorem op_rests {one ot t v x : Int} (cv : CV (mk C S V) S V n nb ns L nx len Ls Q Ks) (md : Md S V n nb ns L nx len Ls Q Ks) (h1 : am_w one = one) (h2 : am_w ot = ot) (h3 : am_w t = t) (h4 : am_w v = v) (h5 : am_w x = x) : Op E 103 173 [some (am_i one), some (am_i ot), some (am_i t), some (am_i v), some (am_i x)] [some (am_i one), some (am_i ot), some (am_i t), some (am_i v), some (am_i x), none, none, none, none] (mk C S V) := by
  have wf := md.2.2.2.2.2.2.1.1
  by_cases c : (0 ≤ one ∧ one < ns) ∧ (0 ≤ ot ∧ ot < ns)
  · obtain ⟨p', rfl⟩ : ∃ q' : Nat, one = (q' : Int) := ⟨one.toNat, by omega⟩
    obtain ⟨q', rfl⟩ : ∃ q' : Nat, ot = (q' : Int) := ⟨ot.toNat, by omega⟩
    by_cases d : p' ≠ q' ∧ (0 ≤ t ∧ t ≤ 10) ∧ (0 ≤ v ∧ v ≤ 10) ∧ (0 ≤ x ∧ x ≤ 1)
    · obtain ⟨h', w, ci, u⟩ := X9_rests_w cv wf (show p' < ns by omega) (show q' < ns by omega) d.1 h3 h4 h5 d.2.1 d.2.2.1 d.2.2.2
      exact Op.sc md w ci u fun C1 => X10_rests_w md.1 md.2.1 wf h1 h2 h3 h4 h5 c.1 c.2 (by omega) d.2.1 d.2.2.1 d.2.2.2
    · exact Op.rf cv md (X9_rests_out cv (show p' < ns by omega) (show q' < ns by omega) h3 h4 h5 d E) (X10_rests_out md.1 h1 h2 h3 h4 h5 c.1 c.2 (by omega) E)
  · exact Op.rf cv md (X9_rests_no cv h1 h2 c E) (X10_rests_no md.1 h1 h2 c E)
theorem op_kicked {s t x : Int} (u : Bool) (cv : CV (mk C S V) S V n nb ns L nx len Ls Q Ks) (md : Md S V n nb ns L nx len Ls Q Ks) (hs : am_w s = s) (ht : am_w t = t) (hx : am_w x = x) : Op E 104 175 [some (am_i s), some (am_i t), some (am_i x), some (am_i (if u = true then 1 else 0))] [some (am_i s), some (am_i t), some (am_i x), some (am_i (if u = true then 1 else 0)), none, none, none, none, none] (mk C S V) := by
  have wf := md.2.2.2.2.2.2.1.1
  by_cases c : 0 ≤ s ∧ s < ns
  · obtain ⟨s', rfl⟩ : ∃ q' : Nat, s = (q' : Int) := ⟨s.toNat, by omega⟩
    by_cases d : 0 ≤ t ∧ t ≤ 10 ∧ 0 ≤ x ∧ x ≤ 10
    · obtain ⟨x', rfl⟩ : ∃ q' : Nat, x = (q' : Int) := ⟨x.toNat, by omega⟩
      obtain ⟨h1, w, ci, up⟩ := X9_kicked_w (u := u) (x := x') cv wf (show s' < ns by omega) ht (by omega) (by omega)
      exact Op.sc md w ci up fun C1 => X10_kicked_w md.1 md.2.1 wf hs c ht (by omega) (by omega)
    · exact Op.rf cv md (X9_kicked_out cv (show s' < ns by omega) ht hx d E) (X10_kicked_out md.1 hs c ht hx d E)
  · exact Op.rf cv md (X9_kicked_no cv hs c E) (X10_kicked_no md.1 hs c E)
theorem op_seed {v : Int} (cv : CV (mk C S V) S V n nb ns L nx len Ls Q Ks) (md : Md S V n nb ns L nx len Ls Q Ks) : OpL E 105 176 [some (am_l v), none, none, none] [some (am_l v), none, none, none] (mk C S V) := by
  obtain ⟨mp, ly, mt, mw, ms, mk', gw⟩ := md
  obtain ⟨h1, w, ci, u⟩ := X9_seed_w (v := v) cv
  obtain ⟨C1, rfl⟩ := u.mk
  exact ⟨S 25, C1, S, V, _, w E, X10_seed_w E, C1, up S 25 v, V, n, nb, ns, L, nx, len, Ls, Q, Ks, rfl, CI.mk ci, mp, ly, mt, mw, ms, mk', gw⟩
theorem op_weeks {x : Int} (cv : CV (mk C S V) S V n nb ns L nx len Ls Q Ks) (md : Md S V n nb ns L nx len Ls Q Ks) (hx : am_w x = x) : Op E 106 177 [some (am_i x), none, none, none] [some (am_i x), none, none, none, none] (mk C S V) := by
  have wf := md.2.2.2.2.2.2.1.1
  by_cases c : 1 ≤ x ∧ x ≤ 30
  · obtain ⟨h1, w, ci, u⟩ := X9_weeks_w cv wf c
    refine Op.of u (w E) fun C1 e1 => ?_
    obtain ⟨V', sc, w'⟩ := X10_weeks_w (C := C1) md.1 md.2.1 wf md.2.2.2.2.2.2.1.2 hx c
    obtain ⟨mp, ly, mt, mw, ms, mk', gw⟩ := md.sc sc
    refine ⟨_, _, n, nb, ns, L, nx, len, Ls, Q, Ks, w' E, ?_, mp, ly, mt, mw, ms, mk', gw⟩
    refine CV.sc (V := V) ?_ sc
    rw [← e1]
    exact ci
  · exact Op.rf cv md (X9_weeks_out hx c E) (X10_weeks_out hx c E)
theorem op_keep {x : Int} (cv : CV (mk C S V) S V n nb ns L nx len Ls Q Ks) (md : Md S V n nb ns L nx len Ls Q Ks) (hx : am_w x = x) : Op E 107 178 [some (am_i x)] [some (am_i x), none] (mk C S V) := by
  by_cases c : 0 ≤ x ∧ x ≤ 1
  · obtain ⟨k, rfl⟩ : ∃ q' : Nat, x = (q' : Int) := ⟨x.toNat, by omega⟩
    obtain ⟨h1, w, ci, u⟩ := X9_keep_w cv (show k < 2 by omega)
    refine Op.of u (w E) fun C1 e1 => ?_
    obtain ⟨mp, ly, mt, mw, ms, mk', gw⟩ := md
    obtain ⟨R, mk2, w'⟩ := X10_keep_w (C := C1) (S := S) mp ly mk' hx c
    refine ⟨_, _, n, nb, ns, L, nx, len, Ls, Q, _, w' E, ?_, mp, ly, mt, mw, ms, mk2, gw.1, gw.2.1, fun i M hi e => ?_⟩
    · rw [← e1]
      exact ci
    · have hi' : ((V 111).set k 1).getD i 0 = 1 := hi
      have e' : (Ks.set k L)[i]? = some M := e
      by_cases q : i = k
      · subst q
        have := mk'.2.2.2.1
        rw [List.getElem?_set_self (by omega)] at e'
        injection e' with e'
        subst e'
        exact gw.1
      · rw [List.getElem?_set_ne (by omega)] at e'
        rw [List.getD_eq_getElem?_getD, List.getElem?_set_ne (by omega), ← List.getD_eq_getElem?_getD] at hi'
        exact gw.2.2 i M hi' e'
  · exact Op.rf cv md (X9_keep_no hx (by omega) E) (X10_keep_no hx c E)
theorem op_again {x : Int} (cv : CV (mk C S V) S V n nb ns L nx len Ls Q Ks) (md : Md S V n nb ns L nx len Ls Q Ks) (hx : am_w x = x) : Op E 108 179 [some (am_i x)] [some (am_i x), none] (mk C S V) := by
  by_cases c : 0 ≤ x ∧ x ≤ 1
  · obtain ⟨k, rfl⟩ : ∃ q' : Nat, x = (q' : Int) := ⟨x.toNat, by omega⟩
    obtain ⟨mp, ly, mt, mw, ms, mk', gw⟩ := id md
    rcases mk'.2.1 k (by omega) with z | z
    · exact Op.rf cv md (X9_again_st cv (show k < 2 by omega) z E) (X10_again_st mk' hx c z E)
    · have lt : k < Ks.length := by rw [mk'.2.2.2.1]; omega
      have e0 : Ks[k]? = some (Ks.getD k L) := by rw [List.getD_eq_getElem?_getD, List.getElem?_eq_getElem lt]; rfl
      obtain ⟨h1, w, ci, u⟩ := X9_again_w cv (show k < 2 by omega) z e0
      refine Op.of u (w E) fun C1 e1 => ?_
      obtain ⟨N, af, ly', w'⟩ := X10_again_w (C := C1) (L := L) mp mk' hx c z
      have mp' : MP S (up V 102 N) nb ns := mp.n (af.1.trans mp.2.2.2.2.2.2.2.2.2.1)
      refine ⟨_, _, n, nb, ns, _, nx, 0, Ls, Q, Ks, w' E, ?_, mp', ly', mt, ⟨rfl, mw.2.1, mw.2.2.1, by omega, mw.2.2.2.2⟩, ms, mk', gw.2.2 k _ z e0, fun j hj => by omega, gw.2.2⟩
      rw [← e1]
      exact ci
  · exact Op.rf cv md (X9_again_no hx (by omega) E) (X10_again_no hx c E)
theorem op_count {x : Int} (cv : CV (mk C S V) S V n nb ns L nx len Ls Q Ks) (md : Md S V n nb ns L nx len Ls Q Ks) (hx : am_w x = x) : Op E 109 180 [some (am_i x)] [some (am_i x), none, none] (mk C S V) := by
  have wf := md.2.2.2.2.2.2.1.1
  have w := X10_count_w (C := C) md.1 md.2.1 wf hx E
  rw [md.2.2.1.1, md.2.2.2.1.1, md.2.2.2.2.1.1] at w
  exact Op.rf cv md (X9_count_w cv wf hx E) w
end OPS2
