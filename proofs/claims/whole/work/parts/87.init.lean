/-! the beginning -/
section INI
variable {E : List (List Int)}
theorem am_ia_e {t : Nat} {h : am_H} {a : am_V} {j x : Int} (e : am_ia [] t h a j = some x) : am_ia E t h a j = some x := by
  unfold am_ia at e ⊢
  split at e
  · exact e
  · simp at e
  · cases e
theorem am_al_e {h : am_H} {a : am_V} {x : Int} (e : am_al [] h a = some x) : am_al E h a = some x := by
  unfold am_al at e ⊢
  split at e
  · exact e
  · simp at e
  · cases e
theorem am_map_e {α β : Type} {o o' : Option α} {f : α → β} {r : β} (hh : ∀ x, o = some x → o' = some x) (e : o.map f = some r) : o'.map f = some r := by
  cases o with
  | none => cases e
  | some x => rw [hh x rfl]; exact e
theorem am_step_e {i : am_I} {pc : Nat} {L : am_L} {st : List am_V} {h : am_H} {r : Nat × am_L × List am_V × am_H} (hs : am_step [] i pc L st h = some r) : am_step E i pc L st h = some r := by
  obtain ⟨i1, i2⟩ := i
  cases i1
  case iaload =>
    match st, hs with
    | .inl j :: a :: st, hs => exact am_map_e (fun x => am_ia_e) hs
  case baload =>
    match st, hs with
    | .inl j :: .inr (.inr (.inl a)) :: st, hs => exact am_map_e (fun x => am_ia_e) hs
  case arraylength =>
    match st, hs with
    | a :: st, hs => exact am_map_e (fun x => am_al_e) hs
  case newarray t => cases t <;> exact hs
  all_goals exact hs
theorem am_run_e : ∀ (n k pc : Nat) (L : am_L) (st : List am_V) (h : am_H) (r : am_A), am_run [] n k pc L st h = some r → am_run E n k pc L st h = some r
  | 0, _, _, _, _, _, _, h => by cases h
  | n + 1, k, pc, L, st, h, r, hr => by
    have ih := am_run_e n
    unfold am_run at hr ⊢
    split at hr
    · cases hr
    · rename_i i hi
      split at hr
      · exact hr
      · split at hr
        · rename_i j as rest hv
          split at hr
          · rename_i v h' hc
            rw [ih _ _ _ _ _ _ hc]
            exact ih _ _ _ _ _ _ hr
          · cases hr
        · split at hr
          · rename_i hs
            rw [am_step_e hs]
            exact ih _ _ _ _ _ _ hr
          · cases hr
def am_ly (r : Nat) : List am_C := [am_o 3 [am_r (some (r + 1)), am_i 0, am_r (some (r + 2)), am_r (some (r + 3)), am_i 0], am_a 0 [0, 0, 0, 0, 0, 0], am_a 0 [0, 0, 0], am_a 0 [0, 0, 0]]
def am_h0 : List am_C := [am_o 9 [am_r (some 1), am_r (some 3), am_r (some 9), am_r (some 11), am_r (some 12), am_r (some 14), am_r (some 17), am_r (some 20), am_r (some 78), am_r (some 82), am_r (some 86), am_r (some 87), am_l 0], am_o 8 [am_r (some 2), am_i 0], am_a 0 (List.replicate 44 0), am_o 4 [am_r (some 4), am_r (some 5), am_r (some 6), am_r (some 7), am_r (some 8), am_i 0, am_i 0], am_a 0 [0, 0, 0, 0, 0, 0], am_a 0 [0, 0, 0, 0, 0, 0], am_a 0 [0, 0, 0, 0, 0, 0], am_a 0 [0, 0, 0, 0, 0, 0], am_a 0 [0, 0, 0], am_o 1 [am_r (some 3), am_r (some 10)], am_a 0 [0, 0, 0, 0, 0, 0], am_o 0 [am_r (some 3), am_r (some 9)], am_o 5 [am_r (some 3), am_r (some 9), am_r (some 11), am_r (some 13)], am_a 0 [0, 0, 0, 0, 0, 0], am_o 2 [am_r (some 3), am_r (some 9), am_r (some 15), am_r (some 16), am_i 0, am_i 0], am_a 0 [0, 0, 0, 0, 0, 0], am_a 0 [0, 0, 0, 0, 0, 0], am_o 7 [am_r (some 3), am_r (some 9), am_r (some 18), am_r (some 19), am_i 0], am_a 0 [0, 0, 0, 0, 0, 0], am_a 0 [0, 0, 0, 0, 0, 0], am_o 6 [am_r (some 21), am_i 0, am_i 0], am_q pl_rr] ++ ((List.range 14).flatMap fun j => am_ly (22 + 4 * j)) ++ am_ly 78 ++ am_ly 82 ++ [am_q [some 88, some 92], am_a 1 [0, 0]] ++ am_ly 88 ++ am_ly 92
def am_C0 (i : Nat) : am_C := am_h0.getD i (am_a 0 [])
def am_S0 (_ : Nat) : Int := 0
def am_V0 (i : Nat) : List Int := List.replicate ([6, 6, 6, 6, 3, 28, 24, 3, 3, 44, 11, 196, 6, 6, 2, 28].getD (i - 97) 0) 0
def am_n9 : am_C := am_o 9 ((List.range (am_nf 9)).map fun j => am_df (am_ty 9 j))
def am_n10 : am_C := am_o 10 ((List.range (am_nf 10)).map fun j => am_df (am_ty 10 j))
def dq_V : DecidableEq (List am_V) := inferInstance
def dq_B : DecidableEq (Nat × List am_V) := @instDecidableEqProd Nat (List am_V) inferInstance dq_V
def dq_D : DecidableEq (Nat × List Int) := inferInstance
def dq_E : DecidableEq (List (Option Nat)) := inferInstance
def dq_F : DecidableEq ((Nat × List am_V) ⊕ List (Option Nat)) := @instDecidableEqSum _ _ dq_B dq_E
def dq_C : DecidableEq am_C := @instDecidableEqSum _ _ dq_D dq_F
def dq_H : DecidableEq am_H := @instDecidableEqList am_C dq_C
def dq_G : DecidableEq (Option am_V) := inferInstance
def dq_A : DecidableEq am_A := @instDecidableEqProd _ _ dq_G dq_H
def dq_O : DecidableEq (Option am_A) := letI := dq_A; inferInstance
theorem am_i9 : am_run [] 400 76 0 [some (am_r (some 0)), none] [] [am_n9] = some (none, am_h0) := @of_decide_eq_true _ (dq_O _ _) (by decide +kernel)
theorem am_i10 : am_run [] 400 110 0 [some (am_r (some 96))] [] (am_h0 ++ [am_n10]) = some (none, mk am_C0 am_S0 am_V0) := @of_decide_eq_true _ (dq_O _ _) (by decide +kernel)
theorem am_j9 {h : am_H} : am_iv (.invokespecial 9, 3, 2, 76) [am_r (some 0), am_r (some 0)] h = some (76, [am_r (some 0)], [am_r (some 0)]) := by
  have np : am_np 76 = 0 := by decide +kernel
  have ml : am_ml 76 = 2 := by decide +kernel
  unfold am_iv
  dsimp only
  rw [np, ml]
  rfl
theorem am_j10 {h : am_H} : am_iv (.invokespecial 12, 3, 2, 110) [am_r (some 96), am_r (some 96)] h = some (110, [am_r (some 96)], [am_r (some 96)]) := by
  have np : am_np 110 = 0 := by decide +kernel
  have ml : am_ml 110 = 1 := by decide +kernel
  unfold am_iv
  dsimp only
  rw [np, ml]
  rfl
theorem am_l9 : am_L0 [am_r (some 0)] (am_ml 76) = [some (am_r (some 0)), none] := by
  have ml : am_ml 76 = 2 := by decide +kernel
  rw [ml]
  rfl
theorem am_l10 : am_L0 [am_r (some 96)] (am_ml 110) = [some (am_r (some 96))] := by
  have ml : am_ml 110 = 1 := by decide +kernel
  rw [ml]
  rfl
theorem law_init (K : Option am_V → am_H → Prop) : Wp E 182 0 [some (am_e 0), none, none, none] [] [] K = Wp E 182 18 [some (am_e 0), some (am_r (some 0)), some (am_r (some 96)), some (am_i 0)] [] (mk am_C0 am_S0 am_V0) K := by
  have s1 : Wp E 182 0 [some (am_e 0), none, none, none] [] [] K = Wp E 182 3 [some (am_e 0), none, none, none] [am_r (some 0)] [am_n9] K := Wp_s (i := (.new 7, 3, 9, 0)) (by decide +kernel) rfl rfl rfl
  have s2 : Wp E 182 3 [some (am_e 0), none, none, none] [am_r (some 0)] [am_n9] K = Wp E 182 4 [some (am_e 0), none, none, none] [am_r (some 0), am_r (some 0)] [am_n9] K := Wp_s (i := (.dup, 1, 0, 0)) (by decide +kernel) rfl rfl rfl
  have s3 : Wp E 182 4 [some (am_e 0), none, none, none] [am_r (some 0), am_r (some 0)] [am_n9] K = Wp E 182 7 [some (am_e 0), none, none, none] [am_r (some 0)] am_h0 K := by
    rw [Wp_c (i := (.invokespecial 9, 3, 2, 76)) (j := 76) (as := [am_r (some 0)]) (rest := [am_r (some 0)]) (A := [some (am_r (some 0)), none]) (by decide +kernel) rfl am_j9 am_l9]
    rw [Wp_of ⟨400, am_run_e _ _ _ _ _ _ _ am_i9⟩]
    rfl
  have s4 : Wp E 182 7 [some (am_e 0), none, none, none] [am_r (some 0)] am_h0 K = Wp E 182 8 [some (am_e 0), some (am_r (some 0)), none, none] [] am_h0 K := Wp_s (i := (.astore_n 1, 1, 0, 0)) (by decide +kernel) rfl rfl rfl
  have lc : am_h0.length = 96 := by decide +kernel
  have s5 : Wp E 182 8 [some (am_e 0), some (am_r (some 0)), none, none] [] am_h0 K = Wp E 182 11 [some (am_e 0), some (am_r (some 0)), none, none] [am_r (some 96)] (am_h0 ++ [am_n10]) K := by
    rw [← lc]
    exact Wp_s (i := (.new 10, 3, 10, 0)) (by decide +kernel) rfl rfl rfl
  have s6 : Wp E 182 11 [some (am_e 0), some (am_r (some 0)), none, none] [am_r (some 96)] (am_h0 ++ [am_n10]) K = Wp E 182 12 [some (am_e 0), some (am_r (some 0)), none, none] [am_r (some 96), am_r (some 96)] (am_h0 ++ [am_n10]) K := Wp_s (i := (.dup, 1, 0, 0)) (by decide +kernel) rfl rfl rfl
  have s7 : Wp E 182 12 [some (am_e 0), some (am_r (some 0)), none, none] [am_r (some 96), am_r (some 96)] (am_h0 ++ [am_n10]) K = Wp E 182 15 [some (am_e 0), some (am_r (some 0)), none, none] [am_r (some 96)] (mk am_C0 am_S0 am_V0) K := by
    rw [Wp_c (i := (.invokespecial 12, 3, 2, 110)) (j := 110) (as := [am_r (some 96)]) (rest := [am_r (some 96)]) (A := [some (am_r (some 96))]) (by decide +kernel) rfl am_j10 am_l10]
    rw [Wp_of ⟨400, am_run_e _ _ _ _ _ _ _ am_i10⟩]
    rfl
  have s8 : Wp E 182 15 [some (am_e 0), some (am_r (some 0)), none, none] [am_r (some 96)] (mk am_C0 am_S0 am_V0) K = Wp E 182 16 [some (am_e 0), some (am_r (some 0)), some (am_r (some 96)), none] [] (mk am_C0 am_S0 am_V0) K := Wp_s (i := (.astore_n 2, 1, 0, 0)) (by decide +kernel) rfl rfl rfl
  have s9 : Wp E 182 16 [some (am_e 0), some (am_r (some 0)), some (am_r (some 96)), none] [] (mk am_C0 am_S0 am_V0) K = Wp E 182 17 [some (am_e 0), some (am_r (some 0)), some (am_r (some 96)), none] [am_i 0] (mk am_C0 am_S0 am_V0) K := Wp_s (i := (.iconst 0, 1, 0, 0)) (by decide +kernel) rfl rfl rfl
  have s10 : Wp E 182 17 [some (am_e 0), some (am_r (some 0)), some (am_r (some 96)), none] [am_i 0] (mk am_C0 am_S0 am_V0) K = Wp E 182 18 [some (am_e 0), some (am_r (some 0)), some (am_r (some 96)), some (am_i 0)] [] (mk am_C0 am_S0 am_V0) K := Wp_s (i := (.istore_n 3, 1, 0, 0)) (by decide +kernel) rfl rfl rfl
  rw [s1, s2, s3, s4, s5, s6, s7, s8, s9, s10]
end INI
