/-! WHAT COMES OUT OF A RUN, as a predicate of what is wanted then: one equation an instruction -/
def Wp (E : List (List Int)) (k pc : Nat) (L : am_L) (st : List am_V) (h : am_H) (K : Option am_V → am_H → Prop) : Prop := ∃ r : am_A, Ev E k pc L st h r ∧ K r.1 r.2
def am_bd {α : Type} (o : Option α) (f : α → Prop) : Prop := match o with
  | some v => f v
  | none => False
theorem am_bd_s {α : Type} (v : α) (f : α → Prop) : am_bd (some v) f = f v := rfl
theorem am_bd_n {α : Type} (f : α → Prop) : am_bd none f = False := rfl
/-- no long -/
def am_nl (o : Option am_V) : Bool := match o with
  | some (.inr (.inl _)) => false
  | _ => true
theorem am_nl_i (x : Int) : am_nl (some (am_i x)) = true := rfl
theorem am_nl_r (x : Option Nat) : am_nl (some (am_r x)) = true := rfl
theorem am_nl_e (x : Nat) : am_nl (some (am_e x)) = true := rfl
theorem am_nl_n : am_nl none = true := rfl
def am_k1 (b : Bool) (P : Prop) : Prop := match b with
  | true => P
  | false => False
theorem am_k1_t (P : Prop) : am_k1 true P = P := rfl
/-- a field is set (its type is known to fit) -/
def am_fu (h : am_H) (a c j : Nat) (v : am_V) : Option am_H := match h[a]? with
  | some (.inr (.inl (c', fs))) => if c' = c ∧ j < fs.length then some (h.set a (am_o c (fs.set j v))) else none
  | _ => none
def am_rd (xs : List Int) (j : Int) : Option Int := if 0 ≤ am_w j then xs[(am_w j).toNat]? else none
def am_wr (xs : List Int) (j x : Int) : Option (List Int) := if 0 ≤ am_w j ∧ (am_w j).toNat < xs.length then some (xs.set (am_w j).toNat x) else none
def am_ra (t : Nat) (h : am_H) (a : Nat) (j : Int) : Option Int := match h[a]? with
  | some (.inl (t', xs)) => if t' = t then am_rd xs j else none
  | _ => none
def am_wa (t : Nat) (h : am_H) (a : Nat) (j x : Int) : Option am_H := match h[a]? with
  | some (.inl (t', xs)) => if t' = t then (am_wr xs j x).map fun ys => h.set a (am_a t ys) else none
  | _ => none
def am_xa (E : List (List Int)) (x : Nat) (j : Int) : Option Int := match E[x]? with
  | some xs => am_rd xs j
  | none => none
/-- the receiver is of that class -/
def am_oc (h : am_H) (o c : Nat) (P : Prop) : Prop := match h[o]? with
  | some (.inr (.inl (c', _))) => c' = c ∧ P
  | _ => False
section WP
variable {E : List (List Int)} {k pc : Nat} {L : am_L} {st : List am_V} {h : am_H} {K : Option am_V → am_H → Prop}
theorem Wp_s {i : am_I} {pc' : Nat} {L' : am_L} {st' : List am_V} {h' : am_H} (hi : am_at k pc = some i) (h1 : am_re (am_rt k) i st = none) (h2 : am_iv i st h = none) (hs : am_step E i pc L st h = some (pc', L', st', h')) : Wp E k pc L st h K = Wp E k pc' L' st' h' K := by
  unfold Wp
  congr 1
  funext r
  rw [Ev_step hi h1 h2, hs]
theorem Wp_no {i : am_I} (hi : am_at k pc = some i) (h1 : am_re (am_rt k) i st = none) (h2 : am_iv i st h = none) (hs : am_step E i pc L st h = none) : Wp E k pc L st h K = False := by
  unfold Wp
  apply propext
  constructor
  · rintro ⟨r, hr, -⟩
    rw [Ev_step hi h1 h2, hs] at hr
    exact hr
  · exact False.elim
theorem Wp_r {i : am_I} {v : Option am_V} (hi : am_at k pc = some i) (h1 : am_re (am_rt k) i st = some v) : Wp E k pc L st h K = K v h := by
  unfold Wp
  apply propext
  constructor
  · rintro ⟨r, hr, hK⟩
    rw [Ev_ret hi h1] at hr
    subst hr
    exact hK
  · intro hK
    exact ⟨(v, h), by rw [Ev_ret hi h1], hK⟩
theorem Wp_c {i : am_I} {j : Nat} {as rest : List am_V} {A : am_L} (hi : am_at k pc = some i) (h1 : am_re (am_rt k) i st = none) (h2 : am_iv i st h = some (j, as, rest)) (hA : am_L0 as (am_ml j) = A) : Wp E k pc L st h K = Wp E j 0 A [] h (fun v h' => Wp E k (pc + 3) L (v.toList ++ rest) h' K) := by
  subst hA
  unfold Wp
  apply propext
  constructor
  · rintro ⟨r, hr, hK⟩
    rw [Ev_call hi h1 h2] at hr
    obtain ⟨v, h', h3, h4⟩ := hr
    exact ⟨(v, h'), h3, r, h4, hK⟩
  · rintro ⟨⟨v, h'⟩, h3, r, h4, hK⟩
    refine ⟨r, ?_, hK⟩
    rw [Ev_call hi h1 h2]
    exact ⟨v, h', h3, h4⟩
/-- a run that is known -/
theorem Wp_of {v : Option am_V} {h' : am_H} (a : Ev E k pc L st h (v, h')) (K : Option am_V → am_H → Prop) : Wp E k pc L st h K = K v h' := by
  unfold Wp
  apply propext
  constructor
  · rintro ⟨r, hr, hK⟩
    have e := Ev_det hr a
    subst e
    exact hK
  · intro hK
    exact ⟨(v, h'), a, hK⟩
theorem Ev_of {v : Option am_V} {h' : am_H} (a : ∀ K, Wp E k pc L st h K = K v h') : Ev E k pc L st h (v, h') := by
  have h1 := (a (fun v1 h1 => v1 = v ∧ h1 = h')).mpr ⟨rfl, rfl⟩
  obtain ⟨⟨v1, h2⟩, hr, e1, e2⟩ := h1
  dsimp only at e1 e2
  subst e1; subst e2
  exact hr
theorem w_iconst {n : Int} (hi : am_at k pc = some (.iconst n, 1, 0, 0)) : Wp E k pc L st h K = Wp E k (pc + 1) L (am_i n :: st) h K := Wp_s hi rfl rfl rfl
theorem w_bipush {n v : Int} (hi : am_at k pc = some (.bipush n, 2, 0, 0)) (hv : (Int8.ofInt n).toInt32.toInt = v) : Wp E k pc L st h K = Wp E k (pc + 2) L (am_i v :: st) h K := by subst hv; exact Wp_s hi rfl rfl rfl
theorem w_sipush {n v : Int} (hi : am_at k pc = some (.sipush n, 3, 0, 0)) (hv : (Int16.ofInt n).toInt32.toInt = v) : Wp E k pc L st h K = Wp E k (pc + 3) L (am_i v :: st) h K := by subst hv; exact Wp_s hi rfl rfl rfl
theorem w_ldc_w {x n : Nat} {v : Int} (hi : am_at k pc = some (.ldc_w x, 3, n, 0)) (hv : (n : Int) = v) : Wp E k pc L st h K = Wp E k (pc + 3) L (am_i v :: st) h K := by subst hv; exact Wp_s hi rfl rfl rfl
theorem w_ldc2_w {x n : Nat} {v : Int} (hi : am_at k pc = some (.ldc2_w x, 3, n, 0)) (hv : (n : Int) = v) : Wp E k pc L st h K = Wp E k (pc + 3) L (am_l v :: st) h K := by subst hv; exact Wp_s hi rfl rfl rfl
theorem w_lconst {n : Fin 2} {v : Int} (hi : am_at k pc = some (.lconst n, 1, 0, 0)) (hv : ((n : Nat) : Int) = v) : Wp E k pc L st h K = Wp E k (pc + 1) L (am_l v :: st) h K := by subst hv; exact Wp_s hi rfl rfl rfl
theorem w_iload_n {n : Fin 4} {x : Int} (hi : am_at k pc = some (.iload_n n, 1, 0, 0)) (hg : am_lg L n = some (am_i x)) : Wp E k pc L st h K = Wp E k (pc + 1) L (am_i x :: st) h K := Wp_s hi rfl rfl (by simp only [am_step]; rw [hg])
theorem w_iload {n : Nat} {x : Int} (hi : am_at k pc = some (.iload n, 2, 0, 0)) (hg : am_lg L n = some (am_i x)) : Wp E k pc L st h K = Wp E k (pc + 2) L (am_i x :: st) h K := Wp_s hi rfl rfl (by simp only [am_step]; rw [hg])
theorem w_lload_n {n : Fin 4} {x : Int} (hi : am_at k pc = some (.lload_n n, 1, 0, 0)) (hg : am_lg L n = some (am_l x)) : Wp E k pc L st h K = Wp E k (pc + 1) L (am_l x :: st) h K := Wp_s hi rfl rfl (by simp only [am_step]; rw [hg])
theorem w_lload {n : Nat} {x : Int} (hi : am_at k pc = some (.lload n, 2, 0, 0)) (hg : am_lg L n = some (am_l x)) : Wp E k pc L st h K = Wp E k (pc + 2) L (am_l x :: st) h K := Wp_s hi rfl rfl (by simp only [am_step]; rw [hg])
theorem w_aload_n {n : Fin 4} {x : Nat} (hi : am_at k pc = some (.aload_n n, 1, 0, 0)) (hg : am_lg L n = some (am_r (some x))) : Wp E k pc L st h K = Wp E k (pc + 1) L (am_r (some x) :: st) h K := Wp_s hi rfl rfl (by simp only [am_step]; rw [hg])
theorem w_aload_e {n : Fin 4} {x : Nat} (hi : am_at k pc = some (.aload_n n, 1, 0, 0)) (hg : am_lg L n = some (am_e x)) : Wp E k pc L st h K = Wp E k (pc + 1) L (am_e x :: st) h K := Wp_s hi rfl rfl (by simp only [am_step]; rw [hg])
theorem w_aload {n : Nat} {x : Nat} (hi : am_at k pc = some (.aload n, 2, 0, 0)) (hg : am_lg L n = some (am_r (some x))) : Wp E k pc L st h K = Wp E k (pc + 2) L (am_r (some x) :: st) h K := Wp_s hi rfl rfl (by simp only [am_step]; rw [hg])
theorem w_istore_n {n : Fin 4} {x : Int} {L' : am_L} (hi : am_at k pc = some (.istore_n n, 1, 0, 0)) (hg : am_ls L n (am_i x) = some L') : Wp E k pc L (am_i x :: st) h K = Wp E k (pc + 1) L' st h K := Wp_s hi rfl rfl (by simp only [am_step]; rw [hg]; rfl)
theorem w_istore {n : Nat} {x : Int} {L' : am_L} (hi : am_at k pc = some (.istore n, 2, 0, 0)) (hg : am_ls L n (am_i x) = some L') : Wp E k pc L (am_i x :: st) h K = Wp E k (pc + 2) L' st h K := Wp_s hi rfl rfl (by simp only [am_step]; rw [hg]; rfl)
theorem w_astore_n {n : Fin 4} {x : Nat} {L' : am_L} (hi : am_at k pc = some (.astore_n n, 1, 0, 0)) (hg : am_ls L n (am_r (some x)) = some L') : Wp E k pc L (am_r (some x) :: st) h K = Wp E k (pc + 1) L' st h K := Wp_s hi rfl rfl (by simp only [am_step]; rw [hg]; rfl)
theorem w_lstore_n {n : Fin 4} {x : Int} {L' : am_L} (hi : am_at k pc = some (.lstore_n n, 1, 0, 0)) (hg : am_l2 L n (am_l x) = some L') : Wp E k pc L (am_l x :: st) h K = Wp E k (pc + 1) L' st h K := Wp_s hi rfl rfl (by simp only [am_step]; rw [hg]; rfl)
theorem w_iinc {n : Nat} {d x : Int} {L' : am_L} (hi : am_at k pc = some (.iinc n d, 3, 0, 0)) (hx : am_lg L n = some (am_i x)) (hg : am_ls L n (am_i (x + d)) = some L') : Wp E k pc L st h K = Wp E k (pc + 3) L' st h K := Wp_s hi rfl rfl (by simp only [am_step]; rw [hx]; dsimp only; rw [hg]; rfl)
theorem w_iadd {x y : Int} (hi : am_at k pc = some (.iadd, 1, 0, 0)) : Wp E k pc L (am_i y :: am_i x :: st) h K = Wp E k (pc + 1) L (am_i (x + y) :: st) h K := Wp_s hi rfl rfl rfl
theorem w_isub {x y : Int} (hi : am_at k pc = some (.isub, 1, 0, 0)) : Wp E k pc L (am_i y :: am_i x :: st) h K = Wp E k (pc + 1) L (am_i (x - y) :: st) h K := Wp_s hi rfl rfl rfl
theorem w_imul {x y : Int} (hi : am_at k pc = some (.imul, 1, 0, 0)) : Wp E k pc L (am_i y :: am_i x :: st) h K = Wp E k (pc + 1) L (am_i (x * y) :: st) h K := Wp_s hi rfl rfl rfl
theorem w_ineg {x : Int} (hi : am_at k pc = some (.ineg, 1, 0, 0)) : Wp E k pc L (am_i x :: st) h K = Wp E k (pc + 1) L (am_i (-x) :: st) h K := Wp_s hi rfl rfl rfl
theorem w_iand {x y : Int} (hi : am_at k pc = some (.iand, 1, 0, 0)) : Wp E k pc L (am_i y :: am_i x :: st) h K = Wp E k (pc + 1) L (am_i (am_and x y) :: st) h K := Wp_s hi rfl rfl rfl
theorem w_ior {x y : Int} (hi : am_at k pc = some (.ior, 1, 0, 0)) : Wp E k pc L (am_i y :: am_i x :: st) h K = Wp E k (pc + 1) L (am_i (am_or x y) :: st) h K := Wp_s hi rfl rfl rfl
theorem w_ixor {x y : Int} (hi : am_at k pc = some (.ixor, 1, 0, 0)) : Wp E k pc L (am_i y :: am_i x :: st) h K = Wp E k (pc + 1) L (am_i (am_xor x y) :: st) h K := Wp_s hi rfl rfl rfl
theorem w_ishl {x y : Int} (hi : am_at k pc = some (.ishl, 1, 0, 0)) : Wp E k pc L (am_i y :: am_i x :: st) h K = Wp E k (pc + 1) L (am_i (am_shl x y) :: st) h K := Wp_s hi rfl rfl rfl
theorem w_ishr {x y : Int} (hi : am_at k pc = some (.ishr, 1, 0, 0)) : Wp E k pc L (am_i y :: am_i x :: st) h K = Wp E k (pc + 1) L (am_i (am_shr x y) :: st) h K := Wp_s hi rfl rfl rfl
theorem w_iushr {x y : Int} (hi : am_at k pc = some (.iushr, 1, 0, 0)) : Wp E k pc L (am_i y :: am_i x :: st) h K = Wp E k (pc + 1) L (am_i (am_ush x y) :: st) h K := Wp_s hi rfl rfl rfl
theorem w_idiv {x y : Int} (hi : am_at k pc = some (.idiv, 1, 0, 0)) : Wp E k pc L (am_i y :: am_i x :: st) h K = if am_w y = 0 then False else Wp E k (pc + 1) L (am_i (am_div x y) :: st) h K := by
  by_cases q : am_w y = 0
  · rw [if_pos q]; exact Wp_no hi rfl rfl (if_pos q)
  · rw [if_neg q]; exact Wp_s hi rfl rfl (if_neg q)
theorem w_irem {x y : Int} (hi : am_at k pc = some (.irem, 1, 0, 0)) : Wp E k pc L (am_i y :: am_i x :: st) h K = if am_w y = 0 then False else Wp E k (pc + 1) L (am_i (am_rem x y) :: st) h K := by
  by_cases q : am_w y = 0
  · rw [if_pos q]; exact Wp_no hi rfl rfl (if_pos q)
  · rw [if_neg q]; exact Wp_s hi rfl rfl (if_neg q)
theorem w_ladd {x y : Int} (hi : am_at k pc = some (.ladd, 1, 0, 0)) : Wp E k pc L (am_l y :: am_l x :: st) h K = Wp E k (pc + 1) L (am_l (x + y) :: st) h K := Wp_s hi rfl rfl rfl
theorem w_lmul {x y : Int} (hi : am_at k pc = some (.lmul, 1, 0, 0)) : Wp E k pc L (am_l y :: am_l x :: st) h K = Wp E k (pc + 1) L (am_l (x * y) :: st) h K := Wp_s hi rfl rfl rfl
theorem w_land {x y : Int} (hi : am_at k pc = some (.land, 1, 0, 0)) : Wp E k pc L (am_l y :: am_l x :: st) h K = Wp E k (pc + 1) L (am_l (am_land x y) :: st) h K := Wp_s hi rfl rfl rfl
theorem w_lor {x y : Int} (hi : am_at k pc = some (.lor, 1, 0, 0)) : Wp E k pc L (am_l y :: am_l x :: st) h K = Wp E k (pc + 1) L (am_l (am_lor x y) :: st) h K := Wp_s hi rfl rfl rfl
theorem w_lshl {x y : Int} (hi : am_at k pc = some (.lshl, 1, 0, 0)) : Wp E k pc L (am_i y :: am_l x :: st) h K = Wp E k (pc + 1) L (am_l (am_lshl x y) :: st) h K := Wp_s hi rfl rfl rfl
theorem w_lushr {x y : Int} (hi : am_at k pc = some (.lushr, 1, 0, 0)) : Wp E k pc L (am_i y :: am_l x :: st) h K = Wp E k (pc + 1) L (am_l (am_lush x y) :: st) h K := Wp_s hi rfl rfl rfl
theorem w_lrem {x y : Int} (hi : am_at k pc = some (.lrem, 1, 0, 0)) : Wp E k pc L (am_l y :: am_l x :: st) h K = if am_v y = 0 then False else Wp E k (pc + 1) L (am_l (am_lrem x y) :: st) h K := by
  by_cases q : am_v y = 0
  · rw [if_pos q]; exact Wp_no hi rfl rfl (if_pos q)
  · rw [if_neg q]; exact Wp_s hi rfl rfl (if_neg q)
theorem w_lcmp {x y : Int} (hi : am_at k pc = some (.lcmp, 1, 0, 0)) : Wp E k pc L (am_l y :: am_l x :: st) h K = Wp E k (pc + 1) L (am_i (am_cmp x y) :: st) h K := Wp_s hi rfl rfl rfl
theorem w_i2l {x : Int} (hi : am_at k pc = some (.i2l, 1, 0, 0)) : Wp E k pc L (am_i x :: st) h K = Wp E k (pc + 1) L (am_l (am_w x) :: st) h K := Wp_s hi rfl rfl rfl
theorem w_l2i {x : Int} (hi : am_at k pc = some (.l2i, 1, 0, 0)) : Wp E k pc L (am_l x :: st) h K = Wp E k (pc + 1) L (am_i (am_l2i x) :: st) h K := Wp_s hi rfl rfl rfl
theorem w_dup_i {x : Int} (hi : am_at k pc = some (.dup, 1, 0, 0)) : Wp E k pc L (am_i x :: st) h K = Wp E k (pc + 1) L (am_i x :: am_i x :: st) h K := Wp_s hi rfl rfl rfl
theorem w_dup_r {x : Option Nat} (hi : am_at k pc = some (.dup, 1, 0, 0)) : Wp E k pc L (am_r x :: st) h K = Wp E k (pc + 1) L (am_r x :: am_r x :: st) h K := Wp_s hi rfl rfl rfl
theorem w_dup2 {x : Int} {y : Option Nat} (hi : am_at k pc = some (.dup2, 1, 0, 0)) : Wp E k pc L (am_i x :: am_r y :: st) h K = Wp E k (pc + 1) L (am_i x :: am_r y :: am_i x :: am_r y :: st) h K := Wp_s hi rfl rfl rfl
theorem w_pop_i {x : Int} (hi : am_at k pc = some (.pop, 1, 0, 0)) : Wp E k pc L (am_i x :: st) h K = Wp E k (pc + 1) L st h K := Wp_s hi rfl rfl rfl
theorem w_pop_r {x : Option Nat} (hi : am_at k pc = some (.pop, 1, 0, 0)) : Wp E k pc L (am_r x :: st) h K = Wp E k (pc + 1) L st h K := Wp_s hi rfl rfl rfl
theorem w_goto {off : Int} {t : Nat} (hi : am_at k pc = some (.goto off, 3, 0, 0)) (ht : am_jp pc off = some t) : Wp E k pc L st h K = Wp E k t L st h K := Wp_s hi rfl rfl (by simp only [am_step]; rw [ht]; rfl)
theorem w_if {cd : Jvm.ClassFile.Cond} {off : Int} {t : Nat} {x : Int} (hi : am_at k pc = some (.ifCond cd off, 3, 0, 0)) (ht : am_jp pc off = some t) : Wp E k pc L (am_i x :: st) h K = if am_cz cd x = true then Wp E k t L st h K else Wp E k (pc + 3) L st h K := by
  by_cases q : am_cz cd x = true
  · rw [if_pos q]; exact Wp_s hi rfl rfl (by simp only [am_step]; rw [ht]; simp [q])
  · rw [if_neg q]; exact Wp_s hi rfl rfl (by simp only [am_step]; rw [ht]; simp [q])
theorem w_ic {cd : Jvm.ClassFile.Cond} {off : Int} {t : Nat} {x y : Int} (hi : am_at k pc = some (.if_icmp cd off, 3, 0, 0)) (ht : am_jp pc off = some t) : Wp E k pc L (am_i y :: am_i x :: st) h K = if am_cc cd x y = true then Wp E k t L st h K else Wp E k (pc + 3) L st h K := by
  by_cases q : am_cc cd x y = true
  · rw [if_pos q]; exact Wp_s hi rfl rfl (by simp only [am_step]; rw [ht]; simp [q])
  · rw [if_neg q]; exact Wp_s hi rfl rfl (by simp only [am_step]; rw [ht]; simp [q])
theorem w_ife {off : Int} {t : Nat} {x : Int} (hi : am_at k pc = some (.ifCond .eq off, 3, 0, 0)) (ht : am_jp pc off = some t) : Wp E k pc L (am_i x :: st) h K = if am_w x = 0 then Wp E k t L st h K else Wp E k (pc + 3) L st h K := by rw [w_if hi ht]; simp only [am_cz, decide_eq_true_eq]
theorem w_ifn {off : Int} {t : Nat} {x : Int} (hi : am_at k pc = some (.ifCond .ne off, 3, 0, 0)) (ht : am_jp pc off = some t) : Wp E k pc L (am_i x :: st) h K = if am_w x = 0 then Wp E k (pc + 3) L st h K else Wp E k t L st h K := by rw [w_if hi ht]; simp only [am_cz, decide_eq_true_eq, ite_not]
theorem w_ifl {off : Int} {t : Nat} {x : Int} (hi : am_at k pc = some (.ifCond .lt off, 3, 0, 0)) (ht : am_jp pc off = some t) : Wp E k pc L (am_i x :: st) h K = if am_w x < 0 then Wp E k t L st h K else Wp E k (pc + 3) L st h K := by rw [w_if hi ht]; simp only [am_cz, decide_eq_true_eq]
theorem w_ifg {off : Int} {t : Nat} {x : Int} (hi : am_at k pc = some (.ifCond .ge off, 3, 0, 0)) (ht : am_jp pc off = some t) : Wp E k pc L (am_i x :: st) h K = if am_w x < 0 then Wp E k (pc + 3) L st h K else Wp E k t L st h K := by rw [w_if hi ht]; simp only [am_cz, decide_eq_true_eq, ← Int.not_lt, ite_not]
theorem w_ift {off : Int} {t : Nat} {x : Int} (hi : am_at k pc = some (.ifCond .gt off, 3, 0, 0)) (ht : am_jp pc off = some t) : Wp E k pc L (am_i x :: st) h K = if 0 < am_w x then Wp E k t L st h K else Wp E k (pc + 3) L st h K := by rw [w_if hi ht]; simp only [am_cz, decide_eq_true_eq]
theorem w_ifm {off : Int} {t : Nat} {x : Int} (hi : am_at k pc = some (.ifCond .le off, 3, 0, 0)) (ht : am_jp pc off = some t) : Wp E k pc L (am_i x :: st) h K = if 0 < am_w x then Wp E k (pc + 3) L st h K else Wp E k t L st h K := by rw [w_if hi ht]; simp only [am_cz, decide_eq_true_eq, ← Int.not_lt, ite_not]
theorem w_ice {off : Int} {t : Nat} {x y : Int} (hi : am_at k pc = some (.if_icmp .eq off, 3, 0, 0)) (ht : am_jp pc off = some t) : Wp E k pc L (am_i y :: am_i x :: st) h K = if am_w x = am_w y then Wp E k t L st h K else Wp E k (pc + 3) L st h K := by rw [w_ic hi ht]; simp only [am_cc, decide_eq_true_eq]
theorem w_icn {off : Int} {t : Nat} {x y : Int} (hi : am_at k pc = some (.if_icmp .ne off, 3, 0, 0)) (ht : am_jp pc off = some t) : Wp E k pc L (am_i y :: am_i x :: st) h K = if am_w x = am_w y then Wp E k (pc + 3) L st h K else Wp E k t L st h K := by rw [w_ic hi ht]; simp only [am_cc, decide_eq_true_eq, ite_not]
theorem w_icl {off : Int} {t : Nat} {x y : Int} (hi : am_at k pc = some (.if_icmp .lt off, 3, 0, 0)) (ht : am_jp pc off = some t) : Wp E k pc L (am_i y :: am_i x :: st) h K = if am_w x < am_w y then Wp E k t L st h K else Wp E k (pc + 3) L st h K := by rw [w_ic hi ht]; simp only [am_cc, decide_eq_true_eq]
theorem w_icg {off : Int} {t : Nat} {x y : Int} (hi : am_at k pc = some (.if_icmp .ge off, 3, 0, 0)) (ht : am_jp pc off = some t) : Wp E k pc L (am_i y :: am_i x :: st) h K = if am_w x < am_w y then Wp E k (pc + 3) L st h K else Wp E k t L st h K := by rw [w_ic hi ht]; simp only [am_cc, decide_eq_true_eq, ← Int.not_lt, ite_not]
theorem w_ict {off : Int} {t : Nat} {x y : Int} (hi : am_at k pc = some (.if_icmp .gt off, 3, 0, 0)) (ht : am_jp pc off = some t) : Wp E k pc L (am_i y :: am_i x :: st) h K = if am_w y < am_w x then Wp E k t L st h K else Wp E k (pc + 3) L st h K := by rw [w_ic hi ht]; simp only [am_cc, decide_eq_true_eq]
theorem w_icm {off : Int} {t : Nat} {x y : Int} (hi : am_at k pc = some (.if_icmp .le off, 3, 0, 0)) (ht : am_jp pc off = some t) : Wp E k pc L (am_i y :: am_i x :: st) h K = if am_w y < am_w x then Wp E k (pc + 3) L st h K else Wp E k t L st h K := by rw [w_ic hi ht]; simp only [am_cc, decide_eq_true_eq, ← Int.not_lt, ite_not]
theorem w_sw {df lo hi2 : Int} {offs : Array Int} {len : Nat} {x : Int} (hi : am_at k pc = some (.tableswitch df lo hi2 offs, len, 0, 0)) : Wp E k pc L (am_i x :: st) h K = am_bd (am_sw df lo hi2 offs pc x) (fun t => Wp E k t L st h K) := by
  cases q : am_sw df lo hi2 offs pc x with
  | none => exact Wp_no hi rfl rfl (by simp only [am_step]; rw [q]; rfl)
  | some t => exact Wp_s hi rfl rfl (by simp only [am_step]; rw [q]; rfl)
theorem w_getf {x c j a : Nat} (hi : am_at k pc = some (.getfield x, 3, c, j)) : Wp E k pc L (am_r (some a) :: st) h K = am_bd (am_fd h a c j) (fun v => Wp E k (pc + 3) L (v :: st) h K) := by
  cases q : am_fd h a c j with
  | none => exact Wp_no hi rfl rfl (by simp only [am_step]; rw [q]; rfl)
  | some t => exact Wp_s hi rfl rfl (by simp only [am_step]; rw [q]; rfl)
theorem w_putf {x c j a : Nat} {v : am_V} (hi : am_at k pc = some (.putfield x, 3, c, j)) (hf : am_ft (am_ty c j) v = true) : Wp E k pc L (v :: am_r (some a) :: st) h K = am_bd (am_fu h a c j v) (fun h => Wp E k (pc + 3) L st h K) := by
  have e : am_fs h a c j v = am_fu h a c j v := by
    unfold am_fs am_fu
    rcases hq : h[a]? with _ | (⟨t', xs⟩ | ⟨c', fs⟩ | l)
    · rfl
    · rfl
    · simp only [hf, and_true]
    · rfl
  cases q : am_fu h a c j v with
  | none => exact Wp_no hi rfl rfl (by simp only [am_step]; rw [e, q]; rfl)
  | some t => exact Wp_s hi rfl rfl (by simp only [am_step]; rw [e, q]; rfl)
theorem w_gets {x : Nat} (hi : am_at k pc = some (.getstatic x, 3, 0, 0)) : Wp E k pc L st h K = Wp E k (pc + 3) L (am_e 1 :: st) h K := Wp_s hi rfl rfl rfl
theorem w_iald {a : Nat} {j : Int} (hi : am_at k pc = some (.iaload, 1, 0, 0)) : Wp E k pc L (am_i j :: am_r (some a) :: st) h K = am_bd (am_ra 0 h a j) (fun x => Wp E k (pc + 1) L (am_i x :: st) h K) := by
  have e : am_ia E 0 h (am_r (some a)) j = am_ra 0 h a j := by
    unfold am_ia am_ra am_rd
    dsimp only
    rcases hq : h[a]? with _ | (⟨t', xs⟩ | ⟨c', fs⟩ | l)
    · rfl
    · by_cases q : t' = 0 <;> simp [q]
    · rfl
    · rfl
  cases q : am_ra 0 h a j with
  | none => exact Wp_no hi rfl rfl (by simp only [am_step]; rw [e, q]; rfl)
  | some t => exact Wp_s hi rfl rfl (by simp only [am_step]; rw [e, q]; rfl)
theorem w_ialdx {a : Nat} {j : Int} (hi : am_at k pc = some (.iaload, 1, 0, 0)) : Wp E k pc L (am_i j :: am_e a :: st) h K = am_bd (am_xa E a j) (fun x => Wp E k (pc + 1) L (am_i x :: st) h K) := by
  have e : am_ia E 0 h (am_e a) j = am_xa E a j := by
    unfold am_ia am_xa am_rd
    dsimp only
    rcases hq : E[a]? with _ | xs
    · rfl
    · simp
  cases q : am_xa E a j with
  | none => exact Wp_no hi rfl rfl (by simp only [am_step]; rw [e, q]; rfl)
  | some t => exact Wp_s hi rfl rfl (by simp only [am_step]; rw [e, q]; rfl)
theorem w_bald {a : Nat} {j : Int} (hi : am_at k pc = some (.baload, 1, 0, 0)) : Wp E k pc L (am_i j :: am_r (some a) :: st) h K = am_bd (am_ra 1 h a j) (fun x => Wp E k (pc + 1) L (am_i x :: st) h K) := by
  have e : am_ia E 1 h (am_r (some a)) j = am_ra 1 h a j := by
    unfold am_ia am_ra am_rd
    dsimp only
    rcases hq : h[a]? with _ | (⟨t', xs⟩ | ⟨c', fs⟩ | l)
    · rfl
    · by_cases q : t' = 1 <;> simp [q]
    · rfl
    · rfl
  cases q : am_ra 1 h a j with
  | none => exact Wp_no hi rfl rfl (by simp only [am_step]; rw [e, q]; rfl)
  | some t => exact Wp_s hi rfl rfl (by simp only [am_step]; rw [e, q]; rfl)
theorem am_is_wa (t : Nat) (h : am_H) (a : Nat) (j x : Int) : am_is t h a j x = am_wa t h a j x := by
  unfold am_is am_wa am_wr
  rcases hq : h[a]? with _ | (⟨t', xs⟩ | ⟨c', fs⟩ | l)
  · rfl
  · dsimp only
    by_cases q : t' = t
    · by_cases q2 : 0 ≤ am_w j ∧ (am_w j).toNat < xs.length
      · rw [if_pos ⟨q, q2.1, q2.2⟩, if_pos q, if_pos q2]; rfl
      · rw [if_neg (fun z => q2 z.2), if_pos q, if_neg q2]; rfl
    · rw [if_neg (fun z => q z.1), if_neg q]
  · rfl
  · rfl
theorem w_iast {a : Nat} {j x : Int} (hi : am_at k pc = some (.iastore, 1, 0, 0)) : Wp E k pc L (am_i x :: am_i j :: am_r (some a) :: st) h K = am_bd (am_wa 0 h a j x) (fun h => Wp E k (pc + 1) L st h K) := by
  cases q : am_wa 0 h a j x with
  | none => exact Wp_no hi rfl rfl (by simp only [am_step]; rw [am_is_wa, q]; rfl)
  | some t => exact Wp_s hi rfl rfl (by simp only [am_step]; rw [am_is_wa, q]; rfl)
theorem w_bast {a : Nat} {j x : Int} (hi : am_at k pc = some (.bastore, 1, 0, 0)) : Wp E k pc L (am_i x :: am_i j :: am_r (some a) :: st) h K = if x = 0 ∨ x = 1 then am_bd (am_wa 1 h a j x) (fun h => Wp E k (pc + 1) L st h K) else False := by
  by_cases q0 : x = 0 ∨ x = 1
  · rw [if_pos q0]
    cases q : am_wa 1 h a j x with
    | none => exact Wp_no hi rfl rfl (by simp only [am_step]; rw [if_pos q0, am_is_wa, q]; rfl)
    | some t => exact Wp_s hi rfl rfl (by simp only [am_step]; rw [if_pos q0, am_is_wa, q]; rfl)
  · rw [if_neg q0]; exact Wp_no hi rfl rfl (by simp only [am_step]; rw [if_neg q0])
theorem w_aald {a : Nat} {j : Int} (hi : am_at k pc = some (.aaload, 1, 0, 0)) : Wp E k pc L (am_i j :: am_r (some a) :: st) h K = am_bd (am_qa h a j) (fun x => Wp E k (pc + 1) L (am_r x :: st) h K) := by
  cases q : am_qa h a j with
  | none => exact Wp_no hi rfl rfl (by simp only [am_step]; rw [q]; rfl)
  | some t => exact Wp_s hi rfl rfl (by simp only [am_step]; rw [q]; rfl)
theorem w_alenr {a : Nat} (hi : am_at k pc = some (.arraylength, 1, 0, 0)) : Wp E k pc L (am_r (some a) :: st) h K = am_bd (am_al E h (am_r (some a))) (fun x => Wp E k (pc + 1) L (am_i x :: st) h K) := by
  cases q : am_al E h (am_r (some a)) with
  | none => exact Wp_no hi rfl rfl (by simp only [am_step]; rw [q]; rfl)
  | some t => exact Wp_s hi rfl rfl (by simp only [am_step]; rw [q]; rfl)
theorem w_alenx {a : Nat} (hi : am_at k pc = some (.arraylength, 1, 0, 0)) : Wp E k pc L (am_e a :: st) h K = am_bd (am_al E h (am_e a)) (fun x => Wp E k (pc + 1) L (am_i x :: st) h K) := by
  cases q : am_al E h (am_e a) with
  | none => exact Wp_no hi rfl rfl (by simp only [am_step]; rw [q]; rfl)
  | some t => exact Wp_s hi rfl rfl (by simp only [am_step]; rw [q]; rfl)
theorem w_max {x y : Int} {ix : Nat} (hi : am_at k pc = some (.invokestatic ix, 3, 5, 0)) (hc : (st.map am_ct).sum ≤ 8) : Wp E k pc L (am_i y :: am_i x :: st) h K = Wp E k (pc + 3) L (am_i (if am_w x < am_w y then y else x) :: st) h K := Wp_s hi rfl rfl (if_pos hc)
theorem w_min {x y : Int} {ix : Nat} (hi : am_at k pc = some (.invokestatic ix, 3, 6, 0)) (hc : (st.map am_ct).sum ≤ 8) : Wp E k pc L (am_i y :: am_i x :: st) h K = Wp E k (pc + 3) L (am_i (if am_w y < am_w x then y else x) :: st) h K := Wp_s hi rfl rfl (if_pos hc)
theorem w_abs {x : Int} {ix : Nat} (hi : am_at k pc = some (.invokestatic ix, 3, 7, 0)) (hc : (st.map am_ct).sum ≤ 8) : Wp E k pc L (am_i x :: st) h K = Wp E k (pc + 3) L (am_i (if 0 ≤ am_w x then x else 0 - x) :: st) h K := Wp_s hi rfl rfl (if_pos hc)
theorem w_iret {x : Int} (hi : am_at k pc = some (.ireturn, 1, 0, 0)) (hr : am_rt k = some .int) : Wp E k pc L [am_i x] h K = K (some (am_i x)) h := Wp_r hi (by simp only [am_re]; rw [if_pos (Or.inl hr)])
theorem w_zret {x : Int} (hi : am_at k pc = some (.ireturn, 1, 0, 0)) (hr : am_rt k = some .boolean) : Wp E k pc L [am_i x] h K = if x = 0 ∨ x = 1 then K (some (am_i x)) h else False := by
  by_cases q : x = 0 ∨ x = 1
  · rw [if_pos q]; exact Wp_r hi (by simp only [am_re]; rw [if_pos (Or.inr ⟨hr, q⟩)])
  · rw [if_neg q]
    exact Wp_no hi (by simp only [am_re]; rw [if_neg]; rintro (z | z); rw [hr] at z; cases z; exact q z.2) rfl rfl
theorem w_lret {x : Int} (hi : am_at k pc = some (.lreturn, 1, 0, 0)) (hr : am_rt k = some .long) : Wp E k pc L [am_l x] h K = K (some (am_l x)) h := Wp_r hi (by simp only [am_re]; rw [if_pos hr])
theorem w_vret (hi : am_at k pc = some (.return_, 1, 0, 0)) (hr : am_rt k = none) : Wp E k pc L [] h K = K none h := Wp_r hi (by simp only [am_re]; rw [if_pos hr])
/-- a call of an object's method -/
theorem w_callv {ix j c o n ml : Nat} {as rest : List am_V} {A : am_L} (hi : am_at k pc = some (.invokevirtual ix, 3, 0, j)) (hc : am_ow j = c ∧ am_np j = n ∧ am_ml j = ml) (hd : st.drop n = am_r (some o) :: rest) (ha : (st.take n).reverse = as) (h8 : (rest.map am_ct).sum ≤ 8) (hl : (am_sl (am_r (some o) :: as)).length ≤ ml) (hA : am_L0 (am_r (some o) :: as) ml = A) : Wp E k pc L st h K = am_oc h o c (Wp E j 0 A [] h (fun v h' => Wp E k (pc + 3) L (v.toList ++ rest) h' K)) := by
  obtain ⟨rfl, rfl, rfl⟩ := hc
  subst ha
  unfold am_oc
  split
  · rename_i c' fs he
    by_cases q : c' = am_ow j
    · rw [Wp_c (j := j) (as := am_r (some o) :: (st.take (am_np j)).reverse) (rest := rest) hi rfl (by unfold am_iv; dsimp only; rw [hd]; dsimp only; rw [he]; dsimp only; rw [if_pos ⟨q, h8, rfl, hl⟩]) hA]
      simp only [q, true_and]
    · rw [Wp_no hi rfl (by unfold am_iv; dsimp only; rw [hd]; dsimp only; rw [he]; dsimp only; rw [if_neg (fun z => q z.1)]) rfl]
      simp only [q, false_and]
  · rename_i hno
    rw [Wp_no hi rfl (by
      unfold am_iv; dsimp only; rw [hd]; dsimp only
      split
      · rename_i c' fs he
        exact absurd he (hno c' fs)
      · rfl) rfl]
theorem w_calls {ix j n ml : Nat} {as rest : List am_V} {A : am_L} (hi : am_at k pc = some (.invokestatic ix, 3, 1, j)) (hc : am_np j = n ∧ am_ml j = ml) (hn : n ≤ st.length) (hd : st.drop n = rest) (ha : (st.take n).reverse = as) (h8 : (rest.map am_ct).sum ≤ 8) (hl : (am_sl as).length ≤ ml) (hA : am_L0 as ml = A) : Wp E k pc L st h K = Wp E j 0 A [] h (fun v h' => Wp E k (pc + 3) L (v.toList ++ rest) h' K) := by
  obtain ⟨rfl, rfl⟩ := hc
  subst ha; subst hd
  exact Wp_c (j := j) (as := (st.take (am_np j)).reverse) (rest := st.drop (am_np j)) hi rfl (by unfold am_iv; dsimp only; rw [if_pos ⟨rfl, hn, h8, hl⟩]) hA
theorem k_istore_n {n : Fin 4} {x : Int} {L' : am_L} {b : Bool} (hi : am_at k pc = some (.istore_n n, 1, 0, 0)) (h1 : b = true → am_ls L n (am_i x) = some L') (h0 : b = false → am_ls L n (am_i x) = none) : Wp E k pc L (am_i x :: st) h K = am_k1 b (Wp E k (pc + 1) L' st h K) := by
  cases b with
  | true => exact w_istore_n hi (h1 rfl)
  | false => exact Wp_no hi rfl rfl (by simp only [am_step]; rw [h0 rfl]; rfl)
theorem k_istore {n : Nat} {x : Int} {L' : am_L} {b : Bool} (hi : am_at k pc = some (.istore n, 2, 0, 0)) (h1 : b = true → am_ls L n (am_i x) = some L') (h0 : b = false → am_ls L n (am_i x) = none) : Wp E k pc L (am_i x :: st) h K = am_k1 b (Wp E k (pc + 2) L' st h K) := by
  cases b with
  | true => exact w_istore hi (h1 rfl)
  | false => exact Wp_no hi rfl rfl (by simp only [am_step]; rw [h0 rfl]; rfl)
theorem k_astore_n {n : Fin 4} {x : Nat} {L' : am_L} {b : Bool} (hi : am_at k pc = some (.astore_n n, 1, 0, 0)) (h1 : b = true → am_ls L n (am_r (some x)) = some L') (h0 : b = false → am_ls L n (am_r (some x)) = none) : Wp E k pc L (am_r (some x) :: st) h K = am_k1 b (Wp E k (pc + 1) L' st h K) := by
  cases b with
  | true => exact w_astore_n hi (h1 rfl)
  | false => exact Wp_no hi rfl rfl (by simp only [am_step]; rw [h0 rfl]; rfl)
theorem k_lstore_n {n : Fin 4} {x : Int} {L' : am_L} {b : Bool} (hi : am_at k pc = some (.lstore_n n, 1, 0, 0)) (h1 : b = true → am_l2 L n (am_l x) = some L') (h0 : b = false → am_l2 L n (am_l x) = none) : Wp E k pc L (am_l x :: st) h K = am_k1 b (Wp E k (pc + 1) L' st h K) := by
  cases b with
  | true => exact w_lstore_n hi (h1 rfl)
  | false => exact Wp_no hi rfl rfl (by simp only [am_step]; rw [h0 rfl]; rfl)
theorem k_iinc {n : Nat} {d x : Int} {L' : am_L} {b : Bool} (hi : am_at k pc = some (.iinc n d, 3, 0, 0)) (hx : am_lg L n = some (am_i x)) (h1 : b = true → am_ls L n (am_i (x + d)) = some L') (h0 : b = false → am_ls L n (am_i (x + d)) = none) : Wp E k pc L st h K = am_k1 b (Wp E k (pc + 3) L' st h K) := by
  cases b with
  | true => exact w_iinc hi hx (h1 rfl)
  | false => exact Wp_no hi rfl rfl (by simp only [am_step]; rw [hx]; dsimp only; rw [h0 rfl]; rfl)
end WP
/-! lookups -/
theorem am_fd_of {h : am_H} {a c : Nat} {fs : List am_V} (he : h[a]? = some (am_o c fs)) (j : Nat) : am_fd h a c j = fs[j]? := by
  unfold am_fd; rw [he]; dsimp only; rw [if_pos rfl]
theorem am_fu_of {h : am_H} {a c : Nat} {fs : List am_V} (he : h[a]? = some (am_o c fs)) {j : Nat} {v : am_V} (hj : j < fs.length) : am_fu h a c j v = some (h.set a (am_o c (fs.set j v))) := by
  unfold am_fu; rw [he]; dsimp only; rw [if_pos ⟨rfl, hj⟩]
theorem am_oc_of {h : am_H} {a c : Nat} {fs : List am_V} (he : h[a]? = some (am_o c fs)) (P : Prop) : am_oc h a c P = P := by
  unfold am_oc; rw [he]; simp
theorem am_ra_of {h : am_H} {a t : Nat} {xs : List Int} (he : h[a]? = some (am_a t xs)) (j : Int) : am_ra t h a j = am_rd xs j := by
  unfold am_ra; rw [he]; dsimp only; rw [if_pos rfl]
theorem am_wa_of {h : am_H} {a t : Nat} {xs : List Int} (he : h[a]? = some (am_a t xs)) (j x : Int) : am_wa t h a j x = (am_wr xs j x).map fun ys => h.set a (am_a t ys) := by
  unfold am_wa; rw [he]; dsimp only; rw [if_pos rfl]
theorem am_w_id {x : Int} (h1 : -2147483648 ≤ x) (h2 : x ≤ 2147483647) : am_w x = x := by
  unfold am_w
  exact Int32.toInt_ofInt_of_le (by omega) (by omega)
theorem am_rd_nat {xs : List Int} {i : Nat} (h : i < xs.length) (h2 : i ≤ 100000) : am_rd xs (i : Int) = some (xs.getD i 0) := by
  unfold am_rd
  rw [am_w_id (by omega) (by omega), if_pos (by omega), Int.toNat_natCast, List.getElem?_eq_getElem h, List.getD_eq_getElem?_getD, List.getElem?_eq_getElem h]
  rfl
theorem am_wr_nat {xs : List Int} {i : Nat} (x : Int) (h : i < xs.length) (h2 : i ≤ 100000) : am_wr xs (i : Int) x = some (xs.set i x) := by
  unfold am_wr
  rw [am_w_id (by omega) (by omega), if_pos ⟨by omega, by rw [Int.toNat_natCast]; exact h⟩, Int.toNat_natCast]
