/-! THE ABSTRACT MACHINE: ints and longs are Int (wrapped where they are looked at), a reference is the number of a cell of a list. -/
abbrev am_V : Type := Int ⊕ (Int ⊕ (Option Nat ⊕ Nat))
abbrev am_i (x : Int) : am_V := .inl x
abbrev am_l (x : Int) : am_V := .inr (.inl x)
abbrev am_r (x : Option Nat) : am_V := .inr (.inr (.inl x))
/-- an array that was there at the start and that nobody writes: 0 the script, 1 FACTORIALS -/
abbrev am_e (x : Nat) : am_V := .inr (.inr (.inr x))
abbrev am_C : Type := (Nat × List Int) ⊕ ((Nat × List am_V) ⊕ List (Option Nat))
/-- an array of ints (0) or booleans (1) -/
abbrev am_a (t : Nat) (xs : List Int) : am_C := .inl (t, xs)
abbrev am_o (c : Nat) (fs : List am_V) : am_C := .inr (.inl (c, fs))
/-- an array of Layouts -/
abbrev am_q (l : List (Option Nat)) : am_C := .inr (.inr l)
abbrev am_H : Type := List am_C
abbrev am_L : Type := List (Option am_V)
def am_w (x : Int) : Int := (Int32.ofInt x).toInt
def am_v (x : Int) : Int := (Int64.ofInt x).toInt
def am_ct : am_V → Nat
  | .inr (.inl _) => 2
  | _ => 1
/-- what a new field holds, by its type -/
def am_df : FieldType → am_V
  | .long => am_l 0
  | .object _ => am_r none
  | .array _ => am_r none
  | _ => am_i 0
/-- does a value fit a field of this type -/
def am_ft : FieldType → am_V → Bool
  | .int, .inl _ => true
  | .long, .inr (.inl _) => true
  | .object _, .inr (.inr (.inl (some _))) => true
  | .array _, .inr (.inr (.inl (some _))) => true
  | _, _ => false
def am_lg (L : am_L) (i : Nat) : Option am_V := match L[i]? with
  | some (some v) => some v
  | _ => none
/-- no long ends at this place -/
def am_lb (L : am_L) : Nat → Bool
  | 0 => true
  | i + 1 => match L[i]? with
    | some (some (.inr (.inl _))) => false
    | _ => true
def am_ls (L : am_L) (i : Nat) (v : am_V) : Option am_L := if i < L.length ∧ am_lb L i = true then some (L.set i (some v)) else none
def am_l2 (L : am_L) (i : Nat) (v : am_V) : Option am_L := if i + 1 < L.length ∧ am_lb L i = true then some ((L.set i (some v)).set (i + 1) none) else none
def am_fd (h : am_H) (a c j : Nat) : Option am_V := match h[a]? with
  | some (.inr (.inl (c', fs))) => if c' = c then fs[j]? else none
  | _ => none
def am_fs (h : am_H) (a c j : Nat) (v : am_V) : Option am_H := match h[a]? with
  | some (.inr (.inl (c', fs))) => if c' = c ∧ j < fs.length ∧ am_ft (am_ty c j) v = true then some (h.set a (am_o c (fs.set j v))) else none
  | _ => none
/-- an int (t = 0) or boolean (t = 1) of an array -/
def am_ia (E : List (List Int)) (t : Nat) (h : am_H) (a : am_V) (j : Int) : Option Int := match a with
  | .inr (.inr (.inl (some a))) => (match h[a]? with
    | some (.inl (t', xs)) => if t' = t ∧ 0 ≤ am_w j then xs[(am_w j).toNat]? else none
    | _ => none)
  | .inr (.inr (.inr x)) => (match E[x]? with
    | some xs => if t = 0 ∧ 0 ≤ am_w j then xs[(am_w j).toNat]? else none
    | none => none)
  | _ => none
def am_is (t : Nat) (h : am_H) (a : Nat) (j : Int) (x : Int) : Option am_H := match h[a]? with
  | some (.inl (t', xs)) => if t' = t ∧ 0 ≤ am_w j ∧ (am_w j).toNat < xs.length then some (h.set a (am_a t (xs.set (am_w j).toNat x))) else none
  | _ => none
def am_qa (h : am_H) (a : Nat) (j : Int) : Option (Option Nat) := match h[a]? with
  | some (.inr (.inr l)) => if 0 ≤ am_w j then l[(am_w j).toNat]? else none
  | _ => none
/-- a Layout (class 3) into an array of Layouts -/
def am_qs (h : am_H) (a : Nat) (j : Int) (v : Nat) : Option am_H := match h[a]?, h[v]? with
  | some (.inr (.inr l)), some (.inr (.inl (3, _))) => if 0 ≤ am_w j ∧ (am_w j).toNat < l.length then some (h.set a (am_q (l.set (am_w j).toNat (some v)))) else none
  | _, _ => none
def am_al (E : List (List Int)) (h : am_H) : am_V → Option Int
  | .inr (.inr (.inl (some a))) => (match h[a]? with
    | some (.inl (_, xs)) => some xs.length
    | some (.inr (.inr l)) => some l.length
    | _ => none)
  | .inr (.inr (.inr x)) => (match E[x]? with
    | some xs => some xs.length
    | none => none)
  | _ => none
def am_jp (pc : Nat) (off : Int) : Option Nat := if 0 ≤ (pc : Int) + off then some ((pc : Int) + off).toNat else none
def am_cz (c : Jvm.ClassFile.Cond) (x : Int) : Bool := match c with
  | .eq => decide (am_w x = 0)
  | .ne => decide (¬ am_w x = 0)
  | .lt => decide (am_w x < 0)
  | .ge => decide (0 ≤ am_w x)
  | .gt => decide (0 < am_w x)
  | .le => decide (am_w x ≤ 0)
/-- x lies below y -/
def am_cc (c : Jvm.ClassFile.Cond) (x y : Int) : Bool := match c with
  | .eq => decide (am_w x = am_w y)
  | .ne => decide (¬ am_w x = am_w y)
  | .lt => decide (am_w x < am_w y)
  | .ge => decide (am_w y ≤ am_w x)
  | .gt => decide (am_w y < am_w x)
  | .le => decide (am_w x ≤ am_w y)
def am_sw (dflt lo hi : Int) (offs : Array Int) (pc : Nat) (x : Int) : Option Nat := if am_w x < lo ∨ hi < am_w x then am_jp pc dflt else match offs[(am_w x - lo).toNat]? with
  | some off => am_jp pc off
  | none => none
def am_and (x y : Int) : Int := (Int32.ofInt x &&& Int32.ofInt y).toInt
def am_or (x y : Int) : Int := (Int32.ofInt x ||| Int32.ofInt y).toInt
def am_xor (x y : Int) : Int := (Int32.ofInt x ^^^ Int32.ofInt y).toInt
def am_shl (x y : Int) : Int := (Int32.ofInt x <<< (Int32.ofInt y &&& 31)).toInt
def am_shr (x y : Int) : Int := (Int32.ofInt x >>> (Int32.ofInt y &&& 31)).toInt
def am_ush (x y : Int) : Int := ((Int32.ofInt x).toUInt32 >>> ((Int32.ofInt y).toUInt32 &&& Int32.toUInt32 31)).toInt32.toInt
def am_div (x y : Int) : Int := (Int32.ofInt x / Int32.ofInt y).toInt
def am_rem (x y : Int) : Int := (Int32.ofInt x - Int32.ofInt x / Int32.ofInt y * Int32.ofInt y).toInt
def am_land (x y : Int) : Int := (Int64.ofInt x &&& Int64.ofInt y).toInt
def am_lor (x y : Int) : Int := (Int64.ofInt x ||| Int64.ofInt y).toInt
def am_lshl (x y : Int) : Int := (Int64.ofInt x <<< ((Int32.ofInt y).toInt64 &&& 63)).toInt
def am_lush (x y : Int) : Int := ((Int64.ofInt x).toUInt64 >>> ((Int32.ofInt y).toInt64.toUInt64 &&& Int64.toUInt64 63)).toInt64.toInt
def am_lrem (x y : Int) : Int := (Int64.ofInt x - Int64.ofInt x / Int64.ofInt y * Int64.ofInt y).toInt
def am_l2i (x : Int) : Int := (Int64.ofInt x).toInt32.toInt
def am_cmp (x y : Int) : Int := if am_v y < am_v x then 1 else if am_v x = am_v y then 0 else -1
abbrev am_N : Type := Option (Nat × am_L × List am_V × am_H)
/-- one instruction that neither calls nor returns -/
def am_step (E : List (List Int)) (i : am_I) (pc : Nat) (L : am_L) (st : List am_V) (h : am_H) : am_N := match i.1 with
  | .iconst n => some (pc + 1, L, am_i n :: st, h)
  | .bipush n => some (pc + 2, L, am_i (Int8.ofInt n).toInt32.toInt :: st, h)
  | .sipush n => some (pc + 3, L, am_i (Int16.ofInt n).toInt32.toInt :: st, h)
  | .ldc_w _ => some (pc + 3, L, am_i (i.2.2.1 : Int) :: st, h)
  | .lconst n => some (pc + 1, L, am_l ((n : Nat) : Int) :: st, h)
  | .ldc2_w _ => some (pc + 3, L, am_l (i.2.2.1 : Int) :: st, h)
  | .iload_n n => (match am_lg L n with
    | some (.inl x) => some (pc + 1, L, am_i x :: st, h)
    | _ => none)
  | .iload n => (match am_lg L n with
    | some (.inl x) => some (pc + 2, L, am_i x :: st, h)
    | _ => none)
  | .lload_n n => (match am_lg L n with
    | some (.inr (.inl x)) => some (pc + 1, L, am_l x :: st, h)
    | _ => none)
  | .lload n => (match am_lg L n with
    | some (.inr (.inl x)) => some (pc + 2, L, am_l x :: st, h)
    | _ => none)
  | .aload_n n => (match am_lg L n with
    | some (.inr (.inr (.inl (some x)))) => some (pc + 1, L, am_r (some x) :: st, h)
    | some (.inr (.inr (.inr x))) => some (pc + 1, L, am_e x :: st, h)
    | _ => none)
  | .aload n => (match am_lg L n with
    | some (.inr (.inr (.inl (some x)))) => some (pc + 2, L, am_r (some x) :: st, h)
    | some (.inr (.inr (.inr x))) => some (pc + 2, L, am_e x :: st, h)
    | _ => none)
  | .istore_n n => (match st with
    | .inl x :: st => (am_ls L n (am_i x)).map fun L => (pc + 1, L, st, h)
    | _ => none)
  | .istore n => (match st with
    | .inl x :: st => (am_ls L n (am_i x)).map fun L => (pc + 2, L, st, h)
    | _ => none)
  | .astore_n n => (match st with
    | .inr (.inr (.inl (some x))) :: st => (am_ls L n (am_r (some x))).map fun L => (pc + 1, L, st, h)
    | _ => none)
  | .lstore_n n => (match st with
    | .inr (.inl x) :: st => (am_l2 L n (am_l x)).map fun L => (pc + 1, L, st, h)
    | _ => none)
  | .iinc n d => (match am_lg L n with
    | some (.inl x) => (am_ls L n (am_i (x + d))).map fun L => (pc + 3, L, st, h)
    | _ => none)
  | .iadd => (match st with
    | .inl y :: .inl x :: st => some (pc + 1, L, am_i (x + y) :: st, h)
    | _ => none)
  | .isub => (match st with
    | .inl y :: .inl x :: st => some (pc + 1, L, am_i (x - y) :: st, h)
    | _ => none)
  | .imul => (match st with
    | .inl y :: .inl x :: st => some (pc + 1, L, am_i (x * y) :: st, h)
    | _ => none)
  | .ineg => (match st with
    | .inl x :: st => some (pc + 1, L, am_i (-x) :: st, h)
    | _ => none)
  | .idiv => (match st with
    | .inl y :: .inl x :: st => if am_w y = 0 then none else some (pc + 1, L, am_i (am_div x y) :: st, h)
    | _ => none)
  | .irem => (match st with
    | .inl y :: .inl x :: st => if am_w y = 0 then none else some (pc + 1, L, am_i (am_rem x y) :: st, h)
    | _ => none)
  | .iand => (match st with
    | .inl y :: .inl x :: st => some (pc + 1, L, am_i (am_and x y) :: st, h)
    | _ => none)
  | .ior => (match st with
    | .inl y :: .inl x :: st => some (pc + 1, L, am_i (am_or x y) :: st, h)
    | _ => none)
  | .ixor => (match st with
    | .inl y :: .inl x :: st => some (pc + 1, L, am_i (am_xor x y) :: st, h)
    | _ => none)
  | .ishl => (match st with
    | .inl y :: .inl x :: st => some (pc + 1, L, am_i (am_shl x y) :: st, h)
    | _ => none)
  | .ishr => (match st with
    | .inl y :: .inl x :: st => some (pc + 1, L, am_i (am_shr x y) :: st, h)
    | _ => none)
  | .iushr => (match st with
    | .inl y :: .inl x :: st => some (pc + 1, L, am_i (am_ush x y) :: st, h)
    | _ => none)
  | .ladd => (match st with
    | .inr (.inl y) :: .inr (.inl x) :: st => some (pc + 1, L, am_l (x + y) :: st, h)
    | _ => none)
  | .lmul => (match st with
    | .inr (.inl y) :: .inr (.inl x) :: st => some (pc + 1, L, am_l (x * y) :: st, h)
    | _ => none)
  | .land => (match st with
    | .inr (.inl y) :: .inr (.inl x) :: st => some (pc + 1, L, am_l (am_land x y) :: st, h)
    | _ => none)
  | .lor => (match st with
    | .inr (.inl y) :: .inr (.inl x) :: st => some (pc + 1, L, am_l (am_lor x y) :: st, h)
    | _ => none)
  | .lrem => (match st with
    | .inr (.inl y) :: .inr (.inl x) :: st => if am_v y = 0 then none else some (pc + 1, L, am_l (am_lrem x y) :: st, h)
    | _ => none)
  | .lshl => (match st with
    | .inl y :: .inr (.inl x) :: st => some (pc + 1, L, am_l (am_lshl x y) :: st, h)
    | _ => none)
  | .lushr => (match st with
    | .inl y :: .inr (.inl x) :: st => some (pc + 1, L, am_l (am_lush x y) :: st, h)
    | _ => none)
  | .lcmp => (match st with
    | .inr (.inl y) :: .inr (.inl x) :: st => some (pc + 1, L, am_i (am_cmp x y) :: st, h)
    | _ => none)
  | .i2l => (match st with
    | .inl x :: st => some (pc + 1, L, am_l (am_w x) :: st, h)
    | _ => none)
  | .l2i => (match st with
    | .inr (.inl x) :: st => some (pc + 1, L, am_i (am_l2i x) :: st, h)
    | _ => none)
  | .dup => (match st with
    | v :: st => if am_ct v = 1 then some (pc + 1, L, v :: v :: st, h) else none
    | _ => none)
  | .dup2 => (match st with
    | v :: u :: st => if am_ct v = 1 ∧ am_ct u = 1 then some (pc + 1, L, v :: u :: v :: u :: st, h) else none
    | _ => none)
  | .pop => (match st with
    | v :: st => if am_ct v = 1 then some (pc + 1, L, st, h) else none
    | _ => none)
  | .goto off => (am_jp pc off).map fun t => (t, L, st, h)
  | .ifCond c off => (match st with
    | .inl x :: st => (am_jp pc off).map fun t => if am_cz c x then (t, L, st, h) else (pc + 3, L, st, h)
    | _ => none)
  | .if_icmp c off => (match st with
    | .inl y :: .inl x :: st => (am_jp pc off).map fun t => if am_cc c x y then (t, L, st, h) else (pc + 3, L, st, h)
    | _ => none)
  | .tableswitch dflt lo hi offs => (match st with
    | .inl x :: st => (am_sw dflt lo hi offs pc x).map fun t => (t, L, st, h)
    | _ => none)
  | .getfield _ => (match st with
    | .inr (.inr (.inl (some a))) :: st => (am_fd h a i.2.2.1 i.2.2.2).map fun v => (pc + 3, L, v :: st, h)
    | _ => none)
  | .putfield _ => (match st with
    | v :: .inr (.inr (.inl (some a))) :: st => (am_fs h a i.2.2.1 i.2.2.2 v).map fun h => (pc + 3, L, st, h)
    | _ => none)
  | .getstatic _ => some (pc + 3, L, am_e 1 :: st, h)
  | .iaload => (match st with
    | .inl j :: a :: st => (am_ia E 0 h a j).map fun x => (pc + 1, L, am_i x :: st, h)
    | _ => none)
  | .baload => (match st with
    | .inl j :: .inr (.inr (.inl a)) :: st => (am_ia E 1 h (am_r a) j).map fun x => (pc + 1, L, am_i x :: st, h)
    | _ => none)
  | .iastore => (match st with
    | .inl x :: .inl j :: .inr (.inr (.inl (some a))) :: st => (am_is 0 h a j x).map fun h => (pc + 1, L, st, h)
    | _ => none)
  | .bastore => (match st with
    | .inl x :: .inl j :: .inr (.inr (.inl (some a))) :: st => if x = 0 ∨ x = 1 then (am_is 1 h a j x).map fun h => (pc + 1, L, st, h) else none
    | _ => none)
  | .aaload => (match st with
    | .inl j :: .inr (.inr (.inl (some a))) :: st => (am_qa h a j).map fun x => (pc + 1, L, am_r x :: st, h)
    | _ => none)
  | .aastore => (match st with
    | .inr (.inr (.inl (some v))) :: .inl j :: .inr (.inr (.inl (some a))) :: st => (am_qs h a j v).map fun h => (pc + 1, L, st, h)
    | _ => none)
  | .arraylength => (match st with
    | a :: st => (am_al E h a).map fun x => (pc + 1, L, am_i x :: st, h)
    | _ => none)
  | .newarray .int => (match st with
    | .inl n :: st => if 0 ≤ am_w n ∧ am_w n ≤ 1000 then some (pc + 2, L, am_r (some h.length) :: st, h ++ [am_a 0 (List.replicate (am_w n).toNat 0)]) else none
    | _ => none)
  | .newarray .boolean => (match st with
    | .inl n :: st => if 0 ≤ am_w n ∧ am_w n ≤ 1000 then some (pc + 2, L, am_r (some h.length) :: st, h ++ [am_a 1 (List.replicate (am_w n).toNat 0)]) else none
    | _ => none)
  | .anewarray _ => (match st with
    | .inl n :: st => if 0 ≤ am_w n ∧ am_w n ≤ 1000 then some (pc + 3, L, am_r (some h.length) :: st, h ++ [am_q (List.replicate (am_w n).toNat none)]) else none
    | _ => none)
  | .new _ => some (pc + 3, L, am_r (some h.length) :: st, h ++ [am_o i.2.2.1 ((List.range (am_nf i.2.2.1)).map fun j => am_df (am_ty i.2.2.1 j))])
  | .invokestatic _ => (match i.2.2.1, st with
    | 5, .inl y :: .inl x :: st => if (st.map am_ct).sum ≤ 8 then some (pc + 3, L, am_i (if am_w x < am_w y then y else x) :: st, h) else none
    | 6, .inl y :: .inl x :: st => if (st.map am_ct).sum ≤ 8 then some (pc + 3, L, am_i (if am_w y < am_w x then y else x) :: st, h) else none
    | 7, .inl x :: st => if (st.map am_ct).sum ≤ 8 then some (pc + 3, L, am_i (if 0 ≤ am_w x then x else 0 - x) :: st, h) else none
    | _, _ => none)
  | .invokespecial _ => (match st with
    | .inr (.inr (.inl (some _))) :: st => if i.2.2.1 = 4 ∧ (st.map am_ct).sum ≤ 8 then some (pc + 3, L, st, h) else none
    | _ => none)
  | _ => none
def am_sl (vs : List am_V) : am_L := vs.flatMap fun v => if am_ct v = 2 then [some v, none] else [some v]
/-- a method's locals at its entry -/
def am_L0 (vs : List am_V) (n : Nat) : am_L := am_sl vs ++ List.replicate (n - (am_sl vs).length) none
/-- a return: what is answered -/
def am_re (rt : Option FieldType) (i : am_I) (st : List am_V) : Option (Option am_V) := match i.1, st with
  | .ireturn, [.inl x] => if rt = some .int ∨ (rt = some .boolean ∧ (x = 0 ∨ x = 1)) then some (some (am_i x)) else none
  | .lreturn, [.inr (.inl x)] => if rt = some .long then some (some (am_l x)) else none
  | .return_, [] => if rt = none then some none else none
  | _, _ => none
/-- a call: of which method, with what, what stays -/
def am_iv (i : am_I) (st : List am_V) (h : am_H) : Option (Nat × List am_V × List am_V) := match i.1 with
  | .invokevirtual _ => (match st.drop (am_np i.2.2.2) with
    | .inr (.inr (.inl (some o))) :: rest => (match h[o]? with
      | some (.inr (.inl (c, _))) => if c = am_ow i.2.2.2 ∧ (rest.map am_ct).sum ≤ 8 ∧ i.2.2.1 = 0 ∧ (am_sl (am_r (some o) :: (st.take (am_np i.2.2.2)).reverse)).length ≤ am_ml i.2.2.2 then some (i.2.2.2, am_r (some o) :: (st.take (am_np i.2.2.2)).reverse, rest) else none
      | _ => none)
    | _ => none)
  | .invokestatic _ => if i.2.2.1 = 1 ∧ am_np i.2.2.2 ≤ st.length ∧ ((st.drop (am_np i.2.2.2)).map am_ct).sum ≤ 8 ∧ (am_sl (st.take (am_np i.2.2.2)).reverse).length ≤ am_ml i.2.2.2 then some (i.2.2.2, (st.take (am_np i.2.2.2)).reverse, st.drop (am_np i.2.2.2)) else none
  | .invokespecial _ => (match st.drop (am_np i.2.2.2) with
    | .inr (.inr (.inl (some o))) :: rest => if ¬ i.2.2.1 = 4 ∧ (rest.map am_ct).sum ≤ 8 ∧ (am_sl (am_r (some o) :: (st.take (am_np i.2.2.2)).reverse)).length ≤ am_ml i.2.2.2 then some (i.2.2.2, am_r (some o) :: (st.take (am_np i.2.2.2)).reverse, rest) else none
    | _ => none)
  | _ => none
abbrev am_A : Type := Option am_V × am_H
def am_run (E : List (List Int)) : Nat → Nat → Nat → am_L → List am_V → am_H → Option am_A
  | 0, _, _, _, _, _ => none
  | n + 1, k, pc, L, st, h => match am_at k pc with
    | none => none
    | some i => match am_re (am_rt k) i st with
      | some v => some (v, h)
      | none => match am_iv i st h with
        | some (j, as, rest) => (match am_run E n j 0 (am_L0 as (am_ml j)) [] h with
          | some (v, h') => am_run E n k (pc + 3) L (v.toList ++ rest) h'
          | none => none)
        | none => match am_step E i pc L st h with
          | some (pc', L', st', h') => am_run E n k pc' L' st' h'
          | none => none
/-- it comes to an end, and so -/
def Ev (E : List (List Int)) (k pc : Nat) (L : am_L) (st : List am_V) (h : am_H) (r : am_A) : Prop := ∃ n, am_run E n k pc L st h = some r
theorem am_mono {E : List (List Int)} : ∀ (n m k pc : Nat) (L : am_L) (st : List am_V) (h : am_H) (r : am_A), n ≤ m → am_run E n k pc L st h = some r → am_run E m k pc L st h = some r
  | 0, _, _, _, _, _, _, _, _, h => by cases h
  | n + 1, 0, _, _, _, _, _, _, hm, _ => by omega
  | n + 1, m + 1, k, pc, L, st, h, r, hm, hr => by
    have ih := am_mono (E := E) n m
    unfold am_run at hr ⊢
    split at hr
    · cases hr
    · rename_i i hi
      split at hr
      · exact hr
      · split at hr
        · rename_i j as rest hv
          split at hr
          · rename_i v h' hc
            rw [ih _ _ _ _ _ _ (by omega) hc]
            exact ih _ _ _ _ _ _ (by omega) hr
          · cases hr
        · split at hr
          · exact ih _ _ _ _ _ _ (by omega) hr
          · cases hr
theorem Ev_det {E : List (List Int)} {k pc : Nat} {L : am_L} {st : List am_V} {h : am_H} {r r' : am_A} (a : Ev E k pc L st h r) (b : Ev E k pc L st h r') : r = r' := by
  obtain ⟨n, hn⟩ := a
  obtain ⟨m, hm⟩ := b
  have h1 := am_mono n (max n m) k pc L st h r (Nat.le_max_left n m) hn
  have h2 := am_mono m (max n m) k pc L st h r' (Nat.le_max_right n m) hm
  exact Option.some.inj (h1.symm.trans h2)
/-- a method's whole answer, as an equation to rewrite by -/
theorem Ev_eq {E : List (List Int)} {k pc : Nat} {L : am_L} {st : List am_V} {h : am_H} {r : am_A} (a : Ev E k pc L st h r) (r' : am_A) : Ev E k pc L st h r' = (r' = r) :=
  propext ⟨fun b => Ev_det b a, fun e => e ▸ a⟩
theorem Ev_step {E : List (List Int)} {k pc : Nat} {L : am_L} {st : List am_V} {h : am_H} {i : am_I} (hi : am_at k pc = some i) (h1 : am_re (am_rt k) i st = none) (h2 : am_iv i st h = none) (r : am_A) :
    Ev E k pc L st h r = (match am_step E i pc L st h with
      | some (pc', L', st', h') => Ev E k pc' L' st' h' r
      | none => False) := by
  apply propext
  constructor
  · rintro ⟨n, hn⟩
    cases n with
    | zero => cases hn
    | succ n =>
      unfold am_run at hn
      rw [hi] at hn
      dsimp only at hn
      rw [h1] at hn
      dsimp only at hn
      rw [h2] at hn
      dsimp only at hn
      split at hn
      · rename_i hs
        exact ⟨n, hn⟩
      · cases hn
  · intro hm
    split at hm
    · rename_i hs
      obtain ⟨n, hn⟩ := hm
      refine ⟨n + 1, ?_⟩
      unfold am_run
      rw [hi]
      dsimp only
      rw [h1]
      dsimp only
      rw [h2]
      dsimp only
      rw [hs]
      exact hn
    · exact hm.elim
theorem Ev_ret {E : List (List Int)} {k pc : Nat} {L : am_L} {st : List am_V} {h : am_H} {i : am_I} {v : Option am_V} (hi : am_at k pc = some i) (h1 : am_re (am_rt k) i st = some v) (r : am_A) :
    Ev E k pc L st h r = (r = (v, h)) := by
  refine Ev_eq ⟨1, ?_⟩ r
  unfold am_run
  rw [hi]
  dsimp only
  rw [h1]
theorem Ev_call {E : List (List Int)} {k pc : Nat} {L : am_L} {st : List am_V} {h : am_H} {i : am_I} {j : Nat} {as rest : List am_V} (hi : am_at k pc = some i) (h1 : am_re (am_rt k) i st = none) (h2 : am_iv i st h = some (j, as, rest)) (r : am_A) :
    Ev E k pc L st h r = ∃ (v : Option am_V) (h' : am_H), Ev E j 0 (am_L0 as (am_ml j)) [] h (v, h') ∧ Ev E k (pc + 3) L (v.toList ++ rest) h' r := by
  apply propext
  constructor
  · rintro ⟨n, hn⟩
    cases n with
    | zero => cases hn
    | succ n =>
      unfold am_run at hn
      rw [hi] at hn
      dsimp only at hn
      rw [h1] at hn
      dsimp only at hn
      rw [h2] at hn
      dsimp only at hn
      split at hn
      · rename_i v h' hc
        exact ⟨v, h', ⟨n, hc⟩, ⟨n, hn⟩⟩
      · cases hn
  · rintro ⟨v, h', ⟨n, hn⟩, ⟨m, hm⟩⟩
    refine ⟨max n m + 1, ?_⟩
    unfold am_run
    rw [hi]
    dsimp only
    rw [h1]
    dsimp only
    rw [h2]
    dsimp only
    rw [am_mono n _ _ _ _ _ _ _ (Nat.le_max_left n m) hn]
    exact am_mono m _ _ _ _ _ _ _ (Nat.le_max_right n m) hm
