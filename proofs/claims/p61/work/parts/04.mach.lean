/-! THE SMALL MACHINE: what a method does, on numbered objects (0, 1, ..: in the order in which they are made), ints and longs.
A state: how many objects, what each is (am_D), cells and slots that were made, the int fields, the int arrays, the long arrays.
An object: (0, class, fields: none an int, some none null, some (some r) object r), (1, length, []) an int array, (2, length, []) a long array, (3, length, contents) an array of objects.
A value is the machine's; .ref k is object k here; .retAddr 0 the script, .retAddr 1 nothing. -/
abbrev am_D : Type := Nat × Nat × List (Option (Option Nat))
abbrev am_S : Type := Nat × (Nat → am_D) × Nat × Nat × (Nat → Nat → Int32) × (Nat → Nat → Int32) × (Nat → Nat → Int64)
abbrev am_R : Type := Option Value ⊕ Nat
abbrev am_K : Type := Nat → List Value → List Value → am_S → Prop
abbrev am_Q : Type := am_R → am_S → Prop
abbrev am_C : Type := Nat → List Value → am_S → am_Q → Prop
abbrev am_X : Type := Nat × (Nat → Int32) × Nat
abbrev am_u : Value := .retAddr 1
def am_f2 {α : Type} (F : Nat → Nat → α) (o k : Nat) (v : α) : Nat → Nat → α := va_up F o (va_up (F o) k v)
def am_ti : Value → Bool := fun v => match v with | .int _ => true | _ => false
def am_tl : Value → Bool := fun v => match v with | .long _ => true | _ => false
def am_td : Value → Bool := fun v => match v with | .double _ => true | _ => false
def am_ta : Value → Bool := fun v => match v with | .ref _ => true | .retAddr 0 => true | _ => false
def am_tr : Value → Bool := fun v => match v with | .ref _ => true | _ => false
def am_kl (lc : List Value) (k : Nat) : List Value := match k with
  | 0 => lc
  | j + 1 => match lc[j]? with
    | some v => if v.category = 2 then lc.set j am_u else lc
    | none => lc
def am_s1 (lc : List Value) (k : Nat) (v : Value) : List Value := (am_kl lc k).set k v
def am_s2 (lc : List Value) (k : Nat) (v : Value) : List Value := ((am_kl lc k).set k v).set (k + 1) am_u
def am_i (v : Int) : Int32 := Int32.ofInt v
/-- a load -/
def am_ld (k : Nat) (t : Value → Bool) (pc : Nat) (lc sk : List Value) (st : am_S) (K : am_K) : Prop := match lc[k]? with
  | some v => if t v = true then K pc lc (v :: sk) st else False
  | none => False
/-- a store of one word, of two -/
def am_so (k : Nat) (t : Value → Bool) (pc : Nat) (lc sk : List Value) (st : am_S) (K : am_K) : Prop := match sk with
  | v :: r => if t v = true ∧ k < lc.length then K pc (am_s1 lc k v) r st else False
  | [] => False
def am_so2 (k : Nat) (t : Value → Bool) (pc : Nat) (lc sk : List Value) (st : am_S) (K : am_K) : Prop := match sk with
  | v :: r => if t v = true ∧ k + 1 < lc.length then K pc (am_s2 lc k v) r st else False
  | [] => False
def am_b2 (f : Int32 → Int32 → Int32) (pc : Nat) (lc sk : List Value) (st : am_S) (K : am_K) : Prop := match sk with
  | .int y :: .int x :: r => K pc lc (.int (f x y) :: r) st
  | _ => False
def am_l2 (f : Int64 → Int64 → Int64) (pc : Nat) (lc sk : List Value) (st : am_S) (K : am_K) : Prop := match sk with
  | .long y :: .long x :: r => K pc lc (.long (f x y) :: r) st
  | _ => False
def am_ls (f : Int64 → Int64 → Int64) (pc : Nat) (lc sk : List Value) (st : am_S) (K : am_K) : Prop := match sk with
  | .int y :: .long x :: r => K pc lc (.long (f x (y.toInt64 &&& 63)) :: r) st
  | _ => False
def am_i1 (c : Int32 → Bool) (t n : Nat) (lc sk : List Value) (st : am_S) (K : am_K) : Prop := match sk with
  | .int x :: r => if c x = true then K t lc r st else K n lc r st
  | _ => False
def am_i2 (c : Int32 → Int32 → Bool) (t n : Nat) (lc sk : List Value) (st : am_S) (K : am_K) : Prop := match sk with
  | .int y :: .int x :: r => if c x y = true then K t lc r st else K n lc r st
  | _ => False
/-- is o an object of class ci -/
def am_ob (st : am_S) (o ci : Nat) : Prop := o < st.1 ∧ (st.2.1 o).1 = 0 ∧ (st.2.1 o).2.1 = ci
/-- is a an array of kind kd, i a place of it -/
def am_ar (st : am_S) (a kd : Nat) (i : Int32) : Prop := a < st.1 ∧ (st.2.1 a).1 = kd ∧ vp_in i (st.2.1 a).2.1
def am_bk (ci : Nat) : List (Option (Option Nat)) := (List.range (am_N ci)).map fun k => match am_ty ci k with | .int => none | .boolean => none | _ => some none
def am_zo (ck : Nat) (x : Int32) : Prop := match am_ty (ck / 32) (ck % 32) with | .boolean => x = 0 ∨ x = 1 | .int => True | _ => False
def am_zr (ck : Nat) : Prop := match am_ty (ck / 32) (ck % 32) with | .object _ => True | .array _ => True | _ => False
def am_gt (ck : Nat) (pc : Nat) (lc sk : List Value) (st : am_S) (K : am_K) : Prop := match sk with
  | .ref o :: r => am_ob st o (ck / 32) ∧ (match (st.2.1 o).2.2[ck % 32]? with
    | some none => K pc lc (.int (st.2.2.2.2.1 o (ck % 32)) :: r) st
    | some (some (some b)) => K pc lc (.ref b :: r) st
    | _ => False)
  | _ => False
def am_pt (ck : Nat) (pc : Nat) (lc sk : List Value) (st : am_S) (K : am_K) : Prop := match sk with
  | .int x :: .ref o :: r => am_ob st o (ck / 32) ∧ (match (st.2.1 o).2.2[ck % 32]? with
    | some none => am_zo ck x ∧ K pc lc r (st.1, st.2.1, st.2.2.1, st.2.2.2.1, am_f2 st.2.2.2.2.1 o (ck % 32) x, st.2.2.2.2.2)
    | _ => False)
  | .ref b :: .ref o :: r => am_ob st o (ck / 32) ∧ (match (st.2.1 o).2.2[ck % 32]? with
    | some (some _) => (b < st.1 ∧ am_zr ck) ∧ K pc lc r (st.1, va_up st.2.1 o (0, ck / 32, (st.2.1 o).2.2.set (ck % 32) (some (some b))), st.2.2)
    | _ => False)
  | _ => False
def am_al (X : am_X) (e : am_M) (pc : Nat) (lc sk : List Value) (st : am_S) (K : am_K) : Prop := match sk with
  | .retAddr 0 :: r => K pc lc (.int (Int32.ofNat X.1) :: r) st
  | .ref a :: r => (a < st.1 ∧ 1 ≤ (st.2.1 a).1 ∧ (st.2.1 a).1 ≤ 3) ∧ K pc lc (.int (Int32.ofNat (st.2.1 a).2.1) :: r) st
  | _ => False
def am_xl (X : am_X) (e : am_M) (pc : Nat) (lc sk : List Value) (st : am_S) (K : am_K) : Prop := match sk with
  | .int i :: .retAddr 0 :: r => vp_in i X.1 ∧ K pc lc (.int (X.2.1 i.toNatClampNeg) :: r) st
  | .int i :: .ref a :: r => am_ar st a 1 i ∧ K pc lc (.int (st.2.2.2.2.2.1 a i.toNatClampNeg) :: r) st
  | _ => False
def am_xs (pc : Nat) (lc sk : List Value) (st : am_S) (K : am_K) : Prop := match sk with
  | .int v :: .int i :: .ref a :: r => am_ar st a 1 i ∧ K pc lc r (st.1, st.2.1, st.2.2.1, st.2.2.2.1, st.2.2.2.2.1, am_f2 st.2.2.2.2.2.1 a i.toNatClampNeg v, st.2.2.2.2.2.2)
  | _ => False
def am_jl (pc : Nat) (lc sk : List Value) (st : am_S) (K : am_K) : Prop := match sk with
  | .int i :: .ref a :: r => am_ar st a 2 i ∧ K pc lc (.long (st.2.2.2.2.2.2 a i.toNatClampNeg) :: r) st
  | _ => False
def am_js (pc : Nat) (lc sk : List Value) (st : am_S) (K : am_K) : Prop := match sk with
  | .long v :: .int i :: .ref a :: r => am_ar st a 2 i ∧ K pc lc r (st.1, st.2.1, st.2.2.1, st.2.2.2.1, st.2.2.2.2.1, st.2.2.2.2.2.1, am_f2 st.2.2.2.2.2.2 a i.toNatClampNeg v)
  | _ => False
def am_ql (pc : Nat) (lc sk : List Value) (st : am_S) (K : am_K) : Prop := match sk with
  | .int i :: .ref a :: r => am_ar st a 3 i ∧ (match (st.2.1 a).2.2[i.toNatClampNeg]? with
    | some (some (some b)) => K pc lc (.ref b :: r) st
    | _ => False)
  | _ => False
def am_qs (pc : Nat) (lc sk : List Value) (st : am_S) (K : am_K) : Prop := match sk with
  | .ref v :: .int i :: .ref a :: r => (am_ar st a 3 i ∧ am_ob st v 5 ∧ (st.2.1 a).2.2.length = (st.2.1 a).2.1) ∧ K pc lc r (st.1, va_up st.2.1 a (3, (st.2.1 a).2.1, (st.2.1 a).2.2.set i.toNatClampNeg (some (some v))), st.2.2)
  | _ => False
def am_nw (ci : Nat) (pc : Nat) (lc sk : List Value) (st : am_S) (K : am_K) : Prop :=
  st.2.2.1 = st.1 ∧ K pc lc (.ref st.1 :: sk) (st.1 + 1, va_up st.2.1 st.1 (0, ci, am_bk ci), st.2.2.1 + 1, st.2.2.2.1 + am_N ci, va_up st.2.2.2.2.1 st.1 (fun _ => 0), st.2.2.2.2.2)
def am_na (kd : Nat) (x : Option (Option Nat)) (pc : Nat) (lc sk : List Value) (st : am_S) (K : am_K) : Prop := match sk with
  | .int c :: r => (¬ c < 0 ∧ st.2.2.1 = st.1 ∧ c.toNatClampNeg ≤ 100000) ∧ K pc lc (.ref st.1 :: r) (st.1 + 1, va_up st.2.1 st.1 (kd, c.toNatClampNeg, if kd = 3 then List.replicate c.toNatClampNeg x else []), st.2.2.1 + 1, st.2.2.2.1 + c.toNatClampNeg, st.2.2.2.2.1, va_up st.2.2.2.2.2.1 st.1 (fun _ => 0), va_up st.2.2.2.2.2.2 st.1 (fun _ => 0))
  | _ => False
def am_cv0 (q : Nat × Nat × Nat × Nat × Nat × Nat) (pc : Nat) : Bool := decide (q.1 ≤ pc ∧ pc < q.2.1)
/-- a call has thrown x -/
def am_ht (e : am_M) (pc : Nat) (x : Nat) (lc : List Value) (st : am_S) (K : am_K) (Q : am_Q) : Prop :=
  if (am_hd e).any (fun q => am_cv0 q pc) = true then (match (am_hd e).find? (fun q => am_cv0 q pc && q.2.2.2.1 == x) with
    | some q => q.2.2.2.2.1 < lc.length ∧ K (q.2.2.1 + q.2.2.2.2.2) (am_s1 lc q.2.2.2.2.1 am_u) [] st
    | none => False) else Q (.inr x) st
def am_af (e : am_M) (pc : Nat) (lc r : List Value) (K : am_K) (Q : am_Q) : am_Q := fun o st => match o with
  | .inl none => K (pc + 3) lc r st
  | .inl (some v) => K (pc + 3) lc (v :: r) st
  | .inr x => am_ht e pc x lc st K Q
def am_cs (C : am_C) (e : am_M) (m k pc : Nat) (lc sk : List Value) (st : am_S) (K : am_K) (Q : am_Q) : Prop :=
  (k ≤ sk.length ∧ (sk.drop k).length ≤ 4) ∧ C m (sk.take k).reverse st (am_af e pc lc (sk.drop k) K Q)
def am_ci (C : am_C) (e : am_M) (N m k pc : Nat) (lc sk : List Value) (st : am_S) (K : am_K) (Q : am_Q) : Prop := match sk.drop k with
  | .ref o :: r => (am_ob st o (m / 1000) ∧ r.length ≤ N) ∧ C m (.ref o :: (sk.take k).reverse) st (am_af e pc lc r K Q)
  | _ => False
def am_cp (pc : Nat) (lc sk : List Value) (st : am_S) (K : am_K) : Prop := match sk with
  | .int c :: .int dp :: .ref b :: .int sp :: .ref a :: r => ((a < st.1 ∧ (st.2.1 a).1 = 1) ∧ (b < st.1 ∧ (st.2.1 b).1 = 1) ∧ ¬ sp < 0 ∧ ¬ dp < 0 ∧ ¬ c < 0 ∧ sp.toNatClampNeg + c.toNatClampNeg ≤ (st.2.1 a).2.1 ∧ dp.toNatClampNeg + c.toNatClampNeg ≤ (st.2.1 b).2.1 ∧ ¬ st.2.2.1 = st.1 ∧ r.length ≤ 4) ∧
    K pc lc r (st.1, st.2.1, st.2.2.1, st.2.2.2.1, st.2.2.2.2.1, va_up st.2.2.2.2.2.1 b (va_cpy (st.2.2.2.2.2.1 a) (st.2.2.2.2.2.1 b) sp.toNatClampNeg dp.toNatClampNeg c.toNatClampNeg), st.2.2.2.2.2.2)
  | _ => False
def am_mm (f : Int32 → Int32 → Int32) (pc : Nat) (lc sk : List Value) (st : am_S) (K : am_K) : Prop := match sk with
  | .int y :: .int x :: r => r.length ≤ 4 ∧ K pc lc (.int (f x y) :: r) st
  | _ => False
def am_ts (d lo hi : Int) (offs : Array Int) (lc sk : List Value) (st : am_S) (K : am_K) : Prop := match sk with
  | .int x :: r => if x.toInt < lo ∨ hi < x.toInt then K d.toNat lc r st else (match offs[(x.toInt - lo).toNat]? with
    | some t => K t.toNat lc r st
    | none => False)
  | _ => False
def am_in1 (k : Nat) (c : Int) (pc : Nat) (lc sk : List Value) (st : am_S) (K : am_K) : Prop := match lc[k]? with
  | some (.int x) => K pc (am_s1 lc k (.int (x + am_i c))) sk st
  | _ => False
def am_d1 (pc : Nat) (lc sk : List Value) (st : am_S) (K : am_K) : Prop := match sk with
  | v :: r => if v.category = 1 then K pc lc (v :: v :: r) st else False
  | _ => False
def am_d2 (pc : Nat) (lc sk : List Value) (st : am_S) (K : am_K) : Prop := match sk with
  | v :: w :: r => if v.category = 1 ∧ w.category = 1 then K pc lc (v :: w :: v :: w :: r) st else False
  | _ => False
def am_p1 (pc : Nat) (lc sk : List Value) (st : am_S) (K : am_K) : Prop := match sk with
  | v :: r => if v.category = 1 then K pc lc r st else False
  | _ => False
/-- Object() -/
def am_oi (pc : Nat) (lc sk : List Value) (st : am_S) (K : am_K) : Prop := match sk with
  | .ref _ :: r => r.length ≤ 4 ∧ K pc lc r st
  | _ => False
def am_rm (pc : Nat) (lc sk : List Value) (st : am_S) (K : am_K) : Prop := match sk with
  | .int y :: .int x :: r => ¬ y = 0 ∧ K pc lc (.int (x - x / y * y) :: r) st
  | _ => False
def am_di (pc : Nat) (lc sk : List Value) (st : am_S) (K : am_K) : Prop := match sk with
  | .int y :: .int x :: r => ¬ y = 0 ∧ K pc lc (.int (x / y) :: r) st
  | _ => False
def am_cl2 (pc : Nat) (lc sk : List Value) (st : am_S) (K : am_K) : Prop := match sk with
  | .long x :: r => K pc lc (.int x.toInt32 :: r) st
  | _ => False
def am_cm (pc : Nat) (lc sk : List Value) (st : am_S) (K : am_K) : Prop := match sk with
  | .long y :: .long x :: r => K pc lc (.int (lg_cmp x y) :: r) st
  | _ => False
def am_cl1 (pc : Nat) (lc sk : List Value) (st : am_S) (K : am_K) : Prop := match sk with
  | .int x :: r => K pc lc (.long x.toInt64 :: r) st
  | _ => False
def am_cd1 (pc : Nat) (lc sk : List Value) (st : am_S) (K : am_K) : Prop := match sk with
  | .int x :: r => K pc lc (.double (FP.i2d x) :: r) st
  | _ => False
def am_dv (pc : Nat) (lc sk : List Value) (st : am_S) (K : am_K) : Prop := match sk with
  | .double y :: .double x :: r => vf_n64 (FP.ddiv x y) ∧ K pc lc (.double (FP.ddiv x y) :: r) st
  | _ => False
def am_dc (op : CmpOp) (pc : Nat) (lc sk : List Value) (st : am_S) (K : am_K) : Prop := match sk with
  | .double y :: .double x :: r => K pc lc (.int (Op.cmpValue (FP.dcmp x y) op) :: r) st
  | _ => False
def am_tk (pc : Nat) (lc sk : List Value) (st : am_S) (K : am_K) : Prop := st.1 ≤ st.2.2.1 ∧ K pc lc (.int 0 :: sk) (st.1, st.2.1, st.2.2.1 + 1, st.2.2.2)
def am_nu (t n : Nat) (lc sk : List Value) (st : am_S) (K : am_K) : Prop := match sk with
  | .ref _ :: r => K n lc r st
  | .null :: r => K t lc r st
  | _ => False
/-- the throw of an exception that is made here -/
def am_tw (X : am_X) (e : am_M) (pc x : Nat) (sk : List Value) (st : am_S) (Q : am_Q) : Prop :=
  ((am_hd e).isEmpty = true ∧ sk.length ≤ 4 ∧ 5 ≤ X.2.2 ∧ st.1 ≤ st.2.2.1) ∧ Q (.inr x) (st.1, st.2.1, st.2.2.1 + 1, st.2.2.2.1 + 6, st.2.2.2.2)
def am_rv (sk : List Value) (st : am_S) (Q : am_Q) : Prop := match sk with
  | [] => Q (.inl none) st
  | _ => False
def am_r1 (t : Value → Bool) (sk : List Value) (st : am_S) (Q : am_Q) : Prop := match sk with
  | [v] => if t v = true then Q (.inl (some v)) st else False
  | _ => False
def am_rz (sk : List Value) (st : am_S) (Q : am_Q) : Prop := match sk with
  | [.int x] => (x = 0 ∨ x = 1) ∧ Q (.inl (some (.int x))) st
  | _ => False
def am_step (C : am_C) (X : am_X) (e : am_M) (i : Instr) (n pc : Nat) (lc sk : List Value) (st : am_S) (K : am_K) (Q : am_Q) : Prop := match i with
  | .aload k => am_ld k am_ta (pc + n) lc sk st K
  | .iload k => am_ld k am_ti (pc + n) lc sk st K
  | .lload k => am_ld k am_tl (pc + n) lc sk st K
  | .dload k => am_ld k am_td (pc + n) lc sk st K
  | .astore k => am_so k am_tr (pc + n) lc sk st K
  | .istore k => am_so k am_ti (pc + n) lc sk st K
  | .lstore k => am_so2 k am_tl (pc + n) lc sk st K
  | .dstore k => am_so2 k am_td (pc + n) lc sk st K
  | .sipush v => K (pc + n) lc (.int (am_i v) :: sk) st
  | .monitorenter => am_tk (pc + n) lc sk st K
  | .lconst k => K (pc + n) lc (.long (Int64.ofNat (k : Nat)) :: sk) st
  | .ldc2_w v => K (pc + n) lc (.double (UInt64.ofNat v) :: sk) st
  | .iadd => am_b2 (fun x y => x + y) (pc + n) lc sk st K
  | .isub => am_b2 (fun x y => x - y) (pc + n) lc sk st K
  | .imul => am_b2 (fun x y => x * y) (pc + n) lc sk st K
  | .irem => am_rm (pc + n) lc sk st K
  | .iand => am_b2 (fun x y => x &&& y) (pc + n) lc sk st K
  | .ior => am_b2 (fun x y => x ||| y) (pc + n) lc sk st K
  | .land => am_l2 (fun x y => x &&& y) (pc + n) lc sk st K
  | .lor => am_l2 (fun x y => x ||| y) (pc + n) lc sk st K
  | .lshl => am_ls (fun x y => x <<< y) (pc + n) lc sk st K
  | .lshr => am_ls (fun x y => x >>> y) (pc + n) lc sk st K
  | .ldc v => K (pc + n) lc (.int (Int32.ofNat v) :: sk) st
  | .ldc_w v => K (pc + n) lc (.long (Int64.ofNat v) :: sk) st
  | .idiv => am_di (pc + n) lc sk st K
  | .ishr => am_b2 (fun x y => x >>> (y &&& 31)) (pc + n) lc sk st K
  | .ladd => am_l2 (fun x y => x + y) (pc + n) lc sk st K
  | .lmul => am_l2 (fun x y => x * y) (pc + n) lc sk st K
  | .l2i => am_cl2 (pc + n) lc sk st K
  | .lcmp => am_cm (pc + n) lc sk st K
  | .i2l => am_cl1 (pc + n) lc sk st K
  | .i2d => am_cd1 (pc + n) lc sk st K
  | .ddiv => am_dv (pc + n) lc sk st K
  | .dcmp op => am_dc op (pc + n) lc sk st K
  | .dup => am_d1 (pc + n) lc sk st K
  | .dup2 => am_d2 (pc + n) lc sk st K
  | .pop => am_p1 (pc + n) lc sk st K
  | .ifCond .eq t => am_i1 (fun x => decide (x = 0)) t.toNat (pc + n) lc sk st K
  | .ifCond .ne t => am_i1 (fun x => decide (¬ x = 0)) t.toNat (pc + n) lc sk st K
  | .ifCond .lt t => am_i1 (fun x => decide (x < 0)) t.toNat (pc + n) lc sk st K
  | .ifCond .ge t => am_i1 (fun x => decide (0 ≤ x)) t.toNat (pc + n) lc sk st K
  | .ifCond .gt t => am_i1 (fun x => decide (0 < x)) t.toNat (pc + n) lc sk st K
  | .ifCond .le t => am_i1 (fun x => decide (x ≤ 0)) t.toNat (pc + n) lc sk st K
  | .if_icmp .eq t => am_i2 (fun x y => decide (x = y)) t.toNat (pc + n) lc sk st K
  | .if_icmp .ne t => am_i2 (fun x y => decide (¬ x = y)) t.toNat (pc + n) lc sk st K
  | .if_icmp .lt t => am_i2 (fun x y => decide (x < y)) t.toNat (pc + n) lc sk st K
  | .if_icmp .ge t => am_i2 (fun x y => decide (y ≤ x)) t.toNat (pc + n) lc sk st K
  | .if_icmp .gt t => am_i2 (fun x y => decide (y < x)) t.toNat (pc + n) lc sk st K
  | .if_icmp .le t => am_i2 (fun x y => decide (x ≤ y)) t.toNat (pc + n) lc sk st K
  | .goto t => K t.toNat lc sk st
  | .ifnull t => am_nu t.toNat (pc + n) lc sk st K
  | .tableswitch d lo hi offs => am_ts d lo hi offs lc sk st K
  | .iinc k c => am_in1 k c (pc + n) lc sk st K
  | .arraylength => am_al X e (pc + n) lc sk st K
  | .iaload => am_xl X e (pc + n) lc sk st K
  | .iastore => am_xs (pc + n) lc sk st K
  | .aaload => am_ql (pc + n) lc sk st K
  | .aastore => am_qs (pc + n) lc sk st K
  | .getfield ck => am_gt ck (pc + n) lc sk st K
  | .putfield ck => am_pt ck (pc + n) lc sk st K
  | .new ci => am_nw ci (pc + n) lc sk st K
  | .newarray .int => am_na 1 none (pc + n) lc sk st K
  | .anewarray _ => am_na 3 (some none) (pc + n) lc sk st K
  | .invokeinterface m k => am_ci C e 5 m k pc lc sk st K Q
  | .multianewarray m k => am_cs C e m k pc lc sk st K Q
  | .invokespecial 0 => am_oi (pc + n) lc sk st K
  | .invokespecial (m + 1) => am_ci C e 4 (m + 1) 0 pc lc sk st K Q
  | .invokestatic 1 => am_cp (pc + n) lc sk st K
  | .invokestatic 2 => am_mm (fun x y => if x < y then y else x) (pc + n) lc sk st K
  | .invokestatic 3 => am_mm (fun x y => if y < x then y else x) (pc + n) lc sk st K
  | .jsr x => am_tw X e pc x.toNat sk st Q
  | .return_ => am_rv sk st Q
  | .ireturn => am_r1 am_ti sk st Q
  | .freturn => am_rz sk st Q
  | .lreturn => am_r1 am_tl sk st Q
  | .dreturn => am_r1 am_td sk st Q
  | .areturn => am_r1 am_tr sk st Q
  | _ => False
def am_one (C : am_C) (X : am_X) (e : am_M) (K : am_K) (pc : Nat) (lc sk : List Value) (st : am_S) (Q : am_Q) : Prop := match am_lk (am_tb e) pc with
  | some q => am_step C X e q.2.1 q.2.2.1 pc lc sk st K Q
  | none => False
/-- from this point the method comes to its end, with Q -/
def am_Go (C : am_C) (X : am_X) (e : am_M) (pc : Nat) (lc sk : List Value) (st : am_S) (Q : am_Q) : Prop :=
  ∀ K : am_K, (∀ pc lc sk st, am_one C X e K pc lc sk st Q → K pc lc sk st) → K pc lc sk st
def am_ag (args : List Value) : List Value := args.flatMap fun v => if v.category = 2 then [v, am_u] else [v]
def am_en (e : am_M) (args : List Value) : List Value := am_ag args ++ List.replicate (am_nl e - (am_ag args).length) am_u
/-- method m, called, comes to its end, with Q; at most d calls stand open -/
def am_Ca (X : am_X) : Nat → am_C
  | 0 => fun _ _ _ _ => False
  | d + 1 => fun m args st Q => match am_of m with
    | some e => (am_ag args).length ≤ am_nl e ∧ am_Go (am_Ca X d) (X.1, X.2.1, d) e 0 (am_en e args) [] st Q
    | none => False
