/-! THE ABSTRACT MACHINE: a store of ints, longs and references by place and number; locals by their places; one step a function -/
abbrev az_V : Type := List (Option Value)
abbrev az_S : Type := Nat × Nat × (Nat → Nat × Nat) × (Nat → Nat → Int32) × (Nat → Nat → Int64) × (Nat → Nat → Option Nat)
abbrev az_I : Type := Nat × Nat × Instr × List Nat
abbrev az_n (σ : az_S) : Nat := σ.1
abbrev az_sl (σ : az_S) : Nat := σ.2.1
abbrev az_sh (σ : az_S) : Nat → Nat × Nat := σ.2.2.1
abbrev az_i (σ : az_S) : Nat → Nat → Int32 := σ.2.2.2.1
abbrev az_l (σ : az_S) : Nat → Nat → Int64 := σ.2.2.2.2.1
abbrev az_r (σ : az_S) : Nat → Nat → Option Nat := σ.2.2.2.2.2
def az_up {α : Type} (f : Nat → Nat → α) (a k : Nat) (v : α) : Nat → Nat → α := va_up f a (va_up (f a) k v)
abbrev az_pi (σ : az_S) (a k : Nat) (v : Int32) : az_S := (σ.1, σ.2.1, σ.2.2.1, az_up σ.2.2.2.1 a k v, σ.2.2.2.2)
abbrev az_pl (σ : az_S) (a k : Nat) (v : Int64) : az_S := (σ.1, σ.2.1, σ.2.2.1, σ.2.2.2.1, az_up σ.2.2.2.2.1 a k v, σ.2.2.2.2.2)
abbrev az_pr (σ : az_S) (a k : Nat) (v : Option Nat) : az_S := (σ.1, σ.2.1, σ.2.2.1, σ.2.2.2.1, σ.2.2.2.2.1, az_up σ.2.2.2.2.2 a k v)
/-- a new cell of a kind with m slots -/
abbrev az_nw (σ : az_S) (kd m : Nat) : az_S := (σ.1 + 1, σ.2.1 + m, va_up σ.2.2.1 σ.1 (kd, m), va_up σ.2.2.2.1 σ.1 (fun _ => 0), va_up σ.2.2.2.2.1 σ.1 (fun _ => 0), va_up σ.2.2.2.2.2 σ.1 (fun _ => none))
def az_get (L : az_V) (i : Nat) : Option Value := match L[i]? with
  | some u => u
  | none => none
def az_kl (u : Option Value) : Option Value := match u with
  | some (.long _) => none
  | some (.double _) => none
  | w => w
def az_kill (L : az_V) (i : Nat) : az_V := match i with
  | 0 => L
  | j + 1 => L.set j (az_kl (az_get L j))
def az_put1 (L : az_V) (i : Nat) (v : Value) : az_V := (az_kill L i).set i (some v)
def az_put2 (L : az_V) (i : Nat) (v : Value) : az_V := ((az_kill L i).set i (some v)).set (i + 1) none
/-- the kinds of the fields, a row a class in the order of vwCl: 0 a number, 1 a long, 2 a reference -/
def az_ft (ci k : Nat) : Nat := match ci with
  | 113 => ([2, 0] : List Nat).getD k 0
  | 0 => ([0, 2, 0] : List Nat).getD k 0
  | 1 => ([0, 2, 0, 0, 0, 0, 0, 0, 0, 0, 0, 0] : List Nat).getD k 0
  | 2 => ([0, 0, 0] : List Nat).getD k 0
  | 3 => ([2, 2, 0, 0, 0, 0] : List Nat).getD k 0
  | 4 => ([0, 0] : List Nat).getD k 0
  | 5 => ([2, 2, 2, 2, 2, 2, 2, 0, 1] : List Nat).getD k 0
  | 6 => ([2, 2, 2, 2, 2, 2, 0] : List Nat).getD k 0
  | 7 => ([2, 2, 2, 0] : List Nat).getD k 0
  | 8 => ([0, 0, 2] : List Nat).getD k 0
  | 9 => ([2, 0, 2, 2, 2, 0] : List Nat).getD k 0
  | 10 => ([2, 2, 2, 2, 2, 0, 0] : List Nat).getD k 0
  | 11 => ([0, 0, 0, 0, 0, 0, 0, 2, 2, 2, 0, 0, 0, 0] : List Nat).getD k 0
  | 12 => ([2, 2, 2, 2, 2, 2, 2, 2, 2, 2, 2, 2, 2, 2, 2, 0, 0, 0] : List Nat).getD k 0
  | 13 => ([0, 0, 0, 0, 2, 2, 0, 2, 2, 0, 2, 2, 0, 2, 2, 2, 2, 2, 2, 2, 2, 2, 2, 2, 2, 2, 2, 0, 2, 2, 2, 2, 2, 2, 2, 2, 2, 2, 2, 2, 0, 0, 0, 0, 0, 0, 0, 0, 0, 0, 0, 0, 2, 2, 0, 0, 2, 2, 0, 2, 0, 2, 2, 0, 2, 2, 0, 2, 2, 2, 2, 2, 2, 2, 2, 2, 2, 2, 0, 2, 2, 2, 2, 2, 2, 0, 1, 2, 0, 2] : List Nat).getD k 0
  | _ => 0
def az_nf (ci : Nat) : Nat := match ci with
  | 0 => 3
  | 1 => 12
  | 2 => 3
  | 3 => 6
  | 4 => 2
  | 5 => 9
  | 6 => 7
  | 7 => 4
  | 8 => 3
  | 9 => 6
  | 10 => 7
  | 11 => 14
  | 12 => 18
  | 13 => 90
  | _ => 0
def az_fv (σ : az_S) (a k kd : Nat) : Value := match kd with
  | 0 => .int (az_i σ a k)
  | 1 => .long (az_l σ a k)
  | _ => va_rf (az_r σ a k)
def az_cmp (c : ClassFile.Cond) (x y : Int32) : Prop := match c with
  | .eq => x = y
  | .ne => ¬ x = y
  | .lt => x < y
  | .ge => y ≤ x
  | .gt => y < x
  | .le => x ≤ y
abbrev az_F : Type := Nat × az_V × List Value × az_S
def az_j (pc : Nat) (off : Int) : Nat := ((pc : Int) + off).toNat
def az_ty (t : ArrayType) : Nat := match t with
  | .int => 100
  | .boolean => 101
  | .byte => 102
  | .long => 103
  | _ => 0
/-- one step of what is neither a call nor a return nor a branch of two ways -/
def az_next (pc len : Nat) (ins : Instr) (aux : List Nat) (L : az_V) (st : List Value) (σ : az_S) (F : az_F) : Prop := match ins with
  | .iconst n => F = (pc + len, L, .int (Int32.ofInt n) :: st, σ)
  | .bipush n => F = (pc + len, L, .int (Int8.ofInt n).toInt32 :: st, σ)
  | .sipush n => F = (pc + len, L, .int (Int16.ofInt n).toInt32 :: st, σ)
  | .lconst n => F = (pc + len, L, .long (Int64.ofNat (n : Nat)) :: st, σ)
  | .aconst_null => F = (pc + len, L, .null :: st, σ)
  | .iload_n k => ∃ v, az_get L k = some (.int v) ∧ F = (pc + len, L, .int v :: st, σ)
  | .iload k => ∃ v, az_get L k = some (.int v) ∧ F = (pc + len, L, .int v :: st, σ)
  | .lload_n k => ∃ v, az_get L k = some (.long v) ∧ F = (pc + len, L, .long v :: st, σ)
  | .lload k => ∃ v, az_get L k = some (.long v) ∧ F = (pc + len, L, .long v :: st, σ)
  | .aload_n k => ∃ o, az_get L k = some (va_rf o) ∧ F = (pc + len, L, va_rf o :: st, σ)
  | .aload k => ∃ o, az_get L k = some (va_rf o) ∧ F = (pc + len, L, va_rf o :: st, σ)
  | .istore_n k => ∃ v r, st = .int v :: r ∧ (k : Nat) < L.length ∧ F = (pc + len, az_put1 L k (.int v), r, σ)
  | .istore k => ∃ v r, st = .int v :: r ∧ k < L.length ∧ F = (pc + len, az_put1 L k (.int v), r, σ)
  | .lstore_n k => ∃ v r, st = .long v :: r ∧ (k : Nat) + 1 < L.length ∧ F = (pc + len, az_put2 L k (.long v), r, σ)
  | .lstore k => ∃ v r, st = .long v :: r ∧ k + 1 < L.length ∧ F = (pc + len, az_put2 L k (.long v), r, σ)
  | .astore_n k => ∃ o r, st = va_rf o :: r ∧ (k : Nat) < L.length ∧ F = (pc + len, az_put1 L k (va_rf o), r, σ)
  | .astore k => ∃ o r, st = va_rf o :: r ∧ k < L.length ∧ F = (pc + len, az_put1 L k (va_rf o), r, σ)
  | .iinc k n => ∃ v, az_get L k = some (.int v) ∧ F = (pc + len, az_put1 L k (.int (v + Int32.ofInt n)), st, σ)
  | .iadd => ∃ x y r, st = .int y :: .int x :: r ∧ F = (pc + len, L, .int (x + y) :: r, σ)
  | .isub => ∃ x y r, st = .int y :: .int x :: r ∧ F = (pc + len, L, .int (x - y) :: r, σ)
  | .imul => ∃ x y r, st = .int y :: .int x :: r ∧ F = (pc + len, L, .int (x * y) :: r, σ)
  | .idiv => ∃ x y r, st = .int y :: .int x :: r ∧ ¬ y = 0 ∧ F = (pc + len, L, .int (x / y) :: r, σ)
  | .irem => ∃ x y r, st = .int y :: .int x :: r ∧ ¬ y = 0 ∧ F = (pc + len, L, .int (x - x / y * y) :: r, σ)
  | .iand => ∃ x y r, st = .int y :: .int x :: r ∧ F = (pc + len, L, .int (x &&& y) :: r, σ)
  | .ior => ∃ x y r, st = .int y :: .int x :: r ∧ F = (pc + len, L, .int (x ||| y) :: r, σ)
  | .ixor => ∃ x y r, st = .int y :: .int x :: r ∧ F = (pc + len, L, .int (x ^^^ y) :: r, σ)
  | .ishl => ∃ x y r, st = .int y :: .int x :: r ∧ F = (pc + len, L, .int (x <<< (y &&& 31)) :: r, σ)
  | .ishr => ∃ x y r, st = .int y :: .int x :: r ∧ F = (pc + len, L, .int (x >>> (y &&& 31)) :: r, σ)
  | .iushr => ∃ x y r, st = .int y :: .int x :: r ∧ F = (pc + len, L, .int (x.toUInt32 >>> (y.toUInt32 &&& Int32.toUInt32 31)).toInt32 :: r, σ)
  | .ineg => ∃ x r, st = .int x :: r ∧ F = (pc + len, L, .int (-x) :: r, σ)
  | .ladd => ∃ x y r, st = .long y :: .long x :: r ∧ F = (pc + len, L, .long (x + y) :: r, σ)
  | .lsub => ∃ x y r, st = .long y :: .long x :: r ∧ F = (pc + len, L, .long (x - y) :: r, σ)
  | .lmul => ∃ x y r, st = .long y :: .long x :: r ∧ F = (pc + len, L, .long (x * y) :: r, σ)
  | .ldiv => ∃ x y r, st = .long y :: .long x :: r ∧ ¬ y = 0 ∧ F = (pc + len, L, .long (x / y) :: r, σ)
  | .land => ∃ x y r, st = .long y :: .long x :: r ∧ F = (pc + len, L, .long (x &&& y) :: r, σ)
  | .lor => ∃ x y r, st = .long y :: .long x :: r ∧ F = (pc + len, L, .long (x ||| y) :: r, σ)
  | .lneg => ∃ x r, st = .long x :: r ∧ F = (pc + len, L, .long (-x) :: r, σ)
  | .i2l => ∃ x r, st = .int x :: r ∧ F = (pc + len, L, .long x.toInt64 :: r, σ)
  | .l2i => ∃ x r, st = .long x :: r ∧ F = (pc + len, L, .int x.toInt32 :: r, σ)
  | .i2b => ∃ x r, st = .int x :: r ∧ F = (pc + len, L, .int x.toInt8.toInt32 :: r, σ)
  | .i2c => ∃ x r, st = .int x :: r ∧ F = (pc + len, L, .int (x.toUInt32 % 65536).toInt32 :: r, σ)
  | .lcmp => ∃ x y r, st = .long y :: .long x :: r ∧ F = (pc + len, L, .int (lg_cmp x y) :: r, σ)
  | .dup => ∃ v r, st = v :: r ∧ v.category = 1 ∧ F = (pc + len, L, v :: v :: r, σ)
  | .pop => ∃ v r, st = v :: r ∧ v.category = 1 ∧ F = (pc + len, L, r, σ)
  | .dup_x1 => ∃ v w r, st = v :: w :: r ∧ v.category = 1 ∧ w.category = 1 ∧ F = (pc + len, L, v :: w :: v :: r, σ)
  | .dup2 => ∃ v w r, st = v :: w :: r ∧ v.category = 1 ∧ w.category = 1 ∧ F = (pc + len, L, v :: w :: v :: w :: r, σ)
  | .goto off => F = (az_j pc off, L, st, σ)
  | .ifCond c off => ∃ x r, st = .int x :: r ∧ ((az_cmp c x 0 ∧ F = (az_j pc off, L, r, σ)) ∨ (¬ az_cmp c x 0 ∧ F = (pc + len, L, r, σ)))
  | .if_icmp c off => ∃ x y r, st = .int y :: .int x :: r ∧ ((az_cmp c x y ∧ F = (az_j pc off, L, r, σ)) ∨ (¬ az_cmp c x y ∧ F = (pc + len, L, r, σ)))
  | .if_acmp c off => ∃ x r, st = va_rf x :: va_rf x :: r ∧ F = ((match c with | .eq => az_j pc off | .ne => pc + len), L, r, σ)
  | .ifnull off => ∃ x r, st = va_rf x :: r ∧ ((x = none ∧ F = (az_j pc off, L, r, σ)) ∨ (¬ x = none ∧ F = (pc + len, L, r, σ)))
  | .tableswitch dflt lo hi offs => ∃ x r, st = .int x :: r ∧ (((x.toInt < lo ∨ hi < x.toInt) ∧ F = (az_j pc dflt, L, r, σ)) ∨ (∃ off, ¬ x.toInt < lo ∧ ¬ hi < x.toInt ∧ offs[(x.toInt - lo).toNat]? = some off ∧ F = (az_j pc off, L, r, σ)))
  | .lookupswitch dflt ps => ∃ x r, st = .int x :: r ∧ (ps.toList.zip (ps.toList.drop 1)).all (fun (a, next) => a.1 < next.1) = true ∧ F = (az_j pc (Op.lookupswitch.offset ps.toList dflt x.toInt), L, r, σ)
  | .ldc _ => (∃ v, aux = [0, v] ∧ F = (pc + len, L, .int (Int32.ofNat v) :: st, σ)) ∨ (∃ v, aux = [1, v] ∧ F = (pc + len, L, .ref v :: st, σ))
  | .ldc_w _ => (∃ v, aux = [0, v] ∧ F = (pc + len, L, .int (Int32.ofNat v) :: st, σ))
  | .ldc2_w _ => (∃ v, aux = [v] ∧ F = (pc + len, L, .long (Int64.ofNat v) :: st, σ))
  | .getstatic _ => ∃ k kd, aux = [k, kd] ∧ F = (pc + len, L, az_fv σ 1000007 k kd :: st, σ)
  | .getfield _ => ∃ ci k a r, aux = [ci, k] ∧ st = .ref a :: r ∧ (az_sh σ a).1 = ci ∧ F = (pc + len, L, az_fv σ a k (az_ft ci k) :: r, σ)
  | .putfield _ => ∃ ci k a, aux = [ci, k] ∧ (az_sh σ a).1 = ci ∧ ((az_ft ci k = 0 ∧ ∃ v r, st = .int v :: .ref a :: r ∧ F = (pc + len, L, r, az_pi σ a k v)) ∨ (az_ft ci k = 1 ∧ ∃ v r, st = .long v :: .ref a :: r ∧ F = (pc + len, L, r, az_pl σ a k v)) ∨ (az_ft ci k = 2 ∧ ∃ v r, st = va_rf v :: .ref a :: r ∧ F = (pc + len, L, r, az_pr σ a k v)))
  | .iaload => ∃ i a r, st = .int i :: .ref a :: r ∧ ((az_sh σ a).1 = 100 ∨ (az_sh σ a).1 = 110) ∧ vp_in i (az_sh σ a).2 ∧ F = (pc + len, L, .int (az_i σ a i.toNatClampNeg) :: r, σ)
  | .baload => ∃ i a r, st = .int i :: .ref a :: r ∧ ((az_sh σ a).1 = 101 ∨ (az_sh σ a).1 = 102 ∨ (az_sh σ a).1 = 112) ∧ vp_in i (az_sh σ a).2 ∧ F = (pc + len, L, .int (az_i σ a i.toNatClampNeg) :: r, σ)
  | .laload => ∃ i a r, st = .int i :: .ref a :: r ∧ (az_sh σ a).1 = 103 ∧ vp_in i (az_sh σ a).2 ∧ F = (pc + len, L, .long (az_l σ a i.toNatClampNeg) :: r, σ)
  | .aaload => ∃ i a r, st = .int i :: .ref a :: r ∧ (az_sh σ a).1 = 104 ∧ vp_in i (az_sh σ a).2 ∧ F = (pc + len, L, va_rf (az_r σ a i.toNatClampNeg) :: r, σ)
  | .iastore => ∃ x i a r, st = .int x :: .int i :: .ref a :: r ∧ (az_sh σ a).1 = 100 ∧ vp_in i (az_sh σ a).2 ∧ F = (pc + len, L, r, az_pi σ a i.toNatClampNeg x)
  | .bastore => ∃ x i a r, st = .int x :: .int i :: .ref a :: r ∧ vp_in i (az_sh σ a).2 ∧ (((az_sh σ a).1 = 101 ∧ F = (pc + len, L, r, az_pi σ a i.toNatClampNeg (vp_nar .boolean x))) ∨ ((az_sh σ a).1 = 102 ∧ F = (pc + len, L, r, az_pi σ a i.toNatClampNeg (vp_nar .byte x))))
  | .lastore => ∃ x i a r, st = .long x :: .int i :: .ref a :: r ∧ (az_sh σ a).1 = 103 ∧ vp_in i (az_sh σ a).2 ∧ F = (pc + len, L, r, az_pl σ a i.toNatClampNeg x)
  | .aastore => ∃ v i a r, st = .ref v :: .int i :: .ref a :: r ∧ (az_sh σ a).1 = 104 ∧ (az_sh σ v).1 < 14 ∧ vp_in i (az_sh σ a).2 ∧ F = (pc + len, L, r, az_pr σ a i.toNatClampNeg (some v))
  | .arraylength => ∃ a r, st = .ref a :: r ∧ ((100 ≤ (az_sh σ a).1 ∧ (az_sh σ a).1 ≤ 104) ∨ (110 ≤ (az_sh σ a).1 ∧ (az_sh σ a).1 ≤ 112)) ∧ F = (pc + len, L, .int (Int32.ofNat (az_sh σ a).2) :: r, σ)
  | .newarray t => ∃ n r, st = .int n :: r ∧ ¬ n < 0 ∧ n.toNatClampNeg ≤ 10000 ∧ 100 ≤ az_ty t ∧ az_n σ < 1000000 ∧ F = (pc + len, L, .ref (az_n σ) :: r, az_nw σ (az_ty t) n.toNatClampNeg)
  | .anewarray _ => ∃ n r, st = .int n :: r ∧ ¬ n < 0 ∧ n.toNatClampNeg ≤ 10000 ∧ az_n σ < 1000000 ∧ F = (pc + len, L, .ref (az_n σ) :: r, az_nw σ 104 n.toNatClampNeg)
  | .new _ => ∃ ci, aux = [ci] ∧ ci < 14 ∧ az_n σ < 1000000 ∧ F = (pc + len, L, .ref (az_n σ) :: st, az_nw σ ci (az_nf ci))
  | .checkcast _ => ∃ ci a r, aux = [ci] ∧ ci < 14 ∧ st = .ref a :: r ∧ (az_sh σ a).1 = ci ∧ F = (pc + len, L, .ref a :: r, σ)
  | _ => False
/-- the step of a call (op 0 of aux: which method, how many values it takes, the kind of its receiver or 999) or of what stands for one -/
def az_step (E : Nat → List Value → az_S → Option Value → az_S → Prop) (pc len : Nat) (ins : Instr) (aux : List Nat) (L : az_V) (st : List Value) (σ : az_S) (F : az_F) : Prop := match aux with
  | [0, y, n, kc] => len = 3 ∧ n ≤ st.length ∧ ((st.drop n).map fun v => v.category).sum ≤ 8 ∧ (kc = 999 ∨ ∃ a, (st.take n).reverse.head? = some (.ref a) ∧ (az_sh σ a).1 = kc) ∧ ∃ r σ', E y (st.take n).reverse σ r σ' ∧ F = (pc + 3, L, r.toList ++ st.drop n, σ')
  | [1, 2, 3] => len = 3 ∧ ∃ a r, st = .ref a :: r ∧ (r.map fun v => v.category).sum ≤ 8 ∧ F = (pc + 3, L, r, σ)
  | [1, 2, 4] => len = 3 ∧ ∃ a r, st = .ref a :: r ∧ (r.map fun v => v.category).sum ≤ 8 ∧ (az_sh σ a).1 = 104 ∧ F = (pc + 3, L, .ref 1000005 :: r, σ)
  | [1, 2, 5] => len = 3 ∧ ∃ n a r b, st = [.int n, .int 0, .ref b, .int 0, .ref a] ++ r ∧ ¬ n < 0 ∧ (r.map fun v => v.category).sum ≤ 8 ∧ (az_sh σ a).1 = 104 ∧ (az_sh σ b).1 = 104 ∧ a ≠ b ∧ n.toNatClampNeg ≤ (az_sh σ a).2 ∧ n.toNatClampNeg ≤ (az_sh σ b).2 ∧ (∀ j, j < n.toNatClampNeg → ∃ v, az_r σ a j = some v ∧ (az_sh σ v).1 < 14) ∧ F = (pc + 3, L, r, (σ.1, σ.2.1, σ.2.2.1, σ.2.2.2.1, σ.2.2.2.2.1, va_up σ.2.2.2.2.2 b (va_cpy (az_r σ a) (az_r σ b) 0 0 n.toNatClampNeg)))
  | _ => az_next pc len ins aux L st σ F
def az_fetch (cd : List az_I) (pc : Nat) : Option (Nat × Instr × List Nat) := match cd with
  | [] => none
  | q :: r => if q.1 = pc then some q.2 else az_fetch r pc
/-- what a return gives back: of a boolean only 0 and 1 -/
def az_ret (ins : Instr) (rt : Option FieldType) (st : List Value) (r : Option Value) : Prop := match ins with
  | .return_ => rt = none ∧ st = [] ∧ r = none
  | .ireturn => ∃ v ty, rt = some ty ∧ narrow ty (.int v) = .int v ∧ st = [.int v] ∧ r = some (.int v)
  | .lreturn => ∃ v, rt = some .long ∧ st = [.long v] ∧ r = some (.long v)
  | .areturn => ∃ o rt', rt = some rt' ∧ ((∃ n, rt' = .object n) ∨ ∃ t, rt' = .array t) ∧ st = [va_rf o] ∧ r = some (va_rf o)
  | _ => False
/-- n steps from a frame to its return -/
def az_run (E : Nat → List Value → az_S → Option Value → az_S → Prop) (cd : List az_I) (rt : Option FieldType) (r : Option Value) (t : az_S) : Nat → az_F → Prop
  | 0, _ => False
  | n + 1, G => ∃ len ins aux, az_fetch cd G.1 = some (len, ins, aux) ∧ ((az_ret ins rt G.2.2.1 r ∧ G.2.2.2 = t) ∨ ∃ F, az_step E G.1 len ins aux G.2.1 G.2.2.1 G.2.2.2 F ∧ az_run E cd rt r t n F)
