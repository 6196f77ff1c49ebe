/-! a small evaluator of bytecode over worlds of a fixed shape, and its rules -/
abbrev Sg : Type := (Nat → Nat → Int32) × (Nat → Nat → Int64)
abbrev Shp : Type := (Nat × List (Nat × Nat)) ⊕ (Nat × Nat × List Nat)
abbrev Ent : Type := Nat × Instr × Nat × List Nat × Int32 × Int64
abbrev Lv : Type := List (Nat × Value)
abbrev Qt : Type := Option Value → Sg → Prop
abbrev Ct : Type := Nat → List Value → Sg → Qt → Prop
abbrev Xt : Type := Nat → Lv → List Value → Sg → Prop
def pI (s : Sg) (i k : Nat) (v : Int32) : Sg := (va_up s.1 i (upd (s.1 i) k v), s.2)
def pL (s : Sg) (i k : Nat) (v : Int64) : Sg := (s.1, va_up s.2 i (vp_updL (s.2 i) k v))
def pA (s : Sg) (i : Nat) (f : Nat → Int32) : Sg := (va_up s.1 i f, s.2)
def pB (s : Sg) (i : Nat) (f : Nat → Int64) : Sg := (s.1, va_up s.2 i f)
def k1 (st : List Value) (f : Int32 → List Value → Prop) : Prop := match st with
  | .int x :: r => f x r
  | _ => False
def k2 (st : List Value) (f : Int32 → Int32 → List Value → Prop) : Prop := match st with
  | .int y :: .int x :: r => f x y r
  | _ => False
def kl1 (st : List Value) (f : Int64 → List Value → Prop) : Prop := match st with
  | .long x :: r => f x r
  | _ => False
def kl2 (st : List Value) (f : Int64 → Int64 → List Value → Prop) : Prop := match st with
  | .long y :: .long x :: r => f x y r
  | _ => False
def kil (st : List Value) (f : Int64 → Int32 → List Value → Prop) : Prop := match st with
  | .int y :: .long x :: r => f x y r
  | _ => False
def kr (st : List Value) (f : Nat → List Value → Prop) : Prop := match st with
  | .ref o :: r => f o r
  | _ => False
def kri (st : List Value) (f : Nat → Int32 → List Value → Prop) : Prop := match st with
  | .int i :: .ref o :: r => f o i r
  | _ => False
def krii (st : List Value) (f : Nat → Int32 → Int32 → List Value → Prop) : Prop := match st with
  | .int x :: .int i :: .ref o :: r => f o i x r
  | _ => False
def kril (st : List Value) (f : Nat → Int32 → Int64 → List Value → Prop) : Prop := match st with
  | .long x :: .int i :: .ref o :: r => f o i x r
  | _ => False
def kir (st : List Value) (f : Nat → Int32 → List Value → Prop) : Prop := match st with
  | .int x :: .ref o :: r => f o x r
  | _ => False
def klr (st : List Value) (f : Nat → Int64 → List Value → Prop) : Prop := match st with
  | .long x :: .ref o :: r => f o x r
  | _ => False
def kc1 (st : List Value) (f : Value → List Value → Prop) : Prop := match st with
  | .int x :: r => f (.int x) r
  | .ref o :: r => f (.ref o) r
  | _ => False
def kcp (st : List Value) (f : Int32 → Int32 → Nat → Int32 → Nat → List Value → Prop) : Prop := match st with
  | .int n :: .int dp :: .ref d :: .int sp :: .ref o :: r => f n dp d sp o r
  | _ => False
def gl : Lv → Nat → Option Value
  | [], _ => none
  | q :: r, i => match Nat.beq q.1 i with
    | true => some q.2
    | false => gl r i
def ki (o : Option Value) (f : Int32 → Prop) : Prop := match o with
  | some (.int x) => f x
  | _ => False
def kl (o : Option Value) (f : Int64 → Prop) : Prop := match o with
  | some (.long x) => f x
  | _ => False
def ka (o : Option Value) (f : Nat → Prop) : Prop := match o with
  | some (.ref x) => f x
  | _ => False
def sl1 (lv : Lv) (i : Nat) (v : Value) : Lv := (i, v) :: lv.filter (fun q => !(q.1 == i) && !(q.1 + 1 == i && q.2.category == 2))
def sl2 (lv : Lv) (i : Nat) (v : Value) : Lv := (i, v) :: lv.filter (fun q => !(q.1 == i) && (!(q.1 == i + 1) && !(q.1 + 1 == i && q.2.category == 2)))
def br (c a b : Prop) : Prop := (c → a) ∧ (¬ c → b)
def cd0 (c : Jvm.ClassFile.Cond) (x : Int32) (t n : Prop) : Prop := match c with
  | .eq => br (x = 0) t n
  | .ne => br (x = 0) n t
  | .lt => br (x < 0) t n
  | .ge => br (0 ≤ x) t n
  | .gt => br (0 < x) t n
  | .le => br (x ≤ 0) t n
def cd2 (c : Jvm.ClassFile.Cond) (x y : Int32) (t n : Prop) : Prop := match c with
  | .eq => br (x = y) t n
  | .ne => br (x = y) n t
  | .lt => br (x < y) t n
  | .ge => br (y ≤ x) t n
  | .gt => br (y < x) t n
  | .le => br (x ≤ y) t n
def kon (b : Bool) (a : Prop) : Prop := match b with
  | true => a
  | false => False
/-- the object at o, of class ci: its field k -/
def kf (SH : List Shp) (o ci k : Nat) (f : Nat × Nat → Prop) : Prop := match SH[o]? with
  | some (.inl (c, fs)) => kon (Nat.beq c ci) (match fs[k]? with
    | some q => f q
    | none => False)
  | _ => False
/-- the array at o, of type t: its length -/
def kar (SH : List Shp) (o t : Nat) (f : Nat → Prop) : Prop := match SH[o]? with
  | some (.inr (t', n, _)) => kon (Nat.beq t' t) (f n)
  | _ => False
def karr (SH : List Shp) (o : Nat) (f : Nat → List Nat → Prop) : Prop := match SH[o]? with
  | some (.inr (t, n, ids)) => kon (Nat.ble 3 t && Nat.ble n ids.length) (f n ids)
  | _ => False
def kal (SH : List Shp) (o : Nat) (f : Nat → Prop) : Prop := match SH[o]? with
  | some (.inr (t, n, _)) => kon (Nat.ble t 4) (f n)
  | _ => False
def alls : List Nat → Nat → Int32 → (Nat → Prop) → Prop
  | [], _, _, _ => True
  | id :: r, k, i, f => (i = nI k → f id) ∧ alls r (k + 1) i f
def sw : List (Int32 × Nat) → Nat → Int32 → (Nat → Prop) → Prop
  | [], d, _, f => f d
  | q :: r, d, x, f => (x = q.1 → f q.2) ∧ (¬ x = q.1 → sw r d x f)
def fvA (s : Sg) (i k : Nat) (f : Nat × Nat) : Value := match f.1 with
  | 0 => .ref f.2
  | 1 => .long (s.2 i k)
  | _ => .int (s.1 i k)
def room8 (st : List Value) : Prop := (st.map fun v => v.category).sum ≤ 8
def strB : List (List Int32) := [[104, 111, 117, 115, 101, 32, 115, 97, 108, 116, 32, 115, 117, 103, 97, 114, 32, 103, 111, 110, 101, 32, 113, 117, 97, 114, 114, 101, 108, 32, 111, 102, 32, 97, 110, 100, 32, 110, 101, 101, 100, 115, 32, 99, 97, 116, 32, 102, 114, 111, 109, 32, 116, 111, 32, 116, 97, 107, 101, 115, 32, 103, 114, 111, 99, 101, 114, 32, 115, 116, 111, 99, 107, 32, 112, 114, 105, 99, 101, 32, 115, 119, 101, 101, 116, 32, 114, 97, 105, 110, 32, 119, 97, 115, 104, 101, 115, 32, 99, 111, 117, 110, 116, 115, 32, 98, 117, 121, 32, 115, 116, 114, 101, 119, 32, 115, 119, 101, 101, 112, 32, 115, 110, 111, 119, 32, 110, 105, 103, 104, 116, 32, 119, 104, 101, 110, 32, 111, 118, 101, 114, 32, 116, 114, 117, 99, 101, 32, 108, 105, 101, 115, 32, 108, 111, 111, 112, 32, 101, 110, 100, 32, 115, 116, 111, 112, 32], [32, 104, 111, 117, 115, 101, 32, 113, 117, 97, 114, 114, 101, 108, 32, 99, 97, 116, 32, 103, 114, 111, 99, 101, 114, 32, 114, 97, 105, 110, 32, 103, 111, 110, 101, 32, 115, 97, 108, 116, 32, 115, 117, 103, 97, 114, 32, 111, 102, 32, 97, 110, 100, 32, 110, 101, 101, 100, 115, 32, 102, 114, 111, 109, 32, 116, 111, 32, 116, 97, 107, 101, 115, 32, 115, 116, 111, 99, 107, 32, 112, 114, 105, 99, 101, 32, 115, 119, 101, 101, 116, 32, 119, 97, 115, 104, 101, 115, 32, 99, 111, 117, 110, 116, 115, 32, 115, 116, 114, 101, 119, 32, 98, 117, 121, 32, 115, 119, 101, 101, 112, 32, 115, 110, 111, 119, 32, 110, 105, 103, 104, 116, 32, 119, 104, 101, 110, 32, 108, 111, 111, 112, 32, 101, 110, 100, 32, 115, 116, 111, 112, 32, 111, 118, 101, 114, 32, 116, 114, 117, 99, 101, 32, 108, 105, 101, 115, 32]]
def strN : List Nat := [167, 168]
def sti (SH : List Shp) (cl : Ct) (rt : Option FieldType) (Q : Qt) (X : Xt) (pc : Nat) (lv : Lv) (st : List Value) (s : Sg) (ins : Instr) (ax : List Nat) (z : Int32) (zl : Int64) : Prop := match ins with
  | .iconst _ => X (pc + 1) lv (.int z :: st) s
  | .bipush _ => X (pc + 2) lv (.int z :: st) s
  | .sipush _ => X (pc + 3) lv (.int z :: st) s
  | .lconst _ => X (pc + 1) lv (.long zl :: st) s
  | .ldc _ => (match ax with
    | [0, _] => X (pc + 2) lv (.int z :: st) s
    | [1, k] => X (pc + 2) lv (.ref (1000 + k) :: st) s
    | _ => False)
  | .ldc_w _ => X (pc + 3) lv (.int z :: st) s
  | .ldc2_w _ => X (pc + 3) lv (.long zl :: st) s
  | .iload_n k => ki (gl lv k) (fun x => X (pc + 1) lv (.int x :: st) s)
  | .iload k => ki (gl lv k) (fun x => X (pc + 2) lv (.int x :: st) s)
  | .lload_n k => kl (gl lv k) (fun x => X (pc + 1) lv (.long x :: st) s)
  | .lload k => kl (gl lv k) (fun x => X (pc + 2) lv (.long x :: st) s)
  | .aload_n k => ka (gl lv k) (fun x => X (pc + 1) lv (.ref x :: st) s)
  | .aload k => ka (gl lv k) (fun x => X (pc + 2) lv (.ref x :: st) s)
  | .istore_n k => k1 st (fun x r => X (pc + 1) (sl1 lv k (.int x)) r s)
  | .istore k => k1 st (fun x r => X (pc + 2) (sl1 lv k (.int x)) r s)
  | .lstore_n k => kl1 st (fun x r => X (pc + 1) (sl2 lv k (.long x)) r s)
  | .lstore k => kl1 st (fun x r => X (pc + 2) (sl2 lv k (.long x)) r s)
  | .astore_n k => kr st (fun x r => X (pc + 1) (sl1 lv k (.ref x)) r s)
  | .astore k => kr st (fun x r => X (pc + 2) (sl1 lv k (.ref x)) r s)
  | .iinc k _ => ki (gl lv k) (fun x => X (pc + 3) (sl1 lv k (.int (x + z))) st s)
  | .iadd => k2 st (fun x y r => X (pc + 1) lv (.int (x + y) :: r) s)
  | .isub => k2 st (fun x y r => X (pc + 1) lv (.int (x - y) :: r) s)
  | .imul => k2 st (fun x y r => X (pc + 1) lv (.int (x * y) :: r) s)
  | .iand => k2 st (fun x y r => X (pc + 1) lv (.int (x &&& y) :: r) s)
  | .ior => k2 st (fun x y r => X (pc + 1) lv (.int (x ||| y) :: r) s)
  | .ixor => k2 st (fun x y r => X (pc + 1) lv (.int (x ^^^ y) :: r) s)
  | .idiv => k2 st (fun x y r => ¬ y = 0 ∧ X (pc + 1) lv (.int (x / y) :: r) s)
  | .irem => k2 st (fun x y r => ¬ y = 0 ∧ X (pc + 1) lv (.int (x - x / y * y) :: r) s)
  | .ishl => k2 st (fun x y r => X (pc + 1) lv (.int (x <<< (y &&& 31)) :: r) s)
  | .ishr => k2 st (fun x y r => X (pc + 1) lv (.int (x >>> (y &&& 31)) :: r) s)
  | .iushr => k2 st (fun x y r => X (pc + 1) lv (.int (x.toUInt32 >>> (y.toUInt32 &&& Int32.toUInt32 31)).toInt32 :: r) s)
  | .ladd => kl2 st (fun x y r => X (pc + 1) lv (.long (x + y) :: r) s)
  | .lsub => kl2 st (fun x y r => X (pc + 1) lv (.long (x - y) :: r) s)
  | .lmul => kl2 st (fun x y r => X (pc + 1) lv (.long (x * y) :: r) s)
  | .land => kl2 st (fun x y r => X (pc + 1) lv (.long (x &&& y) :: r) s)
  | .lor => kl2 st (fun x y r => X (pc + 1) lv (.long (x ||| y) :: r) s)
  | .ldiv => kl2 st (fun x y r => ¬ y = 0 ∧ X (pc + 1) lv (.long (x / y) :: r) s)
  | .lrem => kl2 st (fun x y r => ¬ y = 0 ∧ X (pc + 1) lv (.long (x - x / y * y) :: r) s)
  | .lshl => kil st (fun x y r => X (pc + 1) lv (.long (x <<< (y.toInt64 &&& 63)) :: r) s)
  | .lcmp => kl2 st (fun x y r => X (pc + 1) lv (.int (lg_cmp x y) :: r) s)
  | .i2l => k1 st (fun x r => X (pc + 1) lv (.long x.toInt64 :: r) s)
  | .l2i => kl1 st (fun x r => X (pc + 1) lv (.int x.toInt32 :: r) s)
  | .i2b => k1 st (fun x r => X (pc + 1) lv (.int x.toInt8.toInt32 :: r) s)
  | .i2s => k1 st (fun x r => X (pc + 1) lv (.int x.toInt16.toInt32 :: r) s)
  | .dup => kc1 st (fun v r => X (pc + 1) lv (v :: v :: r) s)
  | .dup2 => kri st (fun o i r => X (pc + 1) lv (.int i :: .ref o :: .int i :: .ref o :: r) s)
  | .pop => kc1 st (fun _ r => X (pc + 1) lv r s)
  | .pop2 => kl1 st (fun _ r => X (pc + 1) lv r s)
  | .goto _ => (match ax with
    | [t] => X t lv st s
    | _ => False)
  | .ifCond c _ => (match ax with
    | [t] => k1 st (fun x r => cd0 c x (X t lv r s) (X (pc + 3) lv r s))
    | _ => False)
  | .if_icmp c _ => (match ax with
    | [t] => k2 st (fun x y r => cd2 c x y (X t lv r s) (X (pc + 3) lv r s))
    | _ => False)
  | .tableswitch d lo _ offs => k1 st (fun x r => sw (offs.toList.mapIdx (fun k o => (Int32.ofInt (lo + k), ((pc : Int) + o).toNat))) ((pc : Int) + d).toNat x (fun t => X t lv r s))
  | .lookupswitch d ps => k1 st (fun x r => sw (ps.toList.map (fun q => (Int32.ofInt q.1, ((pc : Int) + q.2).toNat))) ((pc : Int) + d).toNat x (fun t => X t lv r s))
  | .getfield _ => (match ax with
    | [ci, k, _, _] => kr st (fun o r => kf SH o ci k (fun q => X (pc + 3) lv (fvA s o k q :: r) s))
    | _ => False)
  | .putfield _ => (match ax with
    | [ci, k, _, _, 1] => klr st (fun o x r => kf SH o ci k (fun q => kon (Nat.beq q.1 1) (X (pc + 3) lv r (pL s o k x))))
    | [ci, k, _, _, 2] => kir st (fun o x r => kf SH o ci k (fun q => kon (Nat.beq q.1 2) (X (pc + 3) lv r (pI s o k x))))
    | [ci, k, _, _, 3] => kir st (fun o x r => kf SH o ci k (fun q => kon (Nat.beq q.1 3) ((x = 0 ∨ x = 1) ∧ X (pc + 3) lv r (pI s o k x))))
    | _ => False)
  | .iaload => kri st (fun o i r => kar SH o 0 (fun n => vp_in i n ∧ X (pc + 1) lv (.int (s.1 o i.toNatClampNeg) :: r) s))
  | .baload => kri st (fun o i r => kar SH o 2 (fun n => vp_in i n ∧ X (pc + 1) lv (.int (s.1 o i.toNatClampNeg) :: r) s))
  | .laload => kri st (fun o i r => kar SH o 1 (fun n => vp_in i n ∧ X (pc + 1) lv (.long (s.2 o i.toNatClampNeg) :: r) s))
  | .aaload => kri st (fun o i r => karr SH o (fun n ids => vp_in i n ∧ alls ids 0 i (fun id => X (pc + 1) lv (.ref id :: r) s)))
  | .iastore => krii st (fun o i x r => kar SH o 0 (fun n => vp_in i n ∧ X (pc + 1) lv r (pI s o i.toNatClampNeg x)))
  | .bastore => krii st (fun o i x r => kar SH o 2 (fun n => vp_in i n ∧ X (pc + 1) lv r (pI s o i.toNatClampNeg (vp_nar .byte x))))
  | .lastore => kril st (fun o i x r => kar SH o 1 (fun n => vp_in i n ∧ X (pc + 1) lv r (pL s o i.toNatClampNeg x)))
  | .arraylength => kr st (fun o r => kal SH o (fun n => X (pc + 1) lv (.int (Int32.ofNat n) :: r) s))
  | .invokestatic _ => (match ax with
    | 0 :: n :: j :: _ => kon (Nat.ble n st.length) (room8 (st.drop n) ∧ cl j (st.take n).reverse s (fun v s' => X (pc + 3) lv (v.toList ++ st.drop n) s'))
    | [1, _] => k2 st (fun x y r => room8 r ∧ X (pc + 3) lv (.int (if x < y then y else x) :: r) s)
    | [2, _] => k2 st (fun x y r => room8 r ∧ X (pc + 3) lv (.int (if y < x then y else x) :: r) s)
    | [3, _] => k1 st (fun x r => room8 r ∧ X (pc + 3) lv (.int (if 0 ≤ x then x else 0 - x) :: r) s)
    | [4, _] => kcp st (fun n dp d sp o r => room8 r ∧ kar SH o 0 (fun n0 => kar SH d 0 (fun n1 => (¬ sp < 0 ∧ ¬ dp < 0 ∧ ¬ n < 0 ∧ sp.toNatClampNeg + n.toNatClampNeg ≤ n0 ∧ dp.toNatClampNeg + n.toNatClampNeg ≤ n1) ∧ X (pc + 3) lv r (pA s d (va_cpy (s.1 o) (s.1 d) sp.toNatClampNeg dp.toNatClampNeg n.toNatClampNeg)))))
    | [5, _] => kcp st (fun n dp d sp o r => room8 r ∧ kar SH o 1 (fun n0 => kar SH d 1 (fun n1 => (¬ sp < 0 ∧ ¬ dp < 0 ∧ ¬ n < 0 ∧ sp.toNatClampNeg + n.toNatClampNeg ≤ n0 ∧ dp.toNatClampNeg + n.toNatClampNeg ≤ n1) ∧ X (pc + 3) lv r (pB s d (va_cpy (s.2 o) (s.2 d) sp.toNatClampNeg dp.toNatClampNeg n.toNatClampNeg)))))
    | _ => False)
  | .invokevirtual _ => (match ax with
    | 0 :: n :: j :: ci :: _ => (match (st.take n).reverse with
      | .ref o :: as => kon (Nat.ble n st.length) (kf SH o ci 0 (fun _ => room8 (st.drop n) ∧ cl j (.ref o :: as) s (fun v s' => X (pc + 3) lv (v.toList ++ st.drop n) s')))
      | _ => False)
    | [6, k, _] => kr st (fun o r => kon (Nat.beq o (1000 + k)) (room8 r ∧ X (pc + 3) lv (.int (Int32.ofNat (strN.getD k 0)) :: r) s))
    | [7, k, _] => kri st (fun o i r => kon (Nat.beq o (1000 + k)) (room8 r ∧ vp_in i (strN.getD k 0) ∧ X (pc + 3) lv (.int ((strB.getD k []).getD i.toNatClampNeg 0) :: r) s))
    | _ => False)
  | .ireturn => (match rt, st with
    | some ty, [.int x] => narrow ty (.int x) = .int x ∧ Q (some (.int x)) s
    | _, _ => False)
  | .lreturn => (match rt, st with
    | some .long, [.long x] => Q (some (.long x)) s
    | _, _ => False)
  | .areturn => (match rt, st with
    | some (.object _), [.ref x] => Q (some (.ref x)) s
    | some (.array _), [.ref x] => Q (some (.ref x)) s
    | _, _ => False)
  | .return_ => (match rt, st with
    | none, [] => Q none s
    | _, _ => False)
  | _ => False
def lk : List Ent → Nat → Option (Instr × Nat × List Nat × Int32 × Int64)
  | [], _ => none
  | e :: r, pc => match Nat.beq e.1 pc with
    | true => some e.2
    | false => lk r pc
def stp (SH : List Shp) (cl : Ct) (cd : List Ent) (rt : Option FieldType) (Q : Qt) (X : Xt) (pc : Nat) (lv : Lv) (st : List Value) (s : Sg) : Prop := match lk cd pc with
  | some (ins, _, ax, z, zl) => sti SH cl rt Q X pc lv st s ins ax z zl
  | none => False
/-- the least that is closed under the steps and under forgetting locals -/
def Wp (SH : List Shp) (cl : Ct) (cd : List Ent) (rt : Option FieldType) (Q : Qt) : Xt := fun pc lv st s => ∀ X : Xt, (∀ pc lv st s, stp SH cl cd rt Q X pc lv st s → X pc lv st s) → (∀ pc lv ks st s, X pc (lv_pick lv ks) st s → X pc lv st s) → X pc lv st s
/-- a method of the table: name, bytes, locals, answer's type, how many words of arguments, rows -/
abbrev ME : Type := MethodName × ByteArray × Nat × Option FieldType × Nat × List Ent
def WpM (SH : List Shp) (MT : List ME) : Nat → Ct
  | 0, _, _, _, _ => False
  | d + 1, j, as, s, Q => match MT[j]? with
    | some q => kon (Nat.ble (lg_sl as).length q.2.2.1) (Wp SH (WpM SH MT d) q.2.2.2.2.2 q.2.2.2.1 Q 0 (lv_args 0 as) [] s)
    | none => False
