/-! constructors: an evaluator over worlds that grow; every number in it is known -/
abbrev CC : Type := (Nat × List Value) ⊕ (Nat × Nat × List (Nat × Int32) × List (Option Nat))
def fOf : List (Nat × Int32) → Nat → Int32
  | [], _ => 0
  | q :: r, k => if k = q.1 then q.2 else fOf r k
def inL : List (Nat × Int32) → Nat → Bool
  | [], _ => false
  | q :: r, k => Nat.beq q.1 k || inL r k
def stI (l : List (Nat × Int32)) (k : Nat) (v : Int32) : List (Nat × Int32) := if v = 0 ∧ inL l k = false then l else (k, v) :: l
theorem fOf_no : ∀ {l : List (Nat × Int32)} {k : Nat}, inL l k = false → fOf l k = 0
  | [], _, _ => rfl
  | q :: r, k, h => by
    unfold inL at h
    rw [Bool.or_eq_false_iff] at h
    unfold fOf
    rw [if_neg (fun e => by rw [e, Nat.beq_refl] at h; cases h.1)]
    exact fOf_no h.2
theorem fOf_st (l : List (Nat × Int32)) (k : Nat) (v : Int32) : fOf (stI l k v) = upd (fOf l) k v := by
  funext j
  unfold stI upd
  split
  · rename_i h
    split
    · rename_i e; subst e; rw [fOf_no h.2, h.1]
    · rfl
  · show (if j = k then v else fOf l j) = _
    rfl
def arrC (ad : Nat → Nat) (t : Nat) (f : List (Nat × Int32)) (ids : List (Option Nat)) : (Nat → Int32) ⊕ (Nat → Int64) ⊕ (Nat → UInt32) ⊕ (Nat → UInt64) ⊕ (Nat → Option Nat) := match t with
  | 0 => .inl (fOf f)
  | 1 => .inr (.inl z1)
  | 2 => .inl (fOf f)
  | _ => .inr (.inr (.inr (.inr (fun k => (ids.getD k none).map ad))))
def cellC (kc : Nat → ClassId) (ad : Nat → Nat) : CC → va_E
  | .inl o => .inr (o.1, o.2.map (cv ad))
  | .inr a => .inl (kc a.1, a.2.1, arrC ad a.1 a.2.2.1 a.2.2.2)
def cwl (kc : Nat → ClassId) (ad : Nat → Nat) (w : List CC) : va_W := w.mapIdx (fun i c => (ad i, cellC kc ad c))
/-- how many words -/
def slC : CC → Nat
  | .inl o => o.2.length
  | .inr a => a.2.1
def slW (w : List CC) : Nat := (w.map slC).sum
def scV (n : Nat) : Value → Bool
  | .ref i => Nat.blt i n
  | _ => true
def scC (n : Nat) : CC → Bool
  | .inl o => o.2.all (scV n)
  | .inr a => a.2.2.2.all (fun x => match x with
    | some i => Nat.blt i n
    | none => true)
def scB (w : List CC) (lv : Lv) (st : List Value) : Bool := w.all (scC w.length) && lv.all (fun q => scV w.length q.2) && st.all (scV w.length)
theorem room8_d (st : List Value) : room8 st ↔ (st.map fun v => v.category).sum ≤ 8 := Iff.rfl
abbrev Cct : Type := Nat → List Value → List CC → Option (List CC)
def dflt : FieldType → Value
  | .long => .long 0
  | .object _ => .null
  | .array _ => .null
  | _ => .int 0
def newO (ci : Nat) (tys : List FieldType) : CC := .inl (ci, tys.map dflt)
def o_i {α : Type} (st : List Value) (f : Int32 → List Value → Option α) : Option α := match st with
  | .int x :: r => f x r
  | _ => none
theorem o_i_e {α : Type} {st : List Value} {f : Int32 → List Value → Option α} {a : α} (h : o_i st f = some a) : ∃ (x : Int32) (r : List Value), st = .int x :: r ∧ f x r = some a := by
  unfold o_i at h
  split at h
  · exact ⟨_, _, rfl, h⟩
  · cases h
def o_ii {α : Type} (st : List Value) (f : Int32 → Int32 → List Value → Option α) : Option α := match st with
  | .int y :: .int x :: r => f x y r
  | _ => none
theorem o_ii_e {α : Type} {st : List Value} {f : Int32 → Int32 → List Value → Option α} {a : α} (h : o_ii st f = some a) : ∃ (x : Int32) (y : Int32) (r : List Value), st = .int y :: .int x :: r ∧ f x y r = some a := by
  unfold o_ii at h
  split at h
  · exact ⟨_, _, _, rfl, h⟩
  · cases h
def o_r {α : Type} (st : List Value) (f : Nat → List Value → Option α) : Option α := match st with
  | .ref x :: r => f x r
  | _ => none
theorem o_r_e {α : Type} {st : List Value} {f : Nat → List Value → Option α} {a : α} (h : o_r st f = some a) : ∃ (x : Nat) (r : List Value), st = .ref x :: r ∧ f x r = some a := by
  unfold o_r at h
  split at h
  · exact ⟨_, _, rfl, h⟩
  · cases h
def o_vr {α : Type} (st : List Value) (f : Value → Nat → List Value → Option α) : Option α := match st with
  | v :: .ref o :: r => f v o r
  | _ => none
theorem o_vr_e {α : Type} {st : List Value} {f : Value → Nat → List Value → Option α} {a : α} (h : o_vr st f = some a) : ∃ (v : Value) (o : Nat) (r : List Value), st = v :: .ref o :: r ∧ f v o r = some a := by
  unfold o_vr at h
  split at h
  · exact ⟨_, _, _, rfl, h⟩
  · cases h
def o_iir {α : Type} (st : List Value) (f : Int32 → Int32 → Nat → List Value → Option α) : Option α := match st with
  | .int x :: .int i :: .ref o :: r => f x i o r
  | _ => none
theorem o_iir_e {α : Type} {st : List Value} {f : Int32 → Int32 → Nat → List Value → Option α} {a : α} (h : o_iir st f = some a) : ∃ (x : Int32) (i : Int32) (o : Nat) (r : List Value), st = .int x :: .int i :: .ref o :: r ∧ f x i o r = some a := by
  unfold o_iir at h
  split at h
  · exact ⟨_, _, _, _, rfl, h⟩
  · cases h
def o_rir {α : Type} (st : List Value) (f : Nat → Int32 → Nat → List Value → Option α) : Option α := match st with
  | .ref v :: .int i :: .ref o :: r => f v i o r
  | _ => none
theorem o_rir_e {α : Type} {st : List Value} {f : Nat → Int32 → Nat → List Value → Option α} {a : α} (h : o_rir st f = some a) : ∃ (v : Nat) (i : Int32) (o : Nat) (r : List Value), st = .ref v :: .int i :: .ref o :: r ∧ f v i o r = some a := by
  unfold o_rir at h
  split at h
  · exact ⟨_, _, _, _, rfl, h⟩
  · cases h
def o_gi {α : Type} (g : Option Value) (f : Int32 → Option α) : Option α := match g with
  | some (.int x) => f x
  | _ => none
theorem o_gi_e {α : Type} {g : Option Value} {f : Int32 → Option α} {a : α} (h : o_gi g f = some a) : ∃ (x : Int32), g = some (.int x) ∧ f x = some a := by
  unfold o_gi at h
  split at h
  · exact ⟨_, rfl, h⟩
  · cases h
def o_gr {α : Type} (g : Option Value) (f : Nat → Option α) : Option α := match g with
  | some (.ref x) => f x
  | _ => none
theorem o_gr_e {α : Type} {g : Option Value} {f : Nat → Option α} {a : α} (h : o_gr g f = some a) : ∃ (x : Nat), g = some (.ref x) ∧ f x = some a := by
  unfold o_gr at h
  split at h
  · exact ⟨_, rfl, h⟩
  · cases h
def o_x1 {α : Type} (ax : List Nat) (f : Nat → Option α) : Option α := match ax with
  | [a0] => f a0
  | _ => none
theorem o_x1_e {α : Type} {ax : List Nat} {f : Nat → Option α} {a : α} (h : o_x1 ax f = some a) : ∃ (a0 : Nat), ax = [a0] ∧ f a0 = some a := by
  unfold o_x1 at h
  split at h
  · exact ⟨_, rfl, h⟩
  · cases h
def o_x2 {α : Type} (ax : List Nat) (f : Nat → Nat → Option α) : Option α := match ax with
  | [a0, a1] => f a0 a1
  | _ => none
theorem o_x2_e {α : Type} {ax : List Nat} {f : Nat → Nat → Option α} {a : α} (h : o_x2 ax f = some a) : ∃ (a0 : Nat) (a1 : Nat), ax = [a0, a1] ∧ f a0 a1 = some a := by
  unfold o_x2 at h
  split at h
  · exact ⟨_, _, rfl, h⟩
  · cases h
def o_x4 {α : Type} (ax : List Nat) (f : Nat → Nat → Nat → Nat → Option α) : Option α := match ax with
  | [a0, a1, a2, a3] => f a0 a1 a2 a3
  | _ => none
theorem o_x4_e {α : Type} {ax : List Nat} {f : Nat → Nat → Nat → Nat → Option α} {a : α} (h : o_x4 ax f = some a) : ∃ (a0 : Nat) (a1 : Nat) (a2 : Nat) (a3 : Nat), ax = [a0, a1, a2, a3] ∧ f a0 a1 a2 a3 = some a := by
  unfold o_x4 at h
  split at h
  · exact ⟨_, _, _, _, rfl, h⟩
  · cases h
def o_x5 {α : Type} (ax : List Nat) (f : Nat → Nat → Nat → Nat → Nat → Option α) : Option α := match ax with
  | [a0, a1, a2, a3, a4] => f a0 a1 a2 a3 a4
  | _ => none
theorem o_x5_e {α : Type} {ax : List Nat} {f : Nat → Nat → Nat → Nat → Nat → Option α} {a : α} (h : o_x5 ax f = some a) : ∃ (a0 : Nat) (a1 : Nat) (a2 : Nat) (a3 : Nat) (a4 : Nat), ax = [a0, a1, a2, a3, a4] ∧ f a0 a1 a2 a3 a4 = some a := by
  unfold o_x5 at h
  split at h
  · exact ⟨_, _, _, _, _, rfl, h⟩
  · cases h
def o_x7 {α : Type} (ax : List Nat) (f : Nat → Nat → Nat → Nat → Nat → Nat → Option α) : Option α := match ax with
  | [0, np, j, nest, p1, p2, p3] => f np j nest p1 p2 p3
  | _ => none
theorem o_x7_e {α : Type} {ax : List Nat} {f : Nat → Nat → Nat → Nat → Nat → Nat → Option α} {a : α} (h : o_x7 ax f = some a) : ∃ (np : Nat) (j : Nat) (nest : Nat) (p1 : Nat) (p2 : Nat) (p3 : Nat), ax = [0, np, j, nest, p1, p2, p3] ∧ f np j nest p1 p2 p3 = some a := by
  unfold o_x7 at h
  split at h
  · exact ⟨_, _, _, _, _, _, rfl, h⟩
  · cases h
def o_x9 {α : Type} (ax : List Nat) (f : Nat → Nat → Nat → Nat → Nat → Nat → Nat → Nat → Option α) : Option α := match ax with
  | [0, np, j, ci, nest, p1, p2, p3, p4] => f np j ci nest p1 p2 p3 p4
  | _ => none
theorem o_x9_e {α : Type} {ax : List Nat} {f : Nat → Nat → Nat → Nat → Nat → Nat → Nat → Nat → Option α} {a : α} (h : o_x9 ax f = some a) : ∃ (np : Nat) (j : Nat) (ci : Nat) (nest : Nat) (p1 : Nat) (p2 : Nat) (p3 : Nat) (p4 : Nat), ax = [0, np, j, ci, nest, p1, p2, p3, p4] ∧ f np j ci nest p1 p2 p3 p4 = some a := by
  unfold o_x9 at h
  split at h
  · exact ⟨_, _, _, _, _, _, _, _, rfl, h⟩
  · cases h
def o_obj {α : Type} (g : Option CC) (f : Nat → List Value → Option α) : Option α := match g with
  | some (.inl (c, fs)) => f c fs
  | _ => none
theorem o_obj_e {α : Type} {g : Option CC} {f : Nat → List Value → Option α} {a : α} (h : o_obj g f = some a) : ∃ (c : Nat) (fs : List Value), g = some (.inl (c, fs)) ∧ f c fs = some a := by
  unfold o_obj at h
  split at h
  · exact ⟨_, _, rfl, h⟩
  · cases h
def o_arr {α : Type} (g : Option CC) (f : Nat → Nat → List (Nat × Int32) → List (Option Nat) → Option α) : Option α := match g with
  | some (.inr (t, m, f0, ids)) => f t m f0 ids
  | _ => none
theorem o_arr_e {α : Type} {g : Option CC} {f : Nat → Nat → List (Nat × Int32) → List (Option Nat) → Option α} {a : α} (h : o_arr g f = some a) : ∃ (t : Nat) (m : Nat) (f0 : List (Nat × Int32)) (ids : List (Option Nat)), g = some (.inr (t, m, f0, ids)) ∧ f t m f0 ids = some a := by
  unfold o_arr at h
  split at h
  · exact ⟨_, _, _, _, rfl, h⟩
  · cases h
def o_some {α : Type} (g : Option Value) (f : Value → Option α) : Option α := match g with
  | some v => f v
  | _ => none
theorem o_some_e {α : Type} {g : Option Value} {f : Value → Option α} {a : α} (h : o_some g f = some a) : ∃ (v : Value), g = some v ∧ f v = some a := by
  unfold o_some at h
  split at h
  · exact ⟨_, rfl, h⟩
  · cases h
def o_w {α : Type} (g : Option (List CC)) (f : List CC → Option α) : Option α := match g with
  | some w => f w
  | _ => none
theorem o_w_e {α : Type} {g : Option (List CC)} {f : List CC → Option α} {a : α} (h : o_w g f = some a) : ∃ (w : List CC), g = some w ∧ f w = some a := by
  unfold o_w at h
  split at h
  · exact ⟨_, rfl, h⟩
  · cases h
def o_if {α : Type} (c : Prop) [Decidable c] (x : Option α) : Option α := if c then x else none
theorem o_if_e {α : Type} {c : Prop} [Decidable c] {x : Option α} {a : α} (h : o_if c x = some a) : c ∧ x = some a := by
  unfold o_if at h
  split at h
  · exact ⟨by assumption, h⟩
  · cases h
def o_nil {α : Type} (st : List Value) (x : Option α) : Option α := match st with
  | [] => x
  | _ => none
theorem o_nil_e {α : Type} {st : List Value} {x : Option α} {a : α} (h : o_nil st x = some a) : st = [] ∧ x = some a := by
  unfold o_nil at h
  split at h
  · exact ⟨rfl, h⟩
  · cases h
def isO : List Nat → Bool
  | [9, _] => true
  | _ => false
def ce (tyc : Nat → List FieldType) (call : Cct) (cd : List Ent) : Nat → Nat → Lv → List Value → List CC → Option (List CC)
  | 0, _, _, _, _ => none
  | n + 1, pc, lv, st, w => match lk cd pc with
    | none => none
    | some (ins, _, ax, z, zl) => match ins with
      | .iconst _ => ce tyc call cd n (pc + 1) lv (.int z :: st) w
      | .bipush _ => ce tyc call cd n (pc + 2) lv (.int z :: st) w
      | .sipush _ => ce tyc call cd n (pc + 3) lv (.int z :: st) w
      | .lconst _ => ce tyc call cd n (pc + 1) lv (.long zl :: st) w
      | .iload_n k => o_gi (gl lv k) (fun x => ce tyc call cd n (pc + 1) lv (.int x :: st) w)
      | .aload_n k => o_gr (gl lv k) (fun x => ce tyc call cd n (pc + 1) lv (.ref x :: st) w)
      | .istore_n k => o_i st (fun x r => ce tyc call cd n (pc + 1) (sl1 lv k (.int x)) r w)
      | .iinc k _ => o_gi (gl lv k) (fun x => ce tyc call cd n (pc + 3) (sl1 lv k (.int (x + z))) st w)
      | .iadd => o_ii st (fun x y r => ce tyc call cd n (pc + 1) lv (.int (x + y) :: r) w)
      | .dup => o_r st (fun x r => ce tyc call cd n (pc + 1) lv (.ref x :: .ref x :: r) w)
      | .goto _ => o_x1 ax (fun t => ce tyc call cd n t lv st w)
      | .if_icmp cnd _ => o_if (cnd = .ge) (o_x1 ax (fun t => o_ii st (fun x y r => if y ≤ x then ce tyc call cd n t lv r w else ce tyc call cd n (pc + 3) lv r w)))
      | .getfield _ => o_x4 ax (fun ci k _ _ => o_r st (fun o r => o_obj w[o]? (fun c fs => o_if (c = ci) (o_some fs[k]? (fun v => ce tyc call cd n (pc + 3) lv (v :: r) w)))))
      | .putfield _ => o_x5 ax (fun ci k _ _ _ => o_vr st (fun v o r => o_obj w[o]? (fun c fs => o_if (c = ci ∧ k < fs.length ∧ narrow (((tyc ci)[k]?).getD .int) v = v ∧ fits (((tyc ci)[k]?).getD .int) v = true) (ce tyc call cd n (pc + 3) lv r (w.set o (.inl (c, fs.set k v)))))))
      | .iastore => o_iir st (fun x i o r => o_arr w[o]? (fun t m f ids => o_if (t = 0 ∧ ¬ (i < 0 ∨ m ≤ i.toNatClampNeg)) (ce tyc call cd n (pc + 1) lv r (w.set o (.inr (0, m, stI f i.toNatClampNeg x, ids))))))
      | .aastore => o_rir st (fun v i o r => o_arr w[o]? (fun t m f ids => o_obj w[v]? (fun c _ => o_if ((t = 3 ∧ c = 8 ∨ t = 4 ∧ c = 9) ∧ m = ids.length ∧ ¬ (i < 0 ∨ m ≤ i.toNatClampNeg)) (ce tyc call cd n (pc + 1) lv r (w.set o (.inr (t, m, f, ids.set i.toNatClampNeg (some v))))))))
      | .newarray ty => o_i st (fun x r => o_if ((ty = .int ∨ ty = .long ∨ ty = .byte) ∧ ¬ x < 0 ∧ x.toNatClampNeg ≤ 10000 ∧ scB w lv r = true) (ce tyc call cd n (pc + 2) lv (.ref w.length :: r) (w ++ [.inr (if ty = .int then 0 else if ty = .long then 1 else 2, x.toNatClampNeg, [], [])])))
      | .anewarray _ => o_x2 ax (fun _ t => o_i st (fun x r => o_if ((t = 3 ∨ t = 4) ∧ ¬ x < 0 ∧ x.toNatClampNeg ≤ 10000 ∧ scB w lv r = true) (ce tyc call cd n (pc + 3) lv (.ref w.length :: r) (w ++ [.inr (t, x.toNatClampNeg, [], List.replicate x.toNatClampNeg none)]))))
      | .new _ => o_x4 ax (fun ci _ _ _ => o_if (scB w lv st = true) (ce tyc call cd n (pc + 3) lv (.ref w.length :: st) (w ++ [newO ci (tyc ci)])))
      | .invokespecial _ => if isO ax = true then o_r st (fun _ r => o_if ((r.map fun v => v.category).sum ≤ 8) (ce tyc call cd n (pc + 3) lv r w))
        else o_x7 ax (fun np j _ _ _ _ => o_if (scB w lv st = true ∧ np ≤ st.length ∧ ((st.drop np).map fun v => v.category).sum ≤ 8) (o_r (st.take np).reverse (fun o as => o_w (call j (.ref o :: as) w) (fun w2 => ce tyc call cd n (pc + 3) lv (st.drop np) w2))))
      | .invokevirtual _ => o_x9 ax (fun np j ci _ _ _ _ _ => o_if (scB w lv st = true ∧ np ≤ st.length ∧ ((st.drop np).map fun v => v.category).sum ≤ 8) (o_r (st.take np).reverse (fun o as => o_obj w[o]? (fun c _ => o_if (c = ci) (o_w (call j (.ref o :: as) w) (fun w2 => ce tyc call cd n (pc + 3) lv (st.drop np) w2))))))
      | .return_ => o_nil st (some w)
      | _ => none
def cM (tyc : Nat → List FieldType) (MT : List ME) : Nat → Cct
  | 0, _, _, _ => none
  | d + 1, j, as, w => match MT[j]? with
    | some q => o_if ((lg_sl as).length ≤ q.2.2.1) (ce tyc (cM tyc MT d) q.2.2.2.2.2 20000 0 (lv_args 0 as) [] w)
    | none => none
