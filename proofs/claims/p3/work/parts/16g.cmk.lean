def bV : Value → Value → Bool
  | .int a, .int b => decide (a = b)
  | .long a, .long b => decide (a = b)
  | .ref a, .ref b => Nat.beq a b
  | .null, .null => true
  | _, _ => false
theorem bV_ok : ∀ a b, bV a b = true → a = b := by
  intro a b h
  cases a <;> cases b <;> first
    | rfl
    | (exact congrArg Value.int (of_decide_eq_true h))
    | (exact congrArg Value.long (of_decide_eq_true h))
    | (exact congrArg Value.ref (Nat.eq_of_beq_eq_true h))
    | (cases h)
def lEq {α : Type} (f : α → α → Bool) : List α → List α → Bool
  | [], [] => true
  | a :: l, b :: m => f a b && lEq f l m
  | _, _ => false
theorem lEq_ok {α : Type} {f : α → α → Bool} (hf : ∀ a b, f a b = true → a = b) : ∀ l m, lEq f l m = true → l = m
  | [], [], _ => rfl
  | [], _ :: _, h => by cases h
  | _ :: _, [], h => by cases h
  | a :: l, b :: m, h => by
    unfold lEq at h
    rw [Bool.and_eq_true] at h
    rw [hf a b h.1, lEq_ok hf l m h.2]
def bC : CC → CC → Bool
  | .inl (c, vs), .inl (d, ws) => Nat.beq c d && lEq bV vs ws
  | .inr (t, n, f, ids), .inr (t2, n2, f2, ids2) => Nat.beq t t2 && (Nat.beq n n2 && (decide (f = f2) && decide (ids = ids2)))
  | _, _ => false
theorem bC_ok : ∀ a b, bC a b = true → a = b
  | .inl (c, vs), .inl (d, ws), h => by
    unfold bC at h
    rw [Bool.and_eq_true] at h
    rw [Nat.eq_of_beq_eq_true h.1, lEq_ok bV_ok _ _ h.2]
  | .inr (t, n, f, ids), .inr (t2, n2, f2, ids2), h => by
    unfold bC at h
    rw [Bool.and_eq_true, Bool.and_eq_true, Bool.and_eq_true] at h
    rw [Nat.eq_of_beq_eq_true h.1, Nat.eq_of_beq_eq_true h.2.1, of_decide_eq_true h.2.2.1, of_decide_eq_true h.2.2.2]
  | .inl _, .inr _, h => by cases h
  | .inr _, .inl _, h => by cases h
def bO : Option (List CC) → List CC → Bool
  | some w, v => lEq bC w v
  | none, _ => false
theorem bO_ok {o : Option (List CC)} {v : List CC} (h : bO o v = true) : o = some v := by
  cases o with
  | none => cases h
  | some w => exact congrArg some (lEq_ok bC_ok w v h)
set_option maxRecDepth 100000 in
theorem mkC : cM tyc MTI 6 10 [.ref 0] [newO 10 (tyc 10)] = some wC := bO_ok (by decide +kernel)
set_option maxRecDepth 100000 in
theorem mkM : cM tyc MTI 6 11 [.ref 0] [newO 11 (tyc 11)] = some wM := bO_ok (by decide +kernel)
theorem shC_ok : shOk piC wC SHC = true := by decide +kernel
theorem shM_ok : shOk piM wM SHM = true := by decide +kernel
def sC0 : Sg := stOf piC wC
def sM0 : Sg := stOf piM wM
