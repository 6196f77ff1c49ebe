/-! texts: tokens by their places -/
def isL (c : Int32) : Prop := 97 ≤ c.toInt ∧ c.toInt ≤ 122
def isD (c : Int32) : Prop := 48 ≤ c.toInt ∧ c.toInt ≤ 57
def isB (c : Int32) : Prop := c = 32 ∨ c = 10
def RunE (P : Int32 → Prop) (B : Nat → Int32) (n st en : Nat) : Prop := st < en ∧ en ≤ n ∧ (∀ i, st ≤ i → i < en → P (B i)) ∧ (en = n ∨ ¬ P (B en))
def TokE (B : Nat → Int32) (n st en : Nat) : Prop := (st = n ∧ en = n) ∨ (st < n ∧ ((isL (B st) ∧ RunE isL B n st en) ∨ (isD (B st) ∧ RunE isD B n st en) ∨ (¬ isL (B st) ∧ ¬ isD (B st) ∧ en = st + 1)))
def TokS (B : Nat → Int32) (n p st : Nat) : Prop := p ≤ st ∧ st ≤ n ∧ (∀ i, p ≤ i → i < st → isB (B i)) ∧ (st = n ∨ ¬ isB (B st))
theorem isL_nB {c : Int32} (h : isL c) : ¬ isB c := by
  rintro (e | e) <;> subst e <;> exact absurd h.1 (by decide)
theorem isL_nD {c : Int32} (h : isL c) : ¬ isD c := fun g => by
  have := h.1
  have := g.2
  omega
theorem isD_nB {c : Int32} (h : isD c) : ¬ isB c := by
  rintro (e | e) <;> subst e <;> exact absurd h.1 (by decide)
theorem toks_u {B : Nat → Int32} {n p st st' : Nat} (h : TokS B n p st) (g : TokS B n p st') : st = st' := by
  rcases Nat.lt_trichotomy st st' with q | q | q
  · exfalso
    rcases h.2.2.2 with w | w
    · have := g.2.1
      omega
    · exact w (g.2.2.1 st h.1 q)
  · exact q
  · exfalso
    rcases g.2.2.2 with w | w
    · have := h.2.1
      omega
    · exact w (h.2.2.1 st' g.1 q)
theorem run_u {P : Int32 → Prop} {B : Nat → Int32} {n st en en' : Nat} (h : RunE P B n st en) (g : RunE P B n st en') : en = en' := by
  rcases Nat.lt_trichotomy en en' with q | q | q
  · exfalso
    rcases h.2.2.2 with w | w
    · have := g.2.1
      omega
    · exact w (g.2.2.1 en (Nat.le_of_lt h.1) q)
  · exact q
  · exfalso
    rcases g.2.2.2 with w | w
    · have := h.2.1
      omega
    · exact w (h.2.2.1 en' (Nat.le_of_lt g.1) q)
theorem toke_u {B : Nat → Int32} {n st en en' : Nat} (h : TokE B n st en) (g : TokE B n st en') : en = en' := by
  rcases h with h | ⟨h1, h⟩ <;> rcases g with g | ⟨g1, g⟩
  · omega
  · omega
  · omega
  · rcases h with h | h | h <;> rcases g with g | g | g
    · exact run_u h.2 g.2
    · exact absurd g.1 (isL_nD h.1)
    · exact absurd h.1 g.1
    · exact absurd h.1 (isL_nD g.1)
    · exact run_u h.2 g.2
    · exact absurd h.1 g.2.1
    · exact absurd g.1 h.1
    · exact absurd g.1 h.2.1
    · exact h.2.2.trans g.2.2.symm
theorem toks_c {B B' : Nat → Int32} {n p st : Nat} (e : ∀ i, i < n → B i = B' i) (h : TokS B n p st) : TokS B' n p st := by
  refine ⟨h.1, h.2.1, fun i h1 h2 => ?_, ?_⟩
  · have := h.2.1
    rw [← e i (by omega)]
    exact h.2.2.1 i h1 h2
  · rcases h.2.2.2 with w | w
    · exact Or.inl w
    · by_cases q : st = n
      · exact Or.inl q
      · have := h.2.1
        refine Or.inr ?_
        rw [← e st (by omega)]
        exact w
theorem run_c {P : Int32 → Prop} {B B' : Nat → Int32} {n st en : Nat} (e : ∀ i, i < n → B i = B' i) (h : RunE P B n st en) : RunE P B' n st en := by
  refine ⟨h.1, h.2.1, fun i h1 h2 => ?_, ?_⟩
  · have := h.2.1
    rw [← e i (by omega)]
    exact h.2.2.1 i h1 h2
  · rcases h.2.2.2 with w | w
    · exact Or.inl w
    · by_cases q : en = n
      · exact Or.inl q
      · have := h.2.1
        refine Or.inr ?_
        rw [← e en (by omega)]
        exact w
theorem toke_c {B B' : Nat → Int32} {n st en : Nat} (e : ∀ i, i < n → B i = B' i) (h : TokE B n st en) : TokE B' n st en := by
  rcases h with h | ⟨h1, h⟩
  · exact Or.inl h
  · refine Or.inr ⟨h1, ?_⟩
    rw [← e st h1]
    rcases h with h | h | h
    · exact Or.inl ⟨h.1, run_c e h.2⟩
    · exact Or.inr (Or.inl ⟨h.1, run_c e h.2⟩)
    · exact Or.inr (Or.inr h)
/-! names: both ways to pack them -/
def p27 (B : Nat → Int32) (st : Nat) : Nat → Int64
  | 0 => 0
  | k + 1 => ((p27 B st k * 27 + (B (st + k)).toInt64) - 97) + 1
def p256 (B : Nat → Int32) (st : Nat) : Nat → Int64
  | 0 => 0
  | k + 1 => (p256 B st k <<< ((8 : Int32).toInt64 &&& 63)) ||| (B (st + k)).toInt64
def q27 (B : Nat → Int32) (st : Nat) : Nat → Nat
  | 0 => 0
  | k + 1 => q27 B st k * 27 + ((B (st + k)).toInt.toNat - 96)
def q256 (B : Nat → Int32) (st : Nat) : Nat → Nat
  | 0 => 0
  | k + 1 => q256 B st k * 256 + (B (st + k)).toInt.toNat
def Lets (B : Nat → Int32) (st k : Nat) : Prop := ∀ i, st ≤ i → i < st + k → isL (B i)
theorem lets_s {B : Nat → Int32} {st k : Nat} (h : Lets B st (k + 1)) : Lets B st k ∧ isL (B (st + k)) := ⟨fun i h1 h2 => h i h1 (by omega), h (st + k) (by omega) (by omega)⟩
theorem i64_add (a b : Int64) : (a + b).toInt = (a.toInt + b.toInt + 9223372036854775808) % 18446744073709551616 - 9223372036854775808 := by
  rw [Int64.toInt_add]; exact bm64 _
theorem i64_sub (a b : Int64) : (a - b).toInt = (a.toInt - b.toInt + 9223372036854775808) % 18446744073709551616 - 9223372036854775808 := by
  rw [Int64.toInt_sub]; exact bm64 _
theorem i64_mul (a b : Int64) : (a * b).toInt = (a.toInt * b.toInt + 9223372036854775808) % 18446744073709551616 - 9223372036854775808 := by
  rw [Int64.toInt_mul]; exact bm64 _
theorem q27_b {B : Nat → Int32} {st : Nat} : ∀ k, Lets B st k → q27 B st k < 27 ^ k
  | 0, _ => Nat.zero_lt_one
  | k + 1, h => by
    have ⟨h1, h2⟩ := lets_s h
    have g := q27_b k h1
    have a := h2.1
    have b := h2.2
    unfold q27
    rw [Nat.pow_succ]
    omega
theorem q256_b {B : Nat → Int32} {st : Nat} : ∀ k, Lets B st k → q256 B st k < 256 ^ k
  | 0, _ => Nat.zero_lt_one
  | k + 1, h => by
    have ⟨h1, h2⟩ := lets_s h
    have g := q256_b k h1
    have a := h2.1
    have b := h2.2
    unfold q256
    rw [Nat.pow_succ]
    omega
theorem q256_h {B : Nat → Int32} {st : Nat} : ∀ k, Lets B st k → 2 * q256 B st k < 256 ^ k
  | 0, _ => Nat.zero_lt_one
  | k + 1, h => by
    have ⟨h1, h2⟩ := lets_s h
    have g := q256_h k h1
    have a := h2.1
    have b := h2.2
    unfold q256
    rw [Nat.pow_succ]
    omega
theorem pw27 {k : Nat} (h : k ≤ 8) : 27 ^ k ≤ 282429536481 := by
  have : k = 0 ∨ k = 1 ∨ k = 2 ∨ k = 3 ∨ k = 4 ∨ k = 5 ∨ k = 6 ∨ k = 7 ∨ k = 8 := by omega
  rcases this with e | e | e | e | e | e | e | e | e <;> subst e <;> decide
theorem pw256 {k : Nat} (h : k ≤ 8) : 256 ^ k ≤ 18446744073709551616 := by
  have : k = 0 ∨ k = 1 ∨ k = 2 ∨ k = 3 ∨ k = 4 ∨ k = 5 ∨ k = 6 ∨ k = 7 ∨ k = 8 := by omega
  rcases this with e | e | e | e | e | e | e | e | e <;> subst e <;> decide
theorem p27_q {B : Nat → Int32} {st : Nat} : ∀ k, k ≤ 8 → Lets B st k → (p27 B st k).toInt = (q27 B st k : Int)
  | 0, _, _ => rfl
  | k + 1, hk, h => by
    have ⟨h1, h2⟩ := lets_s h
    have g := p27_q k (by omega) h1
    have b := q27_b k h1
    have w := pw27 (k := k) (by omega)
    have a1 := h2.1
    have a2 := h2.2
    unfold p27 q27
    have e0 : (B (st + k)).toInt64.toInt = (B (st + k)).toInt := Int32.toInt_toInt64 _
    have e27 : (27 : Int64).toInt = 27 := rfl
    have e97 : (97 : Int64).toInt = 97 := rfl
    have e1 : (1 : Int64).toInt = 1 := rfl
    have m := i64_mul (p27 B st k) 27
    have s1 := i64_add (p27 B st k * 27) (B (st + k)).toInt64
    have s2 := i64_sub (p27 B st k * 27 + (B (st + k)).toInt64) 97
    have s3 := i64_add (p27 B st k * 27 + (B (st + k)).toInt64 - 97) 1
    rw [g, e27] at m
    have m' : (p27 B st k * 27).toInt = (q27 B st k : Int) * 27 := by omega
    omega
theorem i64_sh8 (v b : Int64) (hv : 0 ≤ v.toInt ∧ v.toInt < 36028797018963968) (hb : 0 ≤ b.toInt ∧ b.toInt < 256) : ((v <<< ((8 : Int32).toInt64 &&& 63)) ||| b).toInt = v.toInt * 256 + b.toInt := by
  have hs : ((8 : Int32).toInt64 &&& 63) = (8 : Int64) := by decide
  rw [hs]
  have ev : v.toInt = v.toBitVec.toInt := rfl
  have eb : b.toInt = b.toBitVec.toInt := rfl
  have er : ((v <<< (8 : Int64)) ||| b).toInt = (((v.toBitVec <<< 8) ||| b.toBitVec)).toInt := by
    have : ((v <<< (8 : Int64)) ||| b).toBitVec = (v.toBitVec <<< 8) ||| b.toBitVec := by
      first
        | rfl
        | (rw [Int64.toBitVec_or, Int64.toBitVec_shiftLeft, BitVec.shiftLeft_eq']; rfl)
    show ((v <<< (8 : Int64)) ||| b).toBitVec.toInt = _
    rw [this]
  have cv := BitVec.toInt_eq_toNat_cond v.toBitVec
  have cb := BitVec.toInt_eq_toNat_cond b.toBitVec
  have cr := BitVec.toInt_eq_toNat_cond ((v.toBitVec <<< 8) ||| b.toBitVec)
  have lv := v.toBitVec.isLt
  have lb := b.toBitVec.isLt
  have nv : v.toBitVec.toNat = v.toInt.toNat := by split at cv <;> omega
  have nb : b.toBitVec.toNat = b.toInt.toNat := by split at cb <;> omega
  have sh : (v.toBitVec <<< 8).toNat = v.toBitVec.toNat * 256 := by
    rw [BitVec.toNat_shiftLeft, Nat.shiftLeft_eq]
    rw [Nat.mod_eq_of_lt (by omega)]
  have nr : ((v.toBitVec <<< 8) ||| b.toBitVec).toNat = v.toBitVec.toNat * 256 + b.toBitVec.toNat := by
    rw [BitVec.toNat_or, sh]
    have q := Nat.two_pow_add_eq_or_of_lt (i := 8) (b := b.toBitVec.toNat) (by omega) v.toBitVec.toNat
    rw [Nat.mul_comm] at q
    exact q.symm
  rw [er]
  split at cr <;> omega
theorem p256_q {B : Nat → Int32} {st : Nat} : ∀ k, k ≤ 8 → Lets B st k → (p256 B st k).toInt = (q256 B st k : Int)
  | 0, _, _ => rfl
  | k + 1, hk, h => by
    have ⟨h1, h2⟩ := lets_s h
    have g := p256_q k (by omega) h1
    have b := q256_h k h1
    have w : 256 ^ k ≤ 72057594037927936 := by
      have : k = 0 ∨ k = 1 ∨ k = 2 ∨ k = 3 ∨ k = 4 ∨ k = 5 ∨ k = 6 ∨ k = 7 := by omega
      rcases this with e | e | e | e | e | e | e | e <;> subst e <;> decide
    have a1 := h2.1
    have a2 := h2.2
    have e0 : (B (st + k)).toInt64.toInt = (B (st + k)).toInt := Int32.toInt_toInt64 _
    unfold p256 q256
    rw [i64_sh8 _ _ (by omega) (by omega)]
    omega
theorem q27_i {B B' : Nat → Int32} {st st' : Nat} : ∀ k k', Lets B st k → Lets B' st' k' → q27 B st k = q27 B' st' k' → k = k' ∧ ∀ i, i < k → B (st + i) = B' (st' + i)
  | 0, 0, _, _, _ => ⟨rfl, fun i h => absurd h (Nat.not_lt_zero i)⟩
  | 0, k' + 1, _, h', e => by
    exfalso
    have ⟨h1, h2⟩ := lets_s h'
    have := h2.1
    unfold q27 at e
    omega
  | k + 1, 0, h, _, e => by
    exfalso
    have ⟨h1, h2⟩ := lets_s h
    have := h2.1
    unfold q27 at e
    omega
  | k + 1, k' + 1, h, h', e => by
    have ⟨h1, h2⟩ := lets_s h
    have ⟨h1', h2'⟩ := lets_s h'
    have a := h2.1
    have b := h2.2
    have a' := h2'.1
    have b' := h2'.2
    unfold q27 at e
    have ⟨g1, g2⟩ := q27_i k k' h1 h1' (by omega)
    subst g1
    refine ⟨rfl, fun i hi => ?_⟩
    by_cases q : i = k
    · subst q
      exact Int32.toInt_inj.mp (by omega)
    · exact g2 i (by omega)
theorem q256_i {B B' : Nat → Int32} {st st' : Nat} : ∀ k k', Lets B st k → Lets B' st' k' → q256 B st k = q256 B' st' k' → k = k' ∧ ∀ i, i < k → B (st + i) = B' (st' + i)
  | 0, 0, _, _, _ => ⟨rfl, fun i h => absurd h (Nat.not_lt_zero i)⟩
  | 0, k' + 1, _, h', e => by
    exfalso
    have ⟨h1, h2⟩ := lets_s h'
    have := h2.1
    unfold q256 at e
    omega
  | k + 1, 0, h, _, e => by
    exfalso
    have ⟨h1, h2⟩ := lets_s h
    have := h2.1
    unfold q256 at e
    omega
  | k + 1, k' + 1, h, h', e => by
    have ⟨h1, h2⟩ := lets_s h
    have ⟨h1', h2'⟩ := lets_s h'
    have a := h2.1
    have b := h2.2
    have a' := h2'.1
    have b' := h2'.2
    unfold q256 at e
    have ⟨g1, g2⟩ := q256_i k k' h1 h1' (by omega)
    subst g1
    refine ⟨rfl, fun i hi => ?_⟩
    by_cases q : i = k
    · subst q
      exact Int32.toInt_inj.mp (by omega)
    · exact g2 i (by omega)
theorem p27_c {B B' : Nat → Int32} {st st' : Nat} : ∀ k, (∀ i, i < k → B (st + i) = B' (st' + i)) → p27 B st k = p27 B' st' k
  | 0, _ => rfl
  | k + 1, h => by
    unfold p27
    rw [p27_c k (fun i hi => h i (by omega)), h k (by omega)]
theorem p256_c {B B' : Nat → Int32} {st st' : Nat} : ∀ k, (∀ i, i < k → B (st + i) = B' (st' + i)) → p256 B st k = p256 B' st' k
  | 0, _ => rfl
  | k + 1, h => by
    unfold p256
    rw [p256_c k (fun i hi => h i (by omega)), h k (by omega)]
/-- the same name, packed in both ways -/
def NameR (a b : Int64) : Prop := ∃ (B : Nat → Int32) (st k : Nat), k ≤ 8 ∧ Lets B st k ∧ a = p27 B st k ∧ b = p256 B st k
theorem name_iff {a b a' b' : Int64} (h : NameR a b) (g : NameR a' b') : a = a' ↔ b = b' := by
  obtain ⟨B, st, k, hk, hl, e, f⟩ := h
  obtain ⟨B', st', k', hk', hl', e', f'⟩ := g
  subst e; subst f; subst e'; subst f'
  constructor
  · intro w
    have q : q27 B st k = q27 B' st' k' := by
      have h1 := p27_q k hk hl
      have h2 := p27_q k' hk' hl'
      rw [w] at h1
      omega
    have ⟨g1, g2⟩ := q27_i k k' hl hl' q
    subst g1
    exact p256_c k g2
  · intro w
    have q : q256 B st k = q256 B' st' k' := by
      have h1 := p256_q k hk hl
      have h2 := p256_q k' hk' hl'
      rw [w] at h1
      omega
    have ⟨g1, g2⟩ := q256_i k k' hl hl' q
    subst g1
    exact p27_c k g2
