/-! texts: tokens by their places -/
def isL (c : Int32) : Prop := 97 ≤ c.toInt ∧ c.toInt ≤ 122
def isD (c : Int32) : Prop := 48 ≤ c.toInt ∧ c.toInt ≤ 57
def isB (c : Int32) : Prop := c = 32 ∨ c = 10
def RunE (P : Int32 → Prop) (B : Nat → Int32) (n st en : Nat) : Prop := st < en ∧ en ≤ n ∧ (∀ i, st ≤ i → i < en → P (B i)) ∧ (en = n ∨ ¬ P (B en))
def TokE (B : Nat → Int32) (n st en : Nat) : Prop := (st = n ∧ en = n) ∨ (st < n ∧ ((isL (B st) ∧ RunE isL B n st en) ∨ (isD (B st) ∧ RunE isD B n st en) ∨ (¬ isL (B st) ∧ ¬ isD (B st) ∧ en = st + 1)))
def TokS (B : Nat → Int32) (n p st : Nat) : Prop := p ≤ st ∧ st ≤ n ∧ (∀ i, p ≤ i → i < st → isB (B i)) ∧ (st = n ∨ ¬ isB (B st))
theorem isL_nB {c : Int32} (h : isL c) : ¬ isB c := by
  rintro (e | e) <;> subst e <;> exact absurd h.1 (by decide)
theorem isL_nD {c : Int32} (h : isL c) : ¬ isD c := fun g => by
  have := h.1
  have := g.2
  omega
theorem isD_nB {c : Int32} (h : isD c) : ¬ isB c := by
  rintro (e | e) <;> subst e <;> exact absurd h.1 (by decide)
theorem toks_u {B : Nat → Int32} {n p st st' : Nat} (h : TokS B n p st) (g : TokS B n p st') : st = st' := by
  rcases Nat.lt_trichotomy st st' with q | q | q
  · exfalso
    rcases h.2.2.2 with w | w
    · have := g.2.1
      omega
    · exact w (g.2.2.1 st h.1 q)
  · exact q
  · exfalso
    rcases g.2.2.2 with w | w
    · have := h.2.1
      omega
    · exact w (h.2.2.1 st' g.1 q)
theorem run_u {P : Int32 → Prop} {B : Nat → Int32} {n st en en' : Nat} (h : RunE P B n st en) (g : RunE P B n st en') : en = en' := by
  rcases Nat.lt_trichotomy en en' with q | q | q
  · exfalso
    rcases h.2.2.2 with w | w
    · have := g.2.1
      omega
    · exact w (g.2.2.1 en (Nat.le_of_lt h.1) q)
  · exact q
  · exfalso
    rcases g.2.2.2 with w | w
    · have := h.2.1
      omega
    · exact w (h.2.2.1 en' (Nat.le_of_lt g.1) q)
theorem toke_u {B : Nat → Int32} {n st en en' : Nat} (h : TokE B n st en) (g : TokE B n st en') : en = en' := by
  rcases h with h | ⟨h1, h⟩ <;> rcases g with g | ⟨g1, g⟩
  · omega
  · omega
  · omega
  · rcases h with h | h | h <;> rcases g with g | g | g
    · exact run_u h.2 g.2
    · exact absurd g.1 (isL_nD h.1)
    · exact absurd h.1 g.1
    · exact absurd h.1 (isL_nD g.1)
    · exact run_u h.2 g.2
    · exact absurd h.1 g.2.1
    · exact absurd g.1 h.1
    · exact absurd g.1 h.2.1
    · exact h.2.2.trans g.2.2.symm
theorem toks_c {B B' : Nat → Int32} {n p st : Nat} (e : ∀ i, i < n → B i = B' i) (h : TokS B n p st) : TokS B' n p st := by
  refine ⟨h.1, h.2.1, fun i h1 h2 => ?_, ?_⟩
  · have := h.2.1
    rw [← e i (by omega)]
    exact h.2.2.1 i h1 h2
  · rcases h.2.2.2 with w | w
    · exact Or.inl w
    · by_cases q : st = n
      · exact Or.inl q
      · have := h.2.1
        refine Or.inr ?_
        rw [← e st (by omega)]
        exact w
theorem run_c {P : Int32 → Prop} {B B' : Nat → Int32} {n st en : Nat} (e : ∀ i, i < n → B i = B' i) (h : RunE P B n st en) : RunE P B' n st en := by
  refine ⟨h.1, h.2.1, fun i h1 h2 => ?_, ?_⟩
  · have := h.2.1
    rw [← e i (by omega)]
    exact h.2.2.1 i h1 h2
  · rcases h.2.2.2 with w | w
    · exact Or.inl w
    · by_cases q : en = n
      · exact Or.inl q
      · have := h.2.1
        refine Or.inr ?_
        rw [← e en (by omega)]
        exact w
theorem toke_c {B B' : Nat → Int32} {n st en : Nat} (e : ∀ i, i < n → B i = B' i) (h : TokE B n st en) : TokE B' n st en := by
  rcases h with h | ⟨h1, h⟩
  · exact Or.inl h
  · refine Or.inr ⟨h1, ?_⟩
    rw [← e st h1]
    rcases h with h | h | h
    · exact Or.inl ⟨h.1, run_c e h.2⟩
    · exact Or.inr (Or.inl ⟨h.1, run_c e h.2⟩)
    · exact Or.inr (Or.inr h)
/-! names: both ways to pack them -/
def p27 (B : Nat → Int32) (st : Nat) : Nat → Int64
  | 0 => 0
  | k + 1 => ((p27 B st k * 27 + (B (st + k)).toInt64) - 97) + 1
def p256 (B : Nat → Int32) (st : Nat) : Nat → Int64
  | 0 => 0
  | k + 1 => (p256 B st k <<< ((8 : Int32).toInt64 &&& 63)) ||| (B (st + k)).toInt64
def q27 (B : Nat → Int32) (st : Nat) : Nat → Nat
  | 0 => 0
  | k + 1 => q27 B st k * 27 + ((B (st + k)).toInt.toNat - 96)
def q256 (B : Nat → Int32) (st : Nat) : Nat → Nat
  | 0 => 0
  | k + 1 => q256 B st k * 256 + (B (st + k)).toInt.toNat
def Lets (B : Nat → Int32) (st k : Nat) : Prop := ∀ i, st ≤ i → i < st + k → isL (B i)
theorem lets_s {B : Nat → Int32} {st k : Nat} (h : Lets B st (k + 1)) : Lets B st k ∧ isL (B (st + k)) := ⟨fun i h1 h2 => h i h1 (by omega), h (st + k) (by omega) (by omega)⟩
theorem i64_add (a b : Int64) : (a + b).toInt = (a.toInt + b.toInt + 9223372036854775808) % 18446744073709551616 - 9223372036854775808 := by
  rw [Int64.toInt_add]; exact bm64 _
theorem i64_sub (a b : Int64) : (a - b).toInt = (a.toInt - b.toInt + 9223372036854775808) % 18446744073709551616 - 9223372036854775808 := by
  rw [Int64.toInt_sub]; exact bm64 _
theorem i64_mul (a b : Int64) : (a * b).toInt = (a.toInt * b.toInt + 9223372036854775808) % 18446744073709551616 - 9223372036854775808 := by
  rw [Int64.toInt_mul]; exact bm64 _
theorem q27_b {B : Nat → Int32} {st : Nat} : ∀ k, Lets B st k → q27 B st k < 27 ^ k
  | 0, _ => Nat.zero_lt_one
  | k + 1, h => by
    have ⟨h1, h2⟩ := lets_s h
    have g := q27_b k h1
    have a := h2.1
    have b := h2.2
    unfold q27
    rw [Nat.pow_succ]
    omega
theorem q256_b {B : Nat → Int32} {st : Nat} : ∀ k, Lets B st k → q256 B st k < 256 ^ k
  | 0, _ => Nat.zero_lt_one
  | k + 1, h => by
    have ⟨h1, h2⟩ := lets_s h
    have g := q256_b k h1
    have a := h2.1
    have b := h2.2
    unfold q256
    rw [Nat.pow_succ]
    omega
theorem q256_h {B : Nat → Int32} {st : Nat} : ∀ k, Lets B st k → 2 * q256 B st k < 256 ^ k
  | 0, _ => Nat.zero_lt_one
  | k + 1, h => by
    have ⟨h1, h2⟩ := lets_s h
    have g := q256_h k h1
    have a := h2.1
    have b := h2.2
    unfold q256
    rw [Nat.pow_succ]
    omega
theorem pw27 {k : Nat} (h : k ≤ 8) : 27 ^ k ≤ 282429536481 := by
  have : k = 0 ∨ k = 1 ∨ k = 2 ∨ k = 3 ∨ k = 4 ∨ k = 5 ∨ k = 6 ∨ k = 7 ∨ k = 8 := by omega
  rcases this with e | e | e | e | e | e | e | e | e <;> subst e <;> decide
theorem pw256 {k : Nat} (h : k ≤ 8) : 256 ^ k ≤ 18446744073709551616 := by
  have : k = 0 ∨ k = 1 ∨ k = 2 ∨ k = 3 ∨ k = 4 ∨ k = 5 ∨ k = 6 ∨ k = 7 ∨ k = 8 := by omega
  rcases this with e | e | e | e | e | e | e | e | e <;> subst e <;> decide
theorem p27_q {B : Nat → Int32} {st : Nat} : ∀ k, k ≤ 8 → Lets B st k → (p27 B st k).toInt = (q27 B st k : Int)
  | 0, _, _ => rfl
  | k + 1, hk, h => by
    have ⟨h1, h2⟩ := lets_s h
    have g := p27_q k (by omega) h1
    have b := q27_b k h1
    have w := pw27 (k := k) (by omega)
    have a1 := h2.1
    have a2 := h2.2
    unfold p27 q27
    have e0 : (B (st + k)).toInt64.toInt = (B (st + k)).toInt := Int32.toInt_toInt64 _
    have e27 : (27 : Int64).toInt = 27 := rfl
    have e97 : (97 : Int64).toInt = 97 := rfl
    have e1 : (1 : Int64).toInt = 1 := rfl
    have m := i64_mul (p27 B st k) 27
    have s1 := i64_add (p27 B st k * 27) (B (st + k)).toInt64
    have s2 := i64_sub (p27 B st k * 27 + (B (st + k)).toInt64) 97
    have s3 := i64_add (p27 B st k * 27 + (B (st + k)).toInt64 - 97) 1
    rw [g, e27] at m
    have m' : (p27 B st k * 27).toInt = (q27 B st k : Int) * 27 := by omega
    omega
theorem i64_sh8 (v b : Int64) (hv : 0 ≤ v.toInt ∧ v.toInt < 36028797018963968) (hb : 0 ≤ b.toInt ∧ b.toInt < 256) : ((v <<< ((8 : Int32).toInt64 &&& 63)) ||| b).toInt = v.toInt * 256 + b.toInt := by
  have hs : ((8 : Int32).toInt64 &&& 63) = (8 : Int64) := by decide
  rw [hs]
  have ev : v.toInt = v.toBitVec.toInt := rfl
  have eb : b.toInt = b.toBitVec.toInt := rfl
  have er : ((v <<< (8 : Int64)) ||| b).toInt = (((v.toBitVec <<< 8) ||| b.toBitVec)).toInt := by
    have : ((v <<< (8 : Int64)) ||| b).toBitVec = (v.toBitVec <<< 8) ||| b.toBitVec := by
      first
        | rfl
        | (rw [Int64.toBitVec_or, Int64.toBitVec_shiftLeft, BitVec.shiftLeft_eq']; rfl)
    show ((v <<< (8 : Int64)) ||| b).toBitVec.toInt = _
    rw [this]
  have cv := BitVec.toInt_eq_toNat_cond v.toBitVec
  have cb := BitVec.toInt_eq_toNat_cond b.toBitVec
  have cr := BitVec.toInt_eq_toNat_cond ((v.toBitVec <<< 8) ||| b.toBitVec)
  have lv := v.toBitVec.isLt
  have lb := b.toBitVec.isLt
  have nv : v.toBitVec.toNat = v.toInt.toNat := by split at cv <;> omega
  have nb : b.toBitVec.toNat = b.toInt.toNat := by split at cb <;> omega
  have sh : (v.toBitVec <<< 8).toNat = v.toBitVec.toNat * 256 := by
    rw [BitVec.toNat_shiftLeft, Nat.shiftLeft_eq]
    rw [Nat.mod_eq_of_lt (by omega)]
  have nr : ((v.toBitVec <<< 8) ||| b.toBitVec).toNat = v.toBitVec.toNat * 256 + b.toBitVec.toNat := by
    rw [BitVec.toNat_or, sh]
    have q := Nat.two_pow_add_eq_or_of_lt (i := 8) (b := b.toBitVec.toNat) (by omega) v.toBitVec.toNat
    rw [Nat.mul_comm] at q
    exact q.symm
  rw [er]
  split at cr <;> omega
theorem p256_q {B : Nat → Int32} {st : Nat} : ∀ k, k ≤ 8 → Lets B st k → (p256 B st k).toInt = (q256 B st k : Int)
  | 0, _, _ => rfl
  | k + 1, hk, h => by
    have ⟨h1, h2⟩ := lets_s h
    have g := p256_q k (by omega) h1
    have b := q256_h k h1
    have w : 256 ^ k ≤ 72057594037927936 := by
      have : k = 0 ∨ k = 1 ∨ k = 2 ∨ k = 3 ∨ k = 4 ∨ k = 5 ∨ k = 6 ∨ k = 7 := by omega
      rcases this with e | e | e | e | e | e | e | e <;> subst e <;> decide
    have a1 := h2.1
    have a2 := h2.2
    have e0 : (B (st + k)).toInt64.toInt = (B (st + k)).toInt := Int32.toInt_toInt64 _
    unfold p256 q256
    rw [i64_sh8 _ _ (by omega) (by omega)]
    omega
theorem q27_i {B B' : Nat → Int32} {st st' : Nat} : ∀ k k', Lets B st k → Lets B' st' k' → q27 B st k = q27 B' st' k' → k = k' ∧ ∀ i, i < k → B (st + i) = B' (st' + i)
  | 0, 0, _, _, _ => ⟨rfl, fun i h => absurd h (Nat.not_lt_zero i)⟩
  | 0, k' + 1, _, h', e => by
    exfalso
    have ⟨h1, h2⟩ := lets_s h'
    have := h2.1
    unfold q27 at e
    omega
  | k + 1, 0, h, _, e => by
    exfalso
    have ⟨h1, h2⟩ := lets_s h
    have := h2.1
    unfold q27 at e
    omega
  | k + 1, k' + 1, h, h', e => by
    have ⟨h1, h2⟩ := lets_s h
    have ⟨h1', h2'⟩ := lets_s h'
    have a := h2.1
    have b := h2.2
    have a' := h2'.1
    have b' := h2'.2
    unfold q27 at e
    have ⟨g1, g2⟩ := q27_i k k' h1 h1' (by omega)
    subst g1
    refine ⟨rfl, fun i hi => ?_⟩
    by_cases q : i = k
    · subst q
      exact Int32.toInt_inj.mp (by omega)
    · exact g2 i (by omega)
theorem q256_i {B B' : Nat → Int32} {st st' : Nat} : ∀ k k', Lets B st k → Lets B' st' k' → q256 B st k = q256 B' st' k' → k = k' ∧ ∀ i, i < k → B (st + i) = B' (st' + i)
  | 0, 0, _, _, _ => ⟨rfl, fun i h => absurd h (Nat.not_lt_zero i)⟩
  | 0, k' + 1, _, h', e => by
    exfalso
    have ⟨h1, h2⟩ := lets_s h'
    have := h2.1
    unfold q256 at e
    omega
  | k + 1, 0, h, _, e => by
    exfalso
    have ⟨h1, h2⟩ := lets_s h
    have := h2.1
    unfold q256 at e
    omega
  | k + 1, k' + 1, h, h', e => by
    have ⟨h1, h2⟩ := lets_s h
    have ⟨h1', h2'⟩ := lets_s h'
    have a := h2.1
    have b := h2.2
    have a' := h2'.1
    have b' := h2'.2
    unfold q256 at e
    have ⟨g1, g2⟩ := q256_i k k' h1 h1' (by omega)
    subst g1
    refine ⟨rfl, fun i hi => ?_⟩
    by_cases q : i = k
    · subst q
      exact Int32.toInt_inj.mp (by omega)
    · exact g2 i (by omega)
theorem p27_c {B B' : Nat → Int32} {st st' : Nat} : ∀ k, (∀ i, i < k → B (st + i) = B' (st' + i)) → p27 B st k = p27 B' st' k
  | 0, _ => rfl
  | k + 1, h => by
    unfold p27
    rw [p27_c k (fun i hi => h i (by omega)), h k (by omega)]
theorem p256_c {B B' : Nat → Int32} {st st' : Nat} : ∀ k, (∀ i, i < k → B (st + i) = B' (st' + i)) → p256 B st k = p256 B' st' k
  | 0, _ => rfl
  | k + 1, h => by
    unfold p256
    rw [p256_c k (fun i hi => h i (by omega)), h k (by omega)]
/-- the same name, packed in both ways -/
def NameR (a b : Int64) : Prop := ∃ (B : Nat → Int32) (st k : Nat), k ≤ 8 ∧ Lets B st k ∧ a = p27 B st k ∧ b = p256 B st k
theorem name_iff {a b a' b' : Int64} (h : NameR a b) (g : NameR a' b') : a = a' ↔ b = b' := by
  obtain ⟨B, st, k, hk, hl, e, f⟩ := h
  obtain ⟨B', st', k', hk', hl', e', f'⟩ := g
  subst e; subst f; subst e'; subst f'
  constructor
  · intro w
    have q : q27 B st k = q27 B' st' k' := by
      have h1 := p27_q k hk hl
      have h2 := p27_q k' hk' hl'
      rw [w] at h1
      omega
    have ⟨g1, g2⟩ := q27_i k k' hl hl' q
    subst g1
    exact p256_c k g2
  · intro w
    have q : q256 B st k = q256 B' st' k' := by
      have h1 := p256_q k hk hl
      have h2 := p256_q k' hk' hl'
      rw [w] at h1
      omega
    have ⟨g1, g2⟩ := q256_i k k' hl hl' q
    subst g1
    exact p27_c k g2
/-! texts: the class's tokens -/
theorem il_p (a : Int32) (s : Sg) : PQ (f_X7_isLetter a s) (fun r s9 => s9 = s ∧ ((r = 1 ∧ isL a) ∨ (r = 0 ∧ ¬ isL a))) := by
  have e1 : (97 : Int32).toInt = 97 := rfl
  have e2 : (122 : Int32).toInt = 122 := rfl
  unfold f_X7_isLetter isL
  refine pq_if (fun c => pq_s ⟨rfl, Or.inr ⟨rfl, ?_⟩⟩) (fun c => pq_if (fun c2 => pq_s ⟨rfl, Or.inr ⟨rfl, ?_⟩⟩) (fun c2 => pq_s ⟨rfl, Or.inl ⟨rfl, ?_, ?_⟩⟩))
  · have := i_lt c
    omega
  · have := i_lt c2
    omega
  · have := i_nlt c
    omega
  · have := i_nlt c2
    omega
theorem id_p (a : Int32) (s : Sg) : PQ (f_X7_isDigit a s) (fun r s9 => s9 = s ∧ ((r = 1 ∧ isD a) ∨ (r = 0 ∧ ¬ isD a))) := by
  have e1 : (48 : Int32).toInt = 48 := rfl
  have e2 : (57 : Int32).toInt = 57 := rfl
  unfold f_X7_isDigit isD
  refine pq_if (fun c => pq_s ⟨rfl, Or.inr ⟨rfl, ?_⟩⟩) (fun c => pq_if (fun c2 => pq_s ⟨rfl, Or.inr ⟨rfl, ?_⟩⟩) (fun c2 => pq_s ⟨rfl, Or.inl ⟨rfl, ?_, ?_⟩⟩))
  · have := i_lt c
    omega
  · have := i_lt c2
    omega
  · have := i_nlt c
    omega
  · have := i_nlt c2
    omega
theorem r1_y {P : Prop} {r : Int32} (h : (r = 1 ∧ P) ∨ (r = 0 ∧ ¬ P)) (c : ¬ r = 0) : P := by
  rcases h with q | q
  · exact q.2
  · exact absurd q.1 c
theorem r1_n {P : Prop} {r : Int32} (h : (r = 1 ∧ P) ∨ (r = 0 ∧ ¬ P)) (c : r = 0) : ¬ P := by
  rcases h with q | q
  · exact absurd (q.1.symm.trans c) (by decide)
  · exact q.2
/-- the token's state: text, length, start, next -/
def TkA (B : Nat → Int32) (n : Nat) (s : Sg) : Prop := s.1 1 = B ∧ (s.1 7 1).toInt = (n : Int) ∧ n ≤ 900
theorem cw_b (B : Nat → Int32) (n st : Nat) (m : Nat) : ∀ (i : Nat) (s : Sg), TkA B n s → (s.1 7 4).toInt = (st : Int) → (s.1 7 2).toInt = (i : Int) → st ≤ i → i ≤ n → (∀ j, st ≤ j → j < i → isL (B j)) → s.2 7 6 = p27 B st (min (i - st) 8) → PQ (f_X7_cutWord_b5 m s) (fun _ s9 => ∃ en : Nat, i ≤ en ∧ en ≤ n ∧ (∀ j, st ≤ j → j < en → isL (B j)) ∧ (en = n ∨ ¬ isL (B en)) ∧ (s9.1 7 2).toInt = (en : Int) ∧ s9.2 7 6 = p27 B st (min (en - st) 8)) := by
  induction m with
  | zero => intro i s _ _ _ _ _ _ _ r s9 e; cases e
  | succ m ih =>
    intro i s ha h4 h2 h1 h3 hl hp
    obtain ⟨hB, hn, h9⟩ := ha
    have e1 : (1 : Int32).toInt = 1 := rfl
    have e8 : (8 : Int32).toInt = 8 := rfl
    have cl := cl_nat (s.1 7 2)
    have d : (s.1 7 2).toNatClampNeg = i := by omega
    unfold f_X7_cutWord_b5
    refine pq_if (fun c => pq_s ⟨i, Nat.le_refl _, h3, hl, Or.inl ?_, h2, hp⟩) (fun c => pq_c (fun _ => pq_b (il_p _ s) (fun r2 s3 g => ?_)))
    · have := i_le c
      omega
    · have c := i_nle c
      obtain ⟨es, g⟩ := g
      subst es
      rw [hB, d] at g
      have a1 : ((s3.1 7 2) + 1).toInt = (s3.1 7 2).toInt + 1 := i_addx (s3.1 7 2) 1 (show -2147483648 ≤ (s3.1 7 2).toInt + 1 ∧ (s3.1 7 2).toInt + 1 ≤ 2147483647 from by omega)
      refine pq_if (fun c2 => pq_s ⟨i, Nat.le_refl _, h3, hl, Or.inr (r1_n g c2), h2, hp⟩) (fun c2 => ?_)
      have hi : isL (B i) := r1_y g c2
      have hl' : ∀ j, st ≤ j → j < i + 1 → isL (B j) := fun j j1 j2 => by
        by_cases q : j = i
        · rw [q]; exact hi
        · exact hl j j1 (by omega)
      have sb := i_sub (s3.1 7 2) (s3.1 7 4)
      refine pq_if (fun c8 => ?_) (fun c8 => pq_c (fun _ => pq_n (fun s5 e5 => ?_)))
      · have c8 := i_le c8
        refine pq_w (ih (i + 1) _ ⟨by rw [p_ne1 rfl]; exact hB, by rw [q_ne rfl]; exact hn, h9⟩ (by rw [q_ne rfl]; exact h4) (by rw [q_eq, a1]; omega) (by omega) (by omega) hl' ?_) (fun _ s9 w => ?_)
        · show s3.2 7 6 = _
          rw [hp]
          congr 1
          omega
        · obtain ⟨en, w1, w2⟩ := w
          exact ⟨en, by omega, w2⟩
      · have c8 := i_nle c8
        refine pq_w (ih (i + 1) _ ⟨by rw [p_ne1 rfl, e5]; exact hB, by rw [q_ne rfl, e5]; exact hn, h9⟩ (by rw [q_ne rfl, e5]; exact h4) (by rw [q_eq, e5]; show ((s3.1 7 2) + 1).toInt = _; rw [a1]; omega) (by omega) (by omega) hl' ?_) (fun _ s9 w => ?_)
        · show s5.2 7 6 = _
          rw [e5, pL_2, if_pos ⟨rfl, rfl⟩, hp, hB, d]
          have k1 : min (i - st) 8 = i - st := by omega
          have k2 : min (i + 1 - st) 8 = (i - st) + 1 := by omega
          rw [k1, k2]
          show _ = ((p27 B st (i - st) * 27 + (B (st + (i - st))).toInt64) - 97) + 1
          have k3 : st + (i - st) = i := by omega
          rw [k3]
        · obtain ⟨en, w1, w2⟩ := w
          exact ⟨en, by omega, w2⟩
theorem cw_p (B : Nat → Int32) (n st : Nat) {s : Sg} (ha : TkA B n s) (h4 : (s.1 7 4).toInt = (st : Int)) (h2 : (s.1 7 2).toInt = (st : Int)) (h3 : st < n) (hl : isL (B st)) : PQ (f_X7_cutWord s) (fun _ s9 => ∃ en : Nat, RunE isL B n st en ∧ (s9.1 7 2).toInt = (en : Int) ∧ s9.2 7 6 = p27 B st (min (en - st) 8)) := by
  unfold f_X7_cutWord
  refine pq_w (cw_b B n st BIG st (pL s 7 6 0) ha h4 h2 (Nat.le_refl _) (Nat.le_of_lt h3) (fun j j1 j2 => by omega) ?_) (fun _ s9 w => ?_)
  · rw [pL_2, if_pos ⟨rfl, rfl⟩, Nat.sub_self]
    rfl
  · obtain ⟨en, w1, w2, w3, w4, w5⟩ := w
    refine ⟨en, ⟨?_, w2, w3, w4⟩, w5⟩
    rcases w4 with q | q
    · omega
    · by_cases e : en = st
      · subst e; exact absurd hl q
      · omega
/-- the number that stands there, by its first digits -/
def dv (B : Nat → Int32) (st : Nat) : Nat → Nat
  | 0 => 0
  | k + 1 => dv B st k * 10 + ((B (st + k)).toInt.toNat - 48)
def Digs (B : Nat → Int32) (st k : Nat) : Prop := ∀ i, st ≤ i → i < st + k → isD (B i)
theorem dv_b {B : Nat → Int32} {st : Nat} : ∀ k, Digs B st k → dv B st k < 10 ^ k
  | 0, _ => Nat.zero_lt_one
  | k + 1, h => by
    have g := dv_b k (fun i h1 h2 => h i h1 (by omega))
    have q := h (st + k) (by omega) (by omega)
    have a := q.1
    have b := q.2
    unfold dv
    rw [Nat.pow_succ]
    omega
theorem pw10 {k : Nat} (h : k ≤ 4) : 10 ^ k ≤ 10000 := by
  have : k = 0 ∨ k = 1 ∨ k = 2 ∨ k = 3 ∨ k = 4 := by omega
  rcases this with e | e | e | e | e <;> subst e <;> decide
theorem cn_b (B : Nat → Int32) (n st : Nat) (m : Nat) : ∀ (i : Nat) (s : Sg), TkA B n s → (s.1 7 4).toInt = (st : Int) → (s.1 7 2).toInt = (i : Int) → st ≤ i → i ≤ n → (∀ j, st ≤ j → j < i → isD (B j)) → (s.1 7 5).toInt = (dv B st (min (i - st) 4) : Int) → PQ (f_X7_cutNumber_b5 m s) (fun _ s9 => ∃ en : Nat, i ≤ en ∧ en ≤ n ∧ (∀ j, st ≤ j → j < en → isD (B j)) ∧ (en = n ∨ ¬ isD (B en)) ∧ (s9.1 7 2).toInt = (en : Int) ∧ ((en - st ≤ 4 ∧ s9.1 7 3 = 3 ∧ (s9.1 7 5).toInt = (dv B st (en - st) : Int)) ∨ (4 < en - st ∧ s9.1 7 3 = 4))) := by
  induction m with
  | zero => intro i s _ _ _ _ _ _ _ r s9 e; cases e
  | succ m ih =>
    intro i s ha h4 h2 h1 h3 hl hp
    obtain ⟨hB, hn, h9⟩ := ha
    have e1 : (1 : Int32).toInt = 1 := rfl
    have e4 : (4 : Int32).toInt = 4 := rfl
    have cl := cl_nat (s.1 7 2)
    have d : (s.1 7 2).toNatClampNeg = i := by omega
    have sb := i_sub (s.1 7 2) (s.1 7 4)
    have fin : (i = n ∨ ¬ isD (B i)) → PQ (f_X7_cutNumber_b81 s) (fun _ s9 => ∃ en : Nat, i ≤ en ∧ en ≤ n ∧ (∀ j, st ≤ j → j < en → isD (B j)) ∧ (en = n ∨ ¬ isD (B en)) ∧ (s9.1 7 2).toInt = (en : Int) ∧ ((en - st ≤ 4 ∧ s9.1 7 3 = 3 ∧ (s9.1 7 5).toInt = (dv B st (en - st) : Int)) ∨ (4 < en - st ∧ s9.1 7 3 = 4))) := by
      intro w
      unfold f_X7_cutNumber_b81
      refine pq_if (fun c => pq_s ⟨i, Nat.le_refl _, h3, hl, w, by rw [q_ne rfl]; exact h2, Or.inl ⟨?_, q_eq, ?_⟩⟩) (fun c => pq_s ⟨i, Nat.le_refl _, h3, hl, w, by rw [q_ne rfl]; exact h2, Or.inr ⟨?_, q_eq⟩⟩)
      · have := i_le c
        omega
      · have := i_le c
        rw [q_ne rfl, hp]
        have k : min (i - st) 4 = i - st := by omega
        rw [k]
      · have := i_nle c
        omega
    unfold f_X7_cutNumber_b5
    refine pq_if (fun c => fin (Or.inl ?_)) (fun c => pq_c (fun _ => pq_b (id_p _ s) (fun r2 s3 g => ?_)))
    · have := i_le c
      omega
    · have c := i_nle c
      obtain ⟨es, g⟩ := g
      subst es
      rw [hB, d] at g
      have a1 : ((s3.1 7 2) + 1).toInt = (s3.1 7 2).toInt + 1 := i_addx (s3.1 7 2) 1 (show -2147483648 ≤ (s3.1 7 2).toInt + 1 ∧ (s3.1 7 2).toInt + 1 ≤ 2147483647 from by omega)
      refine pq_if (fun c2 => fin (Or.inr (r1_n g c2))) (fun c2 => ?_)
      have hi : isD (B i) := r1_y g c2
      have hl' : ∀ j, st ≤ j → j < i + 1 → isD (B j) := fun j j1 j2 => by
        by_cases q : j = i
        · rw [q]; exact hi
        · exact hl j j1 (by omega)
      refine pq_if (fun c8 => ?_) (fun c8 => pq_c (fun _ => pq_n (fun s5 e5 => ?_)))
      · have c8 := i_le c8
        refine pq_w (ih (i + 1) _ ⟨by rw [p_ne1 rfl]; exact hB, by rw [q_ne rfl]; exact hn, h9⟩ (by rw [q_ne rfl]; exact h4) (by rw [q_eq, a1]; omega) (by omega) (by omega) hl' ?_) (fun _ s9 w => ?_)
        · rw [q_ne rfl, hp]
          have k1 : min (i - st) 4 = 4 := by omega
          have k2 : min (i + 1 - st) 4 = 4 := by omega
          rw [k1, k2]
        · obtain ⟨en, w1, w2⟩ := w
          exact ⟨en, by omega, w2⟩
      · have c8 := i_nle c8
        have k1 : min (i - st) 4 = i - st := by omega
        have k2 : min (i + 1 - st) 4 = (i - st) + 1 := by omega
        have k3 : st + (i - st) = i := by omega
        rw [k1] at hp
        have bd := dv_b (B := B) (st := st) (i - st) (fun j j1 j2 => hl j j1 (by omega))
        have b10 := pw10 (k := i - st) (by omega)
        have hi1 := hi.1
        have hi2 := hi.2
        have e10 : (10 : Int32).toInt = 10 := rfl
        have e48 : (48 : Int32).toInt = 48 := rfl
        have x1 : ((s3.1 7 5) * 10).toInt = (dv B st (i - st) : Int) * 10 := by
          have m1 := i_mul (s3.1 7 5) 10
          rw [hp, e10] at m1
          omega
        have x2 : (((s3.1 7 5) * 10) + (B i)).toInt = (dv B st (i - st) : Int) * 10 + (B i).toInt := by
          have m2 := i_add ((s3.1 7 5) * 10) (B i)
          rw [x1] at m2
          omega
        have x3 : ((((s3.1 7 5) * 10) + (B i)) - 48).toInt = (dv B st (i - st) : Int) * 10 + (B i).toInt - 48 := by
          have m3 := i_sub (((s3.1 7 5) * 10) + (B i)) 48
          rw [x2, e48] at m3
          omega
        refine pq_w (ih (i + 1) _ ⟨by rw [p_ne1 rfl, e5, p_ne1 rfl]; exact hB, by rw [q_ne rfl, e5, q_ne rfl]; exact hn, h9⟩ (by rw [q_ne rfl, e5, q_ne rfl]; exact h4) (by rw [q_eq, e5, q_ne rfl, a1]; omega) (by omega) (by omega) hl' ?_) (fun _ s9 w => ?_)
        · rw [q_ne rfl, e5, q_eq, hB, d, k2]
          unfold dv
          rw [k3]
          omega
        · obtain ⟨en, w1, w2⟩ := w
          exact ⟨en, by omega, w2⟩
theorem cn_p (B : Nat → Int32) (n st : Nat) {s : Sg} (ha : TkA B n s) (h4 : (s.1 7 4).toInt = (st : Int)) (h2 : (s.1 7 2).toInt = (st : Int)) (h3 : st < n) (hl : isD (B st)) : PQ (f_X7_cutNumber s) (fun _ s9 => ∃ en : Nat, RunE isD B n st en ∧ (s9.1 7 2).toInt = (en : Int) ∧ ((en - st ≤ 4 ∧ s9.1 7 3 = 3 ∧ (s9.1 7 5).toInt = (dv B st (en - st) : Int)) ∨ (4 < en - st ∧ s9.1 7 3 = 4))) := by
  unfold f_X7_cutNumber
  refine pq_w (cn_b B n st BIG st (pI s 7 5 0) ⟨by rw [p_ne1 rfl]; exact ha.1, by rw [q_ne rfl]; exact ha.2.1, ha.2.2⟩ (by rw [q_ne rfl]; exact h4) (by rw [q_ne rfl]; exact h2) (Nat.le_refl _) (Nat.le_of_lt h3) (fun j j1 j2 => by omega) ?_) (fun _ s9 w => ?_)
  · rw [q_eq, Nat.sub_self]
    rfl
  · obtain ⟨en, w1, w2, w3, w4, w5⟩ := w
    refine ⟨en, ⟨?_, w2, w3, w4⟩, w5⟩
    rcases w4 with q | q
    · omega
    · by_cases e : en = st
      · subst e; exact absurd hl q
      · omega
def isS (c : Int32) : Prop := c = 59 ∨ c = 60 ∨ c = 62 ∨ c = 61
theorem cs_p (B : Nat → Int32) (n st : Nat) {s : Sg} (ha : TkA B n s) (h2 : (s.1 7 2).toInt = (st : Int)) (h3 : st < n) : PQ (f_X7_cutSign s) (fun _ s9 => (s9.1 7 2).toInt = (st : Int) + 1 ∧ ((isS (B st) ∧ s9.1 7 3 = B st) ∨ (¬ isS (B st) ∧ s9.1 7 3 = 4))) := by
  obtain ⟨hB, hn, h9⟩ := ha
  have e1 : (1 : Int32).toInt = 1 := rfl
  have cl := cl_nat (s.1 7 2)
  have d : (s.1 7 2).toNatClampNeg = st := by omega
  have a1 : ((s.1 7 2) + 1).toInt = (s.1 7 2).toInt + 1 := i_addx (s.1 7 2) 1 (show -2147483648 ≤ (s.1 7 2).toInt + 1 ∧ (s.1 7 2).toInt + 1 ≤ 2147483647 from by omega)
  have fin : isS (B st) → PQ (f_X7_cutSign_b35 (B st) s) (fun _ s9 => (s9.1 7 2).toInt = (st : Int) + 1 ∧ ((isS (B st) ∧ s9.1 7 3 = B st) ∨ (¬ isS (B st) ∧ s9.1 7 3 = 4))) := by
    intro w
    unfold f_X7_cutSign_b35
    refine pq_n (fun s3 e3 => pq_s ⟨?_, Or.inl ⟨w, ?_⟩⟩)
    · rw [e3, q_eq, q_ne rfl, a1]; omega
    · rw [e3, q_ne rfl, q_eq]
  unfold f_X7_cutSign
  refine pq_c (fun _ => pq_n (fun x2 e2 => ?_))
  rw [hB, d] at e2
  subst e2
  refine pq_if (fun c => fin (Or.inl c)) (fun c1 => pq_if (fun c => fin (Or.inr (Or.inl c))) (fun c2 => pq_if (fun c => fin (Or.inr (Or.inr (Or.inl c)))) (fun c3 => pq_if (fun c => fin (Or.inr (Or.inr (Or.inr c)))) (fun c4 => pq_n (fun s4 e4 => pq_s ⟨?_, Or.inr ⟨?_, ?_⟩⟩)))))
  · rw [e4, q_eq, q_ne rfl, a1]; omega
  · rintro (w | w | w | w)
    · exact c1 w
    · exact c2 w
    · exact c3 w
    · exact c4 w
  · rw [e4, q_ne rfl, q_eq]
/-! words of the language -/
def KWC : List (List Int32) := [[104, 111, 117, 115, 101], [115, 97, 108, 116], [115, 117, 103, 97, 114], [103, 111, 110, 101], [113, 117, 97, 114, 114, 101, 108], [111, 102], [97, 110, 100], [110, 101, 101, 100, 115], [99, 97, 116], [102, 114, 111, 109], [116, 111], [116, 97, 107, 101, 115], [103, 114, 111, 99, 101, 114], [115, 116, 111, 99, 107], [112, 114, 105, 99, 101], [115, 119, 101, 101, 116], [114, 97, 105, 110], [119, 97, 115, 104, 101, 115], [99, 111, 117, 110, 116, 115], [98, 117, 121], [115, 116, 114, 101, 119], [115, 119, 101, 101, 112], [115, 110, 111, 119], [110, 105, 103, 104, 116], [119, 104, 101, 110], [111, 118, 101, 114], [116, 114, 117, 99, 101], [108, 105, 101, 115], [108, 111, 111, 112], [101, 110, 100], [115, 116, 111, 112]]
def KWM : List (List Int32) := [[104, 111, 117, 115, 101], [113, 117, 97, 114, 114, 101, 108], [99, 97, 116], [103, 114, 111, 99, 101, 114], [114, 97, 105, 110], [103, 111, 110, 101], [115, 97, 108, 116], [115, 117, 103, 97, 114], [111, 102], [97, 110, 100], [110, 101, 101, 100, 115], [102, 114, 111, 109], [116, 111], [116, 97, 107, 101, 115], [115, 116, 111, 99, 107], [112, 114, 105, 99, 101], [115, 119, 101, 101, 116], [119, 97, 115, 104, 101, 115], [99, 111, 117, 110, 116, 115], [115, 116, 114, 101, 119], [98, 117, 121], [115, 119, 101, 101, 112], [115, 110, 111, 119], [110, 105, 103, 104, 116], [119, 104, 101, 110], [108, 111, 111, 112], [101, 110, 100], [115, 116, 111, 112], [111, 118, 101, 114], [116, 114, 117, 99, 101], [108, 105, 101, 115]]
def permK : List Nat := [0, 6, 7, 5, 1, 8, 9, 10, 2, 11, 12, 13, 3, 14, 15, 16, 4, 17, 18, 20, 19, 21, 22, 23, 24, 28, 29, 30, 25, 26, 27]
def flatK : List (List Int32) → List Int32
  | [] => []
  | K :: r => K ++ (32 :: flatK r)
set_option maxRecDepth 100000 in
theorem flat_c : strB.getD 0 [] = flatK KWC := by decide +kernel
set_option maxRecDepth 100000 in
theorem flat_m : strB.getD 1 [] = 32 :: flatK KWM := by decide +kernel
def okK (K : List Int32) : Bool := decide (0 < K.length) && decide (K.length ≤ 8) && K.all (fun c => decide (97 ≤ c.toInt) && decide (c.toInt ≤ 122))
set_option maxRecDepth 100000 in
theorem okCL : KWC.all okK = true := by decide +kernel
set_option maxRecDepth 100000 in
theorem okML : KWM.all okK = true := by decide +kernel
theorem okK_x {K : List Int32} (h : okK K = true) : (0 < K.length ∧ K.length ≤ 8) ∧ ∀ c, c ∈ K → isL c := by
  unfold okK at h
  rw [Bool.and_eq_true, Bool.and_eq_true] at h
  refine ⟨⟨of_decide_eq_true h.1.1, of_decide_eq_true h.1.2⟩, fun c hc => ?_⟩
  have g := List.all_eq_true.mp h.2 c hc
  rw [Bool.and_eq_true] at g
  exact ⟨of_decide_eq_true g.1, of_decide_eq_true g.2⟩
def IsW (B : Nat → Int32) (st k : Nat) (K : List Int32) : Prop := k = K.length ∧ ∀ i, i < k → B (st + i) = K.getD i 0
theorem isW_u {B : Nat → Int32} {st k : Nat} {K K' : List Int32} (h : IsW B st k K) (g : IsW B st k K') : K = K' := by
  apply List.ext_getElem?
  intro i
  by_cases hi : i < k
  · have a := h.2 i hi
    have b := g.2 i hi
    rw [a] at b
    rw [List.getD_eq_getElem?_getD, List.getD_eq_getElem?_getD] at b
    have h1 : i < K.length := by rw [← h.1]; exact hi
    have h2 : i < K'.length := by rw [← g.1]; exact hi
    rw [List.getElem?_eq_getElem h1, List.getElem?_eq_getElem h2] at b ⊢
    exact congrArg some b
  · rw [List.getElem?_eq_none_iff.mpr (by rw [← h.1]; omega), List.getElem?_eq_none_iff.mpr (by rw [← g.1]; omega)]
theorem isW_c {B B' : Nat → Int32} {st k : Nat} {K : List Int32} (e : ∀ i, i < k → B (st + i) = B' (st + i)) (h : IsW B st k K) : IsW B' st k K := ⟨h.1, fun i hi => by rw [← e i hi]; exact h.2 i hi⟩
def pk : List Int32 → Int64 → Int64
  | [], a => a
  | c :: r, a => pk r (((a * 27 + c.toInt64) - 97) + 1)
theorem pk_p (K : List Int32) : ∀ (r : List Int32) (k : Nat), K.drop k = r → pk r (p27 (fun i => K.getD i 0) 0 k) = p27 (fun i => K.getD i 0) 0 (k + r.length) := by
  intro r
  induction r with
  | nil => intro k _; rfl
  | cons c r ih =>
    intro k h
    have hk : k < K.length := by
      rcases Nat.lt_or_ge k K.length with q | q
      · exact q
      · rw [List.drop_eq_nil_of_le q] at h
        cases h
    have e : K.getD k 0 = c := by
      rw [List.getD_eq_getElem?_getD, List.getElem?_eq_getElem hk]
      rw [List.drop_eq_getElem_cons hk] at h
      injection h
    have d : K.drop (k + 1) = r := by
      rw [List.drop_eq_getElem_cons hk] at h
      injection h
    have s : p27 (fun i => K.getD i 0) 0 (k + 1) = ((p27 (fun i => K.getD i 0) 0 k * 27 + c.toInt64) - 97) + 1 := by
      show ((p27 (fun i => K.getD i 0) 0 k * 27 + (K.getD (0 + k) 0).toInt64) - 97) + 1 = _
      rw [Nat.zero_add, e]
    show pk r (((p27 (fun i => K.getD i 0) 0 k * 27 + c.toInt64) - 97) + 1) = _
    rw [← s, ih (k + 1) d]
    congr 1
    rw [List.length_cons]
    omega
theorem pk_0 (K : List Int32) : pk K 0 = p27 (fun i => K.getD i 0) 0 K.length := by
  have q := pk_p K K 0 rfl
  rw [Nat.zero_add] at q
  exact q
theorem lets_K {K : List Int32} (h : okK K = true) : Lets (fun i => K.getD i 0) 0 K.length := by
  intro i _ hi
  have g := (okK_x h).2
  have hk : i < K.length := by omega
  show isL (K.getD i 0)
  rw [List.getD_eq_getElem?_getD, List.getElem?_eq_getElem hk]
  exact g _ (List.getElem_mem hk)
theorem pk_iff {B : Nat → Int32} {st k : Nat} {K : List Int32} (hk : k ≤ 8) (hl : Lets B st k) (hK : okK K = true) : pk K 0 = p27 B st k ↔ IsW B st k K := by
  have o := okK_x hK
  have l := lets_K hK
  constructor
  · intro w
    rw [pk_0] at w
    have h1 := p27_q K.length o.1.2 l
    have h2 := p27_q k hk hl
    rw [w] at h1
    have ⟨g1, g2⟩ := q27_i K.length k l hl (by omega)
    refine ⟨g1.symm, fun i hi => ?_⟩
    have z := g2 i (by omega)
    rw [← z, Nat.zero_add]
  · intro w
    rw [pk_0, ← w.1]
    exact p27_c k (fun i hi => by rw [Nat.zero_add]; exact (w.2 i hi).symm)
def kwf (a : Int64) : List Int32 → Int32 → Int64 → Int32
  | [], _, _ => 1
  | c :: r, w, p => if c = 32 then (if lg_cmp p a = 0 then w else kwf a r (w + 1) 0) else kwf a r w (((p * 27 + c.toInt64) - 97) + 1)
theorem kwf_c (a : Int64) (c : Int32) (r : List Int32) (w : Int32) (p : Int64) : kwf a (c :: r) w p = if c = 32 then (if lg_cmp p a = 0 then w else kwf a r (w + 1) 0) else kwf a r w (((p * 27 + c.toInt64) - 97) + 1) := rfl
set_option maxRecDepth 100000 in
theorem len_c : (strB.getD 0 []).length = 167 := by decide +kernel
theorem kk_b (a : Int64) (n : Nat) : ∀ (v2 : Int32) (v3 : Int64) (v5 : Int32) (s : Sg), 0 ≤ v5.toInt → v5.toInt ≤ 167 → PQ (f_X7_kindOfWord_b8 n a v2 v3 v5 s) (fun r s9 => s9 = s ∧ r = kwf a ((strB.getD 0 []).drop v5.toNatClampNeg) v2 v3) := by
  induction n with
  | zero => intro v2 v3 v5 s _ _ r s9 e; cases e
  | succ n ih =>
    intro v2 v3 v5 s h0 h1
    have e1 : (1 : Int32).toInt = 1 := rfl
    have e167 : (167 : Int32).toInt = 167 := rfl
    have hl := len_c
    have cl := cl_nat v5
    unfold f_X7_kindOfWord_b8
    refine pq_if (fun c => pq_s ⟨rfl, ?_⟩) (fun c => pq_c (fun _ => pq_n (fun x1 ex1 => ?_)))
    · have c := i_le c
      rw [List.drop_eq_nil_of_le (by omega)]
      rfl
    · have c := i_nle c
      have a1 : (v5 + 1).toInt = v5.toInt + 1 := i_addx v5 1 (show -2147483648 ≤ v5.toInt + 1 ∧ v5.toInt + 1 ≤ 2147483647 from by omega)
      have cl1 := cl_nat (v5 + 1)
      have k1 : (v5 + 1).toNatClampNeg = v5.toNatClampNeg + 1 := by omega
      have hk : v5.toNatClampNeg < (strB.getD 0 []).length := by omega
      have ex : x1 = (strB.getD 0 [])[v5.toNatClampNeg] := by
        rw [ex1, List.getD_eq_getElem?_getD, List.getElem?_eq_getElem hk]
        rfl
      have dr := List.drop_eq_getElem_cons hk
      rw [← ex] at dr
      rw [dr]
      refine pq_if (fun c2 => pq_if (fun c3 => pq_s ⟨rfl, ?_⟩) (fun c3 => ?_)) (fun c2 => pq_n (fun x2 ex2 => ?_))
      · rw [kwf_c, if_pos c2, if_pos c3]
      · have g := ih (v2 + 1) 0 (v5 + 1) s (by omega) (by omega)
        rw [k1] at g
        rw [kwf_c, if_pos c2, if_neg c3]
        exact g
      · have g := ih v2 x2 (v5 + 1) s (by omega) (by omega)
        rw [k1] at g
        rw [kwf_c, if_neg c2, ← ex2]
        exact g
theorem kk_p (a : Int64) (s : Sg) : PQ (f_X7_kindOfWord a s) (fun r s9 => s9 = s ∧ r = kwf a (flatK KWC) 100 0) := by
  unfold f_X7_kindOfWord
  refine pq_w (kk_b a BIG 100 0 0 s (by decide) (by decide)) (fun r s9 g => ⟨g.1, ?_⟩)
  rw [g.2, ← flat_c]
  rfl
theorem kwf_w (a : Int64) (w : Int32) (t : List Int32) : ∀ (K : List Int32) (p : Int64), (∀ c, c ∈ K → isL c) → kwf a (K ++ (32 :: t)) w p = if lg_cmp (pk K p) a = 0 then w else kwf a t (w + 1) 0
  | [], p, _ => by
    show kwf a (32 :: t) w p = _
    rw [kwf_c, if_pos rfl]
    rfl
  | c :: r, p, h => by
    show kwf a (c :: (r ++ (32 :: t))) w p = _
    have n : ¬ c = 32 := fun e => by
      have g := (h c List.mem_cons_self).1
      rw [e] at g
      exact absurd g (by decide)
    have q := kwf_w a w t r (((p * 27 + c.toInt64) - 97) + 1) (fun x hx => h x (List.mem_cons_of_mem _ hx))
    rw [kwf_c, if_neg n]
    exact q
theorem lgc_0 {x y : Int64} : lg_cmp x y = 0 ↔ x = y := by
  unfold lg_cmp
  by_cases c : x > y
  · rw [if_pos c]
    refine ⟨fun h => absurd h (by decide), fun h => ?_⟩
    subst h
    have := Int64.lt_iff_toInt_lt.mp c
    omega
  · rw [if_neg c]
    by_cases d : x = y
    · rw [if_pos d]
      exact ⟨fun _ => d, fun _ => rfl⟩
    · rw [if_neg d]
      exact ⟨fun h => absurd h (by decide), fun h => absurd h d⟩
theorem kwf_x {B : Nat → Int32} {st k : Nat} (hk : k ≤ 8) (hl : Lets B st k) : ∀ (KL : List (List Int32)) (w : Int32), KL.all okK = true → (∃ i, i < KL.length ∧ IsW B st k (KL.getD i []) ∧ kwf (p27 B st k) (flatK KL) w 0 = w + Int32.ofNat i) ∨ ((∀ i, i < KL.length → ¬ IsW B st k (KL.getD i [])) ∧ kwf (p27 B st k) (flatK KL) w 0 = 1)
  | [], w, _ => Or.inr ⟨fun i hi => absurd hi (Nat.not_lt_zero i), rfl⟩
  | K :: r, w, h => by
    have h1 : okK K = true := List.all_eq_true.mp h K List.mem_cons_self
    have h2 : r.all okK = true := List.all_eq_true.mpr (fun x hx => List.all_eq_true.mp h x (List.mem_cons_of_mem _ hx))
    have e : kwf (p27 B st k) (flatK (K :: r)) w 0 = _ := kwf_w (p27 B st k) w (flatK r) K 0 (okK_x h1).2
    have f := pk_iff hk hl h1
    by_cases q : IsW B st k K
    · refine Or.inl ⟨0, Nat.zero_lt_succ _, q, ?_⟩
      rw [e, if_pos (lgc_0.mpr (f.mpr q))]
      apply Int32.toInt_inj.mp
      have := i_add w (Int32.ofNat 0)
      have e0 : (Int32.ofNat 0).toInt = 0 := rfl
      have := i_rg w
      omega
    · have nq : ¬ lg_cmp (pk K 0) (p27 B st k) = 0 := fun z => q (f.mp (lgc_0.mp z))
      rw [if_neg nq] at e
      rcases kwf_x hk hl r (w + 1) h2 with ⟨i, g1, g2, g3⟩ | ⟨g1, g2⟩
      · refine Or.inl ⟨i + 1, Nat.succ_lt_succ g1, g2, ?_⟩
        rw [e, g3]
        apply Int32.toInt_inj.mp
        have a1 := i_add w 1
        have a2 := i_add (w + 1) (Int32.ofNat i)
        have a3 := i_add w (Int32.ofNat (i + 1))
        have a4 := i_add 1 (Int32.ofNat i)
        have e1 : (1 : Int32).toInt = 1 := rfl
        have a5 : Int32.ofNat (i + 1) = 1 + Int32.ofNat i := by
          rw [Int32.ofNat_add, Int32.add_comm]
          rfl
        rw [a5] at a3 ⊢
        omega
      · refine Or.inr ⟨fun i hi => ?_, by rw [e, g2]⟩
        cases i with
        | zero => exact q
        | succ i => exact g1 i (Nat.lt_of_succ_lt_succ hi)
/-! texts: the class goes on to the next token -/
def KindC (B : Nat → Int32) (n st en : Nat) (s : Sg) : Prop := (st = n ∧ s.1 7 3 = 0) ∨ (st < n ∧ isL (B st) ∧ ((8 < en - st ∧ s.1 7 3 = 2) ∨ (en - st ≤ 8 ∧ s.2 7 6 = p27 B st (en - st) ∧ s.1 7 3 = kwf (p27 B st (en - st)) (flatK KWC) 100 0))) ∨ (st < n ∧ isD (B st) ∧ ((en - st ≤ 4 ∧ s.1 7 3 = 3 ∧ (s.1 7 5).toInt = (dv B st (en - st) : Int)) ∨ (4 < en - st ∧ s.1 7 3 = 4))) ∨ (st < n ∧ ¬ isL (B st) ∧ ¬ isD (B st) ∧ ((isS (B st) ∧ s.1 7 3 = B st) ∨ (¬ isS (B st) ∧ s.1 7 3 = 4)))
theorem a52_c (B : Nat → Int32) (n st : Nat) {s : Sg} (ha : TkA B n s) (h2 : (s.1 7 2).toInt = (st : Int)) (h3 : st ≤ n) : PQ (f_X7_advance_b52 s) (fun _ s9 => ∃ en : Nat, TokE B n st en ∧ (s9.1 7 4).toInt = (st : Int) ∧ (s9.1 7 2).toInt = (en : Int) ∧ KindC B n st en s9) := by
  unfold f_X7_advance_b52
  have f2 : (pI s 7 4 (s.1 7 2)).1 7 2 = s.1 7 2 := q_ne rfl
  have f1 : (pI s 7 4 (s.1 7 2)).1 7 1 = s.1 7 1 := q_ne rfl
  have f4 : (pI s 7 4 (s.1 7 2)).1 7 4 = s.1 7 2 := q_eq
  have f0 : (pI s 7 4 (s.1 7 2)).1 1 = s.1 1 := p_ne1 rfl
  generalize pI s 7 4 (s.1 7 2) = s1 at f2 f1 f4 f0 ⊢
  have ha1 : TkA B n s1 := ⟨by rw [f0]; exact ha.1, by rw [f1]; exact ha.2.1, ha.2.2⟩
  have g2 : (s1.1 7 2).toInt = (st : Int) := by rw [f2]; exact h2
  have g4 : (s1.1 7 4).toInt = (st : Int) := by rw [f4]; exact h2
  have hn := ha1.2.1
  have h9 := ha1.2.2
  have cl := cl_nat (s1.1 7 2)
  have d : (s1.1 7 2).toNatClampNeg = st := by omega
  refine pq_if (fun c => pq_c (fun _ => ?_)) (fun c => pq_s ⟨n, Or.inl ⟨?_, rfl⟩, by rw [q_ne rfl]; exact g4, ?_, Or.inl ⟨?_, q_eq⟩⟩)
  · have c := i_lt c
    have hst : st < n := by omega
    refine pq_b (il_p _ s1) (fun r2 s3 g => ?_)
    obtain ⟨es, g⟩ := g
    subst es
    rw [ha1.1, d] at g
    refine pq_if (fun c2 => pq_c (fun _ => pq_b (id_p _ s3) (fun r5 s6 gd => ?_))) (fun c2 => ?_)
    · have nl := r1_n g c2
      obtain ⟨es, gd⟩ := gd
      subst es
      rw [ha1.1, d] at gd
      refine pq_if (fun c5 => ?_) (fun c5 => ?_)
      · have nd := r1_n gd c5
        refine pq_b (pq_and (cs_p B n st ha1 g2 hst) (ft_X7_cutSign s6)) (fun _ s8 g8 => pq_s ⟨st + 1, Or.inr ⟨hst, Or.inr (Or.inr ⟨nl, nd, rfl⟩)⟩, ?_, ?_, Or.inr (Or.inr (Or.inr ⟨hst, nl, nd, g8.1.2⟩))⟩)
        · rw [fr_e g8.2 7 4 184 rfl rfl]; exact g4
        · rw [g8.1.1]; omega
      · have yd := r1_y gd c5
        refine pq_b (pq_and (cn_p B n st ha1 g4 g2 hst yd) (ft_X7_cutNumber s6)) (fun _ s10 g10 => ?_)
        obtain ⟨⟨en, w1, w2, w3⟩, gf⟩ := g10
        refine pq_s ⟨en, Or.inr ⟨hst, Or.inr (Or.inl ⟨yd, w1⟩)⟩, ?_, w2, Or.inr (Or.inr (Or.inl ⟨hst, yd, w3⟩))⟩
        rw [fr_e gf 7 4 184 rfl rfl]; exact g4
    · have yl := r1_y g c2
      refine pq_b (pq_and (cw_p B n st ha1 g4 g2 hst yl) (ft_X7_cutWord s3)) (fun _ s12 g12 => ?_)
      obtain ⟨⟨en, w1, w2, w3⟩, gf⟩ := g12
      have k4 : (s12.1 7 4).toInt = (st : Int) := by rw [fr_e gf 7 4 184 rfl rfl]; exact g4
      have sb := i_sub (s12.1 7 2) (s12.1 7 4)
      have e8 : (8 : Int32).toInt = 8 := rfl
      have w1a := w1.1
      have w1b := w1.2.1
      refine pq_if (fun c8 => pq_b (kk_p _ s12) (fun r13 s14 g14 => ?_)) (fun c8 => pq_s ⟨en, Or.inr ⟨hst, Or.inl ⟨yl, w1⟩⟩, by rw [q_ne rfl]; exact k4, by rw [q_ne rfl]; exact w2, Or.inr (Or.inl ⟨hst, yl, Or.inl ⟨?_, q_eq⟩⟩)⟩)
      · have c8 := i_le c8
        obtain ⟨es, g14⟩ := g14
        subst es
        have k8 : min (en - st) 8 = en - st := by omega
        rw [k8] at w3
        refine pq_s ⟨en, Or.inr ⟨hst, Or.inl ⟨yl, w1⟩⟩, by rw [q_ne rfl]; exact k4, by rw [q_ne rfl]; exact w2, Or.inr (Or.inl ⟨hst, yl, Or.inr ⟨by omega, w3, ?_⟩⟩)⟩
        rw [q_eq, g14, w3]
      · have c8 := i_nle c8
        omega
  · have c := i_nlt c
    omega
  · rw [q_ne rfl]
    have c := i_nlt c
    omega
  · have c := i_nlt c
    omega
theorem a0_c (B : Nat → Int32) (n p : Nat) (m : Nat) : ∀ (i : Nat) (s : Sg), TkA B n s → (s.1 7 2).toInt = (i : Int) → p ≤ i → i ≤ n → (∀ j, p ≤ j → j < i → isB (B j)) → PQ (f_X7_advance_b0 m s) (fun _ s9 => ∃ st en : Nat, TokS B n p st ∧ TokE B n st en ∧ (s9.1 7 4).toInt = (st : Int) ∧ (s9.1 7 2).toInt = (en : Int) ∧ KindC B n st en s9) := by
  induction m with
  | zero => intro i s _ _ _ _ _ r s9 e; cases e
  | succ m ih =>
    intro i s ha h2 h1 h3 hb
    have e1 : (1 : Int32).toInt = 1 := rfl
    have hn := ha.2.1
    have h9 := ha.2.2
    have cl := cl_nat (s.1 7 2)
    have d : (s.1 7 2).toNatClampNeg = i := by omega
    have fin : (i = n ∨ ¬ isB (B i)) → PQ (f_X7_advance_b52 s) (fun _ s9 => ∃ st en : Nat, TokS B n p st ∧ TokE B n st en ∧ (s9.1 7 4).toInt = (st : Int) ∧ (s9.1 7 2).toInt = (en : Int) ∧ KindC B n st en s9) := fun w => pq_w (a52_c B n i ha h2 h3) (fun _ s9 ⟨en, g⟩ => ⟨i, en, ⟨h1, h3, hb, w⟩, g⟩)
    unfold f_X7_advance_b0
    refine pq_if (fun c => fin (Or.inl ?_)) (fun c => pq_c (fun _ => ?_))
    · have c := i_le c
      omega
    · have c := i_nle c
      have a1 : ((s.1 7 2) + 1).toInt = (s.1 7 2).toInt + 1 := i_addx (s.1 7 2) 1 (show -2147483648 ≤ (s.1 7 2).toInt + 1 ∧ (s.1 7 2).toInt + 1 ≤ 2147483647 from by omega)
      rw [ha.1, d]
      have nx : isB (B i) → PQ (f_X7_advance_b0 m (pI s 7 2 ((s.1 7 2) + 1))) (fun _ s9 => ∃ st en : Nat, TokS B n p st ∧ TokE B n st en ∧ (s9.1 7 4).toInt = (st : Int) ∧ (s9.1 7 2).toInt = (en : Int) ∧ KindC B n st en s9) := fun w => ih (i + 1) _ ⟨by rw [p_ne1 rfl]; exact ha.1, by rw [q_ne rfl]; exact hn, h9⟩ (by rw [q_eq, a1]; omega) (by omega) (by omega) (fun j j1 j2 => by
        by_cases q : j = i
        · rw [q]; exact w
        · exact hb j j1 (by omega))
      refine pq_if (fun c1 => nx (Or.inl c1)) (fun c1 => pq_if (fun c2 => nx (Or.inr c2)) (fun c2 => fin (Or.inr ?_)))
      rintro (w | w)
      · exact c1 w
      · exact c2 w
theorem adv_c (B : Nat → Int32) (n p : Nat) {s : Sg} (ha : TkA B n s) (h2 : (s.1 7 2).toInt = (p : Int)) (h3 : p ≤ n) : PQ (f_X7_advance s) (fun _ s9 => TkA B n s9 ∧ ∃ st en : Nat, TokS B n p st ∧ TokE B n st en ∧ (s9.1 7 4).toInt = (st : Int) ∧ (s9.1 7 2).toInt = (en : Int) ∧ KindC B n st en s9) := by
  refine pq_w (pq_and (show PQ (f_X7_advance s) _ from by unfold f_X7_advance; exact a0_c B n p BIG p s ha h2 (Nat.le_refl _) h3 (fun j j1 j2 => by omega)) (ft_X7_advance s)) (fun _ s9 g => ⟨⟨?_, ?_, ha.2.2⟩, g.1⟩)
  · rw [← ha.1]
    funext k
    exact fr_e g.2 1 k 1 rfl rfl
  · rw [fr_e g.2 7 1 181 rfl rfl]
    exact ha.2.1
/-! texts: the reference goes on to the next token -/
def byM (s : Sg) : Nat → Int32 := fun k => s.1 7 k &&& 255
def TkM (n : Nat) (s : Sg) : Prop := (s.1 0 11).toInt = (n : Int) ∧ n ≤ 900
theorem by_p (a : Int32) (n : Nat) {s : Sg} (hm : TkM n s) (h0 : 0 ≤ a.toInt) : PQ (f_X12_byteAt a s) (fun r s9 => s9 = s ∧ (((n : Int) ≤ a.toInt ∧ r = -1) ∨ (a.toInt < (n : Int) ∧ r = byM s a.toNatClampNeg))) := by
  have hn := hm.1
  unfold f_X12_byteAt
  refine pq_if (fun c => pq_s ⟨rfl, Or.inl ⟨?_, rfl⟩⟩) (fun c => pq_c (fun _ => pq_s ⟨rfl, Or.inr ⟨?_, rfl⟩⟩))
  · have := i_le c
    omega
  · have := i_nle c
    omega
theorem sml_p (a : Int32) (s : Sg) : PQ (f_X12_isSmall a s) (fun r s9 => s9 = s ∧ ((r = 1 ∧ isL a) ∨ (r = 0 ∧ ¬ isL a))) := by
  have e1 : (97 : Int32).toInt = 97 := rfl
  have e2 : (122 : Int32).toInt = 122 := rfl
  unfold f_X12_isSmall isL
  refine pq_if (fun c => pq_s ⟨rfl, Or.inr ⟨rfl, ?_⟩⟩) (fun c => pq_if (fun c2 => pq_s ⟨rfl, Or.inr ⟨rfl, ?_⟩⟩) (fun c2 => pq_s ⟨rfl, Or.inl ⟨rfl, ?_, ?_⟩⟩))
  · have := i_lt c
    omega
  · have := i_lt c2
    omega
  · have := i_nlt c
    omega
  · have := i_nlt c2
    omega
theorem dgm_p (a : Int32) (s : Sg) : PQ (f_X12_isDigit a s) (fun r s9 => s9 = s ∧ ((r = 1 ∧ isD a) ∨ (r = 0 ∧ ¬ isD a))) := by
  have e1 : (48 : Int32).toInt = 48 := rfl
  have e2 : (57 : Int32).toInt = 57 := rfl
  unfold f_X12_isDigit isD
  refine pq_if (fun c => pq_s ⟨rfl, Or.inr ⟨rfl, ?_⟩⟩) (fun c => pq_if (fun c2 => pq_s ⟨rfl, Or.inr ⟨rfl, ?_⟩⟩) (fun c2 => pq_s ⟨rfl, Or.inl ⟨rfl, ?_, ?_⟩⟩))
  · have := i_lt c
    omega
  · have := i_lt c2
    omega
  · have := i_nlt c
    omega
  · have := i_nlt c2
    omega
theorem nlm1 : ¬ isL (-1) := fun h => absurd h.1 (by decide)
theorem ndm1 : ¬ isD (-1) := fun h => absurd h.1 (by decide)
theorem by255 (s : Sg) (k : Nat) : 0 ≤ (byM s k).toInt ∧ (byM s k).toInt ≤ 255 := i_and (s.1 7 k) 255 (by decide)
def KindM (B : Nat → Int32) (n st en : Nat) (s : Sg) : Prop := (st = n ∧ s.1 0 12 = 0) ∨ (st < n ∧ isL (B st) ∧ s.1 0 12 = 2) ∨ (st < n ∧ isD (B st) ∧ ((en - st ≤ 4 ∧ s.1 0 12 = 3 ∧ (s.1 0 15).toInt = (dv B st (en - st) : Int)) ∨ (4 < en - st ∧ s.1 0 12 = 1))) ∨ (st < n ∧ ¬ isL (B st) ∧ ¬ isD (B st) ∧ ((isS (B st) ∧ s.1 0 12 = 4 ∧ s.1 0 15 = B st) ∨ (¬ isS (B st) ∧ s.1 0 12 = 1)))
def KM0 (s0 s : Sg) : Prop := s.1 7 = s0.1 7 ∧ s.1 0 11 = s0.1 0 11
theorem km0_b {s0 s : Sg} (h : KM0 s0 s) : byM s = byM s0 := by
  unfold byM
  rw [h.1]
theorem km0_t {n : Nat} {s0 s : Sg} (h : KM0 s0 s) (g : TkM n s0) : TkM n s := ⟨by rw [h.2]; exact g.1, g.2⟩
theorem km0_i {s0 s : Sg} (h : KM0 s0 s) (k : Nat) (hk : Nat.beq 11 k = false) (v : Int32) : KM0 s0 (pI s 0 k v) := ⟨by rw [p_ne1 rfl]; exact h.1, by rw [q_ne (by rw [hk]; rfl)]; exact h.2⟩
theorem a81_m (s0 : Sg) (n st : Nat) (hm : TkM n s0) (hst : st < n) (hL : isL (byM s0 st)) (m : Nat) : ∀ (i : Nat) (s : Sg), KM0 s0 s → (s.1 0 13).toInt = (st : Int) → (s.1 0 14).toInt = (i : Int) → st ≤ i → i ≤ n → (∀ j, st ≤ j → j < i → isL (byM s0 j)) → PQ (f_X12_ahead_b81 m s) (fun _ s9 => ∃ en : Nat, TokE (byM s0) n st en ∧ KM0 s0 s9 ∧ (s9.1 0 13).toInt = (st : Int) ∧ (s9.1 0 14).toInt = (en : Int) ∧ KindM (byM s0) n st en s9) := by
  induction m with
  | zero => intro i s _ _ _ _ _ _ r s9 e; cases e
  | succ m ih =>
    intro i s hk h13 h14 h1 h3 hl
    have e1 : (1 : Int32).toInt = 1 := rfl
    have cl := cl_nat (s.1 0 14)
    have d : (s.1 0 14).toNatClampNeg = i := by omega
    have hm1 := km0_t hk hm
    have h9 := hm.2
    unfold f_X12_ahead_b81
    refine pq_b (by_p _ n hm1 (by omega)) (fun r23 s24 g => pq_b (sml_p r23 s24) (fun r25 s26 g2 => ?_))
    obtain ⟨es, g⟩ := g
    obtain ⟨es2, g2⟩ := g2
    subst es2; subst es
    rw [d, km0_b hk] at g
    refine pq_if (fun c => pq_s ⟨i, Or.inr ⟨hst, Or.inl ⟨hL, ?_, h3, hl, ?_⟩⟩, km0_i hk 12 rfl 2, by rw [q_ne rfl]; exact h13, by rw [q_ne rfl]; exact h14, Or.inr (Or.inl ⟨hst, hL, q_eq⟩)⟩) (fun c => ?_)
    · by_cases q : i = st
      · exfalso
        subst q
        rcases g with w | w
        · omega
        · have z := r1_n g2 c
          rw [w.2] at z
          exact z hL
      · omega
    · rcases g with w | w
      · exact Or.inl (by omega)
      · have z := r1_n g2 c
        rw [w.2] at z
        exact Or.inr z
    · have z := r1_y g2 c
      rcases g with w | w
      · rw [w.2] at z
        exact absurd z nlm1
      · rw [w.2] at z
        have a1 : ((s26.1 0 14) + 1).toInt = (s26.1 0 14).toInt + 1 := i_addx (s26.1 0 14) 1 (show -2147483648 ≤ (s26.1 0 14).toInt + 1 ∧ (s26.1 0 14).toInt + 1 ≤ 2147483647 from by omega)
        exact ih (i + 1) _ (km0_i hk 14 rfl _) (by rw [q_ne rfl]; exact h13) (by rw [q_eq, a1]; omega) (by omega) (by omega) (fun j j1 j2 => by
          by_cases q : j = i
          · rw [q]; exact z
          · exact hl j j1 (by omega))
theorem a128_m (s0 : Sg) (n st : Nat) (hm : TkM n s0) (hst : st < n) (hD : isD (byM s0 st)) (m : Nat) : ∀ (i : Nat) (s : Sg), KM0 s0 s → (s.1 0 13).toInt = (st : Int) → (s.1 0 14).toInt = (i : Int) → st ≤ i → i ≤ n → (∀ j, st ≤ j → j < i → isD (byM s0 j)) → ((i - st ≤ 4 ∧ (s.1 0 15).toInt = (dv (byM s0) st (i - st) : Int)) ∨ (4 < i - st ∧ 0 ≤ (s.1 0 15).toInt ∧ (s.1 0 15).toInt ≤ 100000)) → PQ (f_X12_ahead_b128 m s) (fun _ s9 => ∃ en : Nat, TokE (byM s0) n st en ∧ KM0 s0 s9 ∧ (s9.1 0 13).toInt = (st : Int) ∧ (s9.1 0 14).toInt = (en : Int) ∧ KindM (byM s0) n st en s9) := by
  induction m with
  | zero => intro i s _ _ _ _ _ _ _ r s9 e; cases e
  | succ m ih =>
    intro i s hk h13 h14 h1 h3 hl hv
    have e1 : (1 : Int32).toInt = 1 := rfl
    have e4 : (4 : Int32).toInt = 4 := rfl
    have e10 : (10 : Int32).toInt = 10 := rfl
    have e48 : (48 : Int32).toInt = 48 := rfl
    have e5 : (100000 : Int32).toInt = 100000 := rfl
    have cl := cl_nat (s.1 0 14)
    have d : (s.1 0 14).toNatClampNeg = i := by omega
    have hm1 := km0_t hk hm
    have h9 := hm.2
    have sb := i_sub (s.1 0 14) (s.1 0 13)
    unfold f_X12_ahead_b128
    refine pq_b (by_p _ n hm1 (by omega)) (fun r16 s17 g => pq_b (dgm_p r16 s17) (fun r18 s19 g2 => ?_))
    obtain ⟨es, g⟩ := g
    obtain ⟨es2, g2⟩ := g2
    subst es2; subst es
    rw [d, km0_b hk] at g
    have te : r18 = 0 → TokE (byM s0) n st i := by
      intro c
      refine Or.inr ⟨hst, Or.inr (Or.inl ⟨hD, ?_, h3, hl, ?_⟩)⟩
      · by_cases q : i = st
        · exfalso
          subst q
          rcases g with w | w
          · omega
          · have z := r1_n g2 c
            rw [w.2] at z
            exact z hD
        · omega
      · rcases g with w | w
        · exact Or.inl (by omega)
        · have z := r1_n g2 c
          rw [w.2] at z
          exact Or.inr z
    refine pq_if (fun c => pq_if (fun c4 => pq_s ⟨i, te c, km0_i hk 12 rfl 3, by rw [q_ne rfl]; exact h13, by rw [q_ne rfl]; exact h14, Or.inr (Or.inr (Or.inl ⟨hst, hD, Or.inl ⟨?_, q_eq, ?_⟩⟩))⟩) (fun c4 => pq_s ⟨i, te c, km0_i hk 12 rfl 1, by rw [q_ne rfl]; exact h13, by rw [q_ne rfl]; exact h14, Or.inr (Or.inr (Or.inl ⟨hst, hD, Or.inr ⟨?_, q_eq⟩⟩))⟩)) (fun c => ?_)
    · have := i_le c4
      omega
    · have := i_le c4
      rw [q_ne rfl]
      rcases hv with w | w
      · exact w.2
      · omega
    · have := i_nle c4
      omega
    · have z := r1_y g2 c
      rcases g with w | w
      · rw [w.2] at z
        exact absurd z ndm1
      · have zb := w.2
        rw [w.2] at z
        refine pq_b (by_p _ n hm1 (by omega)) (fun r20 s21 g20 => ?_)
        obtain ⟨es, g20⟩ := g20
        subst es
        rw [d, km0_b hk] at g20
        have r20e : r20 = byM s0 i := by
          rcases g20 with u | u
          · omega
          · exact u.2
        refine pq_n (fun s22 e22 => ?_)
        have a1 : ((s21.1 0 14) + 1).toInt = (s21.1 0 14).toInt + 1 := i_addx (s21.1 0 14) 1 (show -2147483648 ≤ (s21.1 0 14).toInt + 1 ∧ (s21.1 0 14).toInt + 1 ≤ 2147483647 from by omega)
        have z1 := z.1
        have z2 := z.2
        have vb : 0 ≤ (s21.1 0 15).toInt ∧ (s21.1 0 15).toInt ≤ 100000 := by
          rcases hv with u | u
          · have b1 := dv_b (B := byM s0) (st := st) (i - st) (fun j j1 j2 => hl j j1 (by omega))
            have b2 := pw10 u.1
            omega
          · exact u.2
        have x1 : (10 * (s21.1 0 15)).toInt = 10 * (s21.1 0 15).toInt := by
          have m1 := i_mul 10 (s21.1 0 15)
          rw [e10] at m1
          omega
        have x2 : ((10 * (s21.1 0 15)) + byM s0 i).toInt = 10 * (s21.1 0 15).toInt + (byM s0 i).toInt := by
          have m2 := i_add (10 * (s21.1 0 15)) (byM s0 i)
          rw [x1] at m2
          omega
        have v : (((10 * (s21.1 0 15)) + byM s0 i) - 48).toInt = 10 * (s21.1 0 15).toInt + (byM s0 i).toInt - 48 := by
          have m3 := i_sub ((10 * (s21.1 0 15)) + byM s0 i) 48
          rw [x2, e48] at m3
          omega
        have lt := ite_lt (((10 * (s21.1 0 15)) + byM s0 i) - 48) 100000 (((10 * (s21.1 0 15)) + byM s0 i) - 48) 100000
        refine ih (i + 1) _ (km0_i (by rw [e22]; exact km0_i hk 15 rfl _) 14 rfl _) (by rw [q_ne rfl, e22, q_ne rfl]; exact h13) (by rw [q_eq, e22, q_ne rfl, a1]; omega) (by omega) (by omega) (fun j j1 j2 => by
          by_cases q : j = i
          · rw [q]; exact z
          · exact hl j j1 (by omega)) ?_
        rw [q_ne rfl, e22, q_eq, r20e]
        by_cases q : i + 1 - st ≤ 4
        · refine Or.inl ⟨q, ?_⟩
          have u := hv.elim (fun u => u.2) (fun u => by omega)
          have b1 := dv_b (B := byM s0) (st := st) (i - st) (fun j j1 j2 => hl j j1 (by omega))
          have b2 := pw10 (k := i - st) (by omega)
          have k2 : i + 1 - st = (i - st) + 1 := by omega
          rw [k2]
          unfold dv
          have k3 : st + (i - st) = i := by omega
          rw [k3]
          omega
        · refine Or.inr ⟨by omega, ?_⟩
          omega
theorem byM_n1 (s : Sg) (k : Nat) : ¬ byM s k = -1 := fun e => by
  have := (by255 s k).1
  rw [e] at this
  exact absurd this (by decide)
theorem a0_m (s0 : Sg) (n p : Nat) (hm : TkM n s0) (m : Nat) : ∀ (i : Nat) (s : Sg), KM0 s0 s → (s.1 0 14).toInt = (i : Int) → p ≤ i → i ≤ n → (∀ j, p ≤ j → j < i → isB (byM s0 j)) → PQ (f_X12_ahead_b0 m s) (fun _ s9 => ∃ st en : Nat, TokS (byM s0) n p st ∧ TokE (byM s0) n st en ∧ KM0 s0 s9 ∧ (s9.1 0 13).toInt = (st : Int) ∧ (s9.1 0 14).toInt = (en : Int) ∧ KindM (byM s0) n st en s9) := by
  induction m with
  | zero => intro i s _ _ _ _ _ r s9 e; cases e
  | succ m ih =>
    intro i s hk h14 h1 h3 hb
    have e1 : (1 : Int32).toInt = 1 := rfl
    have cl := cl_nat (s.1 0 14)
    have d : (s.1 0 14).toNatClampNeg = i := by omega
    have hm1 := km0_t hk hm
    have h9 := hm.2
    have a1 : ((s.1 0 14) + 1).toInt = (s.1 0 14).toInt + 1 := i_addx (s.1 0 14) 1 (show -2147483648 ≤ (s.1 0 14).toInt + 1 ∧ (s.1 0 14).toInt + 1 ≤ 2147483647 from by omega)
    have nx : i < n → isB (byM s0 i) → PQ (f_X12_ahead_b0 m (pI s 0 14 ((s.1 0 14) + 1))) (fun _ s9 => ∃ st en : Nat, TokS (byM s0) n p st ∧ TokE (byM s0) n st en ∧ KM0 s0 s9 ∧ (s9.1 0 13).toInt = (st : Int) ∧ (s9.1 0 14).toInt = (en : Int) ∧ KindM (byM s0) n st en s9) := fun hi w => ih (i + 1) _ (km0_i hk 14 rfl _) (by rw [q_eq, a1]; omega) (by omega) (by omega) (fun j j1 j2 => by
      by_cases q : j = i
      · rw [q]; exact w
      · exact hb j j1 (by omega))
    unfold f_X12_ahead_b0
    refine pq_b (by_p _ n hm1 (by omega)) (fun r1 s2 g1 => ?_)
    obtain ⟨es, g1⟩ := g1
    subst es
    rw [d, km0_b hk] at g1
    have lt : ∀ {r : Int32}, (((n : Int) ≤ (s2.1 0 14).toInt ∧ r = -1) ∨ ((s2.1 0 14).toInt < (n : Int) ∧ r = byM s0 i)) → ¬ r = -1 → i < n ∧ r = byM s0 i := fun {r} w z => by
      rcases w with w | w
      · exact absurd w.2 z
      · exact ⟨by omega, w.2⟩
    refine pq_if (fun c => ?_) (fun c1 => pq_b (by_p _ n hm1 (by omega)) (fun r3 s4 g3 => ?_))
    · have w := lt g1 (fun e => by rw [e] at c; exact absurd c (by decide))
      exact nx w.1 (Or.inl (w.2.symm.trans c))
    obtain ⟨es, g3⟩ := g3
    subst es
    rw [d, km0_b hk] at g3
    refine pq_if (fun c => ?_) (fun c3 => ?_)
    · have w := lt g3 (fun e => by rw [e] at c; exact absurd c (by decide))
      exact nx w.1 (Or.inr (w.2.symm.trans c))
    have ts : TokS (byM s0) n p i := by
      refine ⟨h1, h3, hb, ?_⟩
      by_cases q : i = n
      · exact Or.inl q
      · right
        rintro (z | z)
        · rcases g1 with w | w
          · omega
          · exact c1 (w.2.trans z)
        · rcases g3 with w | w
          · omega
          · exact c3 (w.2.trans z)
    have k13 : KM0 s0 (pI s4 0 13 (s4.1 0 14)) := km0_i hk 13 rfl _
    have p14 : (pI s4 0 13 (s4.1 0 14)).1 0 14 = s4.1 0 14 := q_ne rfl
    have p13 : (pI s4 0 13 (s4.1 0 14)).1 0 13 = s4.1 0 14 := q_eq
    generalize pI s4 0 13 (s4.1 0 14) = t4 at k13 p14 p13 ⊢
    have hm4 := km0_t k13 hm
    rw [p14]
    refine pq_b (by_p _ n hm4 (by omega)) (fun r5 s6 g5 => ?_)
    obtain ⟨es, g5⟩ := g5
    subst es
    rw [d, km0_b k13] at g5
    refine pq_if (fun c5 => pq_s ⟨i, n, ts, Or.inl ⟨?_, rfl⟩, km0_i (km0_i k13 15 rfl _) 12 rfl _, by rw [q_ne rfl, q_ne rfl, p13]; exact h14, ?_, Or.inl ⟨?_, q_eq⟩⟩) (fun c5 => ?_)
    · rcases g5 with w | w
      · omega
      · exact absurd (w.2.symm.trans c5) (byM_n1 s0 i)
    · rw [q_ne rfl, q_ne rfl, p14]
      rcases g5 with w | w
      · omega
      · exact absurd (w.2.symm.trans c5) (byM_n1 s0 i)
    · rcases g5 with w | w
      · omega
      · exact absurd (w.2.symm.trans c5) (byM_n1 s0 i)
    have w5 := lt g5 c5
    have hin := w5.1
    have k15 : KM0 s0 (pI s6 0 15 r5) := km0_i k13 15 rfl _
    have v15 : (pI s6 0 15 r5).1 0 15 = r5 := q_eq
    have v14 : ((pI s6 0 15 r5).1 0 14).toInt = (i : Int) := by rw [q_ne rfl, p14]; exact h14
    have v13 : ((pI s6 0 15 r5).1 0 13).toInt = (i : Int) := by rw [q_ne rfl, p13]; exact h14
    generalize pI s6 0 15 r5 = t6 at k15 v15 v14 v13 ⊢
    rw [w5.2] at v15 ⊢
    refine pq_b (sml_p (byM s0 i) t6) (fun r7 s8 g7 => ?_)
    obtain ⟨es, g7⟩ := g7
    subst es
    refine pq_if (fun c7 => pq_b (dgm_p (byM s0 i) s8) (fun r9 s10 g9 => ?_)) (fun c7 => pq_w (a81_m s0 n i hm hin (r1_y g7 c7) BIG i s8 k15 v13 v14 (Nat.le_refl _) h3 (fun j j1 j2 => by omega)) (fun _ s9 ⟨en, z⟩ => ⟨i, en, ts, z⟩))
    have nl := r1_n g7 c7
    obtain ⟨es, g9⟩ := g9
    subst es
    refine pq_if (fun c9 => ?_) (fun c9 => pq_w (a128_m s0 n i hm hin (r1_y g9 c9) BIG i (pI s10 0 15 0) (km0_i k15 15 rfl _) (by rw [q_ne rfl]; exact v13) (by rw [q_ne rfl]; exact v14) (Nat.le_refl _) h3 (fun j j1 j2 => by omega) (Or.inl ⟨by omega, by rw [q_eq, Nat.sub_self]; rfl⟩)) (fun _ s9 ⟨en, z⟩ => ⟨i, en, ts, z⟩))
    have nd := r1_n g9 c9
    have b1 : ((s10.1 0 14) + 1).toInt = (s10.1 0 14).toInt + 1 := i_addx (s10.1 0 14) 1 (show -2147483648 ≤ (s10.1 0 14).toInt + 1 ∧ (s10.1 0 14).toInt + 1 ≤ 2147483647 from by omega)
    have fin : ∀ (t : Int32) (x : Sg), x = pI (pI s10 0 14 ((s10.1 0 14) + 1)) 0 12 t → ((isS (byM s0 i) ∧ t = 4) ∨ (¬ isS (byM s0 i) ∧ t = 1)) → ∃ st en : Nat, TokS (byM s0) n p st ∧ TokE (byM s0) n st en ∧ KM0 s0 x ∧ (x.1 0 13).toInt = (st : Int) ∧ (x.1 0 14).toInt = (en : Int) ∧ KindM (byM s0) n st en x := by
      intro t x e h
      subst e
      refine ⟨i, i + 1, ts, Or.inr ⟨hin, Or.inr (Or.inr ⟨nl, nd, rfl⟩)⟩, km0_i (km0_i k15 14 rfl _) 12 rfl _, by rw [q_ne rfl, q_ne rfl]; exact v13, by rw [q_ne rfl, q_eq, b1]; omega, Or.inr (Or.inr (Or.inr ⟨hin, nl, nd, ?_⟩))⟩
      rcases h with h | h
      · exact Or.inl ⟨h.1, by rw [q_eq]; exact h.2, by rw [q_ne rfl, q_ne rfl]; exact v15⟩
      · exact Or.inr ⟨h.1, by rw [q_eq]; exact h.2⟩
    refine pq_if (fun c => pq_n (fun x e => pq_s (fin 4 x e (Or.inl ⟨Or.inl c, rfl⟩)))) (fun d1 => pq_if (fun c => pq_n (fun x e => pq_s (fin 4 x e (Or.inl ⟨Or.inr (Or.inl c), rfl⟩)))) (fun d2 => pq_if (fun c => pq_n (fun x e => pq_s (fin 4 x e (Or.inl ⟨Or.inr (Or.inr (Or.inl c)), rfl⟩)))) (fun d3 => pq_if (fun c => pq_n (fun x e => pq_s (fin 4 x e (Or.inl ⟨Or.inr (Or.inr (Or.inr c)), rfl⟩)))) (fun d4 => pq_n (fun x e => pq_s (fin 1 x e (Or.inr ⟨?_, rfl⟩)))))))
    rintro (z | z | z | z)
    · exact d1 z
    · exact d2 z
    · exact d3 z
    · exact d4 z
theorem ahd_m (n p : Nat) {s : Sg} (hm : TkM n s) (h14 : (s.1 0 14).toInt = (p : Int)) (h3 : p ≤ n) : PQ (f_X12_ahead s) (fun _ s9 => KM0 s s9 ∧ ∃ st en : Nat, TokS (byM s) n p st ∧ TokE (byM s) n st en ∧ (s9.1 0 13).toInt = (st : Int) ∧ (s9.1 0 14).toInt = (en : Int) ∧ KindM (byM s) n st en s9) := by
  unfold f_X12_ahead
  exact pq_w (a0_m s n p hm BIG p s ⟨rfl, rfl⟩ h14 (Nat.le_refl _) h3 (fun j j1 j2 => by omega)) (fun _ s9 ⟨st, en, g1, g2, g3, g4⟩ => ⟨g3, st, en, g1, g2, g4⟩)
/-! texts: the reference's words -/
/-- the word that stands at the reference's token -/
def Wd (B : Nat → Int32) (n st en : Nat) (s : Sg) : Prop := TkM n s ∧ byM s = B ∧ (s.1 0 13).toInt = (st : Int) ∧ (s.1 0 14).toInt = (en : Int) ∧ st ≤ en ∧ en ≤ n
theorem flat_ne {K : List Int32} {r : List (List Int32)} : flatK (K :: r) ≠ [] := by
  unfold flatK
  intro h
  have := congrArg List.length h
  rw [List.length_append, List.length_cons] at this
  exact absurd this (by rw [List.length_nil]; omega)
theorem drop_g {S : List Int32} {a : Nat} {t : List Int32} (h : S.drop a = t) (i : Nat) : S.getD (a + i) 0 = t.getD i 0 := by
  rw [← h, List.getD_eq_getElem?_getD, List.getD_eq_getElem?_getD, List.getElem?_drop]
theorem app_l {K t : List Int32} {i : Nat} (h : i < K.length) : (K ++ t).getD i 0 = K.getD i 0 := by
  rw [List.getD_eq_getElem?_getD, List.getD_eq_getElem?_getD, List.getElem?_append_left h]
theorem app_m {K t : List Int32} : (K ++ (32 :: t)).getD K.length 0 = 32 := by
  rw [List.getD_eq_getElem?_getD, List.getElem?_append_right (Nat.le_refl _), Nat.sub_self]
  rfl
theorem iw_68p {Q : Int32 → Sg → Prop} (B : Nat → Int32) (n st en : Nat) (k14 : Int32 → Int32 → Sg → Option (Int32 × Sg)) (K t : List Int32) (v2 v3 v4 : Int32) (hw : ∀ s, Wd B n st en s → True) (h3 : 0 ≤ v3.toInt) (h4 : v4.toInt = v3.toInt + (K.length : Int)) (h5 : v4.toInt ≤ 167) (hd : (strB.getD 1 []).drop v3.toNatClampNeg = K ++ (32 :: t)) (s : Sg) (hs : Wd B n st en s) (hy : IsW B st (en - st) K → Q v2 s) (hno : ¬ IsW B st (en - st) K → PQ (k14 (v2 + 1) (v4 + 1) s) Q) (m : Nat) : ∀ (i : Nat) (v5 v6 : Int32), v6.toInt = v3.toInt + (i : Int) → i ≤ K.length → ((v5 = 1 ∧ en - st = K.length ∧ ∀ j, j < i → B (st + j) = K.getD j 0) ∨ (v5 = 0 ∧ ¬ IsW B st (en - st) K)) → PQ (f_X12_inWords_1001_b68 k14 m v2 v3 v4 v5 v6 s) Q := by
  have e0 : (0 : Int32).toInt = 0 := rfl
  have e1 : (1 : Int32).toInt = 1 := rfl
  have fin : ∀ (v5 : Int32), ((v5 = 1 ∧ IsW B st (en - st) K) ∨ (v5 = 0 ∧ ¬ IsW B st (en - st) K)) → PQ (f_X12_inWords_1001_b115 k14 v2 v4 v5 s) Q := by
    intro v5 h
    unfold f_X12_inWords_1001_b115
    refine pq_if (fun c => ?_) (fun c => ?_)
    · rcases h with q | q
      · exact absurd (q.1.symm.trans c) (by decide)
      · exact hno q.2
    · rcases h with q | q
      · exact pq_s (hy q.2)
      · exact absurd q.1 c
  induction m with
  | zero => intro i v5 v6 _ _ _ r s9 e; cases e
  | succ m ih =>
    intro i v5 v6 h6 hi h
    unfold f_X12_inWords_1001_b68
    refine pq_if (fun c => fin v5 ?_) (fun c => pq_if (fun c5 => fin v5 ?_) (fun c5 => pq_c (fun _ => ?_)))
    · have c := i_le c
      rcases h with q | q
      · exact Or.inl ⟨q.1, q.2.1, fun j hj => q.2.2 j (by omega)⟩
      · exact Or.inr q
    · rcases h with q | q
      · exact absurd (q.1.symm.trans c5) (by decide)
      · exact Or.inr q
    · have c := i_nle c
      have q := h.elim id (fun q => absurd q.1 c5)
      obtain ⟨hm, hb, h13, h14, hse, hen⟩ := hs
      have hn := hm.1
      have h9 := hm.2
      have cl6 := cl_nat v6
      have cl3 := cl_nat v3
      have a1 : ((s.1 0 13) + v6).toInt = (s.1 0 13).toInt + v6.toInt := i_addx _ _ (by omega)
      have a2 : (((s.1 0 13) + v6) - v3).toInt = (st : Int) + (i : Int) := by
        have := i_sub ((s.1 0 13) + v6) v3
        omega
      have a6 : (v6 + 1).toInt = v6.toInt + 1 := i_addx v6 1 (show -2147483648 ≤ v6.toInt + 1 ∧ v6.toInt + 1 ≤ 2147483647 from by omega)
      have clx := cl_nat (((s.1 0 13) + v6) - v3)
      have dx : (((s.1 0 13) + v6) - v3).toNatClampNeg = st + i := by omega
      have d6 : v6.toNatClampNeg = v3.toNatClampNeg + i := by omega
      have il : i < K.length := by omega
      have ch : (strB.getD 1 []).getD v6.toNatClampNeg 0 = K.getD i 0 := by
        rw [d6, drop_g hd i, app_l il]
      refine pq_b (by_p _ n hm (by omega)) (fun r1 s2 g => ?_)
      obtain ⟨es, g⟩ := g
      subst es
      rw [hb, dx] at g
      have gr : r1 = B (st + i) := by
        rcases g with w | w
        · omega
        · exact w.2
      rw [ch, gr]
      refine pq_if (fun ce => ih (i + 1) 1 (v6 + 1) (by omega) (by omega) (Or.inl ⟨rfl, q.2.1, fun j hj => ?_⟩)) (fun ce => ih (i + 1) 0 (v6 + 1) (by omega) (by omega) (Or.inr ⟨rfl, fun w => ce ?_⟩))
      · by_cases e : j = i
        · rw [e]; exact ce.symm
        · exact q.2.2 j (by omega)
      · exact (w.2 i (by omega)).symm
theorem iw_25p {Q : Int32 → Sg → Prop} (B : Nat → Int32) (n st en : Nat) (k14 : Int32 → Int32 → Sg → Option (Int32 × Sg)) (K t : List Int32) (hK : okK K = true) (v2 v3 : Int32) (h3 : 0 ≤ v3.toInt) (h5 : v3.toInt + (K.length : Int) ≤ 167) (hd : (strB.getD 1 []).drop v3.toNatClampNeg = K ++ (32 :: t)) (s : Sg) (hs : Wd B n st en s) (hy : IsW B st (en - st) K → Q v2 s) (hno : ∀ v4 : Int32, v4.toInt = v3.toInt + (K.length : Int) → ¬ IsW B st (en - st) K → PQ (k14 (v2 + 1) (v4 + 1) s) Q) (m : Nat) : ∀ (i : Nat) (v4 : Int32), v4.toInt = v3.toInt + (i : Int) → i ≤ K.length → PQ (f_X12_inWords_1001_b25 k14 m v2 v3 v4 s) Q := by
  induction m with
  | zero => intro i v4 _ _ r s9 e; cases e
  | succ m ih =>
    intro i v4 h4 hi
    have e1 : (1 : Int32).toInt = 1 := rfl
    have cl3 := cl_nat v3
    have cl4 := cl_nat v4
    have d4 : v4.toNatClampNeg = v3.toNatClampNeg + i := by omega
    have ch : (strB.getD 1 []).getD v4.toNatClampNeg 0 = (K ++ (32 :: t)).getD i 0 := by rw [d4, drop_g hd i]
    have a4 : (v4 + 1).toInt = v4.toInt + 1 := i_addx v4 1 (show -2147483648 ≤ v4.toInt + 1 ∧ v4.toInt + 1 ≤ 2147483647 from by omega)
    have sb := i_sub v4 v3
    have hs' := hs
    obtain ⟨hm, hb, h13, h14, hse, hen⟩ := hs'
    have hn := hm.1
    have h9 := hm.2
    have sb2 := i_sub (s.1 0 14) (s.1 0 13)
    unfold f_X12_inWords_1001_b25
    rw [ch]
    refine pq_c (fun _ => pq_if (fun c => ?_) (fun c => ih (i + 1) (v4 + 1) (by omega) ?_))
    · have iK : i = K.length := by
        by_cases q : i = K.length
        · exact q
        · exfalso
          have il : i < K.length := by omega
          rw [app_l il] at c
          have g := lets_K hK i (Nat.zero_le _) (by omega)
          rw [show (fun i => K.getD i 0) i = 32 from c] at g
          exact absurd g.1 (by decide)
      subst iK
      refine pq_if (fun ce => iw_68p B n st en k14 K t v2 v3 v4 (fun _ _ => trivial) h3 h4 (by omega) hd s hs hy (hno v4 h4) BIG 0 1 v3 (by omega) (Nat.zero_le _) (Or.inl ⟨rfl, ?_, fun j hj => absurd hj (Nat.not_lt_zero j)⟩)) (fun ce => iw_68p B n st en k14 K t v2 v3 v4 (fun _ _ => trivial) h3 h4 (by omega) hd s hs hy (hno v4 h4) BIG 0 0 v3 (by omega) (Nat.zero_le _) (Or.inr ⟨rfl, fun w => ?_⟩))
      · have ce := i_eq ce
        omega
      · have ce := i_ne ce
        have := w.1
        omega
    · by_cases q : i = K.length
      · exfalso
        rw [q] at c
        exact c app_m
      · omega
set_option maxRecDepth 100000 in
theorem len_m : (strB.getD 1 []).length = 168 := by decide +kernel
theorem iw_14p (B : Nat → Int32) (n st en : Nat) (s : Sg) (hs : Wd B n st en s) (m : Nat) : ∀ (R : List (List Int32)) (v2 v3 : Int32), R.all okK = true → 0 ≤ v3.toInt → v3.toInt ≤ 168 → (strB.getD 1 []).drop v3.toNatClampNeg = flatK R → 0 ≤ v2.toInt → v2.toInt + (R.length : Int) ≤ 31 → PQ (f_X12_inWords_1001_b14 m v2 v3 s) (fun r s9 => s9 = s ∧ ((∃ j, j < R.length ∧ IsW B st (en - st) (R.getD j []) ∧ r.toInt = v2.toInt + (j : Int)) ∨ ((∀ j, j < R.length → ¬ IsW B st (en - st) (R.getD j [])) ∧ r = -1))) := by
  induction m with
  | zero => intro R v2 v3 _ _ _ _ _ _ r s9 e; cases e
  | succ m ih =>
    intro R v2 v3 hR h0 h1 hd h2 hl
    have e168 : (168 : Int32).toInt = 168 := rfl
    have e1 : (1 : Int32).toInt = 1 := rfl
    have hlen := len_m
    have cl3 := cl_nat v3
    unfold f_X12_inWords_1001_b14
    cases R with
    | nil =>
      refine pq_if (fun _ => pq_s ⟨rfl, Or.inr ⟨fun j hj => absurd hj (Nat.not_lt_zero j), rfl⟩⟩) (fun c => ?_)
      exfalso
      have c := i_nle c
      have q := congrArg List.length hd
      rw [List.length_drop, hlen] at q
      have z : (flatK []).length = 0 := rfl
      rw [z] at q
      omega
    | cons K R =>
      have hK : okK K = true := List.all_eq_true.mp hR K List.mem_cons_self
      have hR2 : R.all okK = true := List.all_eq_true.mpr (fun x hx => List.all_eq_true.mp hR x (List.mem_cons_of_mem _ hx))
      have lenq : 168 - v3.toNatClampNeg = K.length + (1 + (flatK R).length) := by
        have q := congrArg List.length hd
        rw [List.length_drop, hlen] at q
        have z : (flatK (K :: R)).length = K.length + ((flatK R).length + 1) := by
          show (K ++ (32 :: flatK R)).length = _
          rw [List.length_append, List.length_cons]
        rw [z] at q
        omega
      have kk := (okK_x hK).1
      refine pq_if (fun c => ?_) (fun c => ?_)
      · exfalso
        have c := i_le c
        omega
      · have c := i_nle c
        refine iw_25p B n st en (f_X12_inWords_1001_b14 m) K (flatK R) hK v2 v3 h0 (by omega) hd s hs (fun w => ⟨rfl, Or.inl ⟨0, by rw [List.length_cons]; omega, w, by omega⟩⟩) (fun v4 h4 nw => ?_) BIG 0 v3 (by omega) (Nat.zero_le _)
        have a4 : (v4 + 1).toInt = v4.toInt + 1 := i_addx v4 1 (show -2147483648 ≤ v4.toInt + 1 ∧ v4.toInt + 1 ≤ 2147483647 from by omega)
        have hl' : v2.toInt + ((R.length : Int) + 1) ≤ 31 := by
          rw [List.length_cons] at hl
          omega
        have a2 : (v2 + 1).toInt = v2.toInt + 1 := i_addx v2 1 (show -2147483648 ≤ v2.toInt + 1 ∧ v2.toInt + 1 ≤ 2147483647 from by omega)
        have cl4 := cl_nat (v4 + 1)
        have d4 : (v4 + 1).toNatClampNeg = v3.toNatClampNeg + (K.length + 1) := by omega
        have hd2 : (strB.getD 1 []).drop (v4 + 1).toNatClampNeg = flatK R := by
          rw [d4, ← List.drop_drop, hd]
          show (K ++ (32 :: flatK R)).drop (K.length + 1) = _
          rw [List.drop_append, Nat.add_sub_cancel_left, List.drop_eq_nil_of_le (by omega)]
          rfl
        refine pq_w (ih R (v2 + 1) (v4 + 1) hR2 (by omega) (by omega) hd2 (by omega) (by omega)) (fun r s9 g => ⟨g.1, ?_⟩)
        rcases g.2 with ⟨j, g1, g2, g3⟩ | ⟨g1, g2⟩
        · exact Or.inl ⟨j + 1, by rw [List.length_cons]; omega, g2, by omega⟩
        · refine Or.inr ⟨fun j hj => ?_, g2⟩
          cases j with
          | zero => exact nw
          | succ j => exact g1 j (by rw [List.length_cons] at hj; omega)
theorem iw_p (B : Nat → Int32) (n st en : Nat) {s : Sg} (hs : Wd B n st en s) : PQ (f_X12_inWords_1001 s) (fun r s9 => s9 = s ∧ ((s.1 0 12 = 2 ∧ ((∃ j : Nat, j < 31 ∧ IsW B st (en - st) (KWM.getD j []) ∧ r.toInt = (j : Int)) ∨ ((∀ j, j < 31 → ¬ IsW B st (en - st) (KWM.getD j [])) ∧ r = -1))) ∨ (¬ s.1 0 12 = 2 ∧ r = -1))) := by
  unfold f_X12_inWords_1001
  refine pq_if (fun c => ?_) (fun c => pq_s ⟨rfl, Or.inr ⟨c, rfl⟩⟩)
  have hd : (strB.getD 1 []).drop (1 : Int32).toNatClampNeg = flatK KWM := by
    rw [flat_m]
    rfl
  refine pq_w (iw_14p B n st en s hs BIG KWM 0 1 okML (by decide) (by decide) hd (by decide) (by decide)) (fun r s9 g => ⟨g.1, Or.inl ⟨c, ?_⟩⟩)
  rcases g.2 with ⟨j, g1, g2, g3⟩ | ⟨g1, g2⟩
  · have e0 : (0 : Int32).toInt = 0 := rfl
    exact Or.inl ⟨j, g1, g2, by omega⟩
  · exact Or.inr ⟨g1, g2⟩
/-! both kinds of a word -/
set_option maxRecDepth 100000 in
theorem perm_c : ∀ i, i < 31 → permK.getD i 0 < 31 ∧ KWM.getD (permK.getD i 0) [] = KWC.getD i [] := by decide +kernel
set_option maxRecDepth 100000 in
theorem perm_m : ∀ i, i < 31 → ∀ j, j < 31 → KWM.getD i [] = KWM.getD j [] → i = j := by decide +kernel
set_option maxRecDepth 100000 in
theorem perm_s : ∀ j, j < 31 → ∃ i : Nat, i < 31 ∧ permK.getD i 0 = j := by decide +kernel
/-- kinds: what the class has and what the reference finds -/
def KwR (k r : Int32) : Prop := (∃ i : Nat, i < 31 ∧ k.toInt = 100 + (i : Int) ∧ r.toInt = ((permK.getD i 0 : Nat) : Int)) ∨ (k = 1 ∧ r = -1)
theorem kwr_of {B : Nat → Int32} {st k : Nat} (hk : k ≤ 8) (hl : Lets B st k) {r : Int32} (h : (∃ j : Nat, j < 31 ∧ IsW B st k (KWM.getD j []) ∧ r.toInt = (j : Int)) ∨ ((∀ j, j < 31 → ¬ IsW B st k (KWM.getD j [])) ∧ r = -1)) : KwR (kwf (p27 B st k) (flatK KWC) 100 0) r := by
  have hC : KWC.length = 31 := by decide
  rcases kwf_x hk hl KWC 100 okCL with ⟨i, g1, g2, g3⟩ | ⟨g1, g2⟩
  · rw [hC] at g1
    have p := perm_c i g1
    rw [← p.2] at g2
    refine Or.inl ⟨i, g1, ?_, ?_⟩
    · rw [g3]
      have a := i_add 100 (Int32.ofNat i)
      have b : (Int32.ofNat i).toInt = (i : Int) := Int32.toInt_ofNat_of_lt (by omega)
      have e : (100 : Int32).toInt = 100 := rfl
      omega
    · rcases h with ⟨j, h1, h2, h3⟩ | ⟨h1, h2⟩
      · have e := isW_u h2 g2
        have f := perm_m j h1 _ p.1 e
        rw [h3, f]
      · exact absurd g2 (h1 _ p.1)
  · refine Or.inr ⟨g2, ?_⟩
    rcases h with ⟨j, h1, h2, h3⟩ | ⟨h1, h2⟩
    · obtain ⟨i, hi, e⟩ := perm_s j h1
      have p := perm_c i hi
      rw [e] at p
      rw [p.2] at h2
      exact absurd h2 (g1 i (by rw [hC]; exact hi))
    · exact h2
/-! both programs side by side -/
def RQ {α β : Type} (oC : Option (α × Sg)) (oM : Option (β × Sg)) (R : α → Sg → β → Sg → Prop) : Prop := ∀ a s b t, oC = some (a, s) → oM = some (b, t) → R a s b t
theorem rq_pp {α β : Type} {oC : Option (α × Sg)} {oM : Option (β × Sg)} {P : α → Sg → Prop} {Q : β → Sg → Prop} {R : α → Sg → β → Sg → Prop} (h : PQ oC P) (g : PQ oM Q) (f : ∀ a s b t, P a s → Q b t → R a s b t) : RQ oC oM R := fun a s b t e e2 => f a s b t (h a s e) (g b t e2)
theorem rq_w {α β : Type} {oC : Option (α × Sg)} {oM : Option (β × Sg)} {S R : α → Sg → β → Sg → Prop} (h : RQ oC oM S) (f : ∀ a s b t, S a s b t → R a s b t) : RQ oC oM R := fun a s b t e e2 => f a s b t (h a s b t e e2)
theorem rq_iC {α β : Type} {c : Prop} [Decidable c] {a b : Option (α × Sg)} {oM : Option (β × Sg)} {R : α → Sg → β → Sg → Prop} (h : c → RQ a oM R) (g : ¬ c → RQ b oM R) : RQ (if c then a else b) oM R := by
  by_cases q : c
  · rw [if_pos q]; exact h q
  · rw [if_neg q]; exact g q
theorem rq_iM {α β : Type} {c : Prop} [Decidable c] {a b : Option (β × Sg)} {oC : Option (α × Sg)} {R : α → Sg → β → Sg → Prop} (h : c → RQ oC a R) (g : ¬ c → RQ oC b R) : RQ oC (if c then a else b) R := by
  by_cases q : c
  · rw [if_pos q]; exact h q
  · rw [if_neg q]; exact g q
theorem rq_cC {α β : Type} {c : Prop} [Decidable c] {k : Option (α × Sg)} {oM : Option (β × Sg)} {R : α → Sg → β → Sg → Prop} (h : c → RQ k oM R) : RQ (ck c k) oM R := by
  unfold ck
  by_cases q : c
  · rw [if_pos q]; exact h q
  · rw [if_neg q]; intro a s b t e; cases e
theorem rq_cM {α β : Type} {c : Prop} [Decidable c] {k : Option (β × Sg)} {oC : Option (α × Sg)} {R : α → Sg → β → Sg → Prop} (h : c → RQ oC k R) : RQ oC (ck c k) R := by
  unfold ck
  by_cases q : c
  · rw [if_pos q]; exact h q
  · rw [if_neg q]; intro a s b t _ e; cases e
theorem rq_bC {α α' β : Type} {o : Option (α' × Sg)} {k : α' → Sg → Option (α × Sg)} {oM : Option (β × Sg)} {P : α' → Sg → Prop} {R : α → Sg → β → Sg → Prop} (h : PQ o P) (g : ∀ r s, P r s → RQ (k r s) oM R) : RQ (bd o k) oM R := by
  cases o with
  | none => intro a s b t e; cases e
  | some q => exact g q.1 q.2 (h q.1 q.2 rfl)
theorem rq_bM {α β β' : Type} {o : Option (β' × Sg)} {k : β' → Sg → Option (β × Sg)} {oC : Option (α × Sg)} {P : β' → Sg → Prop} {R : α → Sg → β → Sg → Prop} (h : PQ o P) (g : ∀ r s, P r s → RQ oC (k r s) R) : RQ oC (bd o k) R := by
  cases o with
  | none => intro a s b t _ e; cases e
  | some q => exact g q.1 q.2 (h q.1 q.2 rfl)
theorem rq_b2 {α α' β β' : Type} {oC : Option (α' × Sg)} {kC : α' → Sg → Option (α × Sg)} {oM : Option (β' × Sg)} {kM : β' → Sg → Option (β × Sg)} {S : α' → Sg → β' → Sg → Prop} {R : α → Sg → β → Sg → Prop} (h : RQ oC oM S) (g : ∀ a s b t, S a s b t → RQ (kC a s) (kM b t) R) : RQ (bd oC kC) (bd oM kM) R := by
  cases oC with
  | none => intro a s b t e; cases e
  | some p =>
    cases oM with
    | none => intro a s b t _ e; cases e
    | some q => exact g p.1 p.2 q.1 q.2 (h _ _ _ _ rfl rfl)
theorem rq_nC {α β γ : Type} {e : γ} {k : γ → Option (α × Sg)} {oM : Option (β × Sg)} {R : α → Sg → β → Sg → Prop} (h : ∀ x, x = e → RQ (k x) oM R) : RQ (nmx e k) oM R := h e rfl
theorem rq_nM {α β γ : Type} {e : γ} {k : γ → Option (β × Sg)} {oC : Option (α × Sg)} {R : α → Sg → β → Sg → Prop} (h : ∀ x, x = e → RQ oC (k x) R) : RQ oC (nmx e k) R := h e rfl
theorem rq_s {α β : Type} {a : α} {s : Sg} {b : β} {t : Sg} {R : α → Sg → β → Sg → Prop} (h : R a s b t) : RQ (some (a, s)) (some (b, t)) R := by
  intro a' s' b' t' e e2
  cases e
  cases e2
  exact h
/-! the token on both sides -/
def TkRel (n : Nat) (sC sM : Sg) : Prop := ∃ st en : Nat, (TkA (sC.1 1) n sC ∧ TkM n sM ∧ (∀ i, i < n → sC.1 1 i = byM sM i)) ∧ (st ≤ n ∧ st ≤ en ∧ en ≤ n) ∧ ((sC.1 7 4).toInt = (st : Int) ∧ (sC.1 7 2).toInt = (en : Int) ∧ (sM.1 0 13).toInt = (st : Int) ∧ (sM.1 0 14).toInt = (en : Int)) ∧ TokE (sC.1 1) n st en ∧ KindC (sC.1 1) n st en sC ∧ KindM (sC.1 1) n st en sM
theorem toke_le {B : Nat → Int32} {n st en : Nat} (h : TokE B n st en) : st ≤ en ∧ en ≤ n := by
  rcases h with h | ⟨h1, h | h | h⟩
  · omega
  · have := h.2.1
    have := h.2.2.1
    omega
  · have := h.2.1
    have := h.2.2.1
    omega
  · omega
theorem dv_c {B B' : Nat → Int32} {st : Nat} : ∀ k, (∀ i, i < k → B (st + i) = B' (st + i)) → dv B st k = dv B' st k
  | 0, _ => rfl
  | k + 1, h => by
    unfold dv
    rw [dv_c k (fun i hi => h i (by omega)), h k (by omega)]
theorem kindm_c {B B' : Nat → Int32} {n st en : Nat} {s : Sg} (e : ∀ i, i < n → B i = B' i) (hen : en ≤ n) (h : KindM B n st en s) : KindM B' n st en s := by
  rcases h with h | h | h | h
  · exact Or.inl h
  · refine Or.inr (Or.inl ?_)
    rw [← e st h.1]
    exact h
  · refine Or.inr (Or.inr (Or.inl ?_))
    rw [← e st h.1, ← dv_c (en - st) (fun i hi => e (st + i) (by omega))]
    exact h
  · refine Or.inr (Or.inr (Or.inr ?_))
    rw [← e st h.1]
    exact h
theorem adv_r {n : Nat} {sC sM : Sg} (h : TkRel n sC sM) : RQ (f_X7_advance sC) (f_X12_ahead sM) (fun _ s _ t => TkRel n s t) := by
  obtain ⟨st, en, ⟨ha, hm, hb⟩, ⟨l1, l2, l3⟩, ⟨p1, p2, p3, p4⟩, -, -, -⟩ := h
  refine rq_pp (adv_c (sC.1 1) n en ha p2 l3) (ahd_m n en hm p4 l3) (fun _ s _ t c m => ?_)
  obtain ⟨ca, st1, en1, c1, c2, c3, c4, c5⟩ := c
  obtain ⟨mk, st2, en2, m1, m2, m3, m4, m5⟩ := m
  have hb' : ∀ i, i < n → byM sM i = sC.1 1 i := fun i hi => (hb i hi).symm
  have m1 := toks_c hb' m1
  have e1 := toks_u c1 m1
  subst e1
  have m2' := toke_c hb' m2
  have e2 := toke_u c2 m2'
  subst e2
  have le := toke_le c2
  have ea := ca.1
  refine ⟨st1, en1, ⟨⟨rfl, ca.2.1, ca.2.2⟩, km0_t mk hm, fun i hi => ?_⟩, ⟨c1.2.1, le.1, le.2⟩, ⟨c3, c4, m3, m4⟩, ?_, ?_, ?_⟩
  · rw [ea, km0_b mk]
    exact hb i hi
  · rw [ea]; exact c2
  · rw [ea]; exact c5
  · rw [ea]; exact kindm_c hb' le.2 m5
theorem kwf_k {B : Nat → Int32} {st k : Nat} (hk : k ≤ 8) (hl : Lets B st k) : (∃ i : Nat, i < 31 ∧ (kwf (p27 B st k) (flatK KWC) 100 0).toInt = 100 + (i : Int)) ∨ kwf (p27 B st k) (flatK KWC) 100 0 = 1 := by
  have hC : KWC.length = 31 := by decide
  rcases kwf_x hk hl KWC 100 okCL with ⟨i, g1, g2, g3⟩ | ⟨g1, g2⟩
  · rw [hC] at g1
    refine Or.inl ⟨i, g1, ?_⟩
    rw [g3]
    have a := i_add 100 (Int32.ofNat i)
    have b : (Int32.ofNat i).toInt = (i : Int) := Int32.toInt_ofNat_of_lt (by omega)
    have e : (100 : Int32).toInt = 100 := rfl
    omega
  · exact Or.inr g2
theorem run_l {B : Nat → Int32} {n st en : Nat} (h : RunE isL B n st en) : Lets B st (en - st) := fun i h1 h2 => h.2.2.1 i h1 (by have := h.1; omega)
theorem toke_l {B : Nat → Int32} {n st en : Nat} (h : TokE B n st en) (hs : st < n) (hl : isL (B st)) : RunE isL B n st en := by
  rcases h with h | ⟨h1, h | h | h⟩
  · omega
  · exact h.2
  · exact absurd h.1 (isL_nD hl)
  · exact absurd hl h.1
/-- a token's kinds on both sides, without its place -/
def KndR (sC sM : Sg) : Prop := (sC.1 7 3 = 0 ∧ sM.1 0 12 = 0) ∨ (sC.1 7 3 = 4 ∧ sM.1 0 12 = 1) ∨ (sC.1 7 3 = 3 ∧ sM.1 0 12 = 3 ∧ sC.1 7 5 = sM.1 0 15 ∧ (0 ≤ (sC.1 7 5).toInt ∧ (sC.1 7 5).toInt ≤ 9999)) ∨ (isS (sC.1 7 3) ∧ sM.1 0 12 = 4 ∧ sM.1 0 15 = sC.1 7 3) ∨ (sM.1 0 12 = 2 ∧ (sC.1 7 3 = 2 ∨ sC.1 7 3 = 1 ∨ ∃ i : Nat, i < 31 ∧ (sC.1 7 3).toInt = 100 + (i : Int)))
theorem knd_of {n : Nat} {sC sM : Sg} (h : TkRel n sC sM) : KndR sC sM := by
  obtain ⟨st, en, -, -, -, te, c, m⟩ := h
  rcases c with c | c | c | c <;> rcases m with m | m | m | m
  · exact Or.inl ⟨c.2, m.2⟩
  · omega
  · omega
  · omega
  · omega
  · refine Or.inr (Or.inr (Or.inr (Or.inr ⟨m.2.2, ?_⟩)))
    rcases c.2.2 with q | q
    · exact Or.inl q.2
    · have l := run_l (toke_l te c.1 c.2.1)
      rcases kwf_k q.1 l with w | w
      · exact Or.inr (Or.inr (by rw [q.2.2]; exact w))
      · exact Or.inr (Or.inl (by rw [q.2.2]; exact w))
  · exact absurd m.2.1 (isL_nD c.2.1)
  · exact absurd c.2.1 m.2.1
  · omega
  · exact absurd c.2.1 (isL_nD m.2.1)
  · rcases c.2.2 with q | q <;> rcases m.2.2 with p | p
    · refine Or.inr (Or.inr (Or.inl ⟨q.2.1, p.2.1, Int32.toInt_inj.mp (q.2.2.trans p.2.2.symm), ?_⟩))
      have hd : Digs (sC.1 1) st (en - st) := by
        rcases te with h | ⟨h1, h | h | h⟩
        · omega
        · exact absurd c.2.1 (isL_nD h.1)
        · intro i i1 i2
          exact h.2.2.2.1 i i1 (by have := h.2.1; omega)
        · exact absurd c.2.1 h.2.1
      have b := dv_b _ hd
      have b2 := pw10 q.1
      rw [q.2.2]
      omega
    · omega
    · omega
    · exact Or.inr (Or.inl ⟨q.2, p.2⟩)
  · exact absurd c.2.1 m.2.2.1
  · omega
  · exact absurd m.2.1 c.2.1
  · exact absurd m.2.1 c.2.2.1
  · rcases c.2.2.2 with q | q <;> rcases m.2.2.2 with p | p
    · refine Or.inr (Or.inr (Or.inr (Or.inl ⟨by rw [q.2]; exact q.1, p.2.1, by rw [q.2]; exact p.2.2⟩)))
    · exact absurd q.1 p.1
    · exact absurd p.1 q.1
    · exact Or.inr (Or.inl ⟨q.2, p.2⟩)
theorem isS_t {c : Int32} (h : isS c) : 59 ≤ c.toInt ∧ c.toInt ≤ 62 := by
  rcases h with h | h | h | h <;> subst h <;> decide
theorem sign_r {n : Nat} {sC sM : Sg} (h : TkRel n sC sM) (c : Int32) (hc : isS c) : PQ (f_X12_isSign c sM) (fun r t => t = sM ∧ ((r = 1 ∧ sC.1 7 3 = c) ∨ (r = 0 ∧ ¬ sC.1 7 3 = c))) := by
  have k := knd_of h
  have t := isS_t hc
  unfold f_X12_isSign
  refine pq_if (fun d => pq_if (fun e => pq_s ⟨rfl, Or.inl ⟨rfl, ?_⟩⟩) (fun e => pq_s ⟨rfl, Or.inr ⟨rfl, ?_⟩⟩)) (fun d => pq_s ⟨rfl, Or.inr ⟨rfl, ?_⟩⟩)
  · rcases k with k | k | k | k | k
    · exact absurd (d.symm.trans k.2) (by decide)
    · exact absurd (d.symm.trans k.2) (by decide)
    · exact absurd (d.symm.trans k.2.1) (by decide)
    · exact k.2.2.symm.trans e
    · exact absurd (d.symm.trans k.1) (by decide)
  · intro w
    rcases k with k | k | k | k | k
    · exact absurd (d.symm.trans k.2) (by decide)
    · exact absurd (d.symm.trans k.2) (by decide)
    · exact absurd (d.symm.trans k.2.1) (by decide)
    · exact e (k.2.2.trans w)
    · exact absurd (d.symm.trans k.1) (by decide)
  · intro w
    unfold KndR at k
    rw [w] at k
    rcases k with k | k | k | k | k
    · have e0 : (0 : Int32).toInt = 0 := rfl
      rw [k.1] at t
      omega
    · have e0 : (4 : Int32).toInt = 4 := rfl
      rw [k.1] at t
      omega
    · have e0 : (3 : Int32).toInt = 3 := rfl
      rw [k.1] at t
      omega
    · exact d k.2.1
    · rcases k.2 with q | q | ⟨i, q1, q2⟩
      · have e0 : (2 : Int32).toInt = 2 := rfl
        rw [q] at t
        omega
      · have e0 : (1 : Int32).toInt = 1 := rfl
        rw [q] at t
        omega
      · omega
/-- the word's kind and what the reference finds -/
def KwS (k r : Int32) : Prop := (∃ i : Nat, i < 31 ∧ k.toInt = 100 + (i : Int) ∧ r.toInt = ((permK.getD i 0 : Nat) : Int)) ∨ ((k.toInt < 100 ∨ 130 < k.toInt) ∧ r = -1)
theorem word_r {n : Nat} {sC sM : Sg} (h : TkRel n sC sM) : PQ (f_X12_inWords_1001 sM) (fun r t => t = sM ∧ KwS (sC.1 7 3) r ∧ (sC.1 7 3 = 1 → r = -1)) := by
  have k := knd_of h
  obtain ⟨st, en, ⟨ha, hm, hb⟩, ⟨l1, l2, l3⟩, ⟨p1, p2, p3, p4⟩, te, c, m⟩ := h
  have e0 : (0 : Int32).toInt = 0 := rfl
  have e1 : (1 : Int32).toInt = 1 := rfl
  have e2 : (2 : Int32).toInt = 2 := rfl
  have e3 : (3 : Int32).toInt = 3 := rfl
  have e4 : (4 : Int32).toInt = 4 := rfl
  refine pq_w (iw_p (byM sM) n st en ⟨hm, rfl, p3, p4, l2, l3⟩) (fun r t g => ⟨g.1, ?_⟩)
  rcases g.2 with ⟨g2, g⟩ | ⟨g2, g⟩
  · have hs : st < n ∧ isL (sC.1 1 st) := by
      rcases m with m | m | m | m
      · exact absurd (g2.symm.trans m.2) (by decide)
      · exact ⟨m.1, m.2.1⟩
      · rcases m.2.2 with q | q
        · exact absurd (g2.symm.trans q.2.1) (by decide)
        · exact absurd (g2.symm.trans q.2) (by decide)
      · rcases m.2.2.2 with q | q
        · exact absurd (g2.symm.trans q.2.1) (by decide)
        · exact absurd (g2.symm.trans q.2) (by decide)
    have run := toke_l te hs.1 hs.2
    have lt := run_l run
    have ca : (8 < en - st ∧ sC.1 7 3 = 2) ∨ (en - st ≤ 8 ∧ sC.2 7 6 = p27 (sC.1 1) st (en - st) ∧ sC.1 7 3 = kwf (p27 (sC.1 1) st (en - st)) (flatK KWC) 100 0) := by
      rcases c with c | c | c | c
      · omega
      · exact c.2.2
      · exact absurd c.2.1 (isL_nD hs.2)
      · exact absurd hs.2 c.2.1
    have g' : (∃ j : Nat, j < 31 ∧ IsW (sC.1 1) st (en - st) (KWM.getD j []) ∧ r.toInt = (j : Int)) ∨ ((∀ j, j < 31 → ¬ IsW (sC.1 1) st (en - st) (KWM.getD j [])) ∧ r = -1) := by
      have eb : ∀ i, i < en - st → byM sM (st + i) = sC.1 1 (st + i) := fun i hi => (hb (st + i) (by omega)).symm
      have eb' : ∀ i, i < en - st → sC.1 1 (st + i) = byM sM (st + i) := fun i hi => hb (st + i) (by omega)
      rcases g with ⟨j, g1, g3, g4⟩ | ⟨g1, g3⟩
      · exact Or.inl ⟨j, g1, isW_c eb g3, g4⟩
      · exact Or.inr ⟨fun j hj w => g1 j hj (isW_c eb' w), g3⟩
    rcases ca with q | q
    · have hr : r = -1 := by
        rcases g' with ⟨j, g1, g3, g4⟩ | ⟨g1, g3⟩
        · exfalso
          have ok := (okK_x (List.all_eq_true.mp okML _ (show KWM.getD j [] ∈ KWM from by
            rw [List.getD_eq_getElem?_getD, List.getElem?_eq_getElem (show j < KWM.length from g1)]
            exact List.getElem_mem _))).1
          have := g3.1
          omega
        · exact g3
      exact ⟨Or.inr ⟨Or.inl (by rw [q.2, e2]; omega), hr⟩, fun _ => hr⟩
    · have w := kwr_of q.1 lt g'
      rw [← q.2.2] at w
      rcases w with ⟨i, w1, w2, w3⟩ | ⟨w1, w2⟩
      · exact ⟨Or.inl ⟨i, w1, w2, w3⟩, fun z => by rw [z, e1] at w2; omega⟩
      · exact ⟨Or.inr ⟨Or.inl (by rw [w1, e1]; omega), w2⟩, fun _ => w2⟩
  · refine ⟨Or.inr ⟨?_, g⟩, fun _ => g⟩
    rcases k with k | k | k | k | k
    · rw [k.1, e0]; omega
    · rw [k.1, e4]; omega
    · rw [k.1, e3]; omega
    · have := isS_t k.1
      omega
    · exact absurd k.1 g2
theorem name_r {n : Nat} {sC sM : Sg} (h : TkRel n sC sM) : PQ (f_X12_isName_1001 sM) (fun r t => t = sM ∧ ((r = 1 ∧ sC.1 7 3 = 1) ∨ (r = 0 ∧ ¬ sC.1 7 3 = 1))) := by
  have k := knd_of h
  have wr := word_r h
  obtain ⟨st, en, ⟨ha, hm, hb⟩, ⟨l1, l2, l3⟩, ⟨p1, p2, p3, p4⟩, te, c, m⟩ := h
  have e0 : (0 : Int32).toInt = 0 := rfl
  have e1 : (1 : Int32).toInt = 1 := rfl
  have e2 : (2 : Int32).toInt = 2 := rfl
  have e8 : (8 : Int32).toInt = 8 := rfl
  have hn := hm.1
  have h9 := hm.2
  have sb := i_sub (sM.1 0 14) (sM.1 0 13)
  unfold f_X12_isName_1001
  refine pq_if (fun d => pq_if (fun d8 => pq_s ⟨rfl, Or.inr ⟨rfl, fun w => ?_⟩⟩) (fun d8 => pq_b wr (fun r1 s2 g => ?_))) (fun d => pq_s ⟨rfl, Or.inr ⟨rfl, fun w => ?_⟩⟩)
  · have d8 := i_lt d8
    rcases c with c | c | c | c
    · exact absurd (w.symm.trans c.2) (by decide)
    · rcases c.2.2 with q | q
      · exact absurd (w.symm.trans q.2) (by decide)
      · omega
    · rcases c.2.2 with q | q
      · exact absurd (w.symm.trans q.2.1) (by decide)
      · exact absurd (w.symm.trans q.2) (by decide)
    · rcases c.2.2.2 with q | q
      · have t := isS_t q.1
        rw [← q.2, w, e1] at t
        omega
      · exact absurd (w.symm.trans q.2) (by decide)
  · have d8 := i_nlt d8
    obtain ⟨es, g, g1⟩ := g
    subst es
    refine pq_if (fun c1 => pq_s ⟨rfl, Or.inl ⟨rfl, ?_⟩⟩) (fun c1 => pq_s ⟨rfl, Or.inr ⟨rfl, fun w => c1 (g1 w)⟩⟩)
    rcases k with k | k | k | k | k
    · exact absurd (d.symm.trans k.2) (by decide)
    · exact absurd (d.symm.trans k.2) (by decide)
    · exact absurd (d.symm.trans k.2.1) (by decide)
    · exact absurd (d.symm.trans k.2.1) (by decide)
    · rcases k.2 with q | q | ⟨i, q1, q2⟩
      · exfalso
        rcases c with c | c | c | c
        · exact absurd (q.symm.trans c.2) (by decide)
        · rcases c.2.2 with z | z
          · omega
          · rcases kwf_k z.1 (run_l (toke_l te c.1 c.2.1)) with ⟨i, w1, w2⟩ | w
            · rw [← z.2.2, q, e2] at w2
              omega
            · exact absurd (q.symm.trans (z.2.2.trans w)) (by decide)
        · rcases c.2.2 with z | z
          · exact absurd (q.symm.trans z.2.1) (by decide)
          · exact absurd (q.symm.trans z.2) (by decide)
        · rcases c.2.2.2 with z | z
          · have t := isS_t z.1
            rw [← z.2, q, e2] at t
            omega
          · exact absurd (q.symm.trans z.2) (by decide)
      · exact q
      · exfalso
        rcases g with ⟨i', w1, w2, w3⟩ | ⟨w1, w2⟩
        · rw [c1] at w3
          have em : (-1 : Int32).toInt = -1 := rfl
          omega
        · omega
  · unfold KndR at k
    rw [w] at k
    rcases k with k | k | k | k | k
    · exact absurd k.1 (by decide)
    · exact absurd k.1 (by decide)
    · exact absurd k.1 (by decide)
    · have t := isS_t k.1
      omega
    · exact d k.1
theorem nh_b (B : Nat → Int32) (n st en : Nat) (s : Sg) (hs : Wd B n st en s) (m : Nat) : ∀ (i : Nat) (v1 : Int64) (v3 : Int32), v3.toInt = (st : Int) + (i : Int) → st + i ≤ en → v1 = p256 B st i → PQ (f_X12_nameHere_b7 m v1 v3 s) (fun r t => t = s ∧ r = p256 B st (en - st)) := by
  obtain ⟨hm, hb, h13, h14, hse, hen⟩ := hs
  have hn := hm.1
  have h9 := hm.2
  induction m with
  | zero => intro i v1 v3 _ _ _ r s9 e; cases e
  | succ m ih =>
    intro i v1 v3 h3 hi h1
    have e1 : (1 : Int32).toInt = 1 := rfl
    have cl := cl_nat v3
    have d : v3.toNatClampNeg = st + i := by omega
    have a3 : (v3 + 1).toInt = v3.toInt + 1 := i_addx v3 1 (show -2147483648 ≤ v3.toInt + 1 ∧ v3.toInt + 1 ≤ 2147483647 from by omega)
    unfold f_X12_nameHere_b7
    refine pq_if (fun c => pq_s ⟨rfl, ?_⟩) (fun c => pq_b (by_p _ n hm (by omega)) (fun r1 s2 g => ?_))
    · have c := i_le c
      have q : i = en - st := by omega
      rw [h1, q]
    · have c := i_nle c
      obtain ⟨es, g⟩ := g
      subst es
      rw [hb, d] at g
      have gr : r1 = B (st + i) := by
        rcases g with w | w
        · omega
        · exact w.2
      refine pq_n (fun x3 ex => ih (i + 1) x3 (v3 + 1) (by omega) (by omega) ?_)
      rw [ex, h1, gr]
      rfl
theorem here_r {n : Nat} {sC sM : Sg} (h : TkRel n sC sM) (hk : sC.1 7 3 = 1) : ∃ b, NameR (sC.2 7 6) b ∧ PQ (f_X12_nameHere sM) (fun r t => t = sM ∧ r = b) := by
  obtain ⟨st, en, ⟨ha, hm, hb⟩, ⟨l1, l2, l3⟩, ⟨p1, p2, p3, p4⟩, te, c, m⟩ := h
  have e0 : (0 : Int32).toInt = 0 := rfl
  have e1 : (1 : Int32).toInt = 1 := rfl
  have w : (st < n ∧ isL (sC.1 1 st)) ∧ en - st ≤ 8 ∧ sC.2 7 6 = p27 (sC.1 1) st (en - st) := by
    rcases c with c | c | c | c
    · exact absurd (hk.symm.trans c.2) (by decide)
    · rcases c.2.2 with q | q
      · exact absurd (hk.symm.trans q.2) (by decide)
      · exact ⟨⟨c.1, c.2.1⟩, q.1, q.2.1⟩
    · rcases c.2.2 with q | q
      · exact absurd (hk.symm.trans q.2.1) (by decide)
      · exact absurd (hk.symm.trans q.2) (by decide)
    · rcases c.2.2.2 with q | q
      · have t := isS_t q.1
        rw [← q.2, hk, e1] at t
        omega
      · exact absurd (hk.symm.trans q.2) (by decide)
  have lt := run_l (toke_l te w.1.1 w.1.2)
  refine ⟨p256 (byM sM) st (en - st), ⟨sC.1 1, st, en - st, w.2.1, lt, w.2.2, p256_c _ (fun i hi => (hb (st + i) (by omega)).symm)⟩, ?_⟩
  unfold f_X12_nameHere
  exact nh_b (byM sM) n st en sM ⟨hm, rfl, p3, p4, l2, l3⟩ BIG 0 0 (sM.1 0 13) (by omega) (by omega) rfl
/-! faults -/
def FtR (sC sM : Sg) : Prop := sC.1 7 8 = sM.1 0 18 ∧ sC.1 7 9 = sM.1 0 17 ∧ 0 < (sM.1 0 18).toInt
theorem fails_r {n : Nat} {sC sM : Sg} (h : TkRel n sC sM) (h0 : sM.1 0 18 = 0) (a : Int32) (ha : 0 < a.toInt) : RQ (f_X7_wrong a sC) (f_X12_fails a sM) (fun r s r2 t => r = 0 ∧ r2 = 0 ∧ FtR s t) := by
  have k := knd_of h
  have b4 : sC.1 7 3 = 4 ↔ sM.1 0 12 = 1 := by
    rcases k with k | k | k | k | k
    · rw [k.1, k.2]; decide
    · rw [k.1, k.2]; decide
    · rw [k.1, k.2.1]; decide
    · rw [k.2.1]
      refine ⟨fun w => ?_, fun w => absurd w (by decide)⟩
      have t := isS_t k.1
      have e4 : (4 : Int32).toInt = 4 := rfl
      rw [w] at t
      omega
    · rw [k.1]
      refine ⟨fun w => ?_, fun w => absurd w (by decide)⟩
      have e4 : (4 : Int32).toInt = 4 := rfl
      rcases k.2 with q | q | ⟨i, q1, q2⟩
      · exact absurd (w.symm.trans q) (by decide)
      · exact absurd (w.symm.trans q) (by decide)
      · rw [w] at q2
        omega
  obtain ⟨st, en, -, -, ⟨p1, p2, p3, p4⟩, -, -, -⟩ := h
  have pe : sC.1 7 4 = sM.1 0 13 := Int32.toInt_inj.mp (p1.trans p3.symm)
  unfold f_X7_wrong f_X12_fails
  refine rq_iM (fun _ => ?_) (fun w => absurd h0 w)
  refine rq_iC (fun c => rq_iM (fun d => rq_nC (fun s1 e1 => rq_nM (fun t1 f1 => rq_s ⟨rfl, rfl, ?_⟩))) (fun d => absurd (b4.mp c) d)) (fun c => rq_iM (fun d => absurd (b4.mpr d) c) (fun d => rq_nC (fun s1 e1 => rq_nM (fun t1 f1 => rq_s ⟨rfl, rfl, ?_⟩))))
  · subst e1; subst f1
    refine ⟨by rw [q_ne rfl, q_eq, q_ne rfl, q_eq], by rw [q_eq, q_eq, q_ne rfl, q_ne rfl, pe], by rw [q_ne rfl, q_eq]; decide⟩
  · subst e1; subst f1
    refine ⟨by rw [q_ne rfl, q_eq, q_ne rfl, q_eq], by rw [q_eq, q_eq, q_ne rfl, q_ne rfl, pe], by rw [q_ne rfl, q_eq]; exact ha⟩
/-! names on both sides -/
def offN (q : Nat) : Nat := if q = 0 then 0 else if q = 1 then 8 else if q = 2 then 16 else 20
def codN (q : Nat) : Int32 := if q = 0 then 100 else if q = 1 then 104 else if q = 2 then 108 else 112
theorem cod_i {q q' : Nat} (h : q < 4) (h' : q' < 4) (e : codN q = codN q') : q = q' := by
  have a : q = 0 ∨ q = 1 ∨ q = 2 ∨ q = 3 := by omega
  have b : q' = 0 ∨ q' = 1 ∨ q' = 2 ∨ q' = 3 := by omega
  rcases a with a | a | a | a <;> rcases b with b | b | b | b <;> subst a <;> subst b <;> first
    | rfl
    | exact absurd e (by decide)
/-- names (N of them), their sorts and numbers in the class, the same in the reference from a place on -/
def NmR (nm : Nat → Int64) (so nu : Nat → Int32) (N : Nat) (mm : Nat → Int64) (cnt : Nat → Nat) : Prop := N = cnt 0 + cnt 1 + cnt 2 + cnt 3 ∧ (∀ i, i < N → ∃ q j, q < 4 ∧ j < cnt q ∧ so i = codN q ∧ (nu i).toInt = (j : Int) ∧ NameR (nm i) (mm (offN q + j))) ∧ (∀ q j, q < 4 → j < cnt q → ∃ i, i < N ∧ so i = codN q ∧ (nu i).toInt = (j : Int)) ∧ (∀ i i', i < N → i' < N → nm i = nm i' → i = i')
theorem nm_cell {nm : Nat → Int64} {so nu : Nat → Int32} {N : Nat} {mm : Nat → Int64} {cnt : Nat → Nat} (h : NmR nm so nu N mm cnt) {i q j : Nat} (hi : i < N) (hq : q < 4) (hs : so i = codN q) (hn : (nu i).toInt = (j : Int)) : j < cnt q ∧ NameR (nm i) (mm (offN q + j)) := by
  obtain ⟨q', j', h1, h2, h3, h4, h5⟩ := h.2.1 i hi
  have e := cod_i hq h1 (hs.symm.trans h3)
  subst e
  have e2 : j = j' := by omega
  subst e2
  exact ⟨h2, h5⟩
def FndC (nm : Nat → Int64) (so nu : Nat → Int32) (N : Nat) (a : Int64) (c r : Int32) : Prop := (∃ i, i < N ∧ nm i = a ∧ so i = c ∧ r = nu i) ∨ ((∀ i, i < N → ¬ (nm i = a ∧ so i = c)) ∧ r = -1)
def FndM (mm : Nat → Int64) (off many : Nat) (b : Int64) (r : Int32) : Prop := (∃ k, k < many ∧ mm (off + k) = b ∧ r.toInt = (k : Int)) ∨ ((∀ k, k < many → ¬ mm (off + k) = b) ∧ r = -1)
theorem fnd_e {nm : Nat → Int64} {so nu : Nat → Int32} {N : Nat} {mm : Nat → Int64} {cnt : Nat → Nat} (h : NmR nm so nu N mm cnt) {a b : Int64} (hab : NameR a b) {q : Nat} (hq : q < 4) {r r' : Int32} (c : FndC nm so nu N a (codN q) r) (m : FndM mm (offN q) (cnt q) b r') : r = r' := by
  rcases m with ⟨k, m1, m2, m3⟩ | ⟨m1, m2⟩
  · obtain ⟨i, i1, i2, i3⟩ := h.2.2.1 q k hq m1
    have cl := nm_cell h i1 hq i2 i3
    have ea : nm i = a := (name_iff cl.2 hab).mpr m2
    rcases c with ⟨i', c1, c2, c3, c4⟩ | ⟨c1, c2⟩
    · have e := h.2.2.2 i i' i1 c1 (ea.trans c2.symm)
      subst e
      rw [c4]
      exact Int32.toInt_inj.mp (i3.trans m3.symm)
    · exact absurd ⟨ea, i2⟩ (c1 i i1)
  · rcases c with ⟨i, c1, c2, c3, c4⟩ | ⟨c1, c2⟩
    · exfalso
      obtain ⟨q', j, h1, h2, h3, h4, h5⟩ := h.2.1 i c1
      have e := cod_i hq h1 (c3.symm.trans h3)
      subst e
      exact m1 j h2 ((name_iff h5 hab).mp c2)
    · exact c2.trans m2.symm
/-- no name at all like this one: what the class asks of the list, the reference of its four rows -/
theorem none_e {nm : Nat → Int64} {so nu : Nat → Int32} {N : Nat} {mm : Nat → Int64} {cnt : Nat → Nat} (h : NmR nm so nu N mm cnt) {a b : Int64} (hab : NameR a b) : (∀ i, i < N → ¬ nm i = a) ↔ (∀ q, q < 4 → ∀ k, k < cnt q → ¬ mm (offN q + k) = b) := by
  constructor
  · intro w q hq k hk e
    obtain ⟨i, i1, i2, i3⟩ := h.2.2.1 q k hq hk
    have cl := nm_cell h i1 hq i2 i3
    exact w i i1 ((name_iff cl.2 hab).mpr e)
  · intro w i hi e
    obtain ⟨q, j, h1, h2, h3, h4, h5⟩ := h.2.1 i hi
    exact w q h1 j h2 ((name_iff h5 hab).mp e)
theorem off_d {q q' j j' : Nat} (hq : q < 4) (hq' : q' < 4) (h : j < 8 ∧ (2 ≤ q → j < 4)) (h' : j' < 8 ∧ (2 ≤ q' → j' < 4)) (e : offN q + j = offN q' + j') : q = q' ∧ j = j' := by
  have a : q = 0 ∨ q = 1 ∨ q = 2 ∨ q = 3 := by omega
  have b : q' = 0 ∨ q' = 1 ∨ q' = 2 ∨ q' = 3 := by omega
  rcases a with a | a | a | a <;> rcases b with b | b | b | b <;> subst a <;> subst b <;> simp [offN] at e <;> omega
/-- one name more -/
theorem nm_add {nm : Nat → Int64} {so nu : Nat → Int32} {N : Nat} {mm : Nat → Int64} {cnt : Nat → Nat} (h : NmR nm so nu N mm cnt) {a b : Int64} (hab : NameR a b) {q : Nat} (hq : q < 4) (hc : ∀ q, q < 4 → cnt q ≤ 8 ∧ (2 ≤ q → cnt q ≤ 4)) (hm : cnt q < 8 ∧ (2 ≤ q → cnt q < 4)) (nw : ∀ i, i < N → ¬ nm i = a) {nm' : Nat → Int64} {so' nu' : Nat → Int32} {mm' : Nat → Int64} {cnt' : Nat → Nat} (e1 : nm' N = a ∧ ∀ i, i < N → nm' i = nm i) (e2 : so' N = codN q ∧ ∀ i, i < N → so' i = so i) (e3 : (nu' N).toInt = (cnt q : Int) ∧ ∀ i, i < N → nu' i = nu i) (e4 : mm' (offN q + cnt q) = b ∧ ∀ p, p < 24 → ¬ p = offN q + cnt q → mm' p = mm p) (e5 : cnt' q = cnt q + 1 ∧ ∀ x, ¬ x = q → cnt' x = cnt x) : NmR nm' so' nu' (N + 1) mm' cnt' := by
  have lt24 : ∀ x j, x < 4 → j < 8 → (2 ≤ x → j < 4) → offN x + j < 24 := by
    intro x j hx h1 h2
    have b : x = 0 ∨ x = 1 ∨ x = 2 ∨ x = 3 := by omega
    rcases b with b | b | b | b <;> subst b <;> simp [offN] <;> omega
  refine ⟨?_, fun i hi => ?_, fun x j hx hj => ?_, fun i i' hi hi' e => ?_⟩
  · have b : q = 0 ∨ q = 1 ∨ q = 2 ∨ q = 3 := by omega
    have h0 := h.1
    have f := e5.2
    rcases b with b | b | b | b <;> subst b
    · have := f 1 (by decide)
      have := f 2 (by decide)
      have := f 3 (by decide)
      have := e5.1
      omega
    · have := f 0 (by decide)
      have := f 2 (by decide)
      have := f 3 (by decide)
      have := e5.1
      omega
    · have := f 0 (by decide)
      have := f 1 (by decide)
      have := f 3 (by decide)
      have := e5.1
      omega
    · have := f 0 (by decide)
      have := f 1 (by decide)
      have := f 2 (by decide)
      have := e5.1
      omega
  · by_cases w : i = N
    · subst w
      refine ⟨q, cnt q, hq, by rw [e5.1]; omega, e2.1, e3.1, ?_⟩
      rw [e1.1, e4.1]
      exact hab
    · have hi' : i < N := by omega
      obtain ⟨x, j, h1, h2, h3, h4, h5⟩ := h.2.1 i hi'
      have c := hc x h1
      have lx : j < cnt' x := by
        by_cases z : x = q
        · subst z; rw [e5.1]; omega
        · rw [e5.2 x z]; exact h2
      refine ⟨x, j, h1, lx, by rw [e2.2 i hi']; exact h3, by rw [e3.2 i hi']; exact h4, ?_⟩
      rw [e1.2 i hi', e4.2 _ (lt24 x j h1 (by omega) (by omega)) (fun z => ?_)]
      · exact h5
      · have d := off_d h1 hq (j := j) (j' := cnt q) ⟨by omega, by omega⟩ hm z
        have d1 := d.1
        subst d1
        omega
  · by_cases z : x = q
    · subst z
      rw [e5.1] at hj
      by_cases w : j = cnt x
      · subst w
        exact ⟨N, by omega, e2.1, e3.1⟩
      · obtain ⟨i, i1, i2, i3⟩ := h.2.2.1 x j hx (by omega)
        exact ⟨i, by omega, by rw [e2.2 i i1]; exact i2, by rw [e3.2 i i1]; exact i3⟩
    · rw [e5.2 x z] at hj
      obtain ⟨i, i1, i2, i3⟩ := h.2.2.1 x j hx hj
      exact ⟨i, by omega, by rw [e2.2 i i1]; exact i2, by rw [e3.2 i i1]; exact i3⟩
  · by_cases w : i = N <;> by_cases w' : i' = N
    · omega
    · subst w
      rw [e1.1, e1.2 i' (by omega)] at e
      exact absurd e.symm (nw i' (by omega))
    · subst w'
      rw [e1.1, e1.2 i (by omega)] at e
      exact absurd e (nw i (by omega))
    · rw [e1.2 i (by omega), e1.2 i' (by omega)] at e
      exact h.2.2.2 i i' (by omega) (by omega) e
/-! names: the lists are asked -/
theorem no_b1 (a : Int64) (c : Int32) (N : Nat) (s : Sg) (hN : (s.1 25 12).toInt = (N : Int)) (h24 : N ≤ 24) (m : Nat) : ∀ (i : Nat) (v4 : Int32), v4.toInt = (i : Int) → i ≤ N → (∀ j, j < i → ¬ (s.2 28 j = a ∧ s.1 29 j = c)) → PQ (f_X4_numberOf_b3 m a c v4 s) (fun r t => t = s ∧ FndC (s.2 28) (s.1 29) (s.1 30) N a c r) := by
  induction m with
  | zero => intro i v4 _ _ _ r s9 e; cases e
  | succ m ih =>
    intro i v4 h4 hi hn
    have e1 : (1 : Int32).toInt = 1 := rfl
    have cl := cl_nat v4
    have d : v4.toNatClampNeg = i := by omega
    have a4 : (v4 + 1).toInt = v4.toInt + 1 := i_addx v4 1 (show -2147483648 ≤ v4.toInt + 1 ∧ v4.toInt + 1 ≤ 2147483647 from by omega)
    unfold f_X4_numberOf_b3
    refine pq_if (fun c1 => pq_s ⟨rfl, Or.inr ⟨fun j hj => hn j ?_, rfl⟩⟩) (fun c1 => pq_c (fun _ => ?_))
    · have c1 := i_le c1
      omega
    · have c1 := i_nle c1
      rw [d]
      have nx : ¬ (s.2 28 i = a ∧ s.1 29 i = c) → PQ (f_X4_numberOf_b3 m a c (v4 + 1) s) (fun r t => t = s ∧ FndC (s.2 28) (s.1 29) (s.1 30) N a c r) := fun w => ih (i + 1) (v4 + 1) (by omega) (by omega) (fun j hj => by
        by_cases q : j = i
        · rw [q]; exact w
        · exact hn j (by omega))
      refine pq_if (fun c2 => pq_if (fun c3 => pq_s ⟨rfl, Or.inl ⟨i, by omega, lgc_0.mp c2, c3, rfl⟩⟩) (fun c3 => nx (fun w => c3 w.2))) (fun c2 => nx (fun w => c2 (lgc_0.mpr w.1)))
theorem no_p1 (a : Int64) (c : Int32) (N : Nat) (s : Sg) (hN : (s.1 25 12).toInt = (N : Int)) (h24 : N ≤ 24) : PQ (f_X4_numberOf a c s) (fun r t => t = s ∧ FndC (s.2 28) (s.1 29) (s.1 30) N a c r) := by
  unfold f_X4_numberOf
  exact no_b1 a c N s hN h24 BIG 0 0 rfl (Nat.zero_le _) (fun j hj => absurd hj (Nat.not_lt_zero j))
theorem no_b2 (a : Int64) (c : Int32) (N : Nat) (s : Sg) (hN : (s.1 52 12).toInt = (N : Int)) (h24 : N ≤ 24) (m : Nat) : ∀ (i : Nat) (v4 : Int32), v4.toInt = (i : Int) → i ≤ N → (∀ j, j < i → ¬ (s.2 55 j = a ∧ s.1 56 j = c)) → PQ (f_X4_numberOf_52_b3 m a c v4 s) (fun r t => t = s ∧ FndC (s.2 55) (s.1 56) (s.1 57) N a c r) := by
  induction m with
  | zero => intro i v4 _ _ _ r s9 e; cases e
  | succ m ih =>
    intro i v4 h4 hi hn
    have e1 : (1 : Int32).toInt = 1 := rfl
    have cl := cl_nat v4
    have d : v4.toNatClampNeg = i := by omega
    have a4 : (v4 + 1).toInt = v4.toInt + 1 := i_addx v4 1 (show -2147483648 ≤ v4.toInt + 1 ∧ v4.toInt + 1 ≤ 2147483647 from by omega)
    unfold f_X4_numberOf_52_b3
    refine pq_if (fun c1 => pq_s ⟨rfl, Or.inr ⟨fun j hj => hn j ?_, rfl⟩⟩) (fun c1 => pq_c (fun _ => ?_))
    · have c1 := i_le c1
      omega
    · have c1 := i_nle c1
      rw [d]
      have nx : ¬ (s.2 55 i = a ∧ s.1 56 i = c) → PQ (f_X4_numberOf_52_b3 m a c (v4 + 1) s) (fun r t => t = s ∧ FndC (s.2 55) (s.1 56) (s.1 57) N a c r) := fun w => ih (i + 1) (v4 + 1) (by omega) (by omega) (fun j hj => by
        by_cases q : j = i
        · rw [q]; exact w
        · exact hn j (by omega))
      refine pq_if (fun c2 => pq_if (fun c3 => pq_s ⟨rfl, Or.inl ⟨i, by omega, lgc_0.mp c2, c3, rfl⟩⟩) (fun c3 => nx (fun w => c3 w.2))) (fun c2 => nx (fun w => c2 (lgc_0.mpr w.1)))
theorem no_p2 (a : Int64) (c : Int32) (N : Nat) (s : Sg) (hN : (s.1 52 12).toInt = (N : Int)) (h24 : N ≤ 24) : PQ (f_X4_numberOf_52 a c s) (fun r t => t = s ∧ FndC (s.2 55) (s.1 56) (s.1 57) N a c r) := by
  unfold f_X4_numberOf_52
  exact no_b2 a c N s hN h24 BIG 0 0 rfl (Nat.zero_le _) (fun j hj => absurd hj (Nat.not_lt_zero j))
theorem fh_b (b : Int64) (s : Sg) (hb : PQ (f_X12_nameHere s) (fun r t => t = s ∧ r = b)) (B M : Nat) (hB : B + M ≤ 130) (m : Nat) (v1 v2 : Int32) (h1 : v1.toInt = (B : Int)) (h2 : v2.toInt = (M : Int)) : ∀ (i : Nat) (v3 : Int32), v3.toInt = (i : Int) → i ≤ M → (∀ j, j < i → ¬ s.2 2 (B + j) = b) → PQ (f_X12_findHere_b2 m v1 v2 v3 s) (fun r t => t = s ∧ FndM (s.2 2) B M b r) := by
  induction m with
  | zero => intro i v3 _ _ _ r s9 e; cases e
  | succ m ih =>
    intro i v3 h3 hi hn
    have e1 : (1 : Int32).toInt = 1 := rfl
    have a3 : (v3 + 1).toInt = v3.toInt + 1 := i_addx v3 1 (show -2147483648 ≤ v3.toInt + 1 ∧ v3.toInt + 1 ≤ 2147483647 from by omega)
    have ax : (v1 + v3).toInt = v1.toInt + v3.toInt := i_addx v1 v3 (by omega)
    have cl := cl_nat (v1 + v3)
    have d : (v1 + v3).toNatClampNeg = B + i := by omega
    unfold f_X12_findHere_b2
    refine pq_if (fun c1 => pq_s ⟨rfl, Or.inr ⟨fun j hj => hn j ?_, rfl⟩⟩) (fun c1 => pq_c (fun _ => pq_b hb (fun r2 s3 g => ?_)))
    · have c1 := i_le c1
      omega
    · have c1 := i_nle c1
      obtain ⟨es, g⟩ := g
      subst es
      rw [d, g]
      refine pq_if (fun c2 => pq_s ⟨rfl, Or.inl ⟨i, by omega, lgc_0.mp c2, h3⟩⟩) (fun c2 => ih (i + 1) (v3 + 1) (by omega) (by omega) (fun j hj => ?_))
      by_cases q : j = i
      · rw [q]; exact fun w => c2 (lgc_0.mpr w)
      · exact hn j (by omega)
theorem fh_p (b : Int64) (s : Sg) (hb : PQ (f_X12_nameHere s) (fun r t => t = s ∧ r = b)) (B M : Nat) (hB : B + M ≤ 130) (v1 v2 : Int32) (h1 : v1.toInt = (B : Int)) (h2 : v2.toInt = (M : Int)) : PQ (f_X12_findHere v1 v2 s) (fun r t => t = s ∧ FndM (s.2 2) B M b r) := by
  unfold f_X12_findHere
  exact fh_b b s hb B M hB BIG v1 v2 h1 h2 0 0 rfl (Nat.zero_le _) (fun j hj => absurd hj (Nat.not_lt_zero j))
theorem ad_b (a : Int64) (c v : Int32) (N : Nat) (s : Sg) (hN : (s.1 52 12).toInt = (N : Int)) (h24 : N < 24) (m : Nat) : ∀ (i : Nat) (v5 : Int32), v5.toInt = (i : Int) → i ≤ N → (∀ j, j < i → ¬ s.2 55 j = a) → PQ (f_X4_addName_52_b14 m a c v v5 s) (fun r t => (r = 0 ∧ t = s ∧ ∃ i, i < N ∧ s.2 55 i = a) ∨ (r = 1 ∧ (∀ i, i < N → ¬ s.2 55 i = a) ∧ t = pI (pI (pI (pL s 55 N a) 56 N c) 57 N v) 52 12 ((s.1 52 12) + 1))) := by
  induction m with
  | zero => intro i v5 _ _ _ r s9 e; cases e
  | succ m ih =>
    intro i v5 h5 hi hn
    have e1 : (1 : Int32).toInt = 1 := rfl
    have cl := cl_nat v5
    have cN := cl_nat (s.1 52 12)
    have d : v5.toNatClampNeg = i := by omega
    have dN : (s.1 52 12).toNatClampNeg = N := by omega
    have a5 : (v5 + 1).toInt = v5.toInt + 1 := i_addx v5 1 (show -2147483648 ≤ v5.toInt + 1 ∧ v5.toInt + 1 ≤ 2147483647 from by omega)
    unfold f_X4_addName_52_b14
    refine pq_if (fun c1 => pq_c (fun _ => pq_n (fun s2 e2 => pq_c (fun _ => pq_n (fun s4 e4 => pq_c (fun _ => pq_n (fun s6 e6 => pq_s (Or.inr ⟨rfl, fun j hj => hn j ?_, ?_⟩)))))))) (fun c1 => pq_c (fun _ => pq_if (fun c2 => pq_s (Or.inl ⟨rfl, rfl, i, ?_, ?_⟩)) (fun c2 => ih (i + 1) (v5 + 1) (by omega) ?_ (fun j hj => ?_))))
    · have c1 := i_le c1
      omega
    · have k2 : s2.1 52 12 = s.1 52 12 := by rw [e2]; rfl
      rw [k2] at e4
      have k4 : s4.1 52 12 = s.1 52 12 := by rw [e4, q_nc rfl, k2]
      rw [k4] at e6
      have k6 : s6.1 52 12 = s.1 52 12 := by rw [e6, q_nc rfl, k4]
      rw [k6, e6, e4, e2, dN]
    · have c1 := i_nle c1
      omega
    · rw [d] at c2
      exact lgc_0.mp c2
    · have c1 := i_nle c1
      omega
    · by_cases q : j = i
      · rw [q, ← d]
        exact fun w => c2 (lgc_0.mpr w)
      · exact hn j (by omega)
theorem ad_p (a : Int64) (c v : Int32) (N : Nat) (s : Sg) (hN : (s.1 52 12).toInt = (N : Int)) (h24 : N < 24) : PQ (f_X4_addName_52 a c v s) (fun r t => (r = 0 ∧ t = s ∧ ∃ i, i < N ∧ s.2 55 i = a) ∨ (r = 1 ∧ (∀ i, i < N → ¬ s.2 55 i = a) ∧ t = pI (pI (pI (pL s 55 N a) 56 N c) 57 N v) 52 12 ((s.1 52 12) + 1))) := by
  have e24 : (24 : Int32).toInt = 24 := rfl
  unfold f_X4_addName_52
  refine pq_if (fun _ => ad_b a c v N s hN h24 BIG 0 0 rfl (Nat.zero_le _) (fun j hj => absurd hj (Nat.not_lt_zero j))) (fun c1 => ?_)
  have c1 := i_nlt c1
  omega
/-! texts: steps of both readers -/
abbrev LTC : Nat := 190029447067370218436435031366638338768723651150766669824
abbrev LTD : Nat := 386188876298203992306303450841877914271922258790267748352
abbrev LTM : Nat := 64424509440
abbrev LTN : Nat := 64424509442
abbrev MTC : Nat := 2037035976334486086268445688409377967957030244563940097484415028415424163802207311049523197
abbrev MTM : Nat := 2037035976334486086268445688409378161051468393665936250636140449354381299763336639611404159
theorem fr_tr {cd : Nat → Nat → Nat} {L : Nat} {a b c : Sg} (h : Fr cd L a b) (g : Fr cd L b c) : Fr cd L a c := fun x k e => ⟨(g x k e).1.trans (h x k e).1, (g x k e).2.trans (h x k e).2⟩
theorem fr_up {cd : Nat → Nat → Nat} {L M : Nat} {s0 s : Sg} (h : Fr cd L s0 s) (hL : L &&& M = L) : Fr cd M s0 s := fun c k hb => h c k (tb_sub hL hb)
theorem tk_f {n : Nat} {sC sM sC' sM' : Sg} {L1 L2 : Nat} (h : TkRel n sC sM) (f : Fr cC L1 sC sC') (g : Fr cdN L2 sM sM') (h1 : L1 &&& MTC = L1) (h2 : L2 &&& MTM = L2) : TkRel n sC' sM' := by
  have f' := fr_up f h1
  have g' := fr_up g h2
  have a1 : sC'.1 1 = sC.1 1 := funext fun k => fr_e f' 1 k 1 rfl rfl
  have c1 := fr_e f' 7 1 181 rfl rfl
  have c2 := fr_e f' 7 2 182 rfl rfl
  have c3 := fr_e f' 7 3 183 rfl rfl
  have c4 := fr_e f' 7 4 184 rfl rfl
  have c5 := fr_e f' 7 5 185 rfl rfl
  have c6 := fr_e2 f' 7 6 186 rfl rfl
  have m7 : sM'.1 7 = sM.1 7 := funext fun k => fr_e g' 7 k 7 rfl rfl
  have m1 := fr_e g' 0 11 31 rfl rfl
  have m2 := fr_e g' 0 12 32 rfl rfl
  have m3 := fr_e g' 0 13 33 rfl rfl
  have m4 := fr_e g' 0 14 34 rfl rfl
  have m5 := fr_e g' 0 15 35 rfl rfl
  have by7 : byM sM' = byM sM := by unfold byM; rw [m7]
  unfold TkRel TkA TkM KindC KindM at h ⊢
  rw [a1, c1, c2, c3, c4, c5, c6, m1, m2, m3, m4, m5, by7]
  exact h
/-- one step further on both sides: the token's cells alone have changed -/
def StT (n : Nat) (sC sM s t : Sg) : Prop := TkRel n s t ∧ Fr cC LTC sC s ∧ Fr cdN LTM sM t ∧ (sC.1 7 2).toInt ≤ (s.1 7 4).toInt
theorem tk_pos {n : Nat} {s t : Sg} (h : TkRel n s t) : (s.1 7 4).toInt ≤ (s.1 7 2).toInt ∧ 0 ≤ (s.1 7 4).toInt ∧ (s.1 7 2).toInt ≤ (n : Int) ∧ n ≤ 900 := by
  obtain ⟨st, en, ⟨ha, hm, hb⟩, ⟨l1, l2, l3⟩, ⟨p1, p2, p3, p4⟩, -, -, -⟩ := h
  have := ha.2.2
  omega
theorem tk_lt {n : Nat} {s t : Sg} (h : TkRel n s t) (hk : ¬ s.1 7 3 = 0) : (s.1 7 4).toInt < (s.1 7 2).toInt := by
  obtain ⟨st, en, ⟨ha, hm, hb⟩, ⟨l1, l2, l3⟩, ⟨p1, p2, p3, p4⟩, te, kc, -⟩ := h
  rcases te with e | ⟨e, q | q | q⟩
  · rcases kc with c | c | c | c
    · exact absurd c.2 hk
    · omega
    · omega
    · omega
  · have := q.2.1
    omega
  · have := q.2.1
    omega
  · omega
theorem adv_s {n : Nat} {sC sM : Sg} (h : TkRel n sC sM) : RQ (f_X7_advance sC) (f_X12_ahead sM) (fun _ s _ t => StT n sC sM s t) := by
  have h0 := h
  obtain ⟨st, en, ⟨ha, hm, hb⟩, ⟨l1, l2, l3⟩, ⟨p1, p2, p3, p4⟩, -, -, -⟩ := h
  have key : RQ (f_X7_advance sC) (f_X12_ahead sM) (fun _ s _ t => TkRel n s t) := adv_r h0
  intro a s b t e1 e2
  have c := adv_c (sC.1 1) n en ha p2 l3 a s e1
  obtain ⟨-, st1, en1, c1, c2, c3, c4, c5⟩ := c
  refine ⟨key a s b t e1 e2, fr_up (ft_X7_advance sC a s e1) rfl, fr_up (ft_X12_ahead sM b t e2) rfl, ?_⟩
  have := c1.1
  omega
/-- what both give: 1 and a relation, or 0 and the same fault -/
def Og (G : Sg → Sg → Prop) (r : Int32) (s : Sg) (r' : Int32) (t : Sg) : Prop := (r = 1 ∧ r' = 1 ∧ G s t) ∨ (r = 0 ∧ r' = 0 ∧ FtR s t)
theorem og_i {G H : Sg → Sg → Prop} {r : Int32} {s : Sg} {r' : Int32} {t : Sg} {A B : Option (Int32 × Sg)} (g : Og G r s r' t) (h : G s t → RQ A B (Og H)) : RQ (if r = 0 then some (0, s) else A) (if r' = 0 then some (0, t) else B) (Og H) := by
  rcases g with ⟨e, e', g⟩ | ⟨e, e', g⟩ <;> subst e <;> subst e'
  · rw [if_neg (by decide), if_neg (by decide)]
    exact h g
  · rw [if_pos rfl, if_pos rfl]
    exact rq_s (Or.inr ⟨rfl, rfl, g⟩)
theorem og_c {G H : Sg → Sg → Prop} {r : Int32} {s : Sg} {r' : Int32} {t : Sg} (g : Og G r s r' t) (h : G s t → H s t) : RQ (ck (r = 0 ∨ r = 1) (some (r, s))) (ck (r' = 0 ∨ r' = 1) (some (r', t))) (Og H) := by
  refine rq_cC (fun _ => rq_cM (fun _ => rq_s ?_))
  rcases g with ⟨e, e', g⟩ | g
  · exact Or.inl ⟨e, e', h g⟩
  · exact Or.inr g
theorem og_f {n : Nat} {sC sM : Sg} {H : Sg → Sg → Prop} (h : TkRel n sC sM) (h0 : sM.1 0 18 = 0) (a : Int32) (ha : 0 < a.toInt) : RQ (bd (f_X7_wrong a sC) (fun r s => ck (r = 0 ∨ r = 1) (some (r, s)))) (bd (f_X12_fails a sM) (fun r t => ck (r = 0 ∨ r = 1) (some (r, t)))) (Og H) :=
  rq_b2 (fails_r h h0 a ha) (fun r s r' t g => rq_cC (fun _ => rq_cM (fun _ => rq_s (Or.inr g))))
theorem pass_s {n : Nat} {sC sM : Sg} (h : TkRel n sC sM) (h0 : sM.1 0 18 = 0) (c : Int32) (hc : isS c) : RQ (f_X7_pass c sC) (f_X12_wantSign c sM) (Og (StT n sC sM)) := by
  unfold f_X7_pass f_X12_wantSign
  refine rq_bM (sign_r h c hc) (fun r1 s2 g => ?_)
  obtain ⟨es, g⟩ := g
  subst es
  exact rq_iC (fun d => rq_iM (fun e => absurd d (r1_n g e)) (fun e => rq_b2 (adv_s h) (fun _ s _ t w => rq_s (Or.inl ⟨rfl, rfl, w⟩)))) (fun d => rq_iM (fun e => og_f h h0 2 (by decide)) (fun e => absurd (r1_y g e) d))
set_option maxRecDepth 100000 in
theorem perm_i : ∀ i, i < 31 → ∀ j, j < 31 → permK.getD i 0 = permK.getD j 0 → i = j := by decide +kernel
theorem kws_eq {k r : Int32} (h : KwS k r) {i : Nat} (hi : i < 31) {c p : Int32} (hc : c.toInt = 100 + (i : Int)) (hp : p.toInt = ((permK.getD i 0 : Nat) : Int)) : k = c ↔ r = p := by
  have em : (-1 : Int32).toInt = -1 := rfl
  rcases h with ⟨j, j1, j2, j3⟩ | ⟨j1, j2⟩
  · constructor
    · intro e
      subst e
      have q : i = j := by omega
      subst q
      exact Int32.toInt_inj.mp (j3.trans hp.symm)
    · intro e
      subst e
      have q := perm_i i hi j j1 (by omega)
      subst q
      exact Int32.toInt_inj.mp (j2.trans hc.symm)
  · constructor
    · intro e
      subst e
      omega
    · intro e
      subst e
      rw [j2] at hp
      omega
theorem pass_w {n : Nat} {sC sM : Sg} (h : TkRel n sC sM) (h0 : sM.1 0 18 = 0) (c p : Int32) (i : Nat) (hi : i < 31) (hc : c.toInt = 100 + (i : Int)) (hp : p.toInt = ((permK.getD i 0 : Nat) : Int)) : RQ (f_X7_pass c sC) (f_X12_wantWord_1001 p sM) (Og (StT n sC sM)) := by
  unfold f_X7_pass f_X12_wantWord_1001
  refine rq_bM (word_r h) (fun r1 s2 g => ?_)
  obtain ⟨es, g, -⟩ := g
  subst es
  have e := kws_eq g hi hc hp
  exact rq_iC (fun d => rq_iM (fun f => rq_b2 (adv_s h) (fun _ s _ t w => rq_s (Or.inl ⟨rfl, rfl, w⟩))) (fun f => absurd (e.mp d) f)) (fun d => rq_iM (fun f => absurd (e.mpr f) d) (fun f => og_f h h0 2 (by decide)))
/-- a number has been read: into the class's 'taken', into a place of the reference -/
def NuT (n : Nat) (lo hi : Int) (p : Nat) (sC sM s t : Sg) : Prop := TkRel n s t ∧ Fr cC LTD sC s ∧ Fr cdN LTN sM t ∧ (sC.1 7 2).toInt ≤ (s.1 7 4).toInt ∧ (lo ≤ (s.1 7 7).toInt ∧ (s.1 7 7).toInt ≤ hi) ∧ ∀ k, t.1 1 k = if k = p then s.1 7 7 else sM.1 1 k
theorem num_r {n : Nat} {sC sM : Sg} (h : TkRel n sC sM) (h0 : sM.1 0 18 = 0) (lo hi a : Int32) (p : Nat) (hp : a.toNatClampNeg = p) : RQ (f_X7_passNumber lo hi sC) (f_X12_number a lo hi sM) (Og (NuT n lo.toInt hi.toInt p sC sM)) := by
  have k := knd_of h
  have k3 : sC.1 7 3 = 3 ↔ sM.1 0 12 = 3 := by
    rcases k with k | k | k | k | k
    · rw [k.1, k.2]
    · rw [k.1, k.2]; decide
    · rw [k.1, k.2.1]
    · rw [k.2.1]
      refine ⟨fun w => ?_, fun w => absurd w (by decide)⟩
      have t := isS_t k.1
      have e3 : (3 : Int32).toInt = 3 := rfl
      rw [w] at t
      omega
    · rw [k.1]
      refine ⟨fun w => ?_, fun w => absurd w (by decide)⟩
      have e3 : (3 : Int32).toInt = 3 := rfl
      rcases k.2 with q | q | ⟨i, q1, q2⟩
      · exact absurd (w.symm.trans q) (by decide)
      · exact absurd (w.symm.trans q) (by decide)
      · rw [w] at q2
        omega
  have nv : sC.1 7 3 = 3 → sC.1 7 5 = sM.1 0 15 := by
    intro w
    unfold KndR at k
    rw [w] at k
    rcases k with k | k | k | k | k
    · exact absurd k.1 (by decide)
    · exact absurd k.1 (by decide)
    · exact k.2.2.1
    · exact absurd (isS_t k.1).1 (by decide)
    · rcases k.2 with q | q | ⟨i, q1, q2⟩
      · exact absurd q (by decide)
      · exact absurd q (by decide)
      · have e3 : (3 : Int32).toInt = 3 := rfl
        omega
  unfold f_X7_passNumber f_X12_number
  refine rq_iC (fun c => rq_iM (fun d => ?_) (fun d => absurd (k3.mp c) d)) (fun c => rq_iM (fun d => absurd (k3.mpr d) c) (fun d => og_f h h0 2 (by decide)))
  have e5 := nv c
  refine rq_bC (wi_p (sC.1 7 5) lo hi sC) (fun r1 s2 g => ?_)
  obtain ⟨es, g⟩ := g
  subst es
  refine rq_iC (fun c1 => ?_) (fun c1 => ?_)
  · have ng := r1_n g c1
    refine rq_iM (fun d1 => og_f h h0 4 (by decide)) (fun d1 => rq_iM (fun d2 => absurd ?_ ng) (fun d2 => og_f h h0 4 (by decide)))
    have := i_nlt d1
    have := i_le d2
    rw [e5]
    omega
  · have yg := r1_y g c1
    refine rq_iM (fun d1 => ?_) (fun d1 => rq_iM (fun d2 => rq_cM (fun _ => rq_nM (fun t4 e4 => ?_))) (fun d2 => ?_))
    · have := i_lt d1
      rw [e5] at yg
      omega
    · have f1 : Fr cC (2 ^ 187) s2 (pI s2 7 7 (s2.1 7 5)) := fr_x 187 rfl
      have f2 : Fr cdN (2 ^ 1) sM (pI sM 1 p (sM.1 0 15)) := fr_x 1 rfl
      rw [hp] at e4
      rw [← e4] at f2
      have h' : TkRel n (pI s2 7 7 (s2.1 7 5)) t4 := tk_f h f1 f2 (m_and rfl) (m_and rfl)
      have e7 : ∀ s t, StT n (pI s2 7 7 (s2.1 7 5)) t4 s t → s.1 7 7 = s2.1 7 5 := fun s t w => (fr_e w.2.1 7 7 187 rfl rfl).trans q_eq
      refine rq_b2 (adv_s h') (fun _ s _ t w => rq_s (Or.inl ⟨rfl, rfl, w.1, fr_tr (fr_up f1 (m_and rfl)) (fr_up w.2.1 rfl), fr_tr (fr_up f2 (m_and rfl)) (fr_up w.2.2.1 rfl), ?_, ?_, fun k => ?_⟩))
      · have q := w.2.2.2
        rw [q_ne rfl] at q
        exact q
      · rw [e7 s t w]
        exact yg
      · rw [e7 s t w, e5, fr_e w.2.2.1 1 k 1 rfl rfl, e4, pI_1]
        by_cases q : k = p
        · rw [if_pos ⟨rfl, q⟩, if_pos q]
        · rw [if_neg (fun z => q z.2), if_neg q]
    · have := i_nle d2
      rw [e5] at yg
      omega
abbrev LT67 : Nat := 442721857769029238784
abbrev LNW : Nat := 6427752177035961102167848369364650410088812227332750473953280
theorem b200 {L : Nat} (h : L < 2 ^ 190) (k : Nat) : L.testBit (190 + k) = false := Nat.testBit_lt_two_pow (Nat.lt_of_lt_of_le h (Nat.pow_le_pow_right (by decide) (Nat.le_add_right 190 k)))
/-! texts: the plan that grows, a new name -/
def bitI (q : Nat) : Int32 := (1 : Int32) <<< ((Int32.ofNat q) &&& 31)
def qat (on ot : Nat → Int32) : Nat → Nat → Int32
  | 0, _ => 0
  | q + 1, h => if (on q).toInt = (h : Int) ∨ (ot q).toInt = (h : Int) then qat on ot q h ||| bitI q else qat on ot q h
def PlanA (d : Int) (pf on ot ne qa fr to ta pr sw M : Nat → Int32) : Prop := ((pf 13).toInt = (M 0).toInt + d ∧ pf 14 = M 1 ∧ pf 15 = M 2 ∧ pf 16 = M 3) ∧ ((0 ≤ (M 0).toInt ∧ (M 0).toInt ≤ 8) ∧ (0 ≤ (M 1).toInt ∧ (M 1).toInt ≤ 8) ∧ (0 ≤ (M 2).toInt ∧ (M 2).toInt ≤ 4) ∧ (0 ≤ (M 3).toInt ∧ (M 3).toInt ≤ 4)) ∧ (pf 17 = M 9 ∧ pf 18 = M 13 ∧ pf 19 = M 14) ∧ (∀ q : Nat, (q : Int) < (M 1).toInt → (on q = M (40 + 5 * q) ∧ ot q = M (41 + 5 * q) ∧ ne q = M (42 + 5 * q)) ∧ (0 ≤ (on q).toInt ∧ (on q).toInt < (M 0).toInt) ∧ (0 ≤ (ot q).toInt ∧ (ot q).toInt < (M 0).toInt) ∧ ¬ on q = ot q) ∧ (∀ h : Nat, h < 8 → qa h = qat on ot (M 1).toInt.toNat h) ∧ (∀ c : Nat, (c : Int) < (M 2).toInt → (fr c = M (80 + 3 * c) ∧ to c = M (81 + 3 * c) ∧ ta c = M (82 + 3 * c)) ∧ (0 ≤ (fr c).toInt ∧ (fr c).toInt < (M 0).toInt) ∧ (0 ≤ (to c).toInt ∧ (to c).toInt < (M 0).toInt) ∧ ¬ fr c = to c) ∧ (∀ g : Nat, (g : Int) < (M 3).toInt → pr g = M (93 + 3 * g) ∧ sw g = M (94 + 3 * g))
def mN (sM : Sg) : Nat → Int32 := fun k => sM.1 1 (1920 + k)
def PlanS (d : Int) (sC sM : Sg) : Prop := PlanA d (sC.1 52) (sC.1 58) (sC.1 59) (sC.1 60) (sC.1 61) (sC.1 62) (sC.1 63) (sC.1 64) (sC.1 65) (sC.1 66) (mN sM)
def GrA (sa su sn wa st gf M : Nat → Int32) : Prop := (∀ h : Nat, h < 8 → sa h = M (16 + 3 * h) ∧ su h = M (17 + 3 * h) ∧ sn h = 0 ∧ M (18 + 3 * h) = 0) ∧ (∀ g : Nat, g < 4 → st g = M (92 + 3 * g)) ∧ (∀ q : Nat, q < 8 → wa q = 0 ∧ M (43 + 5 * q) = 0 ∧ M (44 + 5 * q) = 0) ∧ (∀ k : Nat, 5 ≤ k → k ≤ 12 → gf k = 0) ∧ (M 4 = 0 ∧ M 5 = 0 ∧ M 6 = 0 ∧ M 7 = 0 ∧ M 8 = 0 ∧ M 10 = 0 ∧ M 11 = -1 ∧ M 12 = 0) ∧ (∀ g : Nat, g < 4 → (M 3).toInt ≤ (g : Int) → M (94 + 3 * g) = 0)
def GrS (sC sM : Sg) : Prop := GrA (sC.1 67) (sC.1 68) (sC.1 69) (sC.1 70) (sC.1 71) (sC.1 53) (mN sM)
def cnN (sM : Sg) : Nat → Nat := fun q => if q < 4 then (sM.1 1 (1920 + q)).toInt.toNat else 0
theorem cn_e {s t : Sg} (h : ∀ k, k < 4 → t.1 1 (1920 + k) = s.1 1 (1920 + k)) : cnN t = cnN s := by
  funext q
  unfold cnN
  by_cases c : q < 4
  · rw [if_pos c, if_pos c, h q c]
  · rw [if_neg c, if_neg c]
def nmN (sM : Sg) : Nat → Int64 := fun p => sM.2 2 (96 + p)
def NmS (sC sM : Sg) : Prop := ∃ N : Nat, (sC.1 52 12).toInt = (N : Int) ∧ NmR (sC.2 55) (sC.1 56) (sC.1 57) N (nmN sM) (cnN sM)
/-- the newest name is not counted yet -/
def NmP (q : Nat) (sC sM : Sg) : Prop := ∃ (N : Nat) (b : Int64), (sC.1 52 12).toInt = (N : Int) + 1 ∧ N < 24 ∧ NmR (sC.2 55) (sC.1 56) (sC.1 57) N (nmN sM) (cnN sM) ∧ (sC.1 56 N = codN q ∧ (sC.1 57 N).toInt = (cnN sM q : Int)) ∧ (nmN sM (offN q + cnN sM q) = b ∧ NameR (sC.2 55 N) b) ∧ (∀ i, i < N → ¬ sC.2 55 i = sC.2 55 N) ∧ (cnN sM q < 8 ∧ (2 ≤ q → cnN sM q < 4))
def ToldS (sC sM : Sg) : Prop := (sM.1 0 20).toInt = (sC.1 8 3).toInt + 2 * (sC.1 8 4).toInt ∧ (sC.1 8 3 = 0 ∨ sC.1 8 3 = 1) ∧ (sC.1 8 4 = 0 ∨ sC.1 8 4 = 1)
def SB (n : Nat) (sC sM : Sg) : Prop := TkRel n sC sM ∧ sM.1 0 18 = 0 ∧ ToldS sC sM
/-- cells of the plan, names, grains, what was told: kept -/
def KpC (sC s : Sg) : Prop := (s.1 52 = sC.1 52 ∧ s.1 53 = sC.1 53 ∧ s.2 55 = sC.2 55 ∧ s.1 56 = sC.1 56 ∧ s.1 57 = sC.1 57 ∧ s.1 58 = sC.1 58 ∧ s.1 59 = sC.1 59 ∧ s.1 60 = sC.1 60 ∧ s.1 61 = sC.1 61 ∧ s.1 62 = sC.1 62 ∧ s.1 63 = sC.1 63 ∧ s.1 64 = sC.1 64) ∧ s.1 65 = sC.1 65 ∧ s.1 66 = sC.1 66 ∧ s.1 67 = sC.1 67 ∧ s.1 68 = sC.1 68 ∧ s.1 69 = sC.1 69 ∧ s.1 70 = sC.1 70 ∧ s.1 71 = sC.1 71 ∧ s.1 8 = sC.1 8
def KpS (sC sM s t : Sg) : Prop := KpC sC s ∧ t.1 1 = sM.1 1 ∧ t.2 2 = sM.2 2 ∧ t.1 0 20 = sM.1 0 20 ∧ t.1 0 18 = sM.1 0 18
theorem kc_of {sC s : Sg} (f : Fr cC LTD sC s) : KpC sC s := by
  exact ⟨⟨funext fun k => fr_e f 52 k (190 + k) rfl (b200 (by decide) k), funext fun k => fr_e f 53 k 53 rfl rfl, funext fun k => fr_e2 f 55 k 55 rfl rfl, funext fun k => fr_e f 56 k 56 rfl rfl, funext fun k => fr_e f 57 k 57 rfl rfl, funext fun k => fr_e f 58 k 58 rfl rfl, funext fun k => fr_e f 59 k 59 rfl rfl, funext fun k => fr_e f 60 k 60 rfl rfl, funext fun k => fr_e f 61 k 61 rfl rfl, funext fun k => fr_e f 62 k 62 rfl rfl, funext fun k => fr_e f 63 k 63 rfl rfl, funext fun k => fr_e f 64 k 64 rfl rfl⟩, funext fun k => fr_e f 65 k 65 rfl rfl, funext fun k => fr_e f 66 k 66 rfl rfl, funext fun k => fr_e f 67 k 67 rfl rfl, funext fun k => fr_e f 68 k 68 rfl rfl, funext fun k => fr_e f 69 k 69 rfl rfl, funext fun k => fr_e f 70 k 70 rfl rfl, funext fun k => fr_e f 71 k 71 rfl rfl, funext fun k => fr_e f 8 k 8 rfl rfl⟩
theorem kp_of {n : Nat} {sC sM s t : Sg} (w : StT n sC sM s t) : KpS sC sM s t := by
  have g := w.2.2.1
  exact ⟨kc_of (fr_up w.2.1 rfl), funext fun k => fr_e g 1 k 1 rfl rfl, funext fun k => fr_e2 g 2 k 2 rfl rfl, fr_e g 0 20 40 rfl rfl, fr_e g 0 18 38 rfl rfl⟩
theorem kp_pl {d : Int} {sC sM s t : Sg} (k : KpS sC sM s t) (h : PlanS d sC sM) : PlanS d s t := by
  obtain ⟨⟨⟨k1, k2, k3, k4, k5, k6, k7, k8, k9, k10, k11, k12⟩, k13, k14, k15, k16, k17, k18, k19, k20⟩, k21, k22, k23, k24⟩ := k
  unfold PlanS mN at h ⊢
  rw [k1, k6, k7, k8, k9, k10, k11, k12, k13, k14, k21]
  exact h
theorem kp_gr {sC sM s t : Sg} (k : KpS sC sM s t) (h : GrS sC sM) : GrS s t := by
  obtain ⟨⟨⟨k1, k2, k3, k4, k5, k6, k7, k8, k9, k10, k11, k12⟩, k13, k14, k15, k16, k17, k18, k19, k20⟩, k21, k22, k23, k24⟩ := k
  unfold GrS mN at h ⊢
  rw [k2, k15, k16, k17, k18, k19, k21]
  exact h
theorem kp_nm {sC sM s t : Sg} (k : KpS sC sM s t) (h : NmS sC sM) : NmS s t := by
  obtain ⟨⟨⟨k1, k2, k3, k4, k5, k6, k7, k8, k9, k10, k11, k12⟩, k13, k14, k15, k16, k17, k18, k19, k20⟩, k21, k22, k23, k24⟩ := k
  unfold NmS nmN cnN at h ⊢
  rw [k1, k3, k4, k5, k21, k22]
  exact h
theorem kp_np {q : Nat} {sC sM s t : Sg} (k : KpS sC sM s t) (h : NmP q sC sM) : NmP q s t := by
  obtain ⟨⟨⟨k1, k2, k3, k4, k5, k6, k7, k8, k9, k10, k11, k12⟩, k13, k14, k15, k16, k17, k18, k19, k20⟩, k21, k22, k23, k24⟩ := k
  unfold NmP nmN cnN at h ⊢
  rw [k1, k3, k4, k5, k21, k22]
  exact h
theorem kp_sb {n : Nat} {sC sM s t : Sg} (w : StT n sC sM s t) (h : SB n sC sM) : SB n s t := by
  obtain ⟨⟨⟨k1, k2, k3, k4, k5, k6, k7, k8, k9, k10, k11, k12⟩, k13, k14, k15, k16, k17, k18, k19, k20⟩, k21, k22, k23, k24⟩ := kp_of w
  refine ⟨w.1, k24.trans h.2.1, ?_⟩
  unfold ToldS
  rw [k20, k23]
  exact h.2.2
theorem fm_n {mm : Nat → Int64} {off many : Nat} {b : Int64} {r : Int32} (h : FndM mm off many b r) (e : r = -1) : ∀ k, k < many → ¬ mm (off + k) = b := by
  rcases h with ⟨k, h1, h2, h3⟩ | h
  · rw [e] at h3
    have em : (-1 : Int32).toInt = -1 := rfl
    omega
  · exact h.1
theorem fm_y {mm : Nat → Int64} {off many : Nat} {b : Int64} {r : Int32} (h : FndM mm off many b r) (e : ¬ r = -1) : ∃ k, k < many ∧ mm (off + k) = b := by
  rcases h with ⟨k, h1, h2, h3⟩ | h
  · exact ⟨k, h1, h2⟩
  · exact absurd h.2 e
/-- what stands behind a new name: pending, further on -/
def NwT (n q : Nat) (sC sM s t : Sg) : Prop := SB n s t ∧ NmP q s t ∧ PlanS 0 s t ∧ GrS s t ∧ (sC.1 7 2).toInt ≤ (s.1 7 4).toInt ∧ (t.1 1 = sM.1 1)
theorem new_r {n q : Nat} {sC sM : Sg} (hb : SB n sC sM) (hp : PlanS 0 sC sM) (hg : GrS sC sM) (hn : NmS sC sM) (hq : q < 4) (cc most many sort : Int32) (hc : cc = codN q) (hmo : most.toInt = if q < 2 then 8 else 4) (hi : (1920 + many).toNatClampNeg = 1920 + q) (hs : sort.toInt = (offN q : Int)) : RQ (f_X6_takeNew cc (sM.1 1 (1920 + q)) most sC) (f_X12_newOne many most sort sM) (Og (NwT n q sC sM)) := by
  have bd0 := hp.2.1
  have hM : ∀ k, mN sM k = sM.1 1 (1920 + k) := fun _ => rfl
  obtain ⟨N, hN, hR⟩ := hn
  have h0 := hb.2.1
  have c0 : cnN sM 0 = (sM.1 1 1920).toInt.toNat := rfl
  have c1 : cnN sM 1 = (sM.1 1 1921).toInt.toNat := rfl
  have c2 : cnN sM 2 = (sM.1 1 1922).toInt.toNat := rfl
  have c3 : cnN sM 3 = (sM.1 1 1923).toInt.toNat := rfl
  have b0 : 0 ≤ (sM.1 1 1920).toInt ∧ (sM.1 1 1920).toInt ≤ 8 := bd0.1
  have b1 : 0 ≤ (sM.1 1 1921).toInt ∧ (sM.1 1 1921).toInt ≤ 8 := bd0.2.1
  have b2 : 0 ≤ (sM.1 1 1922).toInt ∧ (sM.1 1 1922).toInt ≤ 4 := bd0.2.2.1
  have b3 : 0 ≤ (sM.1 1 1923).toInt ∧ (sM.1 1 1923).toInt ≤ 4 := bd0.2.2.2
  have hsum := hR.1
  have bq : 0 ≤ (sM.1 1 (1920 + q)).toInt ∧ (sM.1 1 (1920 + q)).toInt ≤ most.toInt ∧ cnN sM q = (sM.1 1 (1920 + q)).toInt.toNat := by
    have a : q = 0 ∨ q = 1 ∨ q = 2 ∨ q = 3 := by omega
    rcases a with a | a | a | a <;> subst a <;> rw [hmo]
    · exact ⟨b0.1, b0.2, rfl⟩
    · exact ⟨b1.1, b1.2, rfl⟩
    · exact ⟨b2.1, b2.2, rfl⟩
    · exact ⟨b3.1, b3.2, rfl⟩
  unfold f_X6_takeNew f_X12_newOne
  refine rq_cM (fun _ => ?_)
  rw [hi]
  refine rq_iC (fun c => rq_iM (fun d => ?_) (fun d => ?_)) (fun c => rq_iM (fun d => og_f hb.1 h0 6 (by decide)) (fun d => ?_))
  · have c := i_lt c
    have d := i_eq d
    omega
  · have c := i_lt c
    have hlt : cnN sM q < 8 ∧ (2 ≤ q → cnN sM q < 4) := by
      rw [bq.2.2]
      by_cases z : q < 2
      · rw [if_pos z] at hmo
        omega
      · rw [if_neg z] at hmo
        omega
    have hN24 : N < 24 := by
      have a : q = 0 ∨ q = 1 ∨ q = 2 ∨ q = 3 := by omega
      rcases a with a | a | a | a <;> subst a <;> simp at hlt hmo <;> omega
    refine rq_b2 (adv_s hb.1) (fun _ s2 _ t5 w => ?_)
    have kp := kp_of w
    have hb2 := kp_sb w hb
    have hp2 := kp_pl kp hp
    have hg2 := kp_gr kp hg
    have kk := kp
    obtain ⟨⟨⟨k1, k2, k3, k4, k5, k6, k7, k8, k9, k10, k11, k12⟩, k13, k14, k15, k16, k17, k18, k19, k20⟩, k21, k22, k23, k24⟩ := kk
    have hN2 : (s2.1 52 12).toInt = (N : Int) := by rw [k1]; exact hN
    have hR2 : NmR (s2.2 55) (s2.1 56) (s2.1 57) N (nmN t5) (cnN t5) := by
      unfold nmN cnN
      rw [k3, k4, k5, k21, k22]
      exact hR
    have eM : ∀ k, t5.1 1 k = sM.1 1 k := fun k => by rw [k21]
    have cn5 : cnN t5 = cnN sM := by unfold cnN; rw [k21]
    rw [cn5] at hR2
    refine rq_bM (name_r w.1) (fun r6 s7 g6 => ?_)
    obtain ⟨es, g6⟩ := g6
    subst es
    refine rq_iC (fun k => rq_iM (fun e => absurd k (r1_n g6 e)) (fun e => ?_)) (fun k => rq_iM (fun e => og_f w.1 hb2.2.1 2 (by decide)) (fun e => absurd (r1_y g6 e) k))
    obtain ⟨b, nab, hbn⟩ := here_r w.1 k
    have nn := none_e hR2 nab
    have f96 : ∀ k, s7.2 2 (96 + k) = nmN s7 (offN 0 + k) := fun k => by show _ = s7.2 2 (96 + (0 + k)); rw [Nat.zero_add]
    have f104 : ∀ k, s7.2 2 (104 + k) = nmN s7 (offN 1 + k) := fun k => by show _ = s7.2 2 (96 + (8 + k)); rw [← Nat.add_assoc]
    have f112 : ∀ k, s7.2 2 (112 + k) = nmN s7 (offN 2 + k) := fun k => by show _ = s7.2 2 (96 + (16 + k)); rw [← Nat.add_assoc]
    have f116 : ∀ k, s7.2 2 (116 + k) = nmN s7 (offN 3 + k) := fun k => by show _ = s7.2 2 (96 + (20 + k)); rw [← Nat.add_assoc]
    have p0 := fh_p b s7 hbn 96 (cnN sM 0) (by omega) 96 (s7.1 1 1920) rfl (by rw [eM]; omega)
    have p1 := fh_p b s7 hbn 104 (cnN sM 1) (by omega) 104 (s7.1 1 1921) rfl (by rw [eM]; omega)
    have p2 := fh_p b s7 hbn 112 (cnN sM 2) (by omega) 112 (s7.1 1 1922) rfl (by rw [eM]; omega)
    have p3 := fh_p b s7 hbn 116 (cnN sM 3) (by omega) 116 (s7.1 1 1923) rfl (by rw [eM]; omega)
    refine rq_bC (ad_p (s2.2 7 6) cc (sM.1 1 (1920 + q)) N s2 hN2 hN24) (fun r3 s4 g3 => ?_)
    rcases g3 with ⟨r0, es4, i, i1, i2⟩ | ⟨r1, ni, es4⟩
    · subst r0
      rw [if_pos rfl, es4]
      have fl : RQ (bd (f_X7_wrong 3 s2) (fun r s => ck (r = 0 ∨ r = 1) (some (r, s)))) (bd (f_X12_fails 3 s7) (fun r t => ck (r = 0 ∨ r = 1) (some (r, t)))) (Og (NwT n q sC sM)) := og_f w.1 hb2.2.1 3 (by decide)
      refine rq_bM p0 (fun x0 y0 z0 => ?_)
      obtain ⟨u0, z0⟩ := z0
      rw [u0]
      refine rq_iM (fun e0 => ?_) (fun _ => fl)
      refine rq_bM p1 (fun x1 y1 z1 => ?_)
      obtain ⟨u1, z1⟩ := z1
      rw [u1]
      refine rq_iM (fun e1 => ?_) (fun _ => fl)
      refine rq_bM p2 (fun x2 y2 z2 => ?_)
      obtain ⟨u2, z2⟩ := z2
      rw [u2]
      refine rq_iM (fun e2 => ?_) (fun _ => fl)
      refine rq_bM p3 (fun x3 y3 z3 => ?_)
      obtain ⟨u3, z3⟩ := z3
      rw [u3]
      refine rq_iM (fun e3 => ?_) (fun _ => fl)
      exfalso
      refine nn.mpr (fun x hx k hk => ?_) i i1 i2
      have a : x = 0 ∨ x = 1 ∨ x = 2 ∨ x = 3 := by omega
      rcases a with a | a | a | a <;> subst a
      · rw [← f96]; exact fm_n z0 e0 k hk
      · rw [← f104]; exact fm_n z1 e1 k hk
      · rw [← f112]; exact fm_n z2 e2 k hk
      · rw [← f116]; exact fm_n z3 e3 k hk
    · subst r1
      rw [if_neg (show ¬ (1 : Int32) = 0 by decide)]
      have al := nn.mp ni
      refine rq_bM p0 (fun x0 y0 z0 => ?_)
      obtain ⟨u0, z0⟩ := z0
      rw [u0]
      refine rq_iM (fun e0 => ?_) (fun e0 => by
        obtain ⟨k, k1, k2⟩ := fm_y z0 e0
        rw [f96] at k2
        exact absurd k2 (al 0 (by decide) k k1))
      refine rq_bM p1 (fun x1 y1 z1 => ?_)
      obtain ⟨u1, z1⟩ := z1
      rw [u1]
      refine rq_iM (fun e1 => ?_) (fun e1 => by
        obtain ⟨k, k1, k2⟩ := fm_y z1 e1
        rw [f104] at k2
        exact absurd k2 (al 1 (by decide) k k1))
      refine rq_bM p2 (fun x2 y2 z2 => ?_)
      obtain ⟨u2, z2⟩ := z2
      rw [u2]
      refine rq_iM (fun e2 => ?_) (fun e2 => by
        obtain ⟨k, k1, k2⟩ := fm_y z2 e2
        rw [f112] at k2
        exact absurd k2 (al 2 (by decide) k k1))
      refine rq_bM p3 (fun x3 y3 z3 => ?_)
      obtain ⟨u3, z3⟩ := z3
      rw [u3]
      refine rq_iM (fun e3 => ?_) (fun e3 => by
        obtain ⟨k, k1, k2⟩ := fm_y z3 e3
        rw [f116] at k2
        exact absurd k2 (al 3 (by decide) k k1))
      refine rq_bM hbn (fun r18 s19 g18 => ?_)
      obtain ⟨es19, er18⟩ := g18
      rw [es19, er18]
      refine rq_cM (fun _ => rq_nM (fun t21 e21 => ?_))
      have e96 : (96 : Int32).toInt = 96 := rfl
      have lo : offN q ≤ 20 := by
        have a : q = 0 ∨ q = 1 ∨ q = 2 ∨ q = 3 := by omega
        rcases a with a | a | a | a <;> subst a <;> decide
      have x1 : (96 + sort).toInt = 96 + sort.toInt := i_addx 96 sort (by omega)
      have x2 : ((96 + sort) + (s7.1 1 (1920 + q))).toInt = (96 + sort).toInt + (s7.1 1 (1920 + q)).toInt := by
        rw [eM]
        exact i_addx _ _ (by have := bq.2.1; omega)
      have xc := cl_nat ((96 + sort) + (s7.1 1 (1920 + q)))
      have xd : ((96 + sort) + (s7.1 1 (1920 + q))).toNatClampNeg = 96 + (offN q + cnN sM q) := by
        rw [eM] at x2 xc ⊢
        omega
      rw [xd] at e21
      have f1 : Fr cC LNW s2 s4 := by
        rw [es4]
        exact fr_i (fr_i (fr_i (fr_l fr_r 55 rfl rfl) 56 rfl rfl) 57 rfl rfl) 202 rfl rfl
      have f2 : Fr cdN (2 ^ 2) s7 t21 := by
        rw [e21]
        exact fr_l fr_r 2 rfl (by rw [Nat.testBit_two_pow_self])
      have tk4 : TkRel n s4 t21 := tk_f w.1 f1 f2 rfl (m_and rfl)
      have nx4 : s4.1 7 2 = s2.1 7 2 := fr_e f1 7 2 182 rfl rfl
      refine rq_b2 (adv_s tk4) (fun _ s8 _ t23 w8 => rq_s (Or.inl ⟨rfl, rfl, ?_⟩))
      have kp8 := kp_of w8
      have m21 : t21.1 = s7.1 := by rw [e21]; rfl
      have hb4 : SB n s4 t21 := by
        refine ⟨tk4, by rw [m21]; exact hb2.2.1, ?_⟩
        unfold ToldS
        rw [m21, fr_e f1 8 3 8 rfl rfl, fr_e f1 8 4 8 rfl rfl]
        exact hb2.2.2
      have hp4 : PlanS 0 s4 t21 := by
        have pf : ∀ k, ¬ k = 12 → s4.1 52 k = s2.1 52 k := fun k hk => by
          rw [es4, pI_1, if_neg (fun z => hk z.2), q_nc rfl, q_nc rfl]
          rfl
        unfold PlanS PlanA mN at hp2 ⊢
        rw [m21, pf 13 (by decide), pf 14 (by decide), pf 15 (by decide), pf 16 (by decide), pf 17 (by decide), pf 18 (by decide), pf 19 (by decide)]
        rw [show s4.1 58 = s2.1 58 from funext fun k => fr_e f1 58 k 58 rfl rfl, show s4.1 59 = s2.1 59 from funext fun k => fr_e f1 59 k 59 rfl rfl, show s4.1 60 = s2.1 60 from funext fun k => fr_e f1 60 k 60 rfl rfl, show s4.1 61 = s2.1 61 from funext fun k => fr_e f1 61 k 61 rfl rfl, show s4.1 62 = s2.1 62 from funext fun k => fr_e f1 62 k 62 rfl rfl, show s4.1 63 = s2.1 63 from funext fun k => fr_e f1 63 k 63 rfl rfl, show s4.1 64 = s2.1 64 from funext fun k => fr_e f1 64 k 64 rfl rfl, show s4.1 65 = s2.1 65 from funext fun k => fr_e f1 65 k 65 rfl rfl, show s4.1 66 = s2.1 66 from funext fun k => fr_e f1 66 k 66 rfl rfl]
        exact hp2
      have hg4 : GrS s4 t21 := by
        unfold GrS mN at hg2 ⊢
        rw [m21]
        rw [show s4.1 67 = s2.1 67 from funext fun k => fr_e f1 67 k 67 rfl rfl, show s4.1 68 = s2.1 68 from funext fun k => fr_e f1 68 k 68 rfl rfl, show s4.1 69 = s2.1 69 from funext fun k => fr_e f1 69 k 69 rfl rfl, show s4.1 70 = s2.1 70 from funext fun k => fr_e f1 70 k 70 rfl rfl, show s4.1 71 = s2.1 71 from funext fun k => fr_e f1 71 k 71 rfl rfl, show s4.1 53 = s2.1 53 from funext fun k => fr_e f1 53 k 53 rfl rfl]
        exact hg2
      have hn4 : NmP q s4 t21 := by
        have n55 : ∀ i, s4.2 55 i = if i = N then s2.2 7 6 else s2.2 55 i := fun i => by
          rw [es4]
          show (pL s2 55 N (s2.2 7 6)).2 55 i = _
          rw [pL_2]
          by_cases z : i = N
          · rw [if_pos ⟨rfl, z⟩, if_pos z]
          · rw [if_neg (fun y => z y.2), if_neg z]
        have n56 : ∀ i, s4.1 56 i = if i = N then cc else s2.1 56 i := fun i => by
          rw [es4, q_nc rfl, q_nc rfl, pI_1]
          by_cases z : i = N
          · rw [if_pos ⟨rfl, z⟩, if_pos z]
          · rw [if_neg (fun y => z y.2), if_neg z]
            rfl
        have n57 : ∀ i, s4.1 57 i = if i = N then sM.1 1 (1920 + q) else s2.1 57 i := fun i => by
          rw [es4, q_nc rfl, pI_1]
          by_cases z : i = N
          · rw [if_pos ⟨rfl, z⟩, if_pos z]
          · rw [if_neg (fun y => z y.2), if_neg z, q_nc rfl]
            rfl
        have cn4 : cnN t21 = cnN sM := by
          unfold cnN
          rw [m21, k21]
        have mm4 : ∀ p, nmN t21 p = if p = offN q + cnN sM q then b else nmN s7 p := fun p => by
          unfold nmN
          rw [e21, pL_2]
          by_cases z : p = offN q + cnN sM q
          · rw [if_pos ⟨rfl, by omega⟩, if_pos z]
          · rw [if_neg (fun y => z (by have := y.2; omega)), if_neg z]
        have nc12 : (s4.1 52 12).toInt = (N : Int) + 1 := by
          rw [es4, q_eq]
          have := i_addx (s2.1 52 12) 1 (show -2147483648 ≤ (s2.1 52 12).toInt + 1 ∧ (s2.1 52 12).toInt + 1 ≤ 2147483647 from by omega)
          have e1 : (1 : Int32).toInt = 1 := rfl
          omega
        refine ⟨N, b, nc12, hN24, ?_, ⟨?_, ?_⟩, ⟨?_, ?_⟩, ?_, ?_⟩
        · rw [cn4]
          refine ⟨hR2.1, fun i hi' => ?_, fun x j hx hj => ?_, fun i i' hi' hi2 e => ?_⟩
          · obtain ⟨x, j, h1, h2, h3, h4, h5⟩ := hR2.2.1 i hi'
            refine ⟨x, j, h1, h2, ?_, ?_, ?_⟩
            · rw [n56, if_neg (by omega)]; exact h3
            · rw [n57, if_neg (by omega)]; exact h4
            · rw [n55, if_neg (by omega), mm4]
              by_cases z : offN x + j = offN q + cnN sM q
              · exfalso
                have jb : j < 8 ∧ (2 ≤ x → j < 4) := by
                  have a : x = 0 ∨ x = 1 ∨ x = 2 ∨ x = 3 := by omega
                  rcases a with a | a | a | a <;> subst a <;> omega
                have od := off_d h1 hq jb hlt z
                have od1 := od.1
                subst od1
                omega
              · rw [if_neg z]; exact h5
          · obtain ⟨i, i1, i2, i3⟩ := hR2.2.2.1 x j hx hj
            exact ⟨i, i1, by rw [n56, if_neg (by omega)]; exact i2, by rw [n57, if_neg (by omega)]; exact i3⟩
          · rw [n55, n55, if_neg (by omega), if_neg (by omega)] at e
            exact hR2.2.2.2 i i' hi' hi2 e
        · rw [n56, if_pos rfl, hc]
        · rw [n57, if_pos rfl, cn4, bq.2.2]
          have := bq.1
          omega
        · rw [cn4, mm4, if_pos rfl]
        · rw [n55, if_pos rfl]; exact nab
        · intro i hi'
          rw [n55, n55, if_neg (by omega), if_pos rfl]
          exact ni i hi'
        · rw [cn4]; exact hlt
      refine ⟨kp_sb w8 hb4, kp_np kp8 hn4, kp_pl kp8 hp4, kp_gr kp8 hg4, ?_, ?_⟩
      · have a1 := w8.2.2.2
        have a2 := w.2.2.2
        have a3 := tk_pos w.1
        rw [nx4] at a1
        omega
      · rw [kp8.2.1, m21, k21]
  · have c := i_nlt c
    have d := i_ne d
    omega
/-! texts: programs behind programs -/
theorem bd_bd {α β γ : Type} (o : Option (α × Sg)) (k : α → Sg → Option (β × Sg)) (K : β → Sg → Option (γ × Sg)) : bd (bd o k) K = bd o (fun r s => bd (k r s) K) := by
  cases o with
  | none => rfl
  | some q => rfl
theorem bd_if {α β : Type} (c : Prop) [Decidable c] (a b : Option (α × Sg)) (K : α → Sg → Option (β × Sg)) : bd (if c then a else b) K = if c then bd a K else bd b K := by
  by_cases h : c
  · rw [if_pos h, if_pos h]
  · rw [if_neg h, if_neg h]
theorem bd_ck {α β : Type} (c : Prop) [Decidable c] (a : Option (α × Sg)) (K : α → Sg → Option (β × Sg)) : bd (ck c a) K = ck c (bd a K) := by
  unfold ck
  by_cases h : c
  · rw [if_pos h, if_pos h]
  · rw [if_neg h, if_neg h]
    rfl
theorem bd_so {α β : Type} (r : α) (s : Sg) (K : α → Sg → Option (β × Sg)) : bd (some (r, s)) K = K r s := rfl
/-- what fails goes through -/
def K0 (K : Int32 → Sg → Option (Int32 × Sg)) : Prop := ∀ t, K 0 t = some (0, t)
theorem og_k {G H : Sg → Sg → Prop} {r : Int32} {s : Sg} {r' : Int32} {t : Sg} {A B : Option (Int32 × Sg)} {K : Int32 → Sg → Option (Int32 × Sg)} (hK : K0 K) (g : Og G r s r' t) (h : G s t → RQ A (bd B K) (Og H)) : RQ (if r = 0 then some (0, s) else A) (bd (if r' = 0 then some (0, t) else B) K) (Og H) := by
  rcases g with ⟨e, e', g⟩ | ⟨e, e', g⟩ <;> subst e <;> subst e'
  · rw [if_neg (by decide), if_neg (by decide)]
    exact h g
  · rw [if_pos rfl, if_pos rfl]
    show RQ _ (K 0 t) _
    rw [hK t]
    exact rq_s (Or.inr ⟨rfl, rfl, g⟩)
theorem og_fk {n : Nat} {sC sM : Sg} {H : Sg → Sg → Prop} {K : Int32 → Sg → Option (Int32 × Sg)} (hK : K0 K) (h : TkRel n sC sM) (h0 : sM.1 0 18 = 0) (a : Int32) (ha : 0 < a.toInt) : RQ (bd (f_X7_wrong a sC) (fun r s => ck (r = 0 ∨ r = 1) (some (r, s)))) (bd (bd (f_X12_fails a sM) (fun r t => ck (r = 0 ∨ r = 1) (some (r, t)))) K) (Og H) := by
  rw [bd_bd]
  refine rq_b2 (fails_r h h0 a ha) (fun r s r' t g => ?_)
  obtain ⟨e, e', g⟩ := g
  subst e; subst e'
  rw [bd_ck]
  refine rq_cC (fun _ => rq_cM (fun _ => ?_))
  show RQ _ (K 0 t) _
  rw [hK t]
  exact rq_s (Or.inr ⟨rfl, rfl, g⟩)
/-- after a part: all is related again, and the text went on -/
def SR (n : Nat) (sC sM : Sg) : Prop := SB n sC sM ∧ PlanS 0 sC sM ∧ GrS sC sM ∧ NmS sC sM
def PaT (n : Nat) (sC sM s t : Sg) : Prop := SR n s t ∧ (sC.1 7 2).toInt ≤ (s.1 7 4).toInt
theorem sg_K0 : K0 f_X12_streetPart_b102 := fun t => by
  unfold f_X12_streetPart_b102
  rw [if_pos rfl]
/-- the sign behind a part -/
theorem semi_r {n : Nat} {sC sM s0 : Sg} (h : SR n sC sM) (hp : (s0.1 7 2).toInt ≤ (sC.1 7 4).toInt) : RQ (bd (f_X7_pass 59 sC) (fun r s => ck (r = 0 ∨ r = 1) (some (r, s)))) (f_X12_streetPart_b102 1 sM) (Og (PaT n s0 sM)) := by
  unfold f_X12_streetPart_b102
  rw [if_neg (show ¬ (1 : Int32) = 0 by decide)]
  refine rq_b2 (pass_s h.1.1 h.1.2.1 59 (Or.inl rfl)) (fun r s r' t g => ?_)
  rcases g with ⟨e, e', w⟩ | ⟨e, e', g⟩ <;> subst e <;> subst e'
  · rw [if_neg (by decide)]
    have kp := kp_of w
    have p1 := tk_pos h.1.1
    have p2 := w.2.2.2
    exact rq_cC (fun _ => rq_s (Or.inl ⟨rfl, rfl, ⟨kp_sb w h.1, kp_pl kp h.2.1, kp_gr kp h.2.2.1, kp_nm kp h.2.2.2⟩, by omega⟩))
  · rw [if_pos rfl]
    exact rq_cC (fun _ => rq_s (Or.inr ⟨rfl, rfl, g⟩))
/-- the pending name is counted -/
theorem nm_done {q : Nat} (hq : q < 4) {sC sM : Sg} (h : NmP q sC sM) {mM : Nat → Int32} (hb : ∀ x, x < 4 → cnN sM x ≤ 8 ∧ (2 ≤ x → cnN sM x ≤ 4)) {cnt' : Nat → Nat} (e : cnt' q = cnN sM q + 1 ∧ ∀ x, ¬ x = q → cnt' x = cnN sM x) : ∃ N : Nat, (sC.1 52 12).toInt = (N : Int) ∧ NmR (sC.2 55) (sC.1 56) (sC.1 57) N (nmN sM) cnt' := by
  obtain ⟨N, b, h1, h2, h3, ⟨h4, h5⟩, ⟨h6, h7⟩, h8, h9⟩ := h
  exact ⟨N + 1, by omega, nm_add h3 h7 hq hb h9 h8 ⟨rfl, fun _ _ => rfl⟩ ⟨h4, fun _ _ => rfl⟩ ⟨h5, fun _ _ => rfl⟩ ⟨h6, fun _ _ _ => rfl⟩ e⟩
/-! texts: the plan, seen through its relevant cells -/
theorem qat_x {on ot on' ot' : Nat → Int32} (h : Nat) : ∀ n : Nat, (∀ q, q < n → on' q = on q ∧ ot' q = ot q) → qat on' ot' n h = qat on ot n h
  | 0, _ => rfl
  | n + 1, e => by
    have g := qat_x h n (fun q hq => e q (by omega))
    have f := e n (by omega)
    unfold qat
    rw [g, f.1, f.2]
theorem plan_x {d : Int} {pf on ot ne qa fr to ta pr sw M pf' on' ot' ne' qa' fr' to' ta' pr' sw' M' : Nat → Int32} (h : PlanA d pf on ot ne qa fr to ta pr sw M) (epf : ∀ k, 13 ≤ k → k ≤ 16 → pf' k = pf k) (eM : ∀ k, k < 4 → M' k = M k) (e5 : pf' 17 = M' 9 ∧ pf' 18 = M' 13 ∧ pf' 19 = M' 14) (eq : ∀ q : Nat, (q : Int) < (M 1).toInt → (on' q = on q ∧ ot' q = ot q ∧ ne' q = ne q) ∧ M' (40 + 5 * q) = M (40 + 5 * q) ∧ M' (41 + 5 * q) = M (41 + 5 * q) ∧ M' (42 + 5 * q) = M (42 + 5 * q)) (ea : ∀ h, h < 8 → qa' h = qa h) (ec : ∀ c : Nat, (c : Int) < (M 2).toInt → (fr' c = fr c ∧ to' c = to c ∧ ta' c = ta c) ∧ M' (80 + 3 * c) = M (80 + 3 * c) ∧ M' (81 + 3 * c) = M (81 + 3 * c) ∧ M' (82 + 3 * c) = M (82 + 3 * c)) (eg : ∀ g : Nat, (g : Int) < (M 3).toInt → (pr' g = pr g ∧ sw' g = sw g) ∧ M' (93 + 3 * g) = M (93 + 3 * g) ∧ M' (94 + 3 * g) = M (94 + 3 * g)) : PlanA d pf' on' ot' ne' qa' fr' to' ta' pr' sw' M' := by
  obtain ⟨⟨h1, h2, h3, h4⟩, hb, ⟨h5, h6, h7⟩, hq, ha, hc, hg⟩ := h
  have m0 := eM 0 (by decide)
  have m1 := eM 1 (by decide)
  have m2 := eM 2 (by decide)
  have m3 := eM 3 (by decide)
  unfold PlanA
  rw [m0, m1, m2, m3, epf 13 (by decide) (by decide), epf 14 (by decide) (by decide), epf 15 (by decide) (by decide), epf 16 (by decide) (by decide)]
  refine ⟨⟨h1, h2, h3, h4⟩, hb, e5, fun q k => ?_, fun x k => ?_, fun c k => ?_, fun g k => ?_⟩
  · have e := eq q k
    rw [e.1.1, e.1.2.1, e.1.2.2, e.2.1, e.2.2.1, e.2.2.2]
    exact hq q k
  · rw [ea x k, qat_x x _ (fun q z => ⟨(eq q (by omega)).1.1, (eq q (by omega)).1.2.1⟩)]
    exact ha x k
  · have e := ec c k
    rw [e.1.1, e.1.2.1, e.1.2.2, e.2.1, e.2.2.1, e.2.2.2]
    exact hc c k
  · have e := eg g k
    rw [e.1.1, e.1.2, e.2.1, e.2.2]
    exact hg g k
theorem gr_x {sa su sn wa st gf M sa' su' sn' wa' st' gf' M' : Nat → Int32} (h : GrA sa su sn wa st gf M) (eh : ∀ h : Nat, h < 8 → sa' h = M' (16 + 3 * h) ∧ su' h = M' (17 + 3 * h) ∧ sn' h = sn h ∧ M' (18 + 3 * h) = M (18 + 3 * h)) (eg : ∀ g : Nat, g < 4 → st' g = M' (92 + 3 * g)) (eq : ∀ q : Nat, q < 8 → wa' q = wa q ∧ M' (43 + 5 * q) = M (43 + 5 * q) ∧ M' (44 + 5 * q) = M (44 + 5 * q)) (ef : ∀ k : Nat, 5 ≤ k → k ≤ 12 → gf' k = gf k) (eM : ∀ k, 4 ≤ k → k ≤ 12 → ¬ k = 9 → M' k = M k) (e6 : M' 3 = M 3 ∧ ∀ g : Nat, g < 4 → (M 3).toInt ≤ (g : Int) → M' (94 + 3 * g) = M (94 + 3 * g)) : GrA sa' su' sn' wa' st' gf' M' := by
  obtain ⟨h1, h2, h3, h4, h5, h6⟩ := h
  refine ⟨fun x k => ?_, eg, fun q k => ?_, fun k k1 k2 => ?_, ?_, fun g g1 g2 => by rw [e6.1] at g2; rw [e6.2 g g1 g2]; exact h6 g g1 g2⟩
  · have e := eh x k
    have g := h1 x k
    exact ⟨e.1, e.2.1, e.2.2.1.trans g.2.2.1, e.2.2.2.trans g.2.2.2⟩
  · have e := eq q k
    have g := h3 q k
    exact ⟨e.1.trans g.1, e.2.1.trans g.2.1, e.2.2.trans g.2.2⟩
  · rw [ef k k1 k2]; exact h4 k k1 k2
  · rw [eM 4 (by decide) (by decide) (by decide), eM 5 (by decide) (by decide) (by decide), eM 6 (by decide) (by decide) (by decide), eM 7 (by decide) (by decide) (by decide), eM 8 (by decide) (by decide) (by decide), eM 10 (by decide) (by decide) (by decide), eM 11 (by decide) (by decide) (by decide), eM 12 (by decide) (by decide) (by decide)]
    exact h5
/-- in a house: its index, its name pending, counted by the class already -/
def HsT (n : Nat) (x : Int32) (sC sM : Sg) : Prop := SB n sC sM ∧ NmP 0 sC sM ∧ PlanS 1 sC sM ∧ GrS sC sM ∧ sM.1 1 1920 = x ∧ (0 ≤ x.toInt ∧ x.toInt < 8)
theorem hs_st {n : Nat} {x : Int32} {sC sM s t : Sg} (w : StT n sC sM s t) (h : HsT n x sC sM) : HsT n x s t := by
  have kp := kp_of w
  exact ⟨kp_sb w h.1, kp_np kp h.2.1, kp_pl kp h.2.2.1, kp_gr kp h.2.2.2.1, by rw [kp.2.1]; exact h.2.2.2.2.1, h.2.2.2.2.2⟩
/-- a number into one of a house's grains: on both sides -/
theorem hs_nu {n j : Nat} {x : Int32} {lo hi : Int} {sC sM s t : Sg} (h : HsT n x sC sM) (hj : j < 2) (w : NuT n lo hi (1936 + 3 * x.toNatClampNeg + j) sC sM s t) : HsT n x (pI s (67 + j) x.toNatClampNeg (s.1 7 7)) t := by
  obtain ⟨h1, h2, h3, h4, h5, h6⟩ := h
  obtain ⟨w1, w2, w3, w4, w5, w6⟩ := w
  have cl := cl_nat x
  have hx : x.toNatClampNeg < 8 := by omega
  have jc : j = 0 ∨ j = 1 := by omega
  obtain ⟨⟨k1, k2, k3, k4, k5, k6, k7, k8, k9, k10, k11, k12⟩, k13, k14, k15, k16, k17, k18, k19, k20⟩ := kc_of w2
  have ec : ∀ c k, ¬ c = 67 + j → (pI s (67 + j) x.toNatClampNeg (s.1 7 7)).1 c k = s.1 c k := fun c k hc => by rw [pI_1, if_neg (fun z => hc z.1)]
  have ef : ∀ c, ¬ c = 67 + j → (pI s (67 + j) x.toNatClampNeg (s.1 7 7)).1 c = s.1 c := fun c hc => funext fun k => ec c k hc
  have eM : ∀ k, ¬ k = 16 + 3 * x.toNatClampNeg + j → mN t k = mN sM k := fun k hk => by
    unfold mN
    rw [w6, if_neg (by omega)]
  have m2 : t.2 2 = sM.2 2 := funext fun k => fr_e2 w3 2 k 2 rfl rfl
  have c0 : cnN t = cnN sM := cn_e (fun k hk => by rw [w6, if_neg (by omega)])
  have n0 : nmN t = nmN sM := by unfold nmN; rw [m2]
  have e55 : (pI s (67 + j) x.toNatClampNeg (s.1 7 7)).2 55 = sC.2 55 := k3
  refine ⟨⟨?_, ?_, ?_⟩, ?_, ?_, ?_, ?_, h6⟩
  · refine tk_f (L1 := LT67) (L2 := 0) w1 ?_ fr_r rfl rfl
    rcases jc with e | e <;> subst e
    · exact fr_i fr_r 67 rfl rfl
    · exact fr_i fr_r 68 rfl rfl
  · rw [fr_e w3 0 18 38 rfl rfl]; exact h1.2.1
  · unfold ToldS
    rw [ec 8 3 (by omega), ec 8 4 (by omega), k20, fr_e w3 0 20 40 rfl rfl]
    exact h1.2.2
  · unfold NmP at h2 ⊢
    rw [(ef 52 (by omega)).trans k1, e55, (ef 56 (by omega)).trans k4, (ef 57 (by omega)).trans k5, c0, n0]
    exact h2
  · unfold PlanS
    rw [(ef 52 (by omega)).trans k1, (ef 58 (by omega)).trans k6, (ef 59 (by omega)).trans k7, (ef 60 (by omega)).trans k8, (ef 61 (by omega)).trans k9, (ef 62 (by omega)).trans k10, (ef 63 (by omega)).trans k11, (ef 64 (by omega)).trans k12, (ef 65 (by omega)).trans k13, (ef 66 (by omega)).trans k14]
    exact plan_x h3 (fun _ _ _ => rfl) (fun k hk => eM k (by omega)) ⟨h3.2.2.1.1.trans (eM 9 (by omega)).symm, h3.2.2.1.2.1.trans (eM 13 (by omega)).symm, h3.2.2.1.2.2.trans (eM 14 (by omega)).symm⟩ (fun q _ => ⟨⟨rfl, rfl, rfl⟩, eM _ (by omega), eM _ (by omega), eM _ (by omega)⟩) (fun _ _ => rfl) (fun c _ => ⟨⟨rfl, rfl, rfl⟩, eM _ (by omega), eM _ (by omega), eM _ (by omega)⟩) (fun g _ => ⟨⟨rfl, rfl⟩, eM _ (by omega), eM _ (by omega)⟩)
  · unfold GrS
    rw [(ef 69 (by omega)).trans k17, (ef 70 (by omega)).trans k18, (ef 71 (by omega)).trans k19, (ef 53 (by omega)).trans k2]
    refine gr_x h4 (fun h hh => ⟨?_, ?_, rfl, eM _ (by omega)⟩) (fun g hg => ?_) (fun q _ => ⟨rfl, eM _ (by omega), eM _ (by omega)⟩) (fun _ _ _ => rfl) (fun k k1 k2 k3 => eM k (by omega)) ⟨eM 3 (by omega), fun g _ _ => eM _ (by omega)⟩
    · rcases jc with e | e <;> subst e
      · rw [pI_1]
        by_cases z : h = x.toNatClampNeg
        · rw [if_pos ⟨rfl, z⟩]
          unfold mN
          rw [w6, if_pos (by omega)]
        · rw [if_neg (fun y => z y.2), eM _ (by omega), k15]
          exact (h4.1 h hh).1
      · rw [ec 67 h (by omega), eM _ (by omega), k15]
        exact (h4.1 h hh).1
    · rcases jc with e | e <;> subst e
      · rw [ec 68 h (by omega), eM _ (by omega), k16]
        exact (h4.1 h hh).2.1
      · rw [pI_1]
        by_cases z : h = x.toNatClampNeg
        · rw [if_pos ⟨rfl, z⟩]
          unfold mN
          rw [w6, if_pos (by omega)]
        · rw [if_neg (fun y => z y.2), eM _ (by omega), k16]
          exact (h4.1 h hh).2.1
    · rw [eM _ (by omega)]
      exact h4.2.1 g hg
  · rw [w6, if_neg (by omega)]; exact h5
section
/-! texts: rules for programs behind programs -/
section
variable {α α' β β' : Type} {R : α → Sg → β → Sg → Prop}
theorem rm_b {γ : Type} {oC : Option (α × Sg)} {o : Option (γ × Sg)} {k : γ → Sg → Option (β' × Sg)} {K : β' → Sg → Option (β × Sg)} (h : RQ oC (bd o (fun r s => bd (k r s) K)) R) : RQ oC (bd (bd o k) K) R := by
  rw [bd_bd]; exact h
theorem rc_b {γ : Type} {oM : Option (β × Sg)} {o : Option (γ × Sg)} {k : γ → Sg → Option (α' × Sg)} {K : α' → Sg → Option (α × Sg)} (h : RQ (bd o (fun r s => bd (k r s) K)) oM R) : RQ (bd (bd o k) K) oM R := by
  rw [bd_bd]; exact h
theorem rm_i {c : Prop} [Decidable c] {a b : Option (β' × Sg)} {oC : Option (α × Sg)} {K : β' → Sg → Option (β × Sg)} (h : c → RQ oC (bd a K) R) (g : ¬ c → RQ oC (bd b K) R) : RQ oC (bd (if c then a else b) K) R := by
  rw [bd_if]; exact rq_iM h g
theorem rc_i {c : Prop} [Decidable c] {a b : Option (α' × Sg)} {oM : Option (β × Sg)} {K : α' → Sg → Option (α × Sg)} (h : c → RQ (bd a K) oM R) (g : ¬ c → RQ (bd b K) oM R) : RQ (bd (if c then a else b) K) oM R := by
  rw [bd_if]; exact rq_iC h g
theorem rm_c {c : Prop} [Decidable c] {a : Option (β' × Sg)} {oC : Option (α × Sg)} {K : β' → Sg → Option (β × Sg)} (h : c → RQ oC (bd a K) R) : RQ oC (bd (ck c a) K) R := by
  rw [bd_ck]; exact rq_cM h
theorem rc_c {c : Prop} [Decidable c] {a : Option (α' × Sg)} {oM : Option (β × Sg)} {K : α' → Sg → Option (α × Sg)} (h : c → RQ (bd a K) oM R) : RQ (bd (ck c a) K) oM R := by
  rw [bd_ck]; exact rq_cC h
theorem rm_s {r : β'} {t : Sg} {oC : Option (α × Sg)} {K : β' → Sg → Option (β × Sg)} (h : RQ oC (K r t) R) : RQ oC (bd (some (r, t)) K) R := h
theorem rc_s {r : α'} {s : Sg} {oM : Option (β × Sg)} {K : α' → Sg → Option (α × Sg)} (h : RQ (K r s) oM R) : RQ (bd (some (r, s)) K) oM R := h
theorem rm_n {γ : Type} {e : γ} {k : γ → Option (β' × Sg)} {oC : Option (α × Sg)} {K : β' → Sg → Option (β × Sg)} (h : ∀ x, x = e → RQ oC (bd (k x) K) R) : RQ oC (bd (nmx e k) K) R := h e rfl
theorem rc_n {γ : Type} {e : γ} {k : γ → Option (α' × Sg)} {oM : Option (β × Sg)} {K : α' → Sg → Option (α × Sg)} (h : ∀ x, x = e → RQ (bd (k x) K) oM R) : RQ (bd (nmx e k) K) oM R := h e rfl
end
theorem i10 : ¬ (1 : Int32) = 0 := by decide
theorem grain0_r {n : Nat} {x a : Int32} {p0 : Int} {sC sM : Sg} {G : Sg → Sg → Prop} {K : Int32 → Sg → Option (Int32 × Sg)} (hK : K0 K) (h : HsT n x sC sM) (hp : p0 ≤ (sC.1 7 4).toInt) (ha : a.toNatClampNeg = 1936 + 3 * x.toNatClampNeg + 0) (KC KM : Sg → Option (Int32 × Sg)) (hk : ∀ s t, HsT n x s t → p0 ≤ (s.1 7 4).toInt → RQ (KC s) (bd (KM t) K) (Og G)) : RQ (bd (f_X6_takeGrains_67 101 x sC) (fun r s => if r = 0 then some (0, s) else KC s)) (bd (bd (f_X12_isThere 6 sM) (fun r t => if r = 0 then KM t else bd (f_X12_number a 0 999 t) (fun r t => if r = 0 then some (0, t) else KM t))) K) (Og G) := by
  unfold f_X6_takeGrains_67 f_X12_isThere
  refine rm_b (rm_b (rq_bM (word_r h.1.1) (fun r1 s2 g => ?_)))
  obtain ⟨es, g, -⟩ := g
  subst es
  have e := kws_eq g (i := 1) (by decide) (c := 101) (p := 6) rfl rfl
  refine rc_i (fun c => rm_i (fun d => ?_) (fun d => absurd (e.mp c) d)) (fun c => rm_i (fun d => absurd (e.mpr d) c) (fun d => ?_))
  · refine rc_b (rm_b (rq_b2 (adv_s h.1.1) (fun _ s _ t w => ?_)))
    have h' := hs_st w h
    have q1 := tk_pos h.1.1
    have q2 := w.2.2.2
    refine rm_s (rm_i (fun z => absurd z i10) (fun _ => ?_))
    refine rc_b (rm_b (rq_b2 (num_r h'.1.1 h'.1.2.1 0 999 a _ ha) (fun r s3 r' t3 g3 => ?_)))
    rcases g3 with ⟨z, z', g3⟩ | ⟨z, z', g3⟩ <;> subst z <;> subst z'
    · have q3 := tk_pos h'.1.1
      have q4 := g3.2.2.2.1
      refine rc_i (fun z => absurd z i10) (fun _ => rm_i (fun z => absurd z i10) (fun _ => rc_c (fun _ => rc_n (fun s6 e6 => rc_s (rq_iC (fun z => absurd z i10) (fun _ => ?_))))))
      refine hk _ _ ?_ ?_
      · rw [e6]
        exact hs_nu h' (j := 0) (by decide) g3
      · rw [e6, q_nc rfl]
        omega
    · refine rc_i (fun _ => rm_i (fun _ => ?_) (fun z => absurd rfl z)) (fun z => absurd rfl z)
      refine rc_s (rm_s ?_)
      rw [if_pos rfl, hK t3]
      exact rq_s (Or.inr ⟨rfl, rfl, g3⟩)
  · refine rc_s (rm_s (rq_iC (fun z => absurd z i10) (fun _ => rm_i (fun _ => hk _ _ h hp) (fun z => absurd rfl z))))
theorem grain1_r {n : Nat} {x a : Int32} {p0 : Int} {sC sM : Sg} {G : Sg → Sg → Prop} {K : Int32 → Sg → Option (Int32 × Sg)} (hK : K0 K) (h : HsT n x sC sM) (hp : p0 ≤ (sC.1 7 4).toInt) (ha : a.toNatClampNeg = 1936 + 3 * x.toNatClampNeg + 1) (KC KM : Sg → Option (Int32 × Sg)) (hk : ∀ s t, HsT n x s t → p0 ≤ (s.1 7 4).toInt → RQ (KC s) (bd (KM t) K) (Og G)) : RQ (bd (f_X6_takeGrains_68 102 x sC) (fun r s => if r = 0 then some (0, s) else KC s)) (bd (bd (f_X12_isThere 7 sM) (fun r t => if r = 0 then KM t else bd (f_X12_number a 0 999 t) (fun r t => if r = 0 then some (0, t) else KM t))) K) (Og G) := by
  unfold f_X6_takeGrains_68 f_X12_isThere
  refine rm_b (rm_b (rq_bM (word_r h.1.1) (fun r1 s2 g => ?_)))
  obtain ⟨es, g, -⟩ := g
  subst es
  have e := kws_eq g (i := 2) (by decide) (c := 102) (p := 7) rfl rfl
  refine rc_i (fun c => rm_i (fun d => ?_) (fun d => absurd (e.mp c) d)) (fun c => rm_i (fun d => absurd (e.mpr d) c) (fun d => ?_))
  · refine rc_b (rm_b (rq_b2 (adv_s h.1.1) (fun _ s _ t w => ?_)))
    have h' := hs_st w h
    have q1 := tk_pos h.1.1
    have q2 := w.2.2.2
    refine rm_s (rm_i (fun z => absurd z i10) (fun _ => ?_))
    refine rc_b (rm_b (rq_b2 (num_r h'.1.1 h'.1.2.1 0 999 a _ ha) (fun r s3 r' t3 g3 => ?_)))
    rcases g3 with ⟨z, z', g3⟩ | ⟨z, z', g3⟩ <;> subst z <;> subst z'
    · have q3 := tk_pos h'.1.1
      have q4 := g3.2.2.2.1
      refine rc_i (fun z => absurd z i10) (fun _ => rm_i (fun z => absurd z i10) (fun _ => rc_c (fun _ => rc_n (fun s6 e6 => rc_s (rq_iC (fun z => absurd z i10) (fun _ => ?_))))))
      refine hk _ _ ?_ ?_
      · rw [e6]
        exact hs_nu h' (j := 1) (by decide) g3
      · rw [e6, q_nc rfl]
        omega
    · refine rc_i (fun _ => rm_i (fun _ => ?_) (fun z => absurd rfl z)) (fun z => absurd rfl z)
      refine rc_s (rm_s ?_)
      rw [if_pos rfl, hK t3]
      exact rq_s (Or.inr ⟨rfl, rfl, g3⟩)
  · refine rc_s (rm_s (rq_iC (fun z => absurd z i10) (fun _ => rm_i (fun _ => hk _ _ h hp) (fun z => absurd rfl z))))
/-- the house is gone, on both sides -/
theorem hs_gone {n : Nat} {x : Int32} {s t : Sg} (v : Int32) (h : HsT n x s t) : HsT n x (pI s 52 17 ((s.1 52 17) ||| v)) (pI t 1 1929 ((t.1 1 1929) ||| v)) := by
  obtain ⟨h1, h2, h3, h4, h5, h6⟩ := h
  have ef : ∀ c, ¬ c = 52 → (pI s 52 17 ((s.1 52 17) ||| v)).1 c = s.1 c := fun c hc => funext fun k => by rw [pI_1, if_neg (fun z => hc z.1)]
  have e52 : ∀ k, ¬ k = 17 → (pI s 52 17 ((s.1 52 17) ||| v)).1 52 k = s.1 52 k := fun k hk => by rw [pI_1, if_neg (fun z => hk z.2)]
  have eM : ∀ k, ¬ k = 9 → mN (pI t 1 1929 ((t.1 1 1929) ||| v)) k = mN t k := fun k hk => by
    unfold mN
    rw [pI_1, if_neg (fun z => hk (by have := z.2; omega))]
  have m9 : mN (pI t 1 1929 ((t.1 1 1929) ||| v)) 9 = (t.1 1 1929) ||| v := q_eq
  have p17 : (pI s 52 17 ((s.1 52 17) ||| v)).1 52 17 = (s.1 52 17) ||| v := q_eq
  have g9 : s.1 52 17 = t.1 1 1929 := h3.2.2.1.1
  have c0 : cnN (pI t 1 1929 ((t.1 1 1929) ||| v)) = cnN t := cn_e (fun k hk => by rw [pI_1, if_neg (fun z => by have := z.2; omega)])
  have n0 : nmN (pI t 1 1929 ((t.1 1 1929) ||| v)) = nmN t := rfl
  have e55 : (pI s 52 17 ((s.1 52 17) ||| v)).2 55 = s.2 55 := rfl
  refine ⟨⟨?_, ?_, ?_⟩, ?_, ?_, ?_, ?_, h6⟩
  · exact tk_f (L1 := 2 ^ 207) (L2 := 2 ^ 1) h1.1 (fr_x 207 rfl) (fr_x 1 rfl) (m_and rfl) (m_and rfl)
  · rw [q_nc rfl]; exact h1.2.1
  · unfold ToldS
    rw [q_nc rfl, q_nc rfl, q_nc rfl]
    exact h1.2.2
  · unfold NmP at h2 ⊢
    rw [e52 12 (by decide), e55, ef 56 (by decide), ef 57 (by decide), c0, n0]
    exact h2
  · unfold PlanS
    rw [ef 58 (by decide), ef 59 (by decide), ef 60 (by decide), ef 61 (by decide), ef 62 (by decide), ef 63 (by decide), ef 64 (by decide), ef 65 (by decide), ef 66 (by decide)]
    exact plan_x h3 (fun k k1 k2 => e52 k (by omega)) (fun k hk => eM k (by omega)) ⟨by rw [p17, m9, g9], by rw [e52 18 (by decide), eM 13 (by decide)]; exact h3.2.2.1.2.1, by rw [e52 19 (by decide), eM 14 (by decide)]; exact h3.2.2.1.2.2⟩ (fun q _ => ⟨⟨rfl, rfl, rfl⟩, eM _ (by omega), eM _ (by omega), eM _ (by omega)⟩) (fun _ _ => rfl) (fun c _ => ⟨⟨rfl, rfl, rfl⟩, eM _ (by omega), eM _ (by omega), eM _ (by omega)⟩) (fun g _ => ⟨⟨rfl, rfl⟩, eM _ (by omega), eM _ (by omega)⟩)
  · unfold GrS
    rw [ef 67 (by decide), ef 68 (by decide), ef 69 (by decide), ef 70 (by decide), ef 71 (by decide), ef 53 (by decide)]
    exact gr_x h4 (fun h hh => ⟨by rw [eM _ (by omega)]; exact (h4.1 h hh).1, by rw [eM _ (by omega)]; exact (h4.1 h hh).2.1, rfl, eM _ (by omega)⟩) (fun g hg => by rw [eM _ (by omega)]; exact h4.2.1 g hg) (fun q _ => ⟨rfl, eM _ (by omega), eM _ (by omega)⟩) (fun _ _ _ => rfl) (fun k k1 k2 k3 => eM k k3) ⟨eM 3 (by decide), fun g _ _ => eM _ (by omega)⟩
  · rw [pI_1, if_neg (fun z => by have := z.2; omega)]
    exact h5
/-- the house is counted by the reference, too -/
theorem hs_done {n : Nat} {x : Int32} {s t : Sg} (h : HsT n x s t) : SR n s (pI t 1 1920 ((t.1 1 1920) + 1)) := by
  obtain ⟨h1, h2, h3, h4, h5, h6⟩ := h
  have e1 : (1 : Int32).toInt = 1 := rfl
  have ax : ((t.1 1 1920) + 1).toInt = (t.1 1 1920).toInt + 1 := by
    rw [h5]
    exact i_addx x 1 (show -2147483648 ≤ x.toInt + 1 ∧ x.toInt + 1 ≤ 2147483647 from by omega)
  have hx : (t.1 1 1920).toInt = x.toInt := by rw [h5]
  have eM : ∀ k, ¬ k = 0 → mN (pI t 1 1920 ((t.1 1 1920) + 1)) k = mN t k := fun k hk => by
    unfold mN
    rw [pI_1, if_neg (fun z => hk (by have := z.2; omega))]
  have m0 : mN (pI t 1 1920 ((t.1 1 1920) + 1)) 0 = (t.1 1 1920) + 1 := q_eq
  have g0 : mN t 0 = t.1 1 1920 := rfl
  have tk : TkRel n s (pI t 1 1920 ((t.1 1 1920) + 1)) := tk_f (L1 := 0) (L2 := 2 ^ 1) h1.1 fr_r (fr_x 1 rfl) rfl (m_and rfl)
  refine ⟨⟨tk, ?_, ?_⟩, ?_, ?_, ?_⟩
  · rw [q_nc rfl]; exact h1.2.1
  · unfold ToldS
    rw [q_nc rfl]
    exact h1.2.2
  · obtain ⟨⟨a1, a2, a3, a4⟩, ⟨b0, b1, b2, b3⟩, c5, cq, ca, cc, cg⟩ := h3
    unfold PlanS PlanA
    rw [eM 1 (by decide), eM 2 (by decide), eM 3 (by decide), eM 9 (by decide), eM 13 (by decide), eM 14 (by decide), m0]
    rw [g0] at a1 b0 cq cc
    refine ⟨⟨by omega, a2, a3, a4⟩, ⟨by omega, b1, b2, b3⟩, c5, fun q hq => ?_, ca, fun c hc => ?_, fun g hg => ?_⟩
    · have z := cq q hq
      rw [eM _ (by omega), eM _ (by omega), eM _ (by omega)]
      exact ⟨z.1, by omega, by omega, z.2.2.2⟩
    · have z := cc c hc
      rw [eM _ (by omega), eM _ (by omega), eM _ (by omega)]
      exact ⟨z.1, by omega, by omega, z.2.2.2⟩
    · have z := cg g hg
      rw [eM _ (by omega), eM _ (by omega)]
      exact z
  · exact gr_x h4 (fun h hh => ⟨by rw [eM _ (by omega)]; exact (h4.1 h hh).1, by rw [eM _ (by omega)]; exact (h4.1 h hh).2.1, rfl, eM _ (by omega)⟩) (fun g hg => by rw [eM _ (by omega)]; exact h4.2.1 g hg) (fun q _ => ⟨rfl, eM _ (by omega), eM _ (by omega)⟩) (fun _ _ _ => rfl) (fun k k1 k2 k3 => eM k (by omega)) ⟨eM 3 (by decide), fun g _ _ => eM _ (by omega)⟩
  · have hb : ∀ x, x < 4 → cnN t x ≤ 8 ∧ (2 ≤ x → cnN t x ≤ 4) := by
      have b := h3.2.1
      have d0 : mN t 0 = t.1 1 1920 := rfl
      have d1 : mN t 1 = t.1 1 1921 := rfl
      have d2 : mN t 2 = t.1 1 1922 := rfl
      have d3 : mN t 3 = t.1 1 1923 := rfl
      rw [d0, d1, d2, d3] at b
      refine u4 ?_ ?_ ?_ ?_
      · show (t.1 1 1920).toInt.toNat ≤ 8 ∧ (2 ≤ 0 → (t.1 1 1920).toInt.toNat ≤ 4)
        omega
      · show (t.1 1 1921).toInt.toNat ≤ 8 ∧ (2 ≤ 1 → (t.1 1 1921).toInt.toNat ≤ 4)
        omega
      · show (t.1 1 1922).toInt.toNat ≤ 8 ∧ (2 ≤ 2 → (t.1 1 1922).toInt.toNat ≤ 4)
        omega
      · show (t.1 1 1923).toInt.toNat ≤ 8 ∧ (2 ≤ 3 → (t.1 1 1923).toInt.toNat ≤ 4)
        omega
    have c1 : cnN (pI t 1 1920 ((t.1 1 1920) + 1)) 0 = cnN t 0 + 1 := by
      show ((pI t 1 1920 ((t.1 1 1920) + 1)).1 1 1920).toInt.toNat = (t.1 1 1920).toInt.toNat + 1
      rw [q_eq]
      omega
    have c2 : ∀ z, ¬ z = 0 → cnN (pI t 1 1920 ((t.1 1 1920) + 1)) z = cnN t z := fun z hz => by
      unfold cnN
      by_cases w : z < 4
      · rw [if_pos w, if_pos w, pI_1, if_neg (fun y => hz (by have := y.2; omega))]
      · rw [if_neg w, if_neg w]
    exact nm_done (q := 0) (by decide) (mM := fun _ => 0) h2 hb ⟨c1, c2⟩
theorem house_r {n : Nat} {sC sM : Sg} (h : SR n sC sM) : RQ (f_X6_takeHouse sC) (bd (f_X12_aHouse sM) (fun r s => f_X12_streetPart_b102 r s)) (Og (PaT n sC sM)) := by
  obtain ⟨h1, h2, h3, h4⟩ := h
  have hcnt : sC.1 52 13 = sM.1 1 1920 := Int32.toInt_inj.mp (by have := h2.1.1; show _ = (mN sM 0).toInt; omega)
  have q0 := tk_pos h1.1
  unfold f_X6_takeHouse f_X12_aHouse
  rw [hcnt]
  refine rm_n (fun x1 ex1 => rm_b (rq_b2 (new_r (q := 0) h1 h2 h3 h4 (by decide) 100 8 0 0 rfl rfl rfl rfl) (fun r s r' t g => og_k sg_K0 g (fun g => ?_))))
  obtain ⟨g1, g2, g3, g4, g5, g6⟩ := g
  have b0 : 0 ≤ (mN t 0).toInt ∧ (mN t 0).toInt ≤ 8 := g3.2.1.1
  have m0 : mN t 0 = sM.1 1 1920 := by
    show t.1 1 1920 = _
    rw [g6]
  have np : cnN t 0 < 8 := by
    obtain ⟨N, b, -, -, -, -, -, -, w⟩ := g2
    exact w.1
  have np' : (t.1 1 1920).toInt.toNat < 8 := np
  have hx : 0 ≤ (sM.1 1 1920).toInt ∧ (sM.1 1 1920).toInt < 8 := by
    rw [m0] at b0
    rw [g6] at np'
    omega
  generalize hxx : sM.1 1 1920 = x at hx m0 ex1 ⊢
  have e1920 : t.1 1 1920 = x := m0
  -- the class counts the house at once
  have hs : HsT n x (pI s 52 13 ((s.1 52 13) + 1)) t := by
    have ef : ∀ c, ¬ c = 52 → (pI s 52 13 ((s.1 52 13) + 1)).1 c = s.1 c := fun c hc => funext fun k => by rw [pI_1, if_neg (fun z => hc z.1)]
    have e52 : ∀ k, ¬ k = 13 → (pI s 52 13 ((s.1 52 13) + 1)).1 52 k = s.1 52 k := fun k hk => by rw [pI_1, if_neg (fun z => hk z.2)]
    have e55 : (pI s 52 13 ((s.1 52 13) + 1)).2 55 = s.2 55 := rfl
    refine ⟨⟨tk_f (L1 := 2 ^ 203) (L2 := 0) g1.1 (fr_x 203 rfl) fr_r (m_and rfl) rfl, g1.2.1, ?_⟩, ?_, ?_, ?_, e1920, hx⟩
    · unfold ToldS
      rw [q_nc rfl, q_nc rfl]
      exact g1.2.2
    · unfold NmP at g2 ⊢
      rw [e52 12 (by decide), e55, ef 56 (by decide), ef 57 (by decide)]
      exact g2
    · obtain ⟨⟨a1, a2, a3, a4⟩, a5, ⟨a6, a7, a8⟩, ar⟩ := g3
      unfold PlanS PlanA
      rw [ef 58 (by decide), ef 59 (by decide), ef 60 (by decide), ef 61 (by decide), ef 62 (by decide), ef 63 (by decide), ef 64 (by decide), ef 65 (by decide), ef 66 (by decide), e52 14 (by decide), e52 15 (by decide), e52 16 (by decide), e52 17 (by decide), e52 18 (by decide), e52 19 (by decide), q_eq]
      have e1 : (1 : Int32).toInt = 1 := rfl
      have w := a5.1
      have z := i_addx (s.1 52 13) 1 (show -2147483648 ≤ (s.1 52 13).toInt + 1 ∧ (s.1 52 13).toInt + 1 ≤ 2147483647 from by omega)
      exact ⟨⟨by omega, a2, a3, a4⟩, a5, ⟨a6, a7, a8⟩, ar⟩
    · unfold GrS
      rw [ef 67 (by decide), ef 68 (by decide), ef 69 (by decide), ef 70 (by decide), ef 71 (by decide), ef 53 (by decide)]
      exact g4
  have hk : (pI s 52 13 ((s.1 52 13) + 1)).1 7 3 = s.1 7 3 := q_nc rfl
  have hst : (sC.1 7 2).toInt ≤ ((pI s 52 13 ((s.1 52 13) + 1)).1 7 4).toInt := by rw [q_nc rfl]; exact g5
  generalize pI s 52 13 ((s.1 52 13) + 1) = s2 at hs hk hst ⊢
  have cl := cl_nat x
  have clx := cl_nat x1
  have e3 : (3 : Int32).toInt = 3 := rfl
  have e1936 : (1936 : Int32).toInt = 1936 := rfl
  have mx : (3 * x).toInt = 3 * x.toInt := i_mulx 3 x (show -2147483648 ≤ 3 * x.toInt ∧ 3 * x.toInt ≤ 2147483647 from by omega)
  have ax : x1.toInt = 1936 + 3 * x.toInt := by
    rw [ex1]
    have := i_addx 1936 (3 * x) (show -2147483648 ≤ 1936 + (3 * x).toInt ∧ 1936 + (3 * x).toInt ≤ 2147483647 from by omega)
    omega
  have dx : x1.toNatClampNeg = 1936 + 3 * x.toNatClampNeg + 0 := by omega
  have ax1 : (x1 + 1).toInt = x1.toInt + 1 := i_addx x1 1 (show -2147483648 ≤ x1.toInt + 1 ∧ x1.toInt + 1 ≤ 2147483647 from by omega)
  have clx1 := cl_nat (x1 + 1)
  have dx1 : (x1 + 1).toNatClampNeg = 1936 + 3 * x.toNatClampNeg + 1 := by omega
  -- grains, gone, the sign
  have body : ∀ fl : Int32, RQ (f_X6_takeHouse_b64 x fl s2) (bd (f_X12_aHouse_b57 x x1 fl t) (fun r s => f_X12_streetPart_b102 r s)) (Og (PaT n sC sM)) := by
    intro fl
    unfold f_X6_takeHouse_b64 f_X12_aHouse_b57
    refine grain0_r sg_K0 hs hst dx _ (fun t => f_X12_aHouse_b81 x x1 fl t) (fun sa ta ha pa => ?_)
    unfold f_X12_aHouse_b81
    refine grain1_r sg_K0 ha pa dx1 _ (fun t => f_X12_aHouse_b106 x fl t) (fun sb tb hb pb => ?_)
    unfold f_X12_aHouse_b106
    refine rm_b (rq_bM (word_r hb.1.1) (fun r1 s9 g => ?_))
    obtain ⟨es, g, -⟩ := g
    subst es
    have e := kws_eq g (i := 3) (by decide) (c := 103) (p := 5) rfl rfl
    refine rq_iC (fun c => rm_i (fun d => ?_) (fun d => absurd (e.mp c) d)) (fun c => rm_i (fun d => absurd (e.mpr d) c) (fun d => ?_))
    · refine rq_iC (fun c0 => rm_i (fun _ => ?_) (fun w => absurd c0 w)) (fun c0 => rm_i (fun w => absurd w c0) (fun _ => og_fk sg_K0 hb.1.1 hb.1.2.1 5 (by decide)))
      refine rq_nC (fun sc esc => rm_n (fun tc etc => ?_))
      have hc : HsT n x sc tc := by rw [esc, etc]; exact hs_gone _ hb
      have pc : (sC.1 7 2).toInt ≤ (sc.1 7 4).toInt := by rw [esc, q_nc rfl]; exact pb
      refine rm_b (rq_b2 (adv_s hc.1.1) (fun _ sd _ td w => ?_))
      have hd := hs_st w hc
      have z1 := tk_pos hc.1.1
      have z2 := w.2.2.2
      unfold f_X12_aHouse_b144
      exact rm_s (semi_r (hs_done hd) (by omega))
    · unfold f_X12_aHouse_b144
      exact rm_s (semi_r (hs_done hb) pb)
  -- which grains are told
  have kw := word_r hs.1.1
  refine rm_b (rq_bM kw (fun r4 s5 gw => ?_))
  obtain ⟨es, gw, -⟩ := gw
  subst es
  have e6 := kws_eq gw (i := 1) (by decide) (c := 101) (p := 6) rfl rfl
  refine rq_iC (fun c => rm_i (fun d => ?_) (fun d => absurd (e6.mp c) d)) (fun c => rm_i (fun d => absurd (e6.mpr d) c) (fun d => ?_))
  · unfold f_X6_takeHouse_b59 f_X12_aHouse_b52
    exact body 1
  · refine rm_b (rq_bM kw (fun r21 s22 gv => ?_))
    obtain ⟨es, gv, -⟩ := gv
    subst es
    have e7 := kws_eq gv (i := 2) (by decide) (c := 102) (p := 7) rfl rfl
    refine rq_iC (fun c2 => rm_i (fun d2 => ?_) (fun d2 => absurd (e7.mp c2) d2)) (fun c2 => rm_i (fun d2 => absurd (e7.mpr d2) c2) (fun d2 => ?_))
    · unfold f_X6_takeHouse_b59 f_X12_aHouse_b52
      exact body 1
    · exact body 0
end
