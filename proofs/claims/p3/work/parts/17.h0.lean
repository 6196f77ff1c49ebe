/-! ranges and frames -/
def Rg (r : Nat → Nat → Int × Int) (s : Sg) : Prop := ∀ c k, (r c k).1 ≤ (s.1 c k).toInt ∧ (s.1 c k).toInt ≤ (r c k).2
def Fr (cd : Nat → Nat → Nat) (L : Nat) (s s' : Sg) : Prop := ∀ c k, L.testBit (cd c k) = false → s'.1 c k = s.1 c k ∧ s'.2 c k = s.2 c k
def Jg (r : Nat → Nat → Int × Int) (cd : Nat → Nat → Nat) (L : Nat) (s0 s : Sg) : Prop := Rg r s ∧ Fr cd L s0 s
theorem pI_1 (s : Sg) (c k : Nat) (v : Int32) (c' k' : Nat) : (pI s c k v).1 c' k' = if c' = c ∧ k' = k then v else s.1 c' k' := by
  by_cases hc : c' = c
  · subst hc
    by_cases hk : k' = k
    · subst hk; rw [if_pos ⟨rfl, rfl⟩]; show va_up s.1 c' (upd (s.1 c') k' v) c' k' = v
      unfold va_up upd; simp
    · rw [if_neg (fun h => hk h.2)]; show va_up s.1 c' (upd (s.1 c') k v) c' k' = _
      unfold va_up upd; simp [hk]
  · rw [if_neg (fun h => hc h.1)]; show va_up s.1 c (upd (s.1 c) k v) c' k' = _
    unfold va_up; simp [hc]
theorem pI_2 (s : Sg) (c k : Nat) (v : Int32) : (pI s c k v).2 = s.2 := rfl
theorem pL_1 (s : Sg) (c k : Nat) (v : Int64) : (pL s c k v).1 = s.1 := rfl
theorem pL_2 (s : Sg) (c k : Nat) (v : Int64) (c' k' : Nat) : (pL s c k v).2 c' k' = if c' = c ∧ k' = k then v else s.2 c' k' := by
  by_cases hc : c' = c
  · subst hc
    by_cases hk : k' = k
    · subst hk; rw [if_pos ⟨rfl, rfl⟩]; show va_up s.2 c' (vp_updL (s.2 c') k' v) c' k' = v
      unfold va_up vp_updL; simp
    · rw [if_neg (fun h => hk h.2)]; show va_up s.2 c' (vp_updL (s.2 c') k v) c' k' = _
      unfold va_up vp_updL; simp [hk]
  · rw [if_neg (fun h => hc h.1)]; show va_up s.2 c (vp_updL (s.2 c) k v) c' k' = _
    unfold va_up; simp [hc]
theorem pA_1 (s : Sg) (c : Nat) (f : Nat → Int32) (c' k' : Nat) : (pA s c f).1 c' k' = if c' = c then f k' else s.1 c' k' := by
  show va_up s.1 c f c' k' = _
  unfold va_up
  by_cases hc : c' = c
  · simp [hc]
  · simp [hc]
theorem pB_2 (s : Sg) (c : Nat) (f : Nat → Int64) (c' k' : Nat) : (pB s c f).2 c' k' = if c' = c then f k' else s.2 c' k' := by
  show va_up s.2 c f c' k' = _
  unfold va_up
  by_cases hc : c' = c
  · simp [hc]
  · simp [hc]
theorem i_rg (a : Int32) : -2147483648 ≤ a.toInt ∧ a.toInt ≤ 2147483647 := by
  have h1 := Int32.le_toInt a
  have h2 := Int32.toInt_lt a
  omega
theorem j_refl {r : Nat → Nat → Int × Int} {cd : Nat → Nat → Nat} {L : Nat} {s : Sg} (h : Rg r s) : Jg r cd L s s := ⟨h, fun _ _ _ => ⟨rfl, rfl⟩⟩
theorem j_wr {r : Nat → Nat → Int × Int} {cd : Nat → Nat → Nat} {L : Nat} {s0 s : Sg} {c k : Nat} {v : Int32} (lo hi : Int) (h : Jg r cd L s0 s) (hr : r c k = (lo, hi)) (m : Nat) (hm : cd c k = m) (hL : L.testBit m = true) (hv : lo ≤ v.toInt ∧ v.toInt ≤ hi) : Jg r cd L s0 (pI s c k v) := by
  refine ⟨fun c' k' => ?_, fun c' k' hb => ?_⟩
  · rw [pI_1]
    split
    · next e => rw [e.1, e.2, hr]; exact hv
    · exact h.1 c' k'
  · rw [pI_1, pI_2]
    split
    · next e => rw [e.1, e.2, hm, hL] at hb; cases hb
    · exact h.2 c' k' hb
theorem j_wf {r : Nat → Nat → Int × Int} {cd : Nat → Nat → Nat} {L : Nat} {s0 s : Sg} {c k : Nat} {v : Int32} (h : Jg r cd L s0 s) (hr : r c k = (-2147483648, 2147483647)) (m : Nat) (hm : cd c k = m) (hL : L.testBit m = true) : Jg r cd L s0 (pI s c k v) := j_wr _ _ h hr m hm hL (i_rg v)
theorem j_wl {r : Nat → Nat → Int × Int} {cd : Nat → Nat → Nat} {L : Nat} {s0 s : Sg} {c k : Nat} {v : Int64} (h : Jg r cd L s0 s) (m : Nat) (hm : cd c k = m) (hL : L.testBit m = true) : Jg r cd L s0 (pL s c k v) := by
  refine ⟨h.1, fun c' k' hb => ?_⟩
  rw [pL_2, pL_1]
  split
  · next e => rw [e.1, e.2, hm, hL] at hb; cases hb
  · exact h.2 c' k' hb
theorem j_cp {r : Nat → Nat → Int × Int} {cd : Nat → Nat → Nat} {L : Nat} {s0 s : Sg} {o d a b n : Nat} (h : Jg r cd L s0 s) (hr : ∀ i j, r o i = r d j) (m : Nat) (hm : ∀ k, cd d k = m) (hL : L.testBit m = true) : Jg r cd L s0 (pA s d (va_cpy (s.1 o) (s.1 d) a b n)) := by
  refine ⟨fun c' k' => ?_, fun c' k' hb => ?_⟩
  · rw [pA_1]
    split
    · next e =>
        subst e
        unfold va_cpy
        split
        · rw [← hr (a + (k' - b)) k']; exact h.1 o _
        · exact h.1 c' k'
    · exact h.1 c' k'
  · rw [pA_1]
    split
    · next e => subst e; rw [hm k', hL] at hb; cases hb
    · exact h.2 c' k' hb
theorem j_cb {r : Nat → Nat → Int × Int} {cd : Nat → Nat → Nat} {L : Nat} {s0 s : Sg} {d : Nat} {f : Nat → Int64} (h : Jg r cd L s0 s) (m : Nat) (hm : ∀ k, cd d k = m) (hL : L.testBit m = true) : Jg r cd L s0 (pB s d f) := by
  refine ⟨h.1, fun c' k' hb => ?_⟩
  rw [pB_2]
  split
  · next e => subst e; rw [hm k', hL] at hb; cases hb
  · exact h.2 c' k' hb
theorem tb_sub {a b c : Nat} (h : a &&& b = a) (hc : b.testBit c = false) : a.testBit c = false := by
  rw [← h, Nat.testBit_and, hc, Bool.and_false]
theorem j_call {r : Nat → Nat → Int × Int} {cd : Nat → Nat → Nat} {L L1 : Nat} {s0 s s' : Sg} (h : Jg r cd L s0 s) (h1 : Jg r cd L1 s s') (hL : L1 &&& L = L1) : Jg r cd L s0 s' :=
  ⟨h1.1, fun c k hb => ⟨(h1.2 c k (tb_sub hL hb)).1.trans (h.2 c k hb).1, (h1.2 c k (tb_sub hL hb)).2.trans (h.2 c k hb).2⟩⟩
theorem j_rd {r : Nat → Nat → Int × Int} {cd : Nat → Nat → Nat} {L : Nat} {s0 s : Sg} (h : Jg r cd L s0 s) (c k : Nat) (lo hi : Int) (hr : r c k = (lo, hi)) : lo ≤ (s.1 c k).toInt ∧ (s.1 c k).toInt ≤ hi := by
  have q := h.1 c k
  rw [hr] at q
  exact q
theorem j_fr {r : Nat → Nat → Int × Int} {cd : Nat → Nat → Nat} {L : Nat} {s0 s : Sg} (h : Jg r cd L s0 s) (c k m : Nat) (hm : cd c k = m) (hb : L.testBit m = false) : (s.1 c k).toInt = (s0.1 c k).toInt := congrArg Int32.toInt (h.2 c k (by rw [hm]; exact hb)).1
theorem u_ne {s : Sg} {c k c' k' : Nat} {v : Int32} (h : (Nat.beq c' c && Nat.beq k' k) = false) : ((pI s c k v).1 c' k').toInt = (s.1 c' k').toInt := by
  rw [pI_1, if_neg]
  rintro ⟨e, f⟩
  subst e; subst f
  simp at h
theorem u_nc {s : Sg} {c k c' k' : Nat} {v : Int32} (h : Nat.beq c' c = false) : ((pI s c k v).1 c' k').toInt = (s.1 c' k').toInt := by
  rw [pI_1, if_neg]
  rintro ⟨e, f⟩
  subst e
  simp at h
theorem u_eq {s : Sg} {c k : Nat} {v : Int32} : ((pI s c k v).1 c k).toInt = v.toInt := by
  rw [pI_1, if_pos ⟨rfl, rfl⟩]
theorem u_na {s : Sg} {c c' k' : Nat} {f : Nat → Int32} (h : Nat.beq c' c = false) : ((pA s c f).1 c' k').toInt = (s.1 c' k').toInt := by
  rw [pA_1, if_neg]
  rintro e
  subst e
  simp at h
/-! numbers -/
theorem i_lt {a b : Int32} (h : a < b) : a.toInt < b.toInt := Int32.lt_iff_toInt_lt.mp h
theorem i_le {a b : Int32} (h : a ≤ b) : a.toInt ≤ b.toInt := Int32.le_iff_toInt_le.mp h
theorem i_eq {a b : Int32} (h : a = b) : a.toInt = b.toInt := congrArg _ h
theorem i_ne {a b : Int32} (h : ¬ a = b) : ¬ a.toInt = b.toInt := fun e => h (Int32.toInt_inj.mp e)
theorem i_nlt {a b : Int32} (h : ¬ a < b) : b.toInt ≤ a.toInt := by
  have q : ¬ a.toInt < b.toInt := fun e => h (Int32.lt_iff_toInt_lt.mpr e)
  omega
theorem i_nle {a b : Int32} (h : ¬ a ≤ b) : b.toInt < a.toInt := by
  have q : ¬ a.toInt ≤ b.toInt := fun e => h (Int32.le_iff_toInt_le.mpr e)
  omega
theorem bm32 (x : Int) : Int.bmod x 4294967296 = (x + 2147483648) % 4294967296 - 2147483648 := by
  show (if x % ((4294967296 : Nat) : Int) < (((4294967296 : Nat) : Int) + 1) / 2 then x % ((4294967296 : Nat) : Int) else x % ((4294967296 : Nat) : Int) - ((4294967296 : Nat) : Int)) = _
  split <;> omega
theorem i_add (a b : Int32) : (a + b).toInt = (a.toInt + b.toInt + 2147483648) % 4294967296 - 2147483648 := by
  rw [Int32.toInt_add]; exact bm32 _
theorem i_sub (a b : Int32) : (a - b).toInt = (a.toInt - b.toInt + 2147483648) % 4294967296 - 2147483648 := by
  rw [Int32.toInt_sub]; exact bm32 _
theorem i_mul (a b : Int32) : (a * b).toInt = (a.toInt * b.toInt + 2147483648) % 4294967296 - 2147483648 := by
  rw [Int32.toInt_mul]; exact bm32 _
theorem ite_lt (a b x y : Int32) : (a.toInt < b.toInt ∧ (if a < b then x else y).toInt = x.toInt) ∨ (b.toInt ≤ a.toInt ∧ (if a < b then x else y).toInt = y.toInt) := by
  by_cases h : a < b
  · rw [if_pos h]; exact Or.inl ⟨i_lt h, rfl⟩
  · rw [if_neg h]; exact Or.inr ⟨i_nlt h, rfl⟩
theorem ite_le (a b x y : Int32) : (a.toInt ≤ b.toInt ∧ (if a ≤ b then x else y).toInt = x.toInt) ∨ (b.toInt < a.toInt ∧ (if a ≤ b then x else y).toInt = y.toInt) := by
  by_cases h : a ≤ b
  · rw [if_pos h]; exact Or.inl ⟨i_le h, rfl⟩
  · rw [if_neg h]; exact Or.inr ⟨i_nle h, rfl⟩
theorem inr_of {i : Int32} {n : Nat} (h : 0 ≤ i.toInt ∧ i.toInt < (n : Int)) : inr i n := by
  rintro (q | q)
  · have e0 : (0 : Int32).toInt = 0 := rfl
    have := i_lt q
    omega
  · have e : i.toNatClampNeg = i.toInt.toNat := rfl
    omega
theorem cl_nat (i : Int32) : (i.toNatClampNeg : Int) = max i.toInt 0 := by
  have e : i.toNatClampNeg = i.toInt.toNat := rfl
  omega
theorem b01_of {x : Int32} (h : 0 ≤ x.toInt ∧ x.toInt ≤ 1) : x = 0 ∨ x = 1 := by
  have e0 : (0 : Int32).toInt = 0 := rfl
  have e1 : (1 : Int32).toInt = 1 := rfl
  by_cases q : x.toInt = 0
  · exact Or.inl (Int32.toInt_inj.mp (by omega))
  · exact Or.inr (Int32.toInt_inj.mp (by omega))
theorem n0_of {x : Int32} (h : ¬ x.toInt = 0) : ¬ x = 0 := fun e => h (by rw [e]; rfl)
theorem nlt_of {x : Int32} (h : 0 ≤ x.toInt) : ¬ x < 0 := fun e => by
  have e0 : (0 : Int32).toInt = 0 := rfl
  have := i_lt e
  omega
/-! programs -/
theorem oq_if {α : Type} {c : Prop} [Decidable c] {a b : Option (α × Sg)} {Q : α → Sg → Prop} (h : c → OQ a Q) (g : ¬ c → OQ b Q) : OQ (if c then a else b) Q := by
  by_cases hc : c
  · rw [if_pos hc]; exact h hc
  · rw [if_neg hc]; exact g hc
theorem oq_c {α : Type} {c : Prop} [Decidable c] {k : Option (α × Sg)} {Q : α → Sg → Prop} (hc : c) (h : OQ k Q) : OQ (ck c k) Q := by
  unfold ck
  rw [if_pos hc]
  exact h
theorem oq_b {α β : Type} {o : Option (α × Sg)} {k : α → Sg → Option (β × Sg)} {Q : β → Sg → Prop} {P : α → Sg → Prop} (h : OQ o P) (g : ∀ r s, P r s → OQ (k r s) Q) : OQ (bd o k) Q := by
  cases o with
  | none => exact h.elim
  | some q => exact g _ _ h
theorem oq_n {α β : Type} {e : α} {k : α → Option (β × Sg)} {Q : β → Sg → Prop} (h : ∀ x, x = e → OQ (k x) Q) : OQ (nmx e k) Q := h e rfl
theorem oq_s4 {α : Type} {i : Int32} {a b c d : Option (α × Sg)} {Q : α → Sg → Prop} (hi : inr i 4) (ha : i.toInt = 0 → OQ a Q) (hb : i.toInt = 1 → OQ b Q) (hc : i.toInt = 2 → OQ c Q) (hd : i.toInt = 3 → OQ d Q) : OQ (sel4 i a b c d) Q := by
  have e : i.toNatClampNeg = i.toInt.toNat := rfl
  have h0 : 0 ≤ i.toInt := i_nlt (fun q => hi (Or.inl q))
  have h1 : ¬ 4 ≤ i.toNatClampNeg := fun q => hi (Or.inr q)
  unfold sel4
  refine oq_if (fun q => ha ?_) (fun q0 => oq_if (fun q => hb ?_) (fun q1 => oq_if (fun q => hc ?_) (fun q2 => hd ?_)))
  · rw [q]; rfl
  · rw [q]; rfl
  · rw [q]; rfl
  · have n0 := i_ne q0
    have n1 := i_ne q1
    have n2 := i_ne q2
    have e0 : (nI 0).toInt = 0 := rfl
    have e1 : (nI 1).toInt = 1 := rfl
    have e2 : (nI 2).toInt = 2 := rfl
    omega
theorem oq_s3 {α : Type} {i : Int32} {a b c : Option (α × Sg)} {Q : α → Sg → Prop} (hi : inr i 3) (ha : i.toInt = 0 → OQ a Q) (hb : i.toInt = 1 → OQ b Q) (hc : i.toInt = 2 → OQ c Q) : OQ (sel3 i a b c) Q := by
  have e : i.toNatClampNeg = i.toInt.toNat := rfl
  have h0 : 0 ≤ i.toInt := i_nlt (fun q => hi (Or.inl q))
  have h1 : ¬ 3 ≤ i.toNatClampNeg := fun q => hi (Or.inr q)
  unfold sel3
  refine oq_if (fun q => ha ?_) (fun q0 => oq_if (fun q => hb ?_) (fun q1 => hc ?_))
  · rw [q]; rfl
  · rw [q]; rfl
  · have n0 := i_ne q0
    have n1 := i_ne q1
    have e0 : (nI 0).toInt = 0 := rfl
    have e1 : (nI 1).toInt = 1 := rfl
    omega
theorem lg_ne {v : Int64} (h : ¬ lg_cmp v 0 = 0) : ¬ v = 0 := fun e => h (by rw [e]; rfl)
theorem lg_nl {v : Int64} (h : ¬ lg_cmp v 0 ≤ 0) : ¬ v = 0 := fun e => h (by rw [e]; decide)
theorem bm64 (x : Int) : Int.bmod x 18446744073709551616 = (x + 9223372036854775808) % 18446744073709551616 - 9223372036854775808 := by
  show (if x % ((18446744073709551616 : Nat) : Int) < (((18446744073709551616 : Nat) : Int) + 1) / 2 then x % ((18446744073709551616 : Nat) : Int) else x % ((18446744073709551616 : Nat) : Int) - ((18446744073709551616 : Nat) : Int)) = _
  split <;> omega
theorem lg_ngt {x y : Int64} (h : ¬ 0 < lg_cmp x y) : x.toInt ≤ y.toInt := by
  by_cases q : y < x
  · exact absurd (by unfold lg_cmp; rw [if_pos (show x > y from q)]; decide) h
  · have n : ¬ y.toInt < x.toInt := fun e => q (Int64.lt_iff_toInt_lt.mpr e)
    omega
theorem rt_of {a b m : Int32} (h : ¬ 0 < lg_cmp (a.toInt64 + b.toInt64) m.toInt64) : a.toInt + b.toInt ≤ m.toInt := by
  have q := lg_ngt h
  have e : (a.toInt64 + b.toInt64).toInt = Int.bmod (a.toInt64.toInt + b.toInt64.toInt) 18446744073709551616 := Int64.toInt_add _ _
  rw [bm64] at e
  have e1 : a.toInt64.toInt = a.toInt := Int32.toInt_toInt64 a
  have e2 : b.toInt64.toInt = b.toInt := Int32.toInt_toInt64 b
  have e3 : m.toInt64.toInt = m.toInt := Int32.toInt_toInt64 m
  have ra := i_rg a
  have rb := i_rg b
  omega
theorem i_and (a b : Int32) (h : 0 ≤ b.toInt) : 0 ≤ (a &&& b).toInt ∧ (a &&& b).toInt ≤ b.toInt := by
  have hb : b.toInt = b.toBitVec.toInt := rfl
  have hab : (a &&& b).toInt = (a.toBitVec &&& b.toBitVec).toInt := rfl
  have e1 := BitVec.toInt_eq_toNat_cond b.toBitVec
  have e2 := BitVec.toInt_eq_toNat_cond (a.toBitVec &&& b.toBitVec)
  have l1 := b.toBitVec.isLt
  have l2 : (a.toBitVec &&& b.toBitVec).toNat ≤ b.toBitVec.toNat := by
    rw [BitVec.toNat_and]; exact Nat.and_le_right
  split at e1 <;> split at e2 <;> omega
theorem i_sh (q : Int32) (h : 0 ≤ q.toInt ∧ q.toInt ≤ 8) : 1 ≤ ((1 : Int32) <<< (q &&& 31)).toInt ∧ ((1 : Int32) <<< (q &&& 31)).toInt ≤ 256 := by
  have hq : q.toInt = 0 ∨ q.toInt = 1 ∨ q.toInt = 2 ∨ q.toInt = 3 ∨ q.toInt = 4 ∨ q.toInt = 5 ∨ q.toInt = 6 ∨ q.toInt = 7 ∨ q.toInt = 8 := by omega
  rcases hq with e | e | e | e | e | e | e | e | e
  · have : q = 0 := Int32.toInt_inj.mp (show q.toInt = (0 : Int32).toInt from e); subst this; decide
  · have : q = 1 := Int32.toInt_inj.mp (show q.toInt = (1 : Int32).toInt from e); subst this; decide
  · have : q = 2 := Int32.toInt_inj.mp (show q.toInt = (2 : Int32).toInt from e); subst this; decide
  · have : q = 3 := Int32.toInt_inj.mp (show q.toInt = (3 : Int32).toInt from e); subst this; decide
  · have : q = 4 := Int32.toInt_inj.mp (show q.toInt = (4 : Int32).toInt from e); subst this; decide
  · have : q = 5 := Int32.toInt_inj.mp (show q.toInt = (5 : Int32).toInt from e); subst this; decide
  · have : q = 6 := Int32.toInt_inj.mp (show q.toInt = (6 : Int32).toInt from e); subst this; decide
  · have : q = 7 := Int32.toInt_inj.mp (show q.toInt = (7 : Int32).toInt from e); subst this; decide
  · have : q = 8 := Int32.toInt_inj.mp (show q.toInt = (8 : Int32).toInt from e); subst this; decide
def rW (w k : Nat) : Int × Int := if w = 1 then (match k with | 12 => (0, 24) | 13 => (0, 8) | 14 => (0, 8) | 15 => (0, 4) | 16 => (0, 4) | 19 => (0, 1) | _ => (-2147483648, 2147483647)) else if w = 2 then (match k with | 7 => (0, 1) | _ => (-2147483648, 2147483647)) else if w = 3 then (match k with | 6 => (0, 1) | 7 => (0, 60) | _ => (-2147483648, 2147483647)) else if w = 6 then (0, 7) else if w = 7 then (0, 7) else if w = 8 then (0, 7) else if w = 11 then (0, 7) else if w = 12 then (0, 7) else if w = 22 then (0, 7) else if w = 24 then (0, 7) else if w = 26 then (0, 59) else (-2147483648, 2147483647)
def rC (c k : Nat) : Int × Int := if 24 ≤ c then rW ((c - 24) % 27) k else if c = 0 then (match k with | 13 => (0, 900) | 14 => (0, 3) | _ => (-2147483648, 2147483647)) else if c = 10 then (match k with | 1 => (0, 1) | 3 => (0, 60) | _ => (-2147483648, 2147483647)) else if c = 11 then (match k with | 1 => (0, 1) | 3 => (0, 60) | _ => (-2147483648, 2147483647)) else if c = 12 then (match k with | 1 => (0, 1) | 3 => (0, 60) | _ => (-2147483648, 2147483647)) else if c = 13 then (match k with | 1 => (0, 1) | 3 => (0, 60) | _ => (-2147483648, 2147483647)) else if c = 4 then (match k with | 1 => (0, 1) | 8 => (0, 1) | _ => (-2147483648, 2147483647)) else if c = 5 then (match k with | 1 => (0, 1) | 8 => (0, 1) | _ => (-2147483648, 2147483647)) else if c = 7 then (match k with | 1 => (0, 900) | 2 => (0, 900) | _ => (-2147483648, 2147483647)) else if c = 8 then (match k with | 3 => (0, 1) | 4 => (0, 1) | _ => (-2147483648, 2147483647)) else if c = 9 then (match k with | 4 => (0, 3) | _ => (-2147483648, 2147483647)) else if c = 23 then (0, 59) else (-2147483648, 2147483647)
def cC (c k : Nat) : Nat := if c = 0 then 160 + k else if c = 7 then 180 + k else if c = 52 then 190 + k else if c = 54 then 212 + k else if c = 9 then 224 + k else c
abbrev JC (L : Nat) (s0 s : Sg) : Prop := Jg rC cC L s0 s
def BuyW (b : Nat) (s : Sg) : Prop := ∀ k : Nat, (k : Int) < (s.1 (b + 3) 7).toInt → (s.1 (b + 21) k).toInt = (119 : Int32).toInt → (s.1 (b + 22) k).toInt ≤ 3
theorem buy_j {L : Nat} {s0 s : Sg} (hB : BuyW 24 s0) (J : JC L s0 s) (h1 : L.testBit 27 = false) (h2 : L.testBit 45 = false) (h3 : L.testBit 46 = false) : BuyW 24 s := by
  intro k hk hw
  have e1 : s.1 27 7 = s0.1 27 7 := (J.2 27 7 h1).1
  have e2 : s.1 45 k = s0.1 45 k := (J.2 45 k h2).1
  have e3 : s.1 46 k = s0.1 46 k := (J.2 46 k h3).1
  show (s.1 46 k).toInt ≤ 3
  rw [e3]
  exact hB k (by show (k : Int) < (s0.1 27 7).toInt; rw [← e1]; exact hk) (by show (s0.1 45 k).toInt = _; rw [← e2]; exact hw)
