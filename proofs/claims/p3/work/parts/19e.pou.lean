/-! pour -/
theorem rt_gt {a b m : Int32} (h : 0 < lg_cmp (a.toInt64 + b.toInt64) m.toInt64) : ¬ a.toInt + b.toInt ≤ m.toInt := by
  have q := lgc_gt h
  have e : (a.toInt64 + b.toInt64).toInt = Int.bmod (a.toInt64.toInt + b.toInt64.toInt) 18446744073709551616 := Int64.toInt_add _ _
  rw [bm64] at e
  have e1 : a.toInt64.toInt = a.toInt := Int32.toInt_toInt64 a
  have e2 : b.toInt64.toInt = b.toInt := Int32.toInt_toInt64 b
  have e3 : m.toInt64.toInt = m.toInt := Int32.toInt_toInt64 m
  have ra := i_rg a
  have rb := i_rg b
  omega
def VC (a1 a2 a3 a4 a5 : Int32) (s : Sg) : Prop := (TrayA a1 ∧ TrayA a3 ∧ 0 ≤ a2.toInt ∧ 0 ≤ a4.toInt ∧ 0 ≤ a5.toInt) ∧ (¬ s.1 (10 + a1.toNatClampNeg) 1 = 0 ∧ ¬ s.1 (10 + a3.toNatClampNeg) 1 = 0 ∧ s.1 (10 + a1.toNatClampNeg) 2 = s.1 (10 + a3.toNatClampNeg) 2) ∧ a2.toInt + a5.toInt ≤ (s.1 (10 + a1.toNatClampNeg) 3).toInt ∧ a4.toInt + a5.toInt ≤ (s.1 (10 + a3.toNatClampNeg) 3).toInt
def VM (a1 a2 a3 a4 a5 : Int32) (s : Sg) : Prop := (TrayA a1 ∧ TrayA a3 ∧ 0 ≤ a2.toInt ∧ 0 ≤ a4.toInt ∧ 0 ≤ a5.toInt) ∧ (¬ s.1 4 a1.toNatClampNeg = -1 ∧ ¬ s.1 4 a3.toNatClampNeg = -1 ∧ s.1 3 a1.toNatClampNeg = s.1 3 a3.toNatClampNeg) ∧ a2.toInt + a5.toInt ≤ (s.1 4 a1.toNatClampNeg).toInt ∧ a4.toInt + a5.toInt ≤ (s.1 4 a3.toNatClampNeg).toInt
def PouC (a b : Nat) (A2 A4 A5 : Nat) (s s9 : Sg) : Prop := (∀ u, u < 4 → s9.1 (10 + u) = s.1 (10 + u)) ∧ (∀ u, u < 4 → ¬ u = b → s9.2 (14 + u) = s.2 (14 + u)) ∧ ∀ k, s9.2 (14 + b) k = if A4 ≤ k ∧ k < A4 + A5 then s.2 (14 + a) (A2 + (k - A4)) else s.2 (14 + b) k
def PouM (a b : Nat) (A2 A4 A5 : Nat) (s s9 : Sg) : Prop := s9.1 3 = s.1 3 ∧ s9.1 4 = s.1 4 ∧ ∀ p : Nat, s9.2 5 p = if 60 * b + A4 ≤ p ∧ p < 60 * b + A4 + A5 then s.2 5 (60 * a + A2 + (p - (60 * b + A4))) else s.2 5 p
theorem pq_rf {Q : Int32 → Sg → Prop} (a : Int32) (s : Sg) (h : ∀ s9, KeptC s s9 → Q 0 s9) : PQ (bd (f_X11_refused a s) (fun r s => ck (r = 0 ∨ r = 1) (some (r, s)))) Q := pq_b (rd_k a s) (fun r s9 g => pq_c (fun _ => pq_s (by rw [g.1]; exact h s9 g.2)))
theorem rt_0 (a b : Int32) (s : Sg) : PQ (f_X8_reachesTo_10 a b s) (fun r s9 => s9 = s ∧ ((r = 1 ∧ a.toInt + b.toInt ≤ (s.1 10 3).toInt) ∨ (r = 0 ∧ ¬ a.toInt + b.toInt ≤ (s.1 10 3).toInt))) := by
  unfold f_X8_reachesTo_10
  exact pq_if (fun c => pq_s ⟨rfl, Or.inr ⟨rfl, rt_gt c⟩⟩) (fun c => pq_s ⟨rfl, Or.inl ⟨rfl, rt_of c⟩⟩)
theorem rt_1 (a b : Int32) (s : Sg) : PQ (f_X8_reachesTo_11 a b s) (fun r s9 => s9 = s ∧ ((r = 1 ∧ a.toInt + b.toInt ≤ (s.1 11 3).toInt) ∨ (r = 0 ∧ ¬ a.toInt + b.toInt ≤ (s.1 11 3).toInt))) := by
  unfold f_X8_reachesTo_11
  exact pq_if (fun c => pq_s ⟨rfl, Or.inr ⟨rfl, rt_gt c⟩⟩) (fun c => pq_s ⟨rfl, Or.inl ⟨rfl, rt_of c⟩⟩)
theorem rt_2 (a b : Int32) (s : Sg) : PQ (f_X8_reachesTo_12 a b s) (fun r s9 => s9 = s ∧ ((r = 1 ∧ a.toInt + b.toInt ≤ (s.1 12 3).toInt) ∨ (r = 0 ∧ ¬ a.toInt + b.toInt ≤ (s.1 12 3).toInt))) := by
  unfold f_X8_reachesTo_12
  exact pq_if (fun c => pq_s ⟨rfl, Or.inr ⟨rfl, rt_gt c⟩⟩) (fun c => pq_s ⟨rfl, Or.inl ⟨rfl, rt_of c⟩⟩)
theorem rt_3 (a b : Int32) (s : Sg) : PQ (f_X8_reachesTo_13 a b s) (fun r s9 => s9 = s ∧ ((r = 1 ∧ a.toInt + b.toInt ≤ (s.1 13 3).toInt) ∨ (r = 0 ∧ ¬ a.toInt + b.toInt ≤ (s.1 13 3).toInt))) := by
  unfold f_X8_reachesTo_13
  exact pq_if (fun c => pq_s ⟨rfl, Or.inr ⟨rfl, rt_gt c⟩⟩) (fun c => pq_s ⟨rfl, Or.inl ⟨rfl, rt_of c⟩⟩)
theorem pou_00 (A2 A4 A5 : Nat) (s : Sg) : PouC 0 0 A2 A4 A5 s (pI (pB s 14 (va_cpy (s.2 14) (s.2 14) A2 A4 A5)) 0 15 0) := by
  refine ⟨u4 (p_ne1 rfl) (p_ne1 rfl) (p_ne1 rfl) (p_ne1 rfl), u4 (fun n => absurd rfl n) (fun _ => show (pB s 14 (va_cpy (s.2 14) (s.2 14) A2 A4 A5)).2 15 = s.2 15 from b_ne2 rfl) (fun _ => show (pB s 14 (va_cpy (s.2 14) (s.2 14) A2 A4 A5)).2 16 = s.2 16 from b_ne2 rfl) (fun _ => show (pB s 14 (va_cpy (s.2 14) (s.2 14) A2 A4 A5)).2 17 = s.2 17 from b_ne2 rfl), fun k => ?_⟩
  show (pB s 14 (va_cpy (s.2 14) (s.2 14) A2 A4 A5)).2 14 k = _
  rw [b_eq2]
  rfl
theorem pou_01 (A2 A4 A5 : Nat) (s : Sg) : PouC 0 1 A2 A4 A5 s (pI (pB s 15 (va_cpy (s.2 14) (s.2 15) A2 A4 A5)) 0 15 0) := by
  refine ⟨u4 (p_ne1 rfl) (p_ne1 rfl) (p_ne1 rfl) (p_ne1 rfl), u4 (fun _ => show (pB s 15 (va_cpy (s.2 14) (s.2 15) A2 A4 A5)).2 14 = s.2 14 from b_ne2 rfl) (fun n => absurd rfl n) (fun _ => show (pB s 15 (va_cpy (s.2 14) (s.2 15) A2 A4 A5)).2 16 = s.2 16 from b_ne2 rfl) (fun _ => show (pB s 15 (va_cpy (s.2 14) (s.2 15) A2 A4 A5)).2 17 = s.2 17 from b_ne2 rfl), fun k => ?_⟩
  show (pB s 15 (va_cpy (s.2 14) (s.2 15) A2 A4 A5)).2 15 k = _
  rw [b_eq2]
  rfl
theorem pou_02 (A2 A4 A5 : Nat) (s : Sg) : PouC 0 2 A2 A4 A5 s (pI (pB s 16 (va_cpy (s.2 14) (s.2 16) A2 A4 A5)) 0 15 0) := by
  refine ⟨u4 (p_ne1 rfl) (p_ne1 rfl) (p_ne1 rfl) (p_ne1 rfl), u4 (fun _ => show (pB s 16 (va_cpy (s.2 14) (s.2 16) A2 A4 A5)).2 14 = s.2 14 from b_ne2 rfl) (fun _ => show (pB s 16 (va_cpy (s.2 14) (s.2 16) A2 A4 A5)).2 15 = s.2 15 from b_ne2 rfl) (fun n => absurd rfl n) (fun _ => show (pB s 16 (va_cpy (s.2 14) (s.2 16) A2 A4 A5)).2 17 = s.2 17 from b_ne2 rfl), fun k => ?_⟩
  show (pB s 16 (va_cpy (s.2 14) (s.2 16) A2 A4 A5)).2 16 k = _
  rw [b_eq2]
  rfl
theorem pou_03 (A2 A4 A5 : Nat) (s : Sg) : PouC 0 3 A2 A4 A5 s (pI (pB s 17 (va_cpy (s.2 14) (s.2 17) A2 A4 A5)) 0 15 0) := by
  refine ⟨u4 (p_ne1 rfl) (p_ne1 rfl) (p_ne1 rfl) (p_ne1 rfl), u4 (fun _ => show (pB s 17 (va_cpy (s.2 14) (s.2 17) A2 A4 A5)).2 14 = s.2 14 from b_ne2 rfl) (fun _ => show (pB s 17 (va_cpy (s.2 14) (s.2 17) A2 A4 A5)).2 15 = s.2 15 from b_ne2 rfl) (fun _ => show (pB s 17 (va_cpy (s.2 14) (s.2 17) A2 A4 A5)).2 16 = s.2 16 from b_ne2 rfl) (fun n => absurd rfl n), fun k => ?_⟩
  show (pB s 17 (va_cpy (s.2 14) (s.2 17) A2 A4 A5)).2 17 k = _
  rw [b_eq2]
  rfl
theorem pou_10 (A2 A4 A5 : Nat) (s : Sg) : PouC 1 0 A2 A4 A5 s (pI (pB s 14 (va_cpy (s.2 15) (s.2 14) A2 A4 A5)) 0 15 0) := by
  refine ⟨u4 (p_ne1 rfl) (p_ne1 rfl) (p_ne1 rfl) (p_ne1 rfl), u4 (fun n => absurd rfl n) (fun _ => show (pB s 14 (va_cpy (s.2 15) (s.2 14) A2 A4 A5)).2 15 = s.2 15 from b_ne2 rfl) (fun _ => show (pB s 14 (va_cpy (s.2 15) (s.2 14) A2 A4 A5)).2 16 = s.2 16 from b_ne2 rfl) (fun _ => show (pB s 14 (va_cpy (s.2 15) (s.2 14) A2 A4 A5)).2 17 = s.2 17 from b_ne2 rfl), fun k => ?_⟩
  show (pB s 14 (va_cpy (s.2 15) (s.2 14) A2 A4 A5)).2 14 k = _
  rw [b_eq2]
  rfl
theorem pou_11 (A2 A4 A5 : Nat) (s : Sg) : PouC 1 1 A2 A4 A5 s (pI (pB s 15 (va_cpy (s.2 15) (s.2 15) A2 A4 A5)) 0 15 0) := by
  refine ⟨u4 (p_ne1 rfl) (p_ne1 rfl) (p_ne1 rfl) (p_ne1 rfl), u4 (fun _ => show (pB s 15 (va_cpy (s.2 15) (s.2 15) A2 A4 A5)).2 14 = s.2 14 from b_ne2 rfl) (fun n => absurd rfl n) (fun _ => show (pB s 15 (va_cpy (s.2 15) (s.2 15) A2 A4 A5)).2 16 = s.2 16 from b_ne2 rfl) (fun _ => show (pB s 15 (va_cpy (s.2 15) (s.2 15) A2 A4 A5)).2 17 = s.2 17 from b_ne2 rfl), fun k => ?_⟩
  show (pB s 15 (va_cpy (s.2 15) (s.2 15) A2 A4 A5)).2 15 k = _
  rw [b_eq2]
  rfl
theorem pou_12 (A2 A4 A5 : Nat) (s : Sg) : PouC 1 2 A2 A4 A5 s (pI (pB s 16 (va_cpy (s.2 15) (s.2 16) A2 A4 A5)) 0 15 0) := by
  refine ⟨u4 (p_ne1 rfl) (p_ne1 rfl) (p_ne1 rfl) (p_ne1 rfl), u4 (fun _ => show (pB s 16 (va_cpy (s.2 15) (s.2 16) A2 A4 A5)).2 14 = s.2 14 from b_ne2 rfl) (fun _ => show (pB s 16 (va_cpy (s.2 15) (s.2 16) A2 A4 A5)).2 15 = s.2 15 from b_ne2 rfl) (fun n => absurd rfl n) (fun _ => show (pB s 16 (va_cpy (s.2 15) (s.2 16) A2 A4 A5)).2 17 = s.2 17 from b_ne2 rfl), fun k => ?_⟩
  show (pB s 16 (va_cpy (s.2 15) (s.2 16) A2 A4 A5)).2 16 k = _
  rw [b_eq2]
  rfl
theorem pou_13 (A2 A4 A5 : Nat) (s : Sg) : PouC 1 3 A2 A4 A5 s (pI (pB s 17 (va_cpy (s.2 15) (s.2 17) A2 A4 A5)) 0 15 0) := by
  refine ⟨u4 (p_ne1 rfl) (p_ne1 rfl) (p_ne1 rfl) (p_ne1 rfl), u4 (fun _ => show (pB s 17 (va_cpy (s.2 15) (s.2 17) A2 A4 A5)).2 14 = s.2 14 from b_ne2 rfl) (fun _ => show (pB s 17 (va_cpy (s.2 15) (s.2 17) A2 A4 A5)).2 15 = s.2 15 from b_ne2 rfl) (fun _ => show (pB s 17 (va_cpy (s.2 15) (s.2 17) A2 A4 A5)).2 16 = s.2 16 from b_ne2 rfl) (fun n => absurd rfl n), fun k => ?_⟩
  show (pB s 17 (va_cpy (s.2 15) (s.2 17) A2 A4 A5)).2 17 k = _
  rw [b_eq2]
  rfl
theorem pou_20 (A2 A4 A5 : Nat) (s : Sg) : PouC 2 0 A2 A4 A5 s (pI (pB s 14 (va_cpy (s.2 16) (s.2 14) A2 A4 A5)) 0 15 0) := by
  refine ⟨u4 (p_ne1 rfl) (p_ne1 rfl) (p_ne1 rfl) (p_ne1 rfl), u4 (fun n => absurd rfl n) (fun _ => show (pB s 14 (va_cpy (s.2 16) (s.2 14) A2 A4 A5)).2 15 = s.2 15 from b_ne2 rfl) (fun _ => show (pB s 14 (va_cpy (s.2 16) (s.2 14) A2 A4 A5)).2 16 = s.2 16 from b_ne2 rfl) (fun _ => show (pB s 14 (va_cpy (s.2 16) (s.2 14) A2 A4 A5)).2 17 = s.2 17 from b_ne2 rfl), fun k => ?_⟩
  show (pB s 14 (va_cpy (s.2 16) (s.2 14) A2 A4 A5)).2 14 k = _
  rw [b_eq2]
  rfl
theorem pou_21 (A2 A4 A5 : Nat) (s : Sg) : PouC 2 1 A2 A4 A5 s (pI (pB s 15 (va_cpy (s.2 16) (s.2 15) A2 A4 A5)) 0 15 0) := by
  refine ⟨u4 (p_ne1 rfl) (p_ne1 rfl) (p_ne1 rfl) (p_ne1 rfl), u4 (fun _ => show (pB s 15 (va_cpy (s.2 16) (s.2 15) A2 A4 A5)).2 14 = s.2 14 from b_ne2 rfl) (fun n => absurd rfl n) (fun _ => show (pB s 15 (va_cpy (s.2 16) (s.2 15) A2 A4 A5)).2 16 = s.2 16 from b_ne2 rfl) (fun _ => show (pB s 15 (va_cpy (s.2 16) (s.2 15) A2 A4 A5)).2 17 = s.2 17 from b_ne2 rfl), fun k => ?_⟩
  show (pB s 15 (va_cpy (s.2 16) (s.2 15) A2 A4 A5)).2 15 k = _
  rw [b_eq2]
  rfl
theorem pou_22 (A2 A4 A5 : Nat) (s : Sg) : PouC 2 2 A2 A4 A5 s (pI (pB s 16 (va_cpy (s.2 16) (s.2 16) A2 A4 A5)) 0 15 0) := by
  refine ⟨u4 (p_ne1 rfl) (p_ne1 rfl) (p_ne1 rfl) (p_ne1 rfl), u4 (fun _ => show (pB s 16 (va_cpy (s.2 16) (s.2 16) A2 A4 A5)).2 14 = s.2 14 from b_ne2 rfl) (fun _ => show (pB s 16 (va_cpy (s.2 16) (s.2 16) A2 A4 A5)).2 15 = s.2 15 from b_ne2 rfl) (fun n => absurd rfl n) (fun _ => show (pB s 16 (va_cpy (s.2 16) (s.2 16) A2 A4 A5)).2 17 = s.2 17 from b_ne2 rfl), fun k => ?_⟩
  show (pB s 16 (va_cpy (s.2 16) (s.2 16) A2 A4 A5)).2 16 k = _
  rw [b_eq2]
  rfl
theorem pou_23 (A2 A4 A5 : Nat) (s : Sg) : PouC 2 3 A2 A4 A5 s (pI (pB s 17 (va_cpy (s.2 16) (s.2 17) A2 A4 A5)) 0 15 0) := by
  refine ⟨u4 (p_ne1 rfl) (p_ne1 rfl) (p_ne1 rfl) (p_ne1 rfl), u4 (fun _ => show (pB s 17 (va_cpy (s.2 16) (s.2 17) A2 A4 A5)).2 14 = s.2 14 from b_ne2 rfl) (fun _ => show (pB s 17 (va_cpy (s.2 16) (s.2 17) A2 A4 A5)).2 15 = s.2 15 from b_ne2 rfl) (fun _ => show (pB s 17 (va_cpy (s.2 16) (s.2 17) A2 A4 A5)).2 16 = s.2 16 from b_ne2 rfl) (fun n => absurd rfl n), fun k => ?_⟩
  show (pB s 17 (va_cpy (s.2 16) (s.2 17) A2 A4 A5)).2 17 k = _
  rw [b_eq2]
  rfl
theorem pou_30 (A2 A4 A5 : Nat) (s : Sg) : PouC 3 0 A2 A4 A5 s (pI (pB s 14 (va_cpy (s.2 17) (s.2 14) A2 A4 A5)) 0 15 0) := by
  refine ⟨u4 (p_ne1 rfl) (p_ne1 rfl) (p_ne1 rfl) (p_ne1 rfl), u4 (fun n => absurd rfl n) (fun _ => show (pB s 14 (va_cpy (s.2 17) (s.2 14) A2 A4 A5)).2 15 = s.2 15 from b_ne2 rfl) (fun _ => show (pB s 14 (va_cpy (s.2 17) (s.2 14) A2 A4 A5)).2 16 = s.2 16 from b_ne2 rfl) (fun _ => show (pB s 14 (va_cpy (s.2 17) (s.2 14) A2 A4 A5)).2 17 = s.2 17 from b_ne2 rfl), fun k => ?_⟩
  show (pB s 14 (va_cpy (s.2 17) (s.2 14) A2 A4 A5)).2 14 k = _
  rw [b_eq2]
  rfl
theorem pou_31 (A2 A4 A5 : Nat) (s : Sg) : PouC 3 1 A2 A4 A5 s (pI (pB s 15 (va_cpy (s.2 17) (s.2 15) A2 A4 A5)) 0 15 0) := by
  refine ⟨u4 (p_ne1 rfl) (p_ne1 rfl) (p_ne1 rfl) (p_ne1 rfl), u4 (fun _ => show (pB s 15 (va_cpy (s.2 17) (s.2 15) A2 A4 A5)).2 14 = s.2 14 from b_ne2 rfl) (fun n => absurd rfl n) (fun _ => show (pB s 15 (va_cpy (s.2 17) (s.2 15) A2 A4 A5)).2 16 = s.2 16 from b_ne2 rfl) (fun _ => show (pB s 15 (va_cpy (s.2 17) (s.2 15) A2 A4 A5)).2 17 = s.2 17 from b_ne2 rfl), fun k => ?_⟩
  show (pB s 15 (va_cpy (s.2 17) (s.2 15) A2 A4 A5)).2 15 k = _
  rw [b_eq2]
  rfl
theorem pou_32 (A2 A4 A5 : Nat) (s : Sg) : PouC 3 2 A2 A4 A5 s (pI (pB s 16 (va_cpy (s.2 17) (s.2 16) A2 A4 A5)) 0 15 0) := by
  refine ⟨u4 (p_ne1 rfl) (p_ne1 rfl) (p_ne1 rfl) (p_ne1 rfl), u4 (fun _ => show (pB s 16 (va_cpy (s.2 17) (s.2 16) A2 A4 A5)).2 14 = s.2 14 from b_ne2 rfl) (fun _ => show (pB s 16 (va_cpy (s.2 17) (s.2 16) A2 A4 A5)).2 15 = s.2 15 from b_ne2 rfl) (fun n => absurd rfl n) (fun _ => show (pB s 16 (va_cpy (s.2 17) (s.2 16) A2 A4 A5)).2 17 = s.2 17 from b_ne2 rfl), fun k => ?_⟩
  show (pB s 16 (va_cpy (s.2 17) (s.2 16) A2 A4 A5)).2 16 k = _
  rw [b_eq2]
  rfl
theorem pou_33 (A2 A4 A5 : Nat) (s : Sg) : PouC 3 3 A2 A4 A5 s (pI (pB s 17 (va_cpy (s.2 17) (s.2 17) A2 A4 A5)) 0 15 0) := by
  refine ⟨u4 (p_ne1 rfl) (p_ne1 rfl) (p_ne1 rfl) (p_ne1 rfl), u4 (fun _ => show (pB s 17 (va_cpy (s.2 17) (s.2 17) A2 A4 A5)).2 14 = s.2 14 from b_ne2 rfl) (fun _ => show (pB s 17 (va_cpy (s.2 17) (s.2 17) A2 A4 A5)).2 15 = s.2 15 from b_ne2 rfl) (fun _ => show (pB s 17 (va_cpy (s.2 17) (s.2 17) A2 A4 A5)).2 16 = s.2 16 from b_ne2 rfl) (fun n => absurd rfl n), fun k => ?_⟩
  show (pB s 17 (va_cpy (s.2 17) (s.2 17) A2 A4 A5)).2 17 k = _
  rw [b_eq2]
  rfl
set_option maxHeartbeats 1000000 in
theorem pour_c (a1 a2 a3 a4 a5 : Int32) (s : Sg) : PQ (f_X11_pour a1 a2 a3 a4 a5 s) (fun r s9 => (VC a1 a2 a3 a4 a5 s ∧ r = 1 ∧ PouC a1.toNatClampNeg a3.toNatClampNeg a2.toNatClampNeg a4.toNatClampNeg a5.toNatClampNeg s s9) ∨ (¬ VC a1 a2 a3 a4 a5 s ∧ r = 0 ∧ KeptC s s9)) := by
  have e0 : (0 : Int32).toInt = 0 := rfl
  have n10 : ∀ r : Int32, r = 1 → ¬ r = 0 := fun r e w => absurd (e.symm.trans w) (by decide)
  have gr : ∀ s15 : Sg, PQ (f_X11_granted s15) (fun r s9 => r = 1 ∧ s9 = pI s15 0 15 0) := fun s15 => by unfold f_X11_granted; exact pq_s ⟨rfl, rfl⟩
  unfold f_X11_pour
  refine pq_b (it_p a1 s) (fun r1 s2 g1 => ?_)
  obtain ⟨e2, g1⟩ := g1
  subst e2
  refine pq_if (fun c => pq_rf _ _ (fun s9 k => Or.inr ⟨fun w => ?_, rfl, k⟩)) (fun c => pq_b (it_p a3 s2) (fun r5 s6 g5 => ?_))
  · rcases g1 with q | q
    · exact n10 _ q.1 c
    · exact q.2 w.1.1
  obtain ⟨e6, g5⟩ := g5
  subst e6
  refine pq_if (fun c5 => pq_rf _ _ (fun s9 k => Or.inr ⟨fun w => ?_, rfl, k⟩)) (fun c5 => pq_if (fun ca => pq_rf _ _ (fun s9 k => Or.inr ⟨fun w => ?_, rfl, k⟩)) (fun ca => pq_if (fun cb => pq_rf _ _ (fun s9 k => Or.inr ⟨fun w => ?_, rfl, k⟩)) (fun cb => pq_if (fun cc => ?_) (fun cc => pq_rf _ _ (fun s9 k => Or.inr ⟨fun w => ?_, rfl, k⟩)))))
  · rcases g5 with q | q
    · exact n10 _ q.1 c5
    · exact q.2 w.1.2.1
  · have := i_lt ca
    have := w.1.2.2.1
    omega
  · have := i_lt cb
    have := w.1.2.2.2.1
    omega
  · have k1 : TrayA a1 := by
      rcases g1 with q | q
      · exact q.2
      · exact absurd q.1 c
    have k3 : TrayA a3 := by
      rcases g5 with q | q
      · exact q.2
      · exact absurd q.1 c5
    have kk : TrayA a1 ∧ TrayA a3 ∧ 0 ≤ a2.toInt ∧ 0 ≤ a4.toInt ∧ 0 ≤ a5.toInt := ⟨k1, k3, i_nlt ca, i_nlt cb, i_le cc⟩
    unfold VC
    refine pq_c (fun _ => s4_i k1 (fun e1 => ?_) (fun e1 => ?_) (fun e1 => ?_) (fun e1 => ?_)) <;> refine pq_c (fun _ => s4_i k3 (fun e3 => ?_) (fun e3 => ?_) (fun e3 => ?_) (fun e3 => ?_)) <;> rw [e1, e3]
    · refine pq_if (fun c1 => pq_rf _ _ (fun s9 k => Or.inr ⟨fun w => w.2.1.1 c1, rfl, k⟩)) (fun c1 => pq_if (fun c2 => pq_rf _ _ (fun s9 k => Or.inr ⟨fun w => w.2.1.2.1 c2, rfl, k⟩)) (fun c2 => pq_if (fun c3 => pq_b (rt_0 a2 a5 s6) (fun r19 s20 g19 => ?_)) (fun c3 => pq_rf _ _ (fun s9 k => Or.inr ⟨fun w => c3 w.2.1.2.2, rfl, k⟩))))
      obtain ⟨e20, g19⟩ := g19
      subst e20
      refine pq_if (fun c4 => pq_rf _ _ (fun s9 k => Or.inr ⟨fun w => ?_, rfl, k⟩)) (fun c4 => pq_b (rt_0 a4 a5 s20) (fun r23 s24 g23 => ?_))
      · rcases g19 with q | q
        · exact n10 _ q.1 c4
        · exact q.2 w.2.2.1
      obtain ⟨e24, g23⟩ := g23
      subst e24
      refine pq_if (fun c6 => pq_rf _ _ (fun s9 k => Or.inr ⟨fun w => ?_, rfl, k⟩)) (fun c6 => pq_c (fun _ => pq_b (gr _) (fun r27 s28 g27 => pq_c (fun _ => pq_s (Or.inl ⟨⟨kk, ⟨c1, c2, c3⟩, ?_, ?_⟩, g27.1, ?_⟩)))))
      · rcases g23 with q | q
        · exact n10 _ q.1 c6
        · exact q.2 w.2.2.2
      · rcases g19 with q | q
        · exact q.2
        · exact absurd q.1 c4
      · rcases g23 with q | q
        · exact q.2
        · exact absurd q.1 c6
      · rw [g27.2]
        exact pou_00 _ _ _ s24
    · refine pq_if (fun c1 => pq_rf _ _ (fun s9 k => Or.inr ⟨fun w => w.2.1.1 c1, rfl, k⟩)) (fun c1 => pq_if (fun c2 => pq_rf _ _ (fun s9 k => Or.inr ⟨fun w => w.2.1.2.1 c2, rfl, k⟩)) (fun c2 => pq_if (fun c3 => pq_b (rt_0 a2 a5 s6) (fun r19 s20 g19 => ?_)) (fun c3 => pq_rf _ _ (fun s9 k => Or.inr ⟨fun w => c3 w.2.1.2.2, rfl, k⟩))))
      obtain ⟨e20, g19⟩ := g19
      subst e20
      refine pq_if (fun c4 => pq_rf _ _ (fun s9 k => Or.inr ⟨fun w => ?_, rfl, k⟩)) (fun c4 => pq_b (rt_1 a4 a5 s20) (fun r23 s24 g23 => ?_))
      · rcases g19 with q | q
        · exact n10 _ q.1 c4
        · exact q.2 w.2.2.1
      obtain ⟨e24, g23⟩ := g23
      subst e24
      refine pq_if (fun c6 => pq_rf _ _ (fun s9 k => Or.inr ⟨fun w => ?_, rfl, k⟩)) (fun c6 => pq_c (fun _ => pq_b (gr _) (fun r27 s28 g27 => pq_c (fun _ => pq_s (Or.inl ⟨⟨kk, ⟨c1, c2, c3⟩, ?_, ?_⟩, g27.1, ?_⟩)))))
      · rcases g23 with q | q
        · exact n10 _ q.1 c6
        · exact q.2 w.2.2.2
      · rcases g19 with q | q
        · exact q.2
        · exact absurd q.1 c4
      · rcases g23 with q | q
        · exact q.2
        · exact absurd q.1 c6
      · rw [g27.2]
        exact pou_01 _ _ _ s24
    · refine pq_if (fun c1 => pq_rf _ _ (fun s9 k => Or.inr ⟨fun w => w.2.1.1 c1, rfl, k⟩)) (fun c1 => pq_if (fun c2 => pq_rf _ _ (fun s9 k => Or.inr ⟨fun w => w.2.1.2.1 c2, rfl, k⟩)) (fun c2 => pq_if (fun c3 => pq_b (rt_0 a2 a5 s6) (fun r19 s20 g19 => ?_)) (fun c3 => pq_rf _ _ (fun s9 k => Or.inr ⟨fun w => c3 w.2.1.2.2, rfl, k⟩))))
      obtain ⟨e20, g19⟩ := g19
      subst e20
      refine pq_if (fun c4 => pq_rf _ _ (fun s9 k => Or.inr ⟨fun w => ?_, rfl, k⟩)) (fun c4 => pq_b (rt_2 a4 a5 s20) (fun r23 s24 g23 => ?_))
      · rcases g19 with q | q
        · exact n10 _ q.1 c4
        · exact q.2 w.2.2.1
      obtain ⟨e24, g23⟩ := g23
      subst e24
      refine pq_if (fun c6 => pq_rf _ _ (fun s9 k => Or.inr ⟨fun w => ?_, rfl, k⟩)) (fun c6 => pq_c (fun _ => pq_b (gr _) (fun r27 s28 g27 => pq_c (fun _ => pq_s (Or.inl ⟨⟨kk, ⟨c1, c2, c3⟩, ?_, ?_⟩, g27.1, ?_⟩)))))
      · rcases g23 with q | q
        · exact n10 _ q.1 c6
        · exact q.2 w.2.2.2
      · rcases g19 with q | q
        · exact q.2
        · exact absurd q.1 c4
      · rcases g23 with q | q
        · exact q.2
        · exact absurd q.1 c6
      · rw [g27.2]
        exact pou_02 _ _ _ s24
    · refine pq_if (fun c1 => pq_rf _ _ (fun s9 k => Or.inr ⟨fun w => w.2.1.1 c1, rfl, k⟩)) (fun c1 => pq_if (fun c2 => pq_rf _ _ (fun s9 k => Or.inr ⟨fun w => w.2.1.2.1 c2, rfl, k⟩)) (fun c2 => pq_if (fun c3 => pq_b (rt_0 a2 a5 s6) (fun r19 s20 g19 => ?_)) (fun c3 => pq_rf _ _ (fun s9 k => Or.inr ⟨fun w => c3 w.2.1.2.2, rfl, k⟩))))
      obtain ⟨e20, g19⟩ := g19
      subst e20
      refine pq_if (fun c4 => pq_rf _ _ (fun s9 k => Or.inr ⟨fun w => ?_, rfl, k⟩)) (fun c4 => pq_b (rt_3 a4 a5 s20) (fun r23 s24 g23 => ?_))
      · rcases g19 with q | q
        · exact n10 _ q.1 c4
        · exact q.2 w.2.2.1
      obtain ⟨e24, g23⟩ := g23
      subst e24
      refine pq_if (fun c6 => pq_rf _ _ (fun s9 k => Or.inr ⟨fun w => ?_, rfl, k⟩)) (fun c6 => pq_c (fun _ => pq_b (gr _) (fun r27 s28 g27 => pq_c (fun _ => pq_s (Or.inl ⟨⟨kk, ⟨c1, c2, c3⟩, ?_, ?_⟩, g27.1, ?_⟩)))))
      · rcases g23 with q | q
        · exact n10 _ q.1 c6
        · exact q.2 w.2.2.2
      · rcases g19 with q | q
        · exact q.2
        · exact absurd q.1 c4
      · rcases g23 with q | q
        · exact q.2
        · exact absurd q.1 c6
      · rw [g27.2]
        exact pou_03 _ _ _ s24
    · refine pq_if (fun c1 => pq_rf _ _ (fun s9 k => Or.inr ⟨fun w => w.2.1.1 c1, rfl, k⟩)) (fun c1 => pq_if (fun c2 => pq_rf _ _ (fun s9 k => Or.inr ⟨fun w => w.2.1.2.1 c2, rfl, k⟩)) (fun c2 => pq_if (fun c3 => pq_b (rt_1 a2 a5 s6) (fun r19 s20 g19 => ?_)) (fun c3 => pq_rf _ _ (fun s9 k => Or.inr ⟨fun w => c3 w.2.1.2.2, rfl, k⟩))))
      obtain ⟨e20, g19⟩ := g19
      subst e20
      refine pq_if (fun c4 => pq_rf _ _ (fun s9 k => Or.inr ⟨fun w => ?_, rfl, k⟩)) (fun c4 => pq_b (rt_0 a4 a5 s20) (fun r23 s24 g23 => ?_))
      · rcases g19 with q | q
        · exact n10 _ q.1 c4
        · exact q.2 w.2.2.1
      obtain ⟨e24, g23⟩ := g23
      subst e24
      refine pq_if (fun c6 => pq_rf _ _ (fun s9 k => Or.inr ⟨fun w => ?_, rfl, k⟩)) (fun c6 => pq_c (fun _ => pq_b (gr _) (fun r27 s28 g27 => pq_c (fun _ => pq_s (Or.inl ⟨⟨kk, ⟨c1, c2, c3⟩, ?_, ?_⟩, g27.1, ?_⟩)))))
      · rcases g23 with q | q
        · exact n10 _ q.1 c6
        · exact q.2 w.2.2.2
      · rcases g19 with q | q
        · exact q.2
        · exact absurd q.1 c4
      · rcases g23 with q | q
        · exact q.2
        · exact absurd q.1 c6
      · rw [g27.2]
        exact pou_10 _ _ _ s24
    · refine pq_if (fun c1 => pq_rf _ _ (fun s9 k => Or.inr ⟨fun w => w.2.1.1 c1, rfl, k⟩)) (fun c1 => pq_if (fun c2 => pq_rf _ _ (fun s9 k => Or.inr ⟨fun w => w.2.1.2.1 c2, rfl, k⟩)) (fun c2 => pq_if (fun c3 => pq_b (rt_1 a2 a5 s6) (fun r19 s20 g19 => ?_)) (fun c3 => pq_rf _ _ (fun s9 k => Or.inr ⟨fun w => c3 w.2.1.2.2, rfl, k⟩))))
      obtain ⟨e20, g19⟩ := g19
      subst e20
      refine pq_if (fun c4 => pq_rf _ _ (fun s9 k => Or.inr ⟨fun w => ?_, rfl, k⟩)) (fun c4 => pq_b (rt_1 a4 a5 s20) (fun r23 s24 g23 => ?_))
      · rcases g19 with q | q
        · exact n10 _ q.1 c4
        · exact q.2 w.2.2.1
      obtain ⟨e24, g23⟩ := g23
      subst e24
      refine pq_if (fun c6 => pq_rf _ _ (fun s9 k => Or.inr ⟨fun w => ?_, rfl, k⟩)) (fun c6 => pq_c (fun _ => pq_b (gr _) (fun r27 s28 g27 => pq_c (fun _ => pq_s (Or.inl ⟨⟨kk, ⟨c1, c2, c3⟩, ?_, ?_⟩, g27.1, ?_⟩)))))
      · rcases g23 with q | q
        · exact n10 _ q.1 c6
        · exact q.2 w.2.2.2
      · rcases g19 with q | q
        · exact q.2
        · exact absurd q.1 c4
      · rcases g23 with q | q
        · exact q.2
        · exact absurd q.1 c6
      · rw [g27.2]
        exact pou_11 _ _ _ s24
    · refine pq_if (fun c1 => pq_rf _ _ (fun s9 k => Or.inr ⟨fun w => w.2.1.1 c1, rfl, k⟩)) (fun c1 => pq_if (fun c2 => pq_rf _ _ (fun s9 k => Or.inr ⟨fun w => w.2.1.2.1 c2, rfl, k⟩)) (fun c2 => pq_if (fun c3 => pq_b (rt_1 a2 a5 s6) (fun r19 s20 g19 => ?_)) (fun c3 => pq_rf _ _ (fun s9 k => Or.inr ⟨fun w => c3 w.2.1.2.2, rfl, k⟩))))
      obtain ⟨e20, g19⟩ := g19
      subst e20
      refine pq_if (fun c4 => pq_rf _ _ (fun s9 k => Or.inr ⟨fun w => ?_, rfl, k⟩)) (fun c4 => pq_b (rt_2 a4 a5 s20) (fun r23 s24 g23 => ?_))
      · rcases g19 with q | q
        · exact n10 _ q.1 c4
        · exact q.2 w.2.2.1
      obtain ⟨e24, g23⟩ := g23
      subst e24
      refine pq_if (fun c6 => pq_rf _ _ (fun s9 k => Or.inr ⟨fun w => ?_, rfl, k⟩)) (fun c6 => pq_c (fun _ => pq_b (gr _) (fun r27 s28 g27 => pq_c (fun _ => pq_s (Or.inl ⟨⟨kk, ⟨c1, c2, c3⟩, ?_, ?_⟩, g27.1, ?_⟩)))))
      · rcases g23 with q | q
        · exact n10 _ q.1 c6
        · exact q.2 w.2.2.2
      · rcases g19 with q | q
        · exact q.2
        · exact absurd q.1 c4
      · rcases g23 with q | q
        · exact q.2
        · exact absurd q.1 c6
      · rw [g27.2]
        exact pou_12 _ _ _ s24
    · refine pq_if (fun c1 => pq_rf _ _ (fun s9 k => Or.inr ⟨fun w => w.2.1.1 c1, rfl, k⟩)) (fun c1 => pq_if (fun c2 => pq_rf _ _ (fun s9 k => Or.inr ⟨fun w => w.2.1.2.1 c2, rfl, k⟩)) (fun c2 => pq_if (fun c3 => pq_b (rt_1 a2 a5 s6) (fun r19 s20 g19 => ?_)) (fun c3 => pq_rf _ _ (fun s9 k => Or.inr ⟨fun w => c3 w.2.1.2.2, rfl, k⟩))))
      obtain ⟨e20, g19⟩ := g19
      subst e20
      refine pq_if (fun c4 => pq_rf _ _ (fun s9 k => Or.inr ⟨fun w => ?_, rfl, k⟩)) (fun c4 => pq_b (rt_3 a4 a5 s20) (fun r23 s24 g23 => ?_))
      · rcases g19 with q | q
        · exact n10 _ q.1 c4
        · exact q.2 w.2.2.1
      obtain ⟨e24, g23⟩ := g23
      subst e24
      refine pq_if (fun c6 => pq_rf _ _ (fun s9 k => Or.inr ⟨fun w => ?_, rfl, k⟩)) (fun c6 => pq_c (fun _ => pq_b (gr _) (fun r27 s28 g27 => pq_c (fun _ => pq_s (Or.inl ⟨⟨kk, ⟨c1, c2, c3⟩, ?_, ?_⟩, g27.1, ?_⟩)))))
      · rcases g23 with q | q
        · exact n10 _ q.1 c6
        · exact q.2 w.2.2.2
      · rcases g19 with q | q
        · exact q.2
        · exact absurd q.1 c4
      · rcases g23 with q | q
        · exact q.2
        · exact absurd q.1 c6
      · rw [g27.2]
        exact pou_13 _ _ _ s24
    · refine pq_if (fun c1 => pq_rf _ _ (fun s9 k => Or.inr ⟨fun w => w.2.1.1 c1, rfl, k⟩)) (fun c1 => pq_if (fun c2 => pq_rf _ _ (fun s9 k => Or.inr ⟨fun w => w.2.1.2.1 c2, rfl, k⟩)) (fun c2 => pq_if (fun c3 => pq_b (rt_2 a2 a5 s6) (fun r19 s20 g19 => ?_)) (fun c3 => pq_rf _ _ (fun s9 k => Or.inr ⟨fun w => c3 w.2.1.2.2, rfl, k⟩))))
      obtain ⟨e20, g19⟩ := g19
      subst e20
      refine pq_if (fun c4 => pq_rf _ _ (fun s9 k => Or.inr ⟨fun w => ?_, rfl, k⟩)) (fun c4 => pq_b (rt_0 a4 a5 s20) (fun r23 s24 g23 => ?_))
      · rcases g19 with q | q
        · exact n10 _ q.1 c4
        · exact q.2 w.2.2.1
      obtain ⟨e24, g23⟩ := g23
      subst e24
      refine pq_if (fun c6 => pq_rf _ _ (fun s9 k => Or.inr ⟨fun w => ?_, rfl, k⟩)) (fun c6 => pq_c (fun _ => pq_b (gr _) (fun r27 s28 g27 => pq_c (fun _ => pq_s (Or.inl ⟨⟨kk, ⟨c1, c2, c3⟩, ?_, ?_⟩, g27.1, ?_⟩)))))
      · rcases g23 with q | q
        · exact n10 _ q.1 c6
        · exact q.2 w.2.2.2
      · rcases g19 with q | q
        · exact q.2
        · exact absurd q.1 c4
      · rcases g23 with q | q
        · exact q.2
        · exact absurd q.1 c6
      · rw [g27.2]
        exact pou_20 _ _ _ s24
    · refine pq_if (fun c1 => pq_rf _ _ (fun s9 k => Or.inr ⟨fun w => w.2.1.1 c1, rfl, k⟩)) (fun c1 => pq_if (fun c2 => pq_rf _ _ (fun s9 k => Or.inr ⟨fun w => w.2.1.2.1 c2, rfl, k⟩)) (fun c2 => pq_if (fun c3 => pq_b (rt_2 a2 a5 s6) (fun r19 s20 g19 => ?_)) (fun c3 => pq_rf _ _ (fun s9 k => Or.inr ⟨fun w => c3 w.2.1.2.2, rfl, k⟩))))
      obtain ⟨e20, g19⟩ := g19
      subst e20
      refine pq_if (fun c4 => pq_rf _ _ (fun s9 k => Or.inr ⟨fun w => ?_, rfl, k⟩)) (fun c4 => pq_b (rt_1 a4 a5 s20) (fun r23 s24 g23 => ?_))
      · rcases g19 with q | q
        · exact n10 _ q.1 c4
        · exact q.2 w.2.2.1
      obtain ⟨e24, g23⟩ := g23
      subst e24
      refine pq_if (fun c6 => pq_rf _ _ (fun s9 k => Or.inr ⟨fun w => ?_, rfl, k⟩)) (fun c6 => pq_c (fun _ => pq_b (gr _) (fun r27 s28 g27 => pq_c (fun _ => pq_s (Or.inl ⟨⟨kk, ⟨c1, c2, c3⟩, ?_, ?_⟩, g27.1, ?_⟩)))))
      · rcases g23 with q | q
        · exact n10 _ q.1 c6
        · exact q.2 w.2.2.2
      · rcases g19 with q | q
        · exact q.2
        · exact absurd q.1 c4
      · rcases g23 with q | q
        · exact q.2
        · exact absurd q.1 c6
      · rw [g27.2]
        exact pou_21 _ _ _ s24
    · refine pq_if (fun c1 => pq_rf _ _ (fun s9 k => Or.inr ⟨fun w => w.2.1.1 c1, rfl, k⟩)) (fun c1 => pq_if (fun c2 => pq_rf _ _ (fun s9 k => Or.inr ⟨fun w => w.2.1.2.1 c2, rfl, k⟩)) (fun c2 => pq_if (fun c3 => pq_b (rt_2 a2 a5 s6) (fun r19 s20 g19 => ?_)) (fun c3 => pq_rf _ _ (fun s9 k => Or.inr ⟨fun w => c3 w.2.1.2.2, rfl, k⟩))))
      obtain ⟨e20, g19⟩ := g19
      subst e20
      refine pq_if (fun c4 => pq_rf _ _ (fun s9 k => Or.inr ⟨fun w => ?_, rfl, k⟩)) (fun c4 => pq_b (rt_2 a4 a5 s20) (fun r23 s24 g23 => ?_))
      · rcases g19 with q | q
        · exact n10 _ q.1 c4
        · exact q.2 w.2.2.1
      obtain ⟨e24, g23⟩ := g23
      subst e24
      refine pq_if (fun c6 => pq_rf _ _ (fun s9 k => Or.inr ⟨fun w => ?_, rfl, k⟩)) (fun c6 => pq_c (fun _ => pq_b (gr _) (fun r27 s28 g27 => pq_c (fun _ => pq_s (Or.inl ⟨⟨kk, ⟨c1, c2, c3⟩, ?_, ?_⟩, g27.1, ?_⟩)))))
      · rcases g23 with q | q
        · exact n10 _ q.1 c6
        · exact q.2 w.2.2.2
      · rcases g19 with q | q
        · exact q.2
        · exact absurd q.1 c4
      · rcases g23 with q | q
        · exact q.2
        · exact absurd q.1 c6
      · rw [g27.2]
        exact pou_22 _ _ _ s24
    · refine pq_if (fun c1 => pq_rf _ _ (fun s9 k => Or.inr ⟨fun w => w.2.1.1 c1, rfl, k⟩)) (fun c1 => pq_if (fun c2 => pq_rf _ _ (fun s9 k => Or.inr ⟨fun w => w.2.1.2.1 c2, rfl, k⟩)) (fun c2 => pq_if (fun c3 => pq_b (rt_2 a2 a5 s6) (fun r19 s20 g19 => ?_)) (fun c3 => pq_rf _ _ (fun s9 k => Or.inr ⟨fun w => c3 w.2.1.2.2, rfl, k⟩))))
      obtain ⟨e20, g19⟩ := g19
      subst e20
      refine pq_if (fun c4 => pq_rf _ _ (fun s9 k => Or.inr ⟨fun w => ?_, rfl, k⟩)) (fun c4 => pq_b (rt_3 a4 a5 s20) (fun r23 s24 g23 => ?_))
      · rcases g19 with q | q
        · exact n10 _ q.1 c4
        · exact q.2 w.2.2.1
      obtain ⟨e24, g23⟩ := g23
      subst e24
      refine pq_if (fun c6 => pq_rf _ _ (fun s9 k => Or.inr ⟨fun w => ?_, rfl, k⟩)) (fun c6 => pq_c (fun _ => pq_b (gr _) (fun r27 s28 g27 => pq_c (fun _ => pq_s (Or.inl ⟨⟨kk, ⟨c1, c2, c3⟩, ?_, ?_⟩, g27.1, ?_⟩)))))
      · rcases g23 with q | q
        · exact n10 _ q.1 c6
        · exact q.2 w.2.2.2
      · rcases g19 with q | q
        · exact q.2
        · exact absurd q.1 c4
      · rcases g23 with q | q
        · exact q.2
        · exact absurd q.1 c6
      · rw [g27.2]
        exact pou_23 _ _ _ s24
    · refine pq_if (fun c1 => pq_rf _ _ (fun s9 k => Or.inr ⟨fun w => w.2.1.1 c1, rfl, k⟩)) (fun c1 => pq_if (fun c2 => pq_rf _ _ (fun s9 k => Or.inr ⟨fun w => w.2.1.2.1 c2, rfl, k⟩)) (fun c2 => pq_if (fun c3 => pq_b (rt_3 a2 a5 s6) (fun r19 s20 g19 => ?_)) (fun c3 => pq_rf _ _ (fun s9 k => Or.inr ⟨fun w => c3 w.2.1.2.2, rfl, k⟩))))
      obtain ⟨e20, g19⟩ := g19
      subst e20
      refine pq_if (fun c4 => pq_rf _ _ (fun s9 k => Or.inr ⟨fun w => ?_, rfl, k⟩)) (fun c4 => pq_b (rt_0 a4 a5 s20) (fun r23 s24 g23 => ?_))
      · rcases g19 with q | q
        · exact n10 _ q.1 c4
        · exact q.2 w.2.2.1
      obtain ⟨e24, g23⟩ := g23
      subst e24
      refine pq_if (fun c6 => pq_rf _ _ (fun s9 k => Or.inr ⟨fun w => ?_, rfl, k⟩)) (fun c6 => pq_c (fun _ => pq_b (gr _) (fun r27 s28 g27 => pq_c (fun _ => pq_s (Or.inl ⟨⟨kk, ⟨c1, c2, c3⟩, ?_, ?_⟩, g27.1, ?_⟩)))))
      · rcases g23 with q | q
        · exact n10 _ q.1 c6
        · exact q.2 w.2.2.2
      · rcases g19 with q | q
        · exact q.2
        · exact absurd q.1 c4
      · rcases g23 with q | q
        · exact q.2
        · exact absurd q.1 c6
      · rw [g27.2]
        exact pou_30 _ _ _ s24
    · refine pq_if (fun c1 => pq_rf _ _ (fun s9 k => Or.inr ⟨fun w => w.2.1.1 c1, rfl, k⟩)) (fun c1 => pq_if (fun c2 => pq_rf _ _ (fun s9 k => Or.inr ⟨fun w => w.2.1.2.1 c2, rfl, k⟩)) (fun c2 => pq_if (fun c3 => pq_b (rt_3 a2 a5 s6) (fun r19 s20 g19 => ?_)) (fun c3 => pq_rf _ _ (fun s9 k => Or.inr ⟨fun w => c3 w.2.1.2.2, rfl, k⟩))))
      obtain ⟨e20, g19⟩ := g19
      subst e20
      refine pq_if (fun c4 => pq_rf _ _ (fun s9 k => Or.inr ⟨fun w => ?_, rfl, k⟩)) (fun c4 => pq_b (rt_1 a4 a5 s20) (fun r23 s24 g23 => ?_))
      · rcases g19 with q | q
        · exact n10 _ q.1 c4
        · exact q.2 w.2.2.1
      obtain ⟨e24, g23⟩ := g23
      subst e24
      refine pq_if (fun c6 => pq_rf _ _ (fun s9 k => Or.inr ⟨fun w => ?_, rfl, k⟩)) (fun c6 => pq_c (fun _ => pq_b (gr _) (fun r27 s28 g27 => pq_c (fun _ => pq_s (Or.inl ⟨⟨kk, ⟨c1, c2, c3⟩, ?_, ?_⟩, g27.1, ?_⟩)))))
      · rcases g23 with q | q
        · exact n10 _ q.1 c6
        · exact q.2 w.2.2.2
      · rcases g19 with q | q
        · exact q.2
        · exact absurd q.1 c4
      · rcases g23 with q | q
        · exact q.2
        · exact absurd q.1 c6
      · rw [g27.2]
        exact pou_31 _ _ _ s24
    · refine pq_if (fun c1 => pq_rf _ _ (fun s9 k => Or.inr ⟨fun w => w.2.1.1 c1, rfl, k⟩)) (fun c1 => pq_if (fun c2 => pq_rf _ _ (fun s9 k => Or.inr ⟨fun w => w.2.1.2.1 c2, rfl, k⟩)) (fun c2 => pq_if (fun c3 => pq_b (rt_3 a2 a5 s6) (fun r19 s20 g19 => ?_)) (fun c3 => pq_rf _ _ (fun s9 k => Or.inr ⟨fun w => c3 w.2.1.2.2, rfl, k⟩))))
      obtain ⟨e20, g19⟩ := g19
      subst e20
      refine pq_if (fun c4 => pq_rf _ _ (fun s9 k => Or.inr ⟨fun w => ?_, rfl, k⟩)) (fun c4 => pq_b (rt_2 a4 a5 s20) (fun r23 s24 g23 => ?_))
      · rcases g19 with q | q
        · exact n10 _ q.1 c4
        · exact q.2 w.2.2.1
      obtain ⟨e24, g23⟩ := g23
      subst e24
      refine pq_if (fun c6 => pq_rf _ _ (fun s9 k => Or.inr ⟨fun w => ?_, rfl, k⟩)) (fun c6 => pq_c (fun _ => pq_b (gr _) (fun r27 s28 g27 => pq_c (fun _ => pq_s (Or.inl ⟨⟨kk, ⟨c1, c2, c3⟩, ?_, ?_⟩, g27.1, ?_⟩)))))
      · rcases g23 with q | q
        · exact n10 _ q.1 c6
        · exact q.2 w.2.2.2
      · rcases g19 with q | q
        · exact q.2
        · exact absurd q.1 c4
      · rcases g23 with q | q
        · exact q.2
        · exact absurd q.1 c6
      · rw [g27.2]
        exact pou_32 _ _ _ s24
    · refine pq_if (fun c1 => pq_rf _ _ (fun s9 k => Or.inr ⟨fun w => w.2.1.1 c1, rfl, k⟩)) (fun c1 => pq_if (fun c2 => pq_rf _ _ (fun s9 k => Or.inr ⟨fun w => w.2.1.2.1 c2, rfl, k⟩)) (fun c2 => pq_if (fun c3 => pq_b (rt_3 a2 a5 s6) (fun r19 s20 g19 => ?_)) (fun c3 => pq_rf _ _ (fun s9 k => Or.inr ⟨fun w => c3 w.2.1.2.2, rfl, k⟩))))
      obtain ⟨e20, g19⟩ := g19
      subst e20
      refine pq_if (fun c4 => pq_rf _ _ (fun s9 k => Or.inr ⟨fun w => ?_, rfl, k⟩)) (fun c4 => pq_b (rt_3 a4 a5 s20) (fun r23 s24 g23 => ?_))
      · rcases g19 with q | q
        · exact n10 _ q.1 c4
        · exact q.2 w.2.2.1
      obtain ⟨e24, g23⟩ := g23
      subst e24
      refine pq_if (fun c6 => pq_rf _ _ (fun s9 k => Or.inr ⟨fun w => ?_, rfl, k⟩)) (fun c6 => pq_c (fun _ => pq_b (gr _) (fun r27 s28 g27 => pq_c (fun _ => pq_s (Or.inl ⟨⟨kk, ⟨c1, c2, c3⟩, ?_, ?_⟩, g27.1, ?_⟩)))))
      · rcases g23 with q | q
        · exact n10 _ q.1 c6
        · exact q.2 w.2.2.2
      · rcases g19 with q | q
        · exact q.2
        · exact absurd q.1 c4
      · rcases g23 with q | q
        · exact q.2
        · exact absurd q.1 c6
      · rw [g27.2]
        exact pou_33 _ _ _ s24
  · have := i_nle cc
    have := w.1.2.2.2.2
    omega
theorem pu_u (v1 v2 v3 v4 v5 : Int32) (s0 : Sg) (A B m : Nat) (hA : 60 * v1.toInt + v2.toInt = (A : Int)) (hB : 60 * v3.toInt + v4.toInt = (B : Int)) (hm : v5.toInt = (m : Int)) (h1 : 0 ≤ v1.toInt ∧ v1.toInt ≤ 3) (h3 : 0 ≤ v3.toInt ∧ v3.toInt ≤ 3) (h2 : 0 ≤ v2.toInt ∧ v2.toInt + v5.toInt ≤ 60) (h4 : 0 ≤ v4.toInt ∧ v4.toInt + v5.toInt ≤ 60) (hd : v4 ≤ v2) (n : Nat) : ∀ (i : Nat) (v6 : Int32) (s : Sg), v6.toInt = (i : Int) → i ≤ m → s.1 3 = s0.1 3 → s.1 4 = s0.1 4 → (∀ p : Nat, s.2 5 p = if B ≤ p ∧ p < B + i then s0.2 5 (A + (p - B)) else s0.2 5 p) → PQ (f_X12_pour_b118 n v1 v2 v3 v4 v5 v6 s) (fun r s9 => r = 1 ∧ s9.1 3 = s0.1 3 ∧ s9.1 4 = s0.1 4 ∧ ∀ p : Nat, s9.2 5 p = if B ≤ p ∧ p < B + m then s0.2 5 (A + (p - B)) else s0.2 5 p) := by
  induction n with
  | zero => intro i v6 s _ _ _ _ _ r s9 e; cases e
  | succ n ih =>
    intro i v6 s hi him k3 k4 hp
    have e60 : (60 : Int32).toInt = 60 := rfl
    have e1 : (1 : Int32).toInt = 1 := rfl
    have hd' := i_le hd
    unfold f_X12_pour_b118
    refine pq_if (fun c => pq_b (pq_and (isk 0 s) (is_z s)) (fun r s22 g => pq_c (fun _ => pq_s ?_))) (fun c => pq_if (fun _ => ?_) (fun w => absurd hd w))
    · have c := i_le c
      have q : i = m := by omega
      subst q
      rw [g.1]
      exact ⟨g.2, (p_ne1 rfl).trans k3, (p_ne1 rfl).trans k4, hp⟩
    · have c := i_nle c
      unfold f_X12_pour_b143
      have m1 : (60 * v1).toInt = 60 * v1.toInt := i_mulx 60 v1 (show -2147483648 ≤ 60 * v1.toInt ∧ 60 * v1.toInt ≤ 2147483647 from by omega)
      have m3 : (60 * v3).toInt = 60 * v3.toInt := i_mulx 60 v3 (show -2147483648 ≤ 60 * v3.toInt ∧ 60 * v3.toInt ≤ 2147483647 from by omega)
      have m1a : ((60 * v1) + v2).toInt = (60 * v1).toInt + v2.toInt := i_addx (60 * v1) v2 (by omega)
      have m3a : ((60 * v3) + v4).toInt = (60 * v3).toInt + v4.toInt := i_addx (60 * v3) v4 (by omega)
      have m1b : (((60 * v1) + v2) + v6).toInt = ((60 * v1) + v2).toInt + v6.toInt := i_addx _ v6 (by omega)
      have m3b : (((60 * v3) + v4) + v6).toInt = ((60 * v3) + v4).toInt + v6.toInt := i_addx _ v6 (by omega)
      have a6 : (v6 + 1).toInt = v6.toInt + 1 := i_addx v6 1 (show -2147483648 ≤ v6.toInt + 1 ∧ v6.toInt + 1 ≤ 2147483647 from by omega)
      have c1 := cl_nat (((60 * v1) + v2) + v6)
      have c3 := cl_nat (((60 * v3) + v4) + v6)
      have d1 : (((60 * v1) + v2) + v6).toNatClampNeg = A + i := by omega
      have d3 : (((60 * v3) + v4) + v6).toNatClampNeg = B + i := by omega
      refine pq_c (fun _ => pq_c (fun _ => pq_n (fun s25 e25 => ih (i + 1) (v6 + 1) s25 (by omega) (by omega) (by rw [e25]; exact k3) (by rw [e25]; exact k4) (fun p => ?_))))
      rw [e25, pL_2, d1, d3]
      have src : s.2 5 (A + i) = s0.2 5 (A + i) := by
        rw [hp, if_neg (by omega)]
      by_cases q : p = B + i
      · rw [if_pos ⟨rfl, q⟩, if_pos (by omega), src]
        exact congrArg (s0.2 5) (by omega)
      · rw [if_neg (fun w => q w.2), hp]
        by_cases f : B ≤ p ∧ p < B + i
        · rw [if_pos f, if_pos (by omega)]
        · rw [if_neg f, if_neg (by omega)]
theorem pu_d (v1 v2 v3 v4 v5 : Int32) (s0 : Sg) (A B m : Nat) (hA : 60 * v1.toInt + v2.toInt = (A : Int)) (hB : 60 * v3.toInt + v4.toInt = (B : Int)) (hm : v5.toInt = (m : Int)) (h1 : 0 ≤ v1.toInt ∧ v1.toInt ≤ 3) (h3 : 0 ≤ v3.toInt ∧ v3.toInt ≤ 3) (h2 : 0 ≤ v2.toInt ∧ v2.toInt + v5.toInt ≤ 60) (h4 : 0 ≤ v4.toInt ∧ v4.toInt + v5.toInt ≤ 60) (hd : ¬ v4 ≤ v2) (n : Nat) : ∀ (i : Nat) (v6 : Int32) (s : Sg), v6.toInt = (i : Int) → i ≤ m → s.1 3 = s0.1 3 → s.1 4 = s0.1 4 → (∀ p : Nat, s.2 5 p = if B + (m - i) ≤ p ∧ p < B + m then s0.2 5 (A + (p - B)) else s0.2 5 p) → PQ (f_X12_pour_b118 n v1 v2 v3 v4 v5 v6 s) (fun r s9 => r = 1 ∧ s9.1 3 = s0.1 3 ∧ s9.1 4 = s0.1 4 ∧ ∀ p : Nat, s9.2 5 p = if B ≤ p ∧ p < B + m then s0.2 5 (A + (p - B)) else s0.2 5 p) := by
  induction n with
  | zero => intro i v6 s _ _ _ _ _ r s9 e; cases e
  | succ n ih =>
    intro i v6 s hi him k3 k4 hp
    have e60 : (60 : Int32).toInt = 60 := rfl
    have e1 : (1 : Int32).toInt = 1 := rfl
    have hd' := i_nle hd
    unfold f_X12_pour_b118
    refine pq_if (fun c => pq_b (pq_and (isk 0 s) (is_z s)) (fun r s22 g => pq_c (fun _ => pq_s ?_))) (fun c => pq_if (fun w => absurd w hd) (fun _ => ?_))
    · have c := i_le c
      have q : i = m := by omega
      subst q
      rw [Nat.sub_self, Nat.add_zero] at hp
      rw [g.1]
      exact ⟨g.2, (p_ne1 rfl).trans k3, (p_ne1 rfl).trans k4, hp⟩
    · have c := i_nle c
      unfold f_X12_pour_b143
      have m1 : (60 * v1).toInt = 60 * v1.toInt := i_mulx 60 v1 (show -2147483648 ≤ 60 * v1.toInt ∧ 60 * v1.toInt ≤ 2147483647 from by omega)
      have m3 : (60 * v3).toInt = 60 * v3.toInt := i_mulx 60 v3 (show -2147483648 ≤ 60 * v3.toInt ∧ 60 * v3.toInt ≤ 2147483647 from by omega)
      have m1a : ((60 * v1) + v2).toInt = (60 * v1).toInt + v2.toInt := i_addx (60 * v1) v2 (by omega)
      have m3a : ((60 * v3) + v4).toInt = (60 * v3).toInt + v4.toInt := i_addx (60 * v3) v4 (by omega)
      have b1 : (v5 - 1).toInt = v5.toInt - 1 := by
        have := i_sub v5 1
        omega
      have b2 : ((v5 - 1) - v6).toInt = (v5 - 1).toInt - v6.toInt := by
        have := i_sub (v5 - 1) v6
        omega
      have m1b : (((60 * v1) + v2) + ((v5 - 1) - v6)).toInt = ((60 * v1) + v2).toInt + ((v5 - 1) - v6).toInt := i_addx _ _ (by omega)
      have m3b : (((60 * v3) + v4) + ((v5 - 1) - v6)).toInt = ((60 * v3) + v4).toInt + ((v5 - 1) - v6).toInt := i_addx _ _ (by omega)
      have a6 : (v6 + 1).toInt = v6.toInt + 1 := i_addx v6 1 (show -2147483648 ≤ v6.toInt + 1 ∧ v6.toInt + 1 ≤ 2147483647 from by omega)
      have c1 := cl_nat (((60 * v1) + v2) + ((v5 - 1) - v6))
      have c3 := cl_nat (((60 * v3) + v4) + ((v5 - 1) - v6))
      have d1 : (((60 * v1) + v2) + ((v5 - 1) - v6)).toNatClampNeg = A + (m - 1 - i) := by omega
      have d3 : (((60 * v3) + v4) + ((v5 - 1) - v6)).toNatClampNeg = B + (m - 1 - i) := by omega
      refine pq_c (fun _ => pq_c (fun _ => pq_n (fun s25 e25 => ih (i + 1) (v6 + 1) s25 (by omega) (by omega) (by rw [e25]; exact k3) (by rw [e25]; exact k4) (fun p => ?_))))
      rw [e25, pL_2, d1, d3]
      have src : s.2 5 (A + (m - 1 - i)) = s0.2 5 (A + (m - 1 - i)) := by
        rw [hp, if_neg (by omega)]
      by_cases q : p = B + (m - 1 - i)
      · rw [if_pos ⟨rfl, q⟩, if_pos (by omega), src]
        exact congrArg (s0.2 5) (by omega)
      · rw [if_neg (fun w => q w.2), hp]
        by_cases f : B + (m - i) ≤ p ∧ p < B + m
        · rw [if_pos f, if_pos (by omega)]
        · rw [if_neg f, if_neg (by omega)]
theorem pq_rm {Q : Int32 → Sg → Prop} (a : Int32) (s : Sg) (ha : ¬ a = 0) (h : ∀ s9, KeptM s s9 → Q 0 s9) : PQ (bd (f_X12_is a s) (fun r s => ck (r = 0 ∨ r = 1) (some (r, s)))) Q := pq_b (pq_and (isk a s) (is_n a s ha)) (fun r s9 g => pq_c (fun _ => pq_s (by rw [g.2]; exact h s9 (by rw [g.1]; exact km_st s 2 a))))
theorem pour_m (a1 a2 a3 a4 a5 : Int32) (s : Sg) (h6 : ∀ t, -1 ≤ (s.1 4 t).toInt ∧ (s.1 4 t).toInt ≤ 60) : PQ (f_X12_pour a1 a2 a3 a4 a5 s) (fun r s9 => (VM a1 a2 a3 a4 a5 s ∧ r = 1 ∧ PouM a1.toNatClampNeg a3.toNatClampNeg a2.toNatClampNeg a4.toNatClampNeg a5.toNatClampNeg s s9) ∨ (¬ VM a1 a2 a3 a4 a5 s ∧ r = 0 ∧ KeptM s s9)) := by
  have e0 : (0 : Int32).toInt = 0 := rfl
  have n10 : ∀ r : Int32, r = 1 → ¬ r = 0 := fun r e w => absurd (e.symm.trans w) (by decide)
  have cl1 := cl_nat a1
  have cl2 := cl_nat a2
  have cl3 := cl_nat a3
  have cl4 := cl_nat a4
  have cl5 := cl_nat a5
  unfold f_X12_pour
  refine pq_b (itm_p a1 s) (fun r1 s2 g1 => ?_)
  obtain ⟨e2, g1⟩ := g1
  subst e2
  refine pq_if (fun c => pq_rm _ _ (by decide) (fun s9 k => Or.inr ⟨fun w => ?_, rfl, k⟩)) (fun c => pq_b (itm_p a3 s2) (fun r5 s6 g5 => ?_))
  · rcases g1 with q | q
    · exact n10 _ q.1 c
    · exact q.2 w.1.1
  obtain ⟨e6, g5⟩ := g5
  subst e6
  refine pq_if (fun c5 => pq_rm _ _ (by decide) (fun s9 k => Or.inr ⟨fun w => ?_, rfl, k⟩)) (fun c5 => pq_if (fun ca => pq_rm _ _ (by decide) (fun s9 k => Or.inr ⟨fun w => ?_, rfl, k⟩)) (fun ca => pq_if (fun cb => pq_rm _ _ (by decide) (fun s9 k => Or.inr ⟨fun w => ?_, rfl, k⟩)) (fun cb => pq_if (fun cc => pq_c (fun _ => pq_if (fun c1 => pq_rm _ _ (by decide) (fun s9 k => Or.inr ⟨fun w => w.2.1.1 c1, rfl, k⟩)) (fun c1 => pq_c (fun _ => pq_if (fun c2 => pq_rm _ _ (by decide) (fun s9 k => Or.inr ⟨fun w => w.2.1.2.1 c2, rfl, k⟩)) (fun c2 => pq_if (fun c3 => ?_) (fun c3 => pq_rm _ _ (by decide) (fun s9 k => Or.inr ⟨fun w => c3 w.2.1.2.2, rfl, k⟩))))))) (fun cc => pq_rm _ _ (by decide) (fun s9 k => Or.inr ⟨fun w => ?_, rfl, k⟩)))))
  · rcases g5 with q | q
    · exact n10 _ q.1 c5
    · exact q.2 w.1.2.1
  · have := i_lt ca
    have := w.1.2.2.1
    omega
  · have := i_lt cb
    have := w.1.2.2.2.1
    omega
  · have k1 : TrayA a1 := by
      rcases g1 with q | q
      · exact q.2
      · exact absurd q.1 c
    have k3 : TrayA a3 := by
      rcases g5 with q | q
      · exact q.2
      · exact absurd q.1 c5
    have ka := i_nlt ca
    have kb := i_nlt cb
    have kc := i_le cc
    have kk : TrayA a1 ∧ TrayA a3 ∧ 0 ≤ a2.toInt ∧ 0 ≤ a4.toInt ∧ 0 ≤ a5.toInt := ⟨k1, k3, by omega, by omega, by omega⟩
    have z1 := h6 a1.toNatClampNeg
    have z3 := h6 a3.toNatClampNeg
    have r2 := i_rg a2
    have r4 := i_rg a4
    have s1 : ((s6.1 4 a1.toNatClampNeg) - a2).toInt = (s6.1 4 a1.toNatClampNeg).toInt - a2.toInt := by
      have := i_sub (s6.1 4 a1.toNatClampNeg) a2
      omega
    have s3 : ((s6.1 4 a3.toNatClampNeg) - a4).toInt = (s6.1 4 a3.toNatClampNeg).toInt - a4.toInt := by
      have := i_sub (s6.1 4 a3.toNatClampNeg) a4
      omega
    unfold TrayA at k1 k3
    refine pq_if (fun c4 => pq_rm _ _ (by decide) (fun s9 k => Or.inr ⟨fun w => ?_, rfl, k⟩)) (fun c4 => pq_if (fun c6 => ?_) (fun c6 => pq_rm _ _ (by decide) (fun s9 k => Or.inr ⟨fun w => ?_, rfl, k⟩)))
    · have := i_lt c4
      have := w.2.2.1
      omega
    · have c4 := i_nlt c4
      have c6 := i_le c6
      have ok : VM a1 a2 a3 a4 a5 s6 := ⟨kk, ⟨c1, c2, c3⟩, by omega, by omega⟩
      have fin : ∀ (r : Int32) (s9 : Sg), (r = 1 ∧ s9.1 3 = s6.1 3 ∧ s9.1 4 = s6.1 4 ∧ ∀ p : Nat, s9.2 5 p = if 60 * a3.toNatClampNeg + a4.toNatClampNeg ≤ p ∧ p < 60 * a3.toNatClampNeg + a4.toNatClampNeg + a5.toNatClampNeg then s6.2 5 (60 * a1.toNatClampNeg + a2.toNatClampNeg + (p - (60 * a3.toNatClampNeg + a4.toNatClampNeg))) else s6.2 5 p) → (VM a1 a2 a3 a4 a5 s6 ∧ r = 1 ∧ PouM a1.toNatClampNeg a3.toNatClampNeg a2.toNatClampNeg a4.toNatClampNeg a5.toNatClampNeg s6 s9) ∨ (¬ VM a1 a2 a3 a4 a5 s6 ∧ r = 0 ∧ KeptM s6 s9) := fun r s9 g => Or.inl ⟨ok, g.1, g.2.1, g.2.2.1, g.2.2.2⟩
      by_cases d : a4 ≤ a2
      · refine pq_w (pu_u a1 a2 a3 a4 a5 s6 (60 * a1.toNatClampNeg + a2.toNatClampNeg) (60 * a3.toNatClampNeg + a4.toNatClampNeg) a5.toNatClampNeg (by omega) (by omega) (by omega) k1 k3 (by omega) (by omega) d BIG 0 0 s6 rfl (Nat.zero_le _) rfl rfl (fun p => ?_)) fin
        rw [if_neg (by omega)]
      · refine pq_w (pu_d a1 a2 a3 a4 a5 s6 (60 * a1.toNatClampNeg + a2.toNatClampNeg) (60 * a3.toNatClampNeg + a4.toNatClampNeg) a5.toNatClampNeg (by omega) (by omega) (by omega) k1 k3 (by omega) (by omega) d BIG 0 0 s6 rfl (Nat.zero_le _) rfl rfl (fun p => ?_)) fin
        rw [if_neg (by omega)]
    · have := i_nle c6
      have := w.2.2.2
      omega
  · have := i_nle cc
    have := w.1.2.2.2.2
    omega
theorem v_iff {a1 a2 a3 a4 a5 : Int32} {sC sM : Sg} (h : ∀ t, t < 4 → TrR t sC sM) : VC a1 a2 a3 a4 a5 sC ↔ VM a1 a2 a3 a4 a5 sM := by
  have cl1 := cl_nat a1
  have cl3 := cl_nat a3
  have f : TrayA a1 ∧ TrayA a3 → a1.toNatClampNeg < 4 ∧ a3.toNatClampNeg < 4 := fun w => by
    have x := w.1
    have y := w.2
    unfold TrayA at x y
    omega
  constructor
  · intro w
    have ⟨t1, t3⟩ := f ⟨w.1.1, w.1.2.1⟩
    have g1 := (h _ t1).elim (fun q => absurd q.1 w.2.1.1) id
    have g3 := (h _ t3).elim (fun q => absurd q.1 w.2.1.2.1) id
    refine ⟨w.1, ⟨fun z => w.2.1.1 ((gone_iff (h _ t1)).mpr z), fun z => w.2.1.2.1 ((gone_iff (h _ t3)).mpr z), ?_⟩, ?_, ?_⟩
    · rw [g1.2.2.1, g3.2.2.1]; exact w.2.1.2.2
    · rw [g1.2.1]; exact w.2.2.1
    · rw [g3.2.1]; exact w.2.2.2
  · intro w
    have ⟨t1, t3⟩ := f ⟨w.1.1, w.1.2.1⟩
    have n1 : ¬ sC.1 (10 + a1.toNatClampNeg) 1 = 0 := fun z => w.2.1.1 ((gone_iff (h _ t1)).mp z)
    have n3 : ¬ sC.1 (10 + a3.toNatClampNeg) 1 = 0 := fun z => w.2.1.2.1 ((gone_iff (h _ t3)).mp z)
    have g1 := (h _ t1).elim (fun q => absurd q.1 n1) id
    have g3 := (h _ t3).elim (fun q => absurd q.1 n3) id
    refine ⟨w.1, ⟨n1, n3, ?_⟩, ?_, ?_⟩
    · rw [← g1.2.2.1, ← g3.2.2.1]; exact w.2.1.2.2
    · rw [← g1.2.1]; exact w.2.2.1
    · rw [← g3.2.1]; exact w.2.2.2
theorem tr_pou {t a b A2 A4 A5 : Nat} {sC sM sC9 sM9 : Sg} (ht : t < 4) (ha : a < 4) (hb : b < 4) (h : ∀ t, t < 4 → TrR t sC sM) (na : ¬ sC.1 (10 + a) 1 = 0) (la : ((A2 + A5 : Nat) : Int) ≤ (sC.1 (10 + a) 3).toInt) (lb : ((A4 + A5 : Nat) : Int) ≤ 60) (gc : PouC a b A2 A4 A5 sC sC9) (gm : PouM a b A2 A4 A5 sM sM9) : TrR t sC9 sM9 := by
  unfold TrR
  rw [gc.1 t ht, gm.1, gm.2.1]
  have ga := (h a ha).elim (fun q => absurd q.1 na) id
  rcases h t ht with q | q
  · exact Or.inl q
  · refine Or.inr ⟨q.1, q.2.1, q.2.2.1, q.2.2.2.1, fun k hk => ?_⟩
    have l := q.2.2.2.1.2
    rw [gm.2.2]
    by_cases e : t = b
    · subst e
      rw [gc.2.2 k]
      by_cases f : A4 ≤ k ∧ k < A4 + A5
      · rw [if_pos f, if_pos (by omega)]
        have w := ga.2.2.2.2 (A2 + (k - A4)) (by omega)
        have d : 60 * a + A2 + (60 * t + k - (60 * t + A4)) = 60 * a + (A2 + (k - A4)) := by omega
        rw [d]
        exact w
      · rw [if_neg f, if_neg (by omega)]
        exact q.2.2.2.2 k hk
    · rw [gc.2.1 t ht e, if_neg (by omega)]
      exact q.2.2.2.2 k hk
