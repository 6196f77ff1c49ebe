/-! names: the lists are asked -/
theorem no_b1 (a : Int64) (c : Int32) (N : Nat) (s : Sg) (hN : (s.1 25 12).toInt = (N : Int)) (h24 : N ≤ 24) (m : Nat) : ∀ (i : Nat) (v4 : Int32), v4.toInt = (i : Int) → i ≤ N → (∀ j, j < i → ¬ (s.2 28 j = a ∧ s.1 29 j = c)) → PQ (f_X4_numberOf_b3 m a c v4 s) (fun r t => t = s ∧ FndC (s.2 28) (s.1 29) (s.1 30) N a c r) := by
  induction m with
  | zero => intro i v4 _ _ _ r s9 e; cases e
  | succ m ih =>
    intro i v4 h4 hi hn
    have e1 : (1 : Int32).toInt = 1 := rfl
    have cl := cl_nat v4
    have d : v4.toNatClampNeg = i := by omega
    have a4 : (v4 + 1).toInt = v4.toInt + 1 := i_addx v4 1 (show -2147483648 ≤ v4.toInt + 1 ∧ v4.toInt + 1 ≤ 2147483647 from by omega)
    unfold f_X4_numberOf_b3
    refine pq_if (fun c1 => pq_s ⟨rfl, Or.inr ⟨fun j hj => hn j ?_, rfl⟩⟩) (fun c1 => pq_c (fun _ => ?_))
    · have c1 := i_le c1
      omega
    · have c1 := i_nle c1
      rw [d]
      have nx : ¬ (s.2 28 i = a ∧ s.1 29 i = c) → PQ (f_X4_numberOf_b3 m a c (v4 + 1) s) (fun r t => t = s ∧ FndC (s.2 28) (s.1 29) (s.1 30) N a c r) := fun w => ih (i + 1) (v4 + 1) (by omega) (by omega) (fun j hj => by
        by_cases q : j = i
        · rw [q]; exact w
        · exact hn j (by omega))
      refine pq_if (fun c2 => pq_if (fun c3 => pq_s ⟨rfl, Or.inl ⟨i, by omega, lgc_0.mp c2, c3, rfl⟩⟩) (fun c3 => nx (fun w => c3 w.2))) (fun c2 => nx (fun w => c2 (lgc_0.mpr w.1)))
theorem no_p1 (a : Int64) (c : Int32) (N : Nat) (s : Sg) (hN : (s.1 25 12).toInt = (N : Int)) (h24 : N ≤ 24) : PQ (f_X4_numberOf a c s) (fun r t => t = s ∧ FndC (s.2 28) (s.1 29) (s.1 30) N a c r) := by
  unfold f_X4_numberOf
  exact no_b1 a c N s hN h24 BIG 0 0 rfl (Nat.zero_le _) (fun j hj => absurd hj (Nat.not_lt_zero j))
theorem no_b2 (a : Int64) (c : Int32) (N : Nat) (s : Sg) (hN : (s.1 52 12).toInt = (N : Int)) (h24 : N ≤ 24) (m : Nat) : ∀ (i : Nat) (v4 : Int32), v4.toInt = (i : Int) → i ≤ N → (∀ j, j < i → ¬ (s.2 55 j = a ∧ s.1 56 j = c)) → PQ (f_X4_numberOf_52_b3 m a c v4 s) (fun r t => t = s ∧ FndC (s.2 55) (s.1 56) (s.1 57) N a c r) := by
  induction m with
  | zero => intro i v4 _ _ _ r s9 e; cases e
  | succ m ih =>
    intro i v4 h4 hi hn
    have e1 : (1 : Int32).toInt = 1 := rfl
    have cl := cl_nat v4
    have d : v4.toNatClampNeg = i := by omega
    have a4 : (v4 + 1).toInt = v4.toInt + 1 := i_addx v4 1 (show -2147483648 ≤ v4.toInt + 1 ∧ v4.toInt + 1 ≤ 2147483647 from by omega)
    unfold f_X4_numberOf_52_b3
    refine pq_if (fun c1 => pq_s ⟨rfl, Or.inr ⟨fun j hj => hn j ?_, rfl⟩⟩) (fun c1 => pq_c (fun _ => ?_))
    · have c1 := i_le c1
      omega
    · have c1 := i_nle c1
      rw [d]
      have nx : ¬ (s.2 55 i = a ∧ s.1 56 i = c) → PQ (f_X4_numberOf_52_b3 m a c (v4 + 1) s) (fun r t => t = s ∧ FndC (s.2 55) (s.1 56) (s.1 57) N a c r) := fun w => ih (i + 1) (v4 + 1) (by omega) (by omega) (fun j hj => by
        by_cases q : j = i
        · rw [q]; exact w
        · exact hn j (by omega))
      refine pq_if (fun c2 => pq_if (fun c3 => pq_s ⟨rfl, Or.inl ⟨i, by omega, lgc_0.mp c2, c3, rfl⟩⟩) (fun c3 => nx (fun w => c3 w.2))) (fun c2 => nx (fun w => c2 (lgc_0.mpr w.1)))
theorem no_p2 (a : Int64) (c : Int32) (N : Nat) (s : Sg) (hN : (s.1 52 12).toInt = (N : Int)) (h24 : N ≤ 24) : PQ (f_X4_numberOf_52 a c s) (fun r t => t = s ∧ FndC (s.2 55) (s.1 56) (s.1 57) N a c r) := by
  unfold f_X4_numberOf_52
  exact no_b2 a c N s hN h24 BIG 0 0 rfl (Nat.zero_le _) (fun j hj => absurd hj (Nat.not_lt_zero j))
theorem fh_b (b : Int64) (s : Sg) (hb : PQ (f_X12_nameHere s) (fun r t => t = s ∧ r = b)) (B M : Nat) (hB : B + M ≤ 130) (m : Nat) (v1 v2 : Int32) (h1 : v1.toInt = (B : Int)) (h2 : v2.toInt = (M : Int)) : ∀ (i : Nat) (v3 : Int32), v3.toInt = (i : Int) → i ≤ M → (∀ j, j < i → ¬ s.2 2 (B + j) = b) → PQ (f_X12_findHere_b2 m v1 v2 v3 s) (fun r t => t = s ∧ FndM (s.2 2) B M b r) := by
  induction m with
  | zero => intro i v3 _ _ _ r s9 e; cases e
  | succ m ih =>
    intro i v3 h3 hi hn
    have e1 : (1 : Int32).toInt = 1 := rfl
    have a3 : (v3 + 1).toInt = v3.toInt + 1 := i_addx v3 1 (show -2147483648 ≤ v3.toInt + 1 ∧ v3.toInt + 1 ≤ 2147483647 from by omega)
    have ax : (v1 + v3).toInt = v1.toInt + v3.toInt := i_addx v1 v3 (by omega)
    have cl := cl_nat (v1 + v3)
    have d : (v1 + v3).toNatClampNeg = B + i := by omega
    unfold f_X12_findHere_b2
    refine pq_if (fun c1 => pq_s ⟨rfl, Or.inr ⟨fun j hj => hn j ?_, rfl⟩⟩) (fun c1 => pq_c (fun _ => pq_b hb (fun r2 s3 g => ?_)))
    · have c1 := i_le c1
      omega
    · have c1 := i_nle c1
      obtain ⟨es, g⟩ := g
      subst es
      rw [d, g]
      refine pq_if (fun c2 => pq_s ⟨rfl, Or.inl ⟨i, by omega, lgc_0.mp c2, h3⟩⟩) (fun c2 => ih (i + 1) (v3 + 1) (by omega) (by omega) (fun j hj => ?_))
      by_cases q : j = i
      · rw [q]; exact fun w => c2 (lgc_0.mpr w)
      · exact hn j (by omega)
theorem fh_p (b : Int64) (s : Sg) (hb : PQ (f_X12_nameHere s) (fun r t => t = s ∧ r = b)) (B M : Nat) (hB : B + M ≤ 130) (v1 v2 : Int32) (h1 : v1.toInt = (B : Int)) (h2 : v2.toInt = (M : Int)) : PQ (f_X12_findHere v1 v2 s) (fun r t => t = s ∧ FndM (s.2 2) B M b r) := by
  unfold f_X12_findHere
  exact fh_b b s hb B M hB BIG v1 v2 h1 h2 0 0 rfl (Nat.zero_le _) (fun j hj => absurd hj (Nat.not_lt_zero j))
theorem ad_b (a : Int64) (c v : Int32) (N : Nat) (s : Sg) (hN : (s.1 52 12).toInt = (N : Int)) (h24 : N < 24) (m : Nat) : ∀ (i : Nat) (v5 : Int32), v5.toInt = (i : Int) → i ≤ N → (∀ j, j < i → ¬ s.2 55 j = a) → PQ (f_X4_addName_52_b14 m a c v v5 s) (fun r t => (r = 0 ∧ t = s ∧ ∃ i, i < N ∧ s.2 55 i = a) ∨ (r = 1 ∧ (∀ i, i < N → ¬ s.2 55 i = a) ∧ t = pI (pI (pI (pL s 55 N a) 56 N c) 57 N v) 52 12 ((s.1 52 12) + 1))) := by
  induction m with
  | zero => intro i v5 _ _ _ r s9 e; cases e
  | succ m ih =>
    intro i v5 h5 hi hn
    have e1 : (1 : Int32).toInt = 1 := rfl
    have cl := cl_nat v5
    have cN := cl_nat (s.1 52 12)
    have d : v5.toNatClampNeg = i := by omega
    have dN : (s.1 52 12).toNatClampNeg = N := by omega
    have a5 : (v5 + 1).toInt = v5.toInt + 1 := i_addx v5 1 (show -2147483648 ≤ v5.toInt + 1 ∧ v5.toInt + 1 ≤ 2147483647 from by omega)
    unfold f_X4_addName_52_b14
    refine pq_if (fun c1 => pq_c (fun _ => pq_n (fun s2 e2 => pq_c (fun _ => pq_n (fun s4 e4 => pq_c (fun _ => pq_n (fun s6 e6 => pq_s (Or.inr ⟨rfl, fun j hj => hn j ?_, ?_⟩)))))))) (fun c1 => pq_c (fun _ => pq_if (fun c2 => pq_s (Or.inl ⟨rfl, rfl, i, ?_, ?_⟩)) (fun c2 => ih (i + 1) (v5 + 1) (by omega) ?_ (fun j hj => ?_))))
    · have c1 := i_le c1
      omega
    · have k2 : s2.1 52 12 = s.1 52 12 := by rw [e2]; rfl
      rw [k2] at e4
      have k4 : s4.1 52 12 = s.1 52 12 := by rw [e4, q_nc rfl, k2]
      rw [k4] at e6
      have k6 : s6.1 52 12 = s.1 52 12 := by rw [e6, q_nc rfl, k4]
      rw [k6, e6, e4, e2, dN]
    · have c1 := i_nle c1
      omega
    · rw [d] at c2
      exact lgc_0.mp c2
    · have c1 := i_nle c1
      omega
    · by_cases q : j = i
      · rw [q, ← d]
        exact fun w => c2 (lgc_0.mpr w)
      · exact hn j (by omega)
theorem ad_p (a : Int64) (c v : Int32) (N : Nat) (s : Sg) (hN : (s.1 52 12).toInt = (N : Int)) (h24 : N < 24) : PQ (f_X4_addName_52 a c v s) (fun r t => (r = 0 ∧ t = s ∧ ∃ i, i < N ∧ s.2 55 i = a) ∨ (r = 1 ∧ (∀ i, i < N → ¬ s.2 55 i = a) ∧ t = pI (pI (pI (pL s 55 N a) 56 N c) 57 N v) 52 12 ((s.1 52 12) + 1))) := by
  have e24 : (24 : Int32).toInt = 24 := rfl
  unfold f_X4_addName_52
  refine pq_if (fun _ => ad_b a c v N s hN h24 BIG 0 0 rfl (Nat.zero_le _) (fun j hj => absurd hj (Nat.not_lt_zero j))) (fun c1 => ?_)
  have c1 := i_nlt c1
  omega
