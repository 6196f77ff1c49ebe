/-! texts: a world cleared, a text begun -/
theorem cr_61 (s0 : Sg) (m : Nat) : ∀ (i : Nat) (v1 : Int32) (s : Sg), v1.toInt = (i : Int) → i ≤ 8 → (∀ k, k < i → s.1 61 k = 0) → (∀ c, ¬ c = 61 → s.1 c = s0.1 c) → s.2 = s0.2 → PQ (f_X11_clearRow_61_b2 m v1 s) (fun _ s9 => (∀ k, k < 8 → s9.1 61 k = 0) ∧ (∀ c, ¬ c = 61 → s9.1 c = s0.1 c) ∧ s9.2 = s0.2) := by
  induction m with
  | zero => intro i v1 s _ _ _ _ _ r s9 e; cases e
  | succ m ih =>
    intro i v1 s h1 hi hz hc h2
    have eN : (8 : Int32).toInt = 8 := rfl
    have eo : (1 : Int32).toInt = 1 := rfl
    have cl := cl_nat v1
    have d : v1.toNatClampNeg = i := by omega
    have a1 : (v1 + 1).toInt = v1.toInt + 1 := i_addx v1 1 (by omega)
    unfold f_X11_clearRow_61_b2
    refine pq_if (fun c => ?_) (fun c => pq_c (fun _ => ?_))
    · have c := i_le c
      exact pq_s ⟨fun k hk => hz k (by omega), hc, h2⟩
    · have c := i_nle c
      rw [d]
      refine ih (i + 1) (v1 + 1) _ (by omega) (by omega) (fun k hk => ?_) (fun c hc' => ?_) h2
      · rw [pI_1]
        by_cases z : k = i
        · rw [if_pos ⟨rfl, z⟩]
        · rw [if_neg (fun y => z y.2)]
          exact hz k (by omega)
      · rw [pI_o _ _ _ _ _ hc']
        exact hc c hc'
theorem cl_61 (s : Sg) : PQ (f_X11_clearRow_61 s) (fun _ s9 => (∀ k, k < 8 → s9.1 61 k = 0) ∧ (∀ c, ¬ c = 61 → s9.1 c = s.1 c) ∧ s9.2 = s.2) := by
  unfold f_X11_clearRow_61
  exact cr_61 s BIG 0 0 s rfl (Nat.zero_le _) (fun _ h => absurd h (Nat.not_lt_zero _)) (fun _ _ => rfl) rfl
theorem cr_67 (s0 : Sg) (m : Nat) : ∀ (i : Nat) (v1 : Int32) (s : Sg), v1.toInt = (i : Int) → i ≤ 8 → (∀ k, k < i → s.1 67 k = 0) → (∀ c, ¬ c = 67 → s.1 c = s0.1 c) → s.2 = s0.2 → PQ (f_X11_clearRow_67_b2 m v1 s) (fun _ s9 => (∀ k, k < 8 → s9.1 67 k = 0) ∧ (∀ c, ¬ c = 67 → s9.1 c = s0.1 c) ∧ s9.2 = s0.2) := by
  induction m with
  | zero => intro i v1 s _ _ _ _ _ r s9 e; cases e
  | succ m ih =>
    intro i v1 s h1 hi hz hc h2
    have eN : (8 : Int32).toInt = 8 := rfl
    have eo : (1 : Int32).toInt = 1 := rfl
    have cl := cl_nat v1
    have d : v1.toNatClampNeg = i := by omega
    have a1 : (v1 + 1).toInt = v1.toInt + 1 := i_addx v1 1 (by omega)
    unfold f_X11_clearRow_67_b2
    refine pq_if (fun c => ?_) (fun c => pq_c (fun _ => ?_))
    · have c := i_le c
      exact pq_s ⟨fun k hk => hz k (by omega), hc, h2⟩
    · have c := i_nle c
      rw [d]
      refine ih (i + 1) (v1 + 1) _ (by omega) (by omega) (fun k hk => ?_) (fun c hc' => ?_) h2
      · rw [pI_1]
        by_cases z : k = i
        · rw [if_pos ⟨rfl, z⟩]
        · rw [if_neg (fun y => z y.2)]
          exact hz k (by omega)
      · rw [pI_o _ _ _ _ _ hc']
        exact hc c hc'
theorem cl_67 (s : Sg) : PQ (f_X11_clearRow_67 s) (fun _ s9 => (∀ k, k < 8 → s9.1 67 k = 0) ∧ (∀ c, ¬ c = 67 → s9.1 c = s.1 c) ∧ s9.2 = s.2) := by
  unfold f_X11_clearRow_67
  exact cr_67 s BIG 0 0 s rfl (Nat.zero_le _) (fun _ h => absurd h (Nat.not_lt_zero _)) (fun _ _ => rfl) rfl
theorem cr_68 (s0 : Sg) (m : Nat) : ∀ (i : Nat) (v1 : Int32) (s : Sg), v1.toInt = (i : Int) → i ≤ 8 → (∀ k, k < i → s.1 68 k = 0) → (∀ c, ¬ c = 68 → s.1 c = s0.1 c) → s.2 = s0.2 → PQ (f_X11_clearRow_68_b2 m v1 s) (fun _ s9 => (∀ k, k < 8 → s9.1 68 k = 0) ∧ (∀ c, ¬ c = 68 → s9.1 c = s0.1 c) ∧ s9.2 = s0.2) := by
  induction m with
  | zero => intro i v1 s _ _ _ _ _ r s9 e; cases e
  | succ m ih =>
    intro i v1 s h1 hi hz hc h2
    have eN : (8 : Int32).toInt = 8 := rfl
    have eo : (1 : Int32).toInt = 1 := rfl
    have cl := cl_nat v1
    have d : v1.toNatClampNeg = i := by omega
    have a1 : (v1 + 1).toInt = v1.toInt + 1 := i_addx v1 1 (by omega)
    unfold f_X11_clearRow_68_b2
    refine pq_if (fun c => ?_) (fun c => pq_c (fun _ => ?_))
    · have c := i_le c
      exact pq_s ⟨fun k hk => hz k (by omega), hc, h2⟩
    · have c := i_nle c
      rw [d]
      refine ih (i + 1) (v1 + 1) _ (by omega) (by omega) (fun k hk => ?_) (fun c hc' => ?_) h2
      · rw [pI_1]
        by_cases z : k = i
        · rw [if_pos ⟨rfl, z⟩]
        · rw [if_neg (fun y => z y.2)]
          exact hz k (by omega)
      · rw [pI_o _ _ _ _ _ hc']
        exact hc c hc'
theorem cl_68 (s : Sg) : PQ (f_X11_clearRow_68 s) (fun _ s9 => (∀ k, k < 8 → s9.1 68 k = 0) ∧ (∀ c, ¬ c = 68 → s9.1 c = s.1 c) ∧ s9.2 = s.2) := by
  unfold f_X11_clearRow_68
  exact cr_68 s BIG 0 0 s rfl (Nat.zero_le _) (fun _ h => absurd h (Nat.not_lt_zero _)) (fun _ _ => rfl) rfl
theorem cr_69 (s0 : Sg) (m : Nat) : ∀ (i : Nat) (v1 : Int32) (s : Sg), v1.toInt = (i : Int) → i ≤ 8 → (∀ k, k < i → s.1 69 k = 0) → (∀ c, ¬ c = 69 → s.1 c = s0.1 c) → s.2 = s0.2 → PQ (f_X11_clearRow_69_b2 m v1 s) (fun _ s9 => (∀ k, k < 8 → s9.1 69 k = 0) ∧ (∀ c, ¬ c = 69 → s9.1 c = s0.1 c) ∧ s9.2 = s0.2) := by
  induction m with
  | zero => intro i v1 s _ _ _ _ _ r s9 e; cases e
  | succ m ih =>
    intro i v1 s h1 hi hz hc h2
    have eN : (8 : Int32).toInt = 8 := rfl
    have eo : (1 : Int32).toInt = 1 := rfl
    have cl := cl_nat v1
    have d : v1.toNatClampNeg = i := by omega
    have a1 : (v1 + 1).toInt = v1.toInt + 1 := i_addx v1 1 (by omega)
    unfold f_X11_clearRow_69_b2
    refine pq_if (fun c => ?_) (fun c => pq_c (fun _ => ?_))
    · have c := i_le c
      exact pq_s ⟨fun k hk => hz k (by omega), hc, h2⟩
    · have c := i_nle c
      rw [d]
      refine ih (i + 1) (v1 + 1) _ (by omega) (by omega) (fun k hk => ?_) (fun c hc' => ?_) h2
      · rw [pI_1]
        by_cases z : k = i
        · rw [if_pos ⟨rfl, z⟩]
        · rw [if_neg (fun y => z y.2)]
          exact hz k (by omega)
      · rw [pI_o _ _ _ _ _ hc']
        exact hc c hc'
theorem cl_69 (s : Sg) : PQ (f_X11_clearRow_69 s) (fun _ s9 => (∀ k, k < 8 → s9.1 69 k = 0) ∧ (∀ c, ¬ c = 69 → s9.1 c = s.1 c) ∧ s9.2 = s.2) := by
  unfold f_X11_clearRow_69
  exact cr_69 s BIG 0 0 s rfl (Nat.zero_le _) (fun _ h => absurd h (Nat.not_lt_zero _)) (fun _ _ => rfl) rfl
theorem cr_70 (s0 : Sg) (m : Nat) : ∀ (i : Nat) (v1 : Int32) (s : Sg), v1.toInt = (i : Int) → i ≤ 8 → (∀ k, k < i → s.1 70 k = 0) → (∀ c, ¬ c = 70 → s.1 c = s0.1 c) → s.2 = s0.2 → PQ (f_X11_clearRow_70_b2 m v1 s) (fun _ s9 => (∀ k, k < 8 → s9.1 70 k = 0) ∧ (∀ c, ¬ c = 70 → s9.1 c = s0.1 c) ∧ s9.2 = s0.2) := by
  induction m with
  | zero => intro i v1 s _ _ _ _ _ r s9 e; cases e
  | succ m ih =>
    intro i v1 s h1 hi hz hc h2
    have eN : (8 : Int32).toInt = 8 := rfl
    have eo : (1 : Int32).toInt = 1 := rfl
    have cl := cl_nat v1
    have d : v1.toNatClampNeg = i := by omega
    have a1 : (v1 + 1).toInt = v1.toInt + 1 := i_addx v1 1 (by omega)
    unfold f_X11_clearRow_70_b2
    refine pq_if (fun c => ?_) (fun c => pq_c (fun _ => ?_))
    · have c := i_le c
      exact pq_s ⟨fun k hk => hz k (by omega), hc, h2⟩
    · have c := i_nle c
      rw [d]
      refine ih (i + 1) (v1 + 1) _ (by omega) (by omega) (fun k hk => ?_) (fun c hc' => ?_) h2
      · rw [pI_1]
        by_cases z : k = i
        · rw [if_pos ⟨rfl, z⟩]
        · rw [if_neg (fun y => z y.2)]
          exact hz k (by omega)
      · rw [pI_o _ _ _ _ _ hc']
        exact hc c hc'
theorem cl_70 (s : Sg) : PQ (f_X11_clearRow_70 s) (fun _ s9 => (∀ k, k < 8 → s9.1 70 k = 0) ∧ (∀ c, ¬ c = 70 → s9.1 c = s.1 c) ∧ s9.2 = s.2) := by
  unfold f_X11_clearRow_70
  exact cr_70 s BIG 0 0 s rfl (Nat.zero_le _) (fun _ h => absurd h (Nat.not_lt_zero _)) (fun _ _ => rfl) rfl
theorem cr_71 (s0 : Sg) (m : Nat) : ∀ (i : Nat) (v1 : Int32) (s : Sg), v1.toInt = (i : Int) → i ≤ 4 → (∀ k, k < i → s.1 71 k = 0) → (∀ c, ¬ c = 71 → s.1 c = s0.1 c) → s.2 = s0.2 → PQ (f_X11_clearRow_71_b2 m v1 s) (fun _ s9 => (∀ k, k < 4 → s9.1 71 k = 0) ∧ (∀ c, ¬ c = 71 → s9.1 c = s0.1 c) ∧ s9.2 = s0.2) := by
  induction m with
  | zero => intro i v1 s _ _ _ _ _ r s9 e; cases e
  | succ m ih =>
    intro i v1 s h1 hi hz hc h2
    have eN : (4 : Int32).toInt = 4 := rfl
    have eo : (1 : Int32).toInt = 1 := rfl
    have cl := cl_nat v1
    have d : v1.toNatClampNeg = i := by omega
    have a1 : (v1 + 1).toInt = v1.toInt + 1 := i_addx v1 1 (by omega)
    unfold f_X11_clearRow_71_b2
    refine pq_if (fun c => ?_) (fun c => pq_c (fun _ => ?_))
    · have c := i_le c
      exact pq_s ⟨fun k hk => hz k (by omega), hc, h2⟩
    · have c := i_nle c
      rw [d]
      refine ih (i + 1) (v1 + 1) _ (by omega) (by omega) (fun k hk => ?_) (fun c hc' => ?_) h2
      · rw [pI_1]
        by_cases z : k = i
        · rw [if_pos ⟨rfl, z⟩]
        · rw [if_neg (fun y => z y.2)]
          exact hz k (by omega)
      · rw [pI_o _ _ _ _ _ hc']
        exact hc c hc'
theorem cl_71 (s : Sg) : PQ (f_X11_clearRow_71 s) (fun _ s9 => (∀ k, k < 4 → s9.1 71 k = 0) ∧ (∀ c, ¬ c = 71 → s9.1 c = s.1 c) ∧ s9.2 = s.2) := by
  unfold f_X11_clearRow_71
  exact cr_71 s BIG 0 0 s rfl (Nat.zero_le _) (fun _ h => absurd h (Nat.not_lt_zero _)) (fun _ _ => rfl) rfl
theorem cr_20 (s0 : Sg) (m : Nat) : ∀ (i : Nat) (v1 : Int32) (s : Sg), v1.toInt = (i : Int) → i ≤ 8 → (∀ k, k < i → s.1 20 k = 0) → (∀ c, ¬ c = 20 → s.1 c = s0.1 c) → s.2 = s0.2 → PQ (f_X11_clearRow_20_b2 m v1 s) (fun _ s9 => (∀ k, k < 8 → s9.1 20 k = 0) ∧ (∀ c, ¬ c = 20 → s9.1 c = s0.1 c) ∧ s9.2 = s0.2) := by
  induction m with
  | zero => intro i v1 s _ _ _ _ _ r s9 e; cases e
  | succ m ih =>
    intro i v1 s h1 hi hz hc h2
    have eN : (8 : Int32).toInt = 8 := rfl
    have eo : (1 : Int32).toInt = 1 := rfl
    have cl := cl_nat v1
    have d : v1.toNatClampNeg = i := by omega
    have a1 : (v1 + 1).toInt = v1.toInt + 1 := i_addx v1 1 (by omega)
    unfold f_X11_clearRow_20_b2
    refine pq_if (fun c => ?_) (fun c => pq_c (fun _ => ?_))
    · have c := i_le c
      exact pq_s ⟨fun k hk => hz k (by omega), hc, h2⟩
    · have c := i_nle c
      rw [d]
      refine ih (i + 1) (v1 + 1) _ (by omega) (by omega) (fun k hk => ?_) (fun c hc' => ?_) h2
      · rw [pI_1]
        by_cases z : k = i
        · rw [if_pos ⟨rfl, z⟩]
        · rw [if_neg (fun y => z y.2)]
          exact hz k (by omega)
      · rw [pI_o _ _ _ _ _ hc']
        exact hc c hc'
theorem cl_20 (s : Sg) : PQ (f_X11_clearRow_20 s) (fun _ s9 => (∀ k, k < 8 → s9.1 20 k = 0) ∧ (∀ c, ¬ c = 20 → s9.1 c = s.1 c) ∧ s9.2 = s.2) := by
  unfold f_X11_clearRow_20
  exact cr_20 s BIG 0 0 s rfl (Nat.zero_le _) (fun _ h => absurd h (Nat.not_lt_zero _)) (fun _ _ => rfl) rfl
theorem clr_52 (s : Sg) : PQ (f_X4_clear_52 s) (fun _ s9 => (∀ k, k < 8 → s9.1 61 k = 0) ∧ (s9.1 52 12 = 0 ∧ s9.1 52 13 = 0 ∧ s9.1 52 14 = 0 ∧ s9.1 52 15 = 0 ∧ s9.1 52 16 = 0 ∧ s9.1 52 17 = 0 ∧ s9.1 52 18 = 5 ∧ s9.1 52 19 = 0) ∧ (∀ c, ¬ c = 52 → ¬ c = 61 → s9.1 c = s.1 c) ∧ s9.2 = s.2) := by
  unfold f_X4_clear_52
  refine pq_b (cl_61 s) (fun _ s2 g => pq_n (fun s3 e3 => pq_n (fun s4 e4 => pq_s ?_)))
  obtain ⟨g1, g2, g3⟩ := g
  rw [e4, e3]
  refine ⟨fun k hk => ?_, ⟨by rw [q_ne rfl, q_ne rfl, q_ne rfl, q_ne rfl, q_ne rfl, q_ne rfl, q_ne rfl, q_eq], by rw [q_ne rfl, q_ne rfl, q_ne rfl, q_ne rfl, q_ne rfl, q_ne rfl, q_eq], by rw [q_ne rfl, q_ne rfl, q_ne rfl, q_ne rfl, q_ne rfl, q_eq], by rw [q_ne rfl, q_ne rfl, q_ne rfl, q_ne rfl, q_eq], by rw [q_ne rfl, q_ne rfl, q_ne rfl, q_eq], by rw [q_ne rfl, q_ne rfl, q_eq], by rw [q_ne rfl, q_eq], by rw [q_eq]⟩, fun c h1 h2 => ?_, g3⟩
  · rw [q_nc rfl, q_nc rfl, q_nc rfl, q_nc rfl, q_nc rfl, q_nc rfl, q_nc rfl, q_nc rfl]
    exact g1 k hk
  · rw [pI_o _ _ _ _ _ h1, pI_o _ _ _ _ _ h1, pI_o _ _ _ _ _ h1, pI_o _ _ _ _ _ h1, pI_o _ _ _ _ _ h1, pI_o _ _ _ _ _ h1, pI_o _ _ _ _ _ h1, pI_o _ _ _ _ _ h1]
    exact g2 c h2
theorem clr_53 (s : Sg) : PQ (f_X2_clear_53 s) (fun _ s9 => ((∀ k, k < 8 → s9.1 67 k = 0) ∧ (∀ k, k < 8 → s9.1 68 k = 0) ∧ (∀ k, k < 8 → s9.1 69 k = 0) ∧ (∀ k, k < 8 → s9.1 70 k = 0) ∧ (∀ k, k < 4 → s9.1 71 k = 0)) ∧ (∀ k, 5 ≤ k → k ≤ 12 → s9.1 53 k = 0) ∧ (∀ c, ¬ c = 53 → ¬ (67 ≤ c ∧ c ≤ 71) → s9.1 c = s.1 c) ∧ s9.2 = s.2) := by
  unfold f_X2_clear_53
  refine pq_b (cl_67 s) (fun _ s2 g => pq_b (cl_68 s2) (fun _ s4 h => pq_b (cl_69 s4) (fun _ s6 a => pq_b (cl_70 s6) (fun _ s8 b => pq_b (cl_71 s8) (fun _ s10 c => pq_n (fun s11 e11 => pq_n (fun s12 e12 => pq_s ?_)))))))
  obtain ⟨g1, g2, g3⟩ := g
  obtain ⟨h1, h2, h3⟩ := h
  obtain ⟨a1, a2, a3⟩ := a
  obtain ⟨b1, b2, b3⟩ := b
  obtain ⟨c1, c2, c3⟩ := c
  rw [e12, e11]
  refine ⟨⟨fun k hk => ?_, fun k hk => ?_, fun k hk => ?_, fun k hk => ?_, fun k hk => ?_⟩, fun k k1 k2 => ?_, fun c y1 y2 => ?_, ?_⟩
  · rw [q_nc rfl, q_nc rfl, q_nc rfl, q_nc rfl, q_nc rfl, q_nc rfl, q_nc rfl, q_nc rfl, c2 67 (by decide), b2 67 (by decide), a2 67 (by decide), h2 67 (by decide)]
    exact g1 k hk
  · rw [q_nc rfl, q_nc rfl, q_nc rfl, q_nc rfl, q_nc rfl, q_nc rfl, q_nc rfl, q_nc rfl, c2 68 (by decide), b2 68 (by decide), a2 68 (by decide)]
    exact h1 k hk
  · rw [q_nc rfl, q_nc rfl, q_nc rfl, q_nc rfl, q_nc rfl, q_nc rfl, q_nc rfl, q_nc rfl, c2 69 (by decide), b2 69 (by decide)]
    exact a1 k hk
  · rw [q_nc rfl, q_nc rfl, q_nc rfl, q_nc rfl, q_nc rfl, q_nc rfl, q_nc rfl, q_nc rfl, c2 70 (by decide)]
    exact b1 k hk
  · rw [q_nc rfl, q_nc rfl, q_nc rfl, q_nc rfl, q_nc rfl, q_nc rfl, q_nc rfl, q_nc rfl]
    exact c1 k hk
  · have z : k = 5 ∨ k = 6 ∨ k = 7 ∨ k = 8 ∨ k = 9 ∨ k = 10 ∨ k = 11 ∨ k = 12 := by omega
    rcases z with z | z | z | z | z | z | z | z <;> subst z
    · rw [q_ne rfl, q_ne rfl, q_ne rfl, q_ne rfl, q_ne rfl, q_ne rfl, q_ne rfl, q_eq]
    · rw [q_ne rfl, q_ne rfl, q_ne rfl, q_ne rfl, q_ne rfl, q_ne rfl, q_eq]
    · rw [q_ne rfl, q_ne rfl, q_ne rfl, q_ne rfl, q_ne rfl, q_eq]
    · rw [q_ne rfl, q_ne rfl, q_ne rfl, q_ne rfl, q_eq]
    · rw [q_ne rfl, q_ne rfl, q_ne rfl, q_eq]
    · rw [q_ne rfl, q_ne rfl, q_eq]
    · rw [q_ne rfl, q_eq]
    · rw [q_eq]
  · rw [pI_o _ _ _ _ _ y1, pI_o _ _ _ _ _ y1, pI_o _ _ _ _ _ y1, pI_o _ _ _ _ _ y1, pI_o _ _ _ _ _ y1, pI_o _ _ _ _ _ y1, pI_o _ _ _ _ _ y1, pI_o _ _ _ _ _ y1, c2 c (by omega), b2 c (by omega), a2 c (by omega), h2 c (by omega), g2 c (by omega)]
  · show s10.2 = s.2
    rw [c3, b3, a3, h3, g3]
theorem clr_54 (s : Sg) : PQ (f_X5_clear_54 s) (fun _ s9 => (s9.1 54 6 = 0 ∧ s9.1 54 7 = 0 ∧ s9.1 54 8 = 0) ∧ (∀ c, ¬ c = 54 → s9.1 c = s.1 c) ∧ s9.2 = s.2) := by
  unfold f_X5_clear_54
  refine pq_n (fun s1 e1 => pq_s ?_)
  rw [e1]
  exact ⟨⟨by rw [q_ne rfl, q_ne rfl, q_eq], by rw [q_ne rfl, q_eq], q_eq⟩, fun c h => by rw [pI_o _ _ _ _ _ h, pI_o _ _ _ _ _ h, pI_o _ _ _ _ _ h], rfl⟩
def ClrC (s s9 : Sg) : Prop := ((∀ k, k < 8 → s9.1 61 k = 0) ∧ (s9.1 52 12 = 0 ∧ s9.1 52 13 = 0 ∧ s9.1 52 14 = 0 ∧ s9.1 52 15 = 0 ∧ s9.1 52 16 = 0 ∧ s9.1 52 17 = 0 ∧ s9.1 52 18 = 5 ∧ s9.1 52 19 = 0)) ∧ (((∀ k, k < 8 → s9.1 67 k = 0) ∧ (∀ k, k < 8 → s9.1 68 k = 0) ∧ (∀ k, k < 8 → s9.1 69 k = 0) ∧ (∀ k, k < 8 → s9.1 70 k = 0) ∧ (∀ k, k < 4 → s9.1 71 k = 0)) ∧ (∀ k, 5 ≤ k → k ≤ 12 → s9.1 53 k = 0)) ∧ (s9.1 54 6 = 0 ∧ s9.1 54 7 = 0 ∧ s9.1 54 8 = 0) ∧ (∀ c, ¬ (52 ≤ c ∧ c ≤ 71) → s9.1 c = s.1 c) ∧ s9.2 = s.2
theorem clr_51 (s : Sg) : PQ (f_X10_clear_51 s) (fun _ s9 => ClrC s s9) := by
  unfold f_X10_clear_51
  refine pq_b (clr_52 s) (fun _ s2 a => pq_b (clr_53 s2) (fun _ s4 b => pq_b (clr_54 s4) (fun _ s6 c => pq_s ?_)))
  obtain ⟨a1, a2, a3, a4⟩ := a
  obtain ⟨b1, b2, b3, b4⟩ := b
  obtain ⟨c1, c2, c3⟩ := c
  have k52 : s6.1 52 = s2.1 52 := by rw [c2 52 (by decide), b3 52 (by decide) (by decide)]
  refine ⟨⟨fun k hk => ?_, ?_⟩, ⟨⟨fun k hk => ?_, fun k hk => ?_, fun k hk => ?_, fun k hk => ?_, fun k hk => ?_⟩, fun k k1 k2 => ?_⟩, c1, fun c hc => ?_, ?_⟩
  · rw [c2 61 (by decide), b3 61 (by decide) (by decide)]
    exact a1 k hk
  · rw [k52]
    exact a2
  · rw [c2 67 (by decide)]
    exact b1.1 k hk
  · rw [c2 68 (by decide)]
    exact b1.2.1 k hk
  · rw [c2 69 (by decide)]
    exact b1.2.2.1 k hk
  · rw [c2 70 (by decide)]
    exact b1.2.2.2.1 k hk
  · rw [c2 71 (by decide)]
    exact b1.2.2.2.2 k hk
  · rw [c2 53 (by decide)]
    exact b2 k k1 k2
  · rw [c2 c (by omega), b3 c (by omega) (by omega), a3 c (by omega) (by omega)]
  · rw [c3, b4, a4]
/-- the reference's new slot, cleared -/
def ClrM (s s9 : Sg) : Prop := (∀ k, k < 480 → s9.1 1 (1920 + k) = if k = 11 then -1 else if k = 13 then 5 else 0) ∧ (∀ p, ¬ (1920 ≤ p ∧ p < 2400) → s9.1 1 p = s.1 1 p) ∧ (∀ c, ¬ c = 1 → s9.1 c = s.1 c) ∧ s9.2 = s.2
theorem pln_b (s0 : Sg) (m : Nat) : ∀ (i : Nat) (v2 : Int32) (s : Sg), v2.toInt = (i : Int) → i ≤ 480 → (∀ k, k < i → s.1 1 (1920 + k) = 0) → (∀ p, ¬ (1920 ≤ p ∧ p < 2400) → s.1 1 p = s0.1 1 p) → (∀ c, ¬ c = 1 → s.1 c = s0.1 c) → s.2 = s0.2 → PQ (f_X12_plain_b2 m 1920 v2 s) (fun _ s9 => ClrM s0 s9) := by
  induction m with
  | zero => intro i v2 s _ _ _ _ _ _ r s9 e; cases e
  | succ m ih =>
    intro i v2 s h2 hi hz hp hc hs
    have e480 : (480 : Int32).toInt = 480 := rfl
    have e1920 : (1920 : Int32).toInt = 1920 := rfl
    have eo : (1 : Int32).toInt = 1 := rfl
    have a1 : (v2 + 1).toInt = v2.toInt + 1 := i_addx v2 1 (by omega)
    have x1 : (1920 + v2).toInt = (1920 : Int32).toInt + v2.toInt := i_addx _ _ (by omega)
    have cl := cl_nat (1920 + v2)
    have d : (1920 + v2).toNatClampNeg = 1920 + i := by omega
    have d11 : ((1920 : Int32) + 11).toNatClampNeg = 1931 := rfl
    have d13 : ((1920 : Int32) + 13).toNatClampNeg = 1933 := rfl
    unfold f_X12_plain_b2
    refine pq_if (fun c => pq_c (fun _ => pq_n (fun s2 e2 => pq_c (fun _ => pq_n (fun s4 e4 => pq_s ?_))))) (fun c => pq_c (fun _ => pq_n (fun s6 e6 => ?_)))
    · have c := i_le c
      have q : i = 480 := by omega
      subst q
      rw [d13] at e4
      rw [d11] at e2
      rw [e4, e2]
      refine ⟨fun k hk => ?_, fun p h => ?_, fun c h => ?_, hs⟩
      · rw [pI_1, pI_1]
        by_cases z : k = 13
        · rw [if_pos ⟨rfl, by omega⟩, if_neg (by omega), if_pos z]
        · rw [if_neg (fun y => z (by have := y.2; omega))]
          by_cases w : k = 11
          · rw [if_pos ⟨rfl, by omega⟩, if_pos w]
          · rw [if_neg (fun y => w (by have := y.2; omega)), if_neg w, if_neg z]
            exact hz k hk
      · rw [pI_1, if_neg (fun y => h (by have := y.2; omega)), pI_1, if_neg (fun y => h (by have := y.2; omega))]
        exact hp p h
      · rw [pI_o _ _ _ _ _ h, pI_o _ _ _ _ _ h]
        exact hc c h
    · have c := i_nle c
      rw [d] at e6
      refine ih (i + 1) (v2 + 1) s6 (by omega) (by omega) (fun k hk => ?_) (fun p h => ?_) (fun c h => ?_) (by rw [e6]; exact hs)
      · rw [e6, pI_1]
        by_cases z : k = i
        · rw [if_pos ⟨rfl, by omega⟩]
        · rw [if_neg (fun y => z (by have := y.2; omega))]
          exact hz k (by omega)
      · rw [e6, pI_1, if_neg (fun y => h (by have := y.2; omega))]
        exact hp p h
      · rw [e6, pI_o _ _ _ _ _ h]
        exact hc c h
theorem pln_p (s : Sg) : PQ (f_X12_plain 1920 s) (fun _ s9 => ClrM s s9) := by
  unfold f_X12_plain
  exact pln_b s BIG 0 0 s rfl (Nat.zero_le _) (fun _ h => absurd h (Nat.not_lt_zero _)) (fun _ _ => rfl) (fun _ _ => rfl) rfl
theorem qat_0 (on ot : Nat → Int32) (h : Nat) : qat on ot 0 h = 0 := rfl
/-- at the text's first token all is empty on both sides -/
theorem sr_0 {n : Nat} {sC sM s t s' t' : Sg} (h : TkRel n sC sM) (h0 : sM.1 0 18 = 0) (c : ClrC sC s) (m : ClrM sM t) (es : s' = pI (pI s 8 3 0) 8 4 0) (et : t' = pI t 0 20 0) : SR n s' t' := by
  obtain ⟨⟨a61, b12, b13, b14, b15, b16, b17, b18, b19⟩, ⟨⟨g67, g68, g69, g70, g71⟩, g53⟩, g54, kc, k2⟩ := c
  obtain ⟨m1, m2, m3, m4⟩ := m
  have ek : ∀ c, ¬ c = 8 → s'.1 c = s.1 c := fun c hc => by rw [es, pI_o _ _ _ _ _ hc, pI_o _ _ _ _ _ hc]
  have M : ∀ k, k < 480 → mN t' k = if k = 11 then -1 else if k = 13 then 5 else 0 := fun k hk => by
    show t'.1 1 (1920 + k) = _
    rw [et, q_nc rfl]
    exact m1 k hk
  have M0 : ∀ k, k < 480 → ¬ k = 11 → ¬ k = 13 → mN t' k = 0 := fun k h1 h2 h3 => by rw [M k h1, if_neg h2, if_neg h3]
  have e0 : (0 : Int32).toInt = 0 := rfl
  have tk : TkRel n s' t' := by
    have c1 : s'.1 1 = sC.1 1 := by rw [ek 1 (by decide), kc 1 (by decide)]
    have c7 : s'.1 7 = sC.1 7 := by rw [ek 7 (by decide), kc 7 (by decide)]
    have c2 : s'.2 = sC.2 := by rw [es]; exact k2
    have t7 : t'.1 7 = sM.1 7 := by rw [et, pI_o _ _ _ _ _ (by decide), m3 7 (by decide)]
    have t0 : ∀ k, ¬ k = 20 → t'.1 0 k = sM.1 0 k := fun k hk => by rw [et, pI_1, if_neg (fun z => hk z.2), m3 0 (by decide)]
    have by7 : byM t' = byM sM := by unfold byM; rw [t7]
    unfold TkRel TkA TkM KindC KindM at h ⊢
    rw [c1, c7, c2, t0 11 (by decide), t0 12 (by decide), t0 13 (by decide), t0 14 (by decide), t0 15 (by decide), by7]
    exact h
  have cn0 : ∀ q, cnN t' q = 0 := fun q => by
    unfold cnN
    by_cases z : q < 4
    · rw [if_pos z, show t'.1 1 (1920 + q) = mN t' q from rfl, M0 q (by omega) (by omega) (by omega)]
      rfl
    · rw [if_neg z]
  refine ⟨⟨tk, ?_, ?_⟩, ?_, ?_, ?_⟩
  · rw [et, q_ne rfl, m3 0 (by decide)]
    exact h0
  · unfold ToldS
    rw [et, q_eq, es, q_ne rfl, q_eq, q_eq]
    exact ⟨by decide, Or.inl rfl, Or.inl rfl⟩
  · unfold PlanS PlanA
    rw [M0 0 (by decide) (by decide) (by decide), M0 1 (by decide) (by decide) (by decide), M0 2 (by decide) (by decide) (by decide), M0 3 (by decide) (by decide) (by decide), M0 9 (by decide) (by decide) (by decide), M0 14 (by decide) (by decide) (by decide), M 13 (by decide), if_neg (show ¬ 13 = 11 by decide), if_pos (show 13 = 13 from rfl), ek 52 (by decide), b13, b14, b15, b16, b17, b18, b19, e0]
    refine ⟨⟨by decide, rfl, rfl, rfl⟩, ⟨by decide, by decide, by decide, by decide⟩, ⟨rfl, rfl, rfl⟩, fun q hq => absurd hq (by omega), fun x hx => ?_, fun q hq => absurd hq (by omega), fun q hq => absurd hq (by omega)⟩
    rw [ek 61 (by decide), a61 x hx]
    rfl
  · unfold GrS GrA
    rw [ek 67 (by decide), ek 68 (by decide), ek 69 (by decide), ek 70 (by decide), ek 71 (by decide), ek 53 (by decide)]
    refine ⟨fun x hx => ?_, fun g hg => ?_, fun q hq => ?_, g53, ?_, fun g hg _ => M0 _ (by omega) (by omega) (by omega)⟩
    · rw [M0 _ (by omega) (by omega) (by omega), M0 _ (by omega) (by omega) (by omega), M0 _ (by omega) (by omega) (by omega)]
      exact ⟨g67 x hx, g68 x hx, g69 x hx, rfl⟩
    · rw [M0 _ (by omega) (by omega) (by omega)]
      exact g71 g hg
    · rw [M0 _ (by omega) (by omega) (by omega), M0 _ (by omega) (by omega) (by omega)]
      exact ⟨g70 q hq, rfl, rfl⟩
    · rw [M0 4 (by decide) (by decide) (by decide), M0 5 (by decide) (by decide) (by decide), M0 6 (by decide) (by decide) (by decide), M0 7 (by decide) (by decide) (by decide), M0 8 (by decide) (by decide) (by decide), M0 10 (by decide) (by decide) (by decide), M 11 (by decide), if_pos (show 11 = 11 from rfl), M0 12 (by decide) (by decide) (by decide)]
      exact ⟨rfl, rfl, rfl, rfl, rfl, rfl, rfl, rfl⟩
  · unfold NmS
    refine ⟨0, by rw [ek 52 (by decide), b12]; rfl, ?_⟩
    refine ⟨by rw [cn0, cn0, cn0, cn0], fun i hi => absurd hi (Nat.not_lt_zero _), fun q j _ hj => ?_, fun i i' hi => absurd hi (Nat.not_lt_zero _)⟩
    rw [cn0] at hj
    exact absurd hj (Nat.not_lt_zero _)
/-- a byte of the tape and of the text -/
theorem by_nar (x : Int32) : (vp_nar .byte x) &&& 255 = x &&& 255 := by
  show x.toInt8.toInt32 &&& 255 = x &&& 255
  apply Int32.toBitVec_inj.mp
  rw [Int32.toBitVec_and, Int32.toBitVec_and]
  have e : (x.toInt8.toInt32).toBitVec = (x.toBitVec.signExtend 8).signExtend 32 := rfl
  rw [e]
  have h255 : ∀ i, i < 32 → ((255 : Int32).toBitVec).getLsbD i = decide (i < 8) := by decide
  apply BitVec.eq_of_getLsbD_eq
  intro i hi
  rw [BitVec.getLsbD_and, BitVec.getLsbD_and, h255 i hi]
  by_cases h8 : i < 8
  · rw [BitVec.getLsbD_signExtend, if_pos h8, BitVec.getLsbD_signExtend, if_pos hi]
    simp [h8, hi]
  · simp [h8]
theorem adv_p {n en : Nat} {sC sM : Sg} (ha : TkA (sC.1 1) n sC) (hm : TkM n sM) (hb : ∀ i, i < n → sC.1 1 i = byM sM i) (p2 : (sC.1 7 2).toInt = (en : Int)) (p4 : (sM.1 0 14).toInt = (en : Int)) (l3 : en ≤ n) : RQ (f_X7_advance sC) (f_X12_ahead sM) (fun _ s _ t => StT n sC sM s t) := by
  intro a s b t q1 q2
  have c := adv_c (sC.1 1) n en ha p2 l3 a s q1
  have m := ahd_m n en hm p4 l3 b t q2
  obtain ⟨ca, st1, en1, c1, c2, c3, c4, c5⟩ := c
  obtain ⟨mk, st2, en2, m1, m2, m3, m4, m5⟩ := m
  have hb' : ∀ i, i < n → byM sM i = sC.1 1 i := fun i hi => (hb i hi).symm
  have m1 := toks_c hb' m1
  have e1 := toks_u c1 m1
  subst e1
  have m2' := toke_c hb' m2
  have e2 := toke_u c2 m2'
  subst e2
  have le := toke_le c2
  have ea := ca.1
  refine ⟨⟨st1, en1, ⟨⟨rfl, ca.2.1, ca.2.2⟩, km0_t mk hm, fun i hi => ?_⟩, ⟨c1.2.1, le.1, le.2⟩, ⟨c3, c4, m3, m4⟩, ?_, ?_, ?_⟩, fr_up (ft_X7_advance sC a s q1) rfl, fr_up (ft_X12_ahead sM b t q2) rfl, ?_⟩
  · rw [ea, km0_b mk]
    exact hb i hi
  · rw [ea]; exact c2
  · rw [ea]; exact c5
  · rw [ea]; exact kindm_c hb' le.2 m5
  · have := c1.1
    omega
theorem ltm_b : ∀ c, c < 20 → LTM.testBit c = false := by decide
/-- the text begins: the tape's bytes come over, the first token is read -/
theorem beg_r {α β : Type} {n : Nat} {a1 : Int32} {sC : Sg} (hn : a1.toInt = (n : Int)) (ha : TkA (sC.1 1) n sC) (p2 : sC.1 7 2 = 0) {KC : Unit → Sg → Option (α × Sg)} {KM : Int32 → Sg → Option (β × Sg)} {R : α → Sg → β → Sg → Prop} (t0 : Sg) (tb : ∀ i, i < n → sC.1 1 i = t0.1 6 i &&& 255) (hk : ∀ s t, TkRel n s t → t.1 0 18 = 0 → Fr cC LTC sC s → (∀ c, c < 20 → ¬ c = 0 → ¬ c = 7 → t.1 c = t0.1 c) → (∀ c, c < 20 → ¬ c = 0 → t.2 c = t0.2 c) → t.1 0 17 = -1 → RQ (KC () s) (KM 1 t) R) (m : Nat) : ∀ (i : Nat) (v3 : Int32) (sM : Sg), v3.toInt = (i : Int) → i ≤ n → (∀ k, k < i → sM.1 7 k &&& 255 = t0.1 6 k &&& 255) → (sM.1 0 11).toInt = (n : Int) → (∀ c, ¬ c = 0 → ¬ c = 7 → sM.1 c = t0.1 c) → sM.2 = t0.2 → RQ (bd (f_X7_advance sC) KC) (bd (f_X12_begins_b26 m a1 v3 sM) KM) R := by
  induction m with
  | zero => intro i v3 sM _ _ _ _ _ _; exact rq_0
  | succ m ih =>
    intro i v3 sM h3 hi hb h11 hc h2
    have n9 := ha.2.2
    have e1 : (1 : Int32).toInt = 1 := rfl
    have e0 : (0 : Int32).toInt = 0 := rfl
    have cl := cl_nat v3
    have d : v3.toNatClampNeg = i := by omega
    have a3 : (v3 + 1).toInt = v3.toInt + 1 := i_addx v3 1 (by omega)
    unfold f_X12_begins_b26
    refine rm_i (fun c => rm_n (fun t1 g1 => rm_b ?_)) (fun c => rm_c (fun _ => rm_n (fun t5 g5 => ?_)))
    · have c := i_le c
      have q : i = n := by omega
      subst q
      have z11 : (pI (pI t1 0 14 0) 0 19 0).1 0 11 = sM.1 0 11 := by
        rw [q_ne rfl, q_ne rfl, g1, q_ne rfl, q_ne rfl, q_ne rfl]
      have zc : ∀ c, ¬ c = 0 → (pI (pI t1 0 14 0) 0 19 0).1 c = sM.1 c := fun c hc' => by
        rw [pI_o _ _ _ _ _ hc', pI_o _ _ _ _ _ hc', g1, pI_o _ _ _ _ _ hc', pI_o _ _ _ _ _ hc', pI_o _ _ _ _ _ hc']
      have z18 : (pI (pI t1 0 14 0) 0 19 0).1 0 18 = 0 := by rw [q_ne rfl, q_ne rfl, g1, q_ne rfl, q_eq]
      have z17 : (pI (pI t1 0 14 0) 0 19 0).1 0 17 = -1 := by rw [q_ne rfl, q_ne rfl, g1, q_eq]
      have z14 : (pI (pI t1 0 14 0) 0 19 0).1 0 14 = 0 := by rw [q_ne rfl, q_eq]
      have z2 : (pI (pI t1 0 14 0) 0 19 0).2 = sM.2 := by rw [g1]; rfl
      generalize pI (pI t1 0 14 0) 0 19 0 = t2 at z11 zc z18 z17 z14 z2 ⊢
      refine rq_b2 (adv_p (en := 0) ha ⟨by rw [z11]; exact h11, n9⟩ (fun k hk => ?_) (by rw [p2]; rfl) (by rw [z14]; rfl) (Nat.zero_le _)) (fun _ s _ t w => rm_s ?_)
      · show _ = t2.1 7 k &&& 255
        rw [zc 7 (by decide), hb k hk]
        exact tb k hk
      · have g := w.2.2.1
        have cd : ∀ c k, ¬ c = 0 → cdN c k = c := fun c k y => by unfold cdN; rw [if_neg y]
        refine hk s t w.1 ?_ w.2.1 (fun c y y1 y2 => ?_) (fun c y y1 => ?_) ?_
        · rw [fr_e g 0 18 38 rfl rfl]; exact z18
        · have q : t.1 c = t2.1 c := funext fun k => (g c k (by rw [cd c k y1]; exact ltm_b c y)).1
          rw [q, zc c y1, hc c y1 y2]
        · have q : t.2 c = t2.2 c := funext fun k => (g c k (by rw [cd c k y1]; exact ltm_b c y)).2
          rw [q, z2, h2]
        · rw [fr_e g 0 17 37 rfl rfl]; exact z17
    · have c := i_nle c
      rw [d] at g5
      refine ih (i + 1) (v3 + 1) t5 (by omega) (by omega) (fun k hk => ?_) ?_ (fun c y1 y2 => ?_) ?_
      · rw [g5, pI_1]
        by_cases z : k = i
        · rw [if_pos ⟨rfl, z⟩, by_nar, z, hc 6 (by decide) (by decide)]
        · rw [if_neg (fun y => z y.2)]
          exact hb k (by omega)
      · rw [g5, q_nc rfl]; exact h11
      · rw [g5, pI_o _ _ _ _ _ y2]
        exact hc c y1 y2
      · rw [g5]; exact h2
