/-! copies of worlds: the reference's -/
def CpJ {α : Type} (sp dp i : Nat) (f0 f : Nat → α) : Prop := (∀ k, k < i → f (dp + k) = f0 (sp + k)) ∧ (∀ p, ¬ (dp ≤ p ∧ p < dp + i) → f p = f0 p)
theorem cpj_0 {α : Type} {sp dp : Nat} {f : Nat → α} : CpJ sp dp 0 f f := ⟨fun _ h => absurd h (Nat.not_lt_zero _), fun _ _ => rfl⟩
theorem cpj_s {α : Type} {sp dp N i : Nat} {f0 f f' : Nat → α} (h : CpJ sp dp i f0 f) (hd : sp + N ≤ dp ∨ dp + N ≤ sp) (hi : i < N) (e : ∀ p, f' p = if p = dp + i then f (sp + i) else f p) : CpJ sp dp (i + 1) f0 f' := by
  refine ⟨fun k hk => ?_, fun p hp => ?_⟩
  · rw [e]
    by_cases z : k = i
    · rw [if_pos (by omega), h.2 (sp + i) (by omega), z]
    · rw [if_neg (by omega)]
      exact h.1 k (by omega)
  · rw [e, if_neg (by omega)]
    exact h.2 p (by omega)
theorem pI_o (s : Sg) (c k : Nat) (v : Int32) (c' : Nat) (h : ¬ c' = c) : (pI s c k v).1 c' = s.1 c' := funext fun k' => by rw [pI_1, if_neg (fun z => h z.1)]
theorem pL_o (s : Sg) (c k : Nat) (v : Int64) (c' : Nat) (h : ¬ c' = c) : (pL s c k v).2 c' = s.2 c' := funext fun k' => by rw [pL_2, if_neg (fun z => h z.1)]
/-- both rows of a slot copied, all else kept -/
def CpM (j1 j2 : Nat) (s0 s : Sg) : Prop := CpJ (480 * j1) (480 * j2) 480 (s0.1 1) (s.1 1) ∧ CpJ (24 * j1) (24 * j2) 24 (s0.2 2) (s.2 2) ∧ (∀ c, ¬ c = 1 → s.1 c = s0.1 c) ∧ (∀ c, ¬ c = 2 → s.2 c = s0.2 c)
theorem cm_41 (v1 v2 : Int32) (j1 j2 : Nat) (h1 : v1.toInt = (j1 : Int)) (h2 : v2.toInt = (j2 : Int)) (b1 : j1 ≤ 4) (b2 : j2 ≤ 4) (hd : ¬ j1 = j2) (s0 : Sg) (m : Nat) : ∀ (i : Nat) (v3 : Int32) (s : Sg), v3.toInt = (i : Int) → i ≤ 24 → CpJ (24 * j1) (24 * j2) i (s0.2 2) (s.2 2) → s.1 = s0.1 → (∀ c, ¬ c = 2 → s.2 c = s0.2 c) → PQ (f_X12_copies_b41 m v1 v2 v3 s) (fun _ s9 => CpJ (24 * j1) (24 * j2) 24 (s0.2 2) (s9.2 2) ∧ s9.1 = s0.1 ∧ (∀ c, ¬ c = 2 → s9.2 c = s0.2 c)) := by
  induction m with
  | zero => intro i v3 s _ _ _ _ _ r s9 e; cases e
  | succ m ih =>
    intro i v3 s h3 hi hc e1 e2
    have e24 : (24 : Int32).toInt = 24 := rfl
    have eo : (1 : Int32).toInt = 1 := rfl
    have a3 : (v3 + 1).toInt = v3.toInt + 1 := i_addx v3 1 (by omega)
    have m1 : (24 * v1).toInt = 24 * v1.toInt := i_mulx 24 v1 (show -2147483648 ≤ 24 * v1.toInt ∧ 24 * v1.toInt ≤ 2147483647 from by omega)
    have m2 : (24 * v2).toInt = 24 * v2.toInt := i_mulx 24 v2 (show -2147483648 ≤ 24 * v2.toInt ∧ 24 * v2.toInt ≤ 2147483647 from by omega)
    have x1 : (24 * v1 + v3).toInt = (24 * v1).toInt + v3.toInt := i_addx _ _ (by omega)
    have x2 : (24 * v2 + v3).toInt = (24 * v2).toInt + v3.toInt := i_addx _ _ (by omega)
    have k1 := cl_nat (24 * v1 + v3)
    have k2 := cl_nat (24 * v2 + v3)
    have d1 : (24 * v1 + v3).toNatClampNeg = 24 * j1 + i := by omega
    have d2 : (24 * v2 + v3).toNatClampNeg = 24 * j2 + i := by omega
    unfold f_X12_copies_b41
    refine pq_if (fun c => ?_) (fun c => pq_c (fun _ => pq_c (fun _ => pq_n (fun s3 es => ?_))))
    · have c := i_le c
      have q : i = 24 := by omega
      subst q
      exact pq_s ⟨hc, e1, e2⟩
    · have c := i_nle c
      rw [d1, d2] at es
      refine ih (i + 1) (v3 + 1) s3 (by omega) (by omega) (cpj_s (N := 24) hc (by omega) (by omega) (fun p => ?_)) ?_ (fun c hc' => ?_)
      · rw [es, pL_2]
        by_cases z : p = 24 * j2 + i
        · rw [if_pos ⟨rfl, z⟩, if_pos z]
        · rw [if_neg (fun y => z y.2), if_neg z]
      · rw [es]; exact e1
      · rw [es, pL_o _ _ _ _ _ hc']
        exact e2 c hc'
theorem cm_2 (v1 v2 : Int32) (j1 j2 : Nat) (h1 : v1.toInt = (j1 : Int)) (h2 : v2.toInt = (j2 : Int)) (b1 : j1 ≤ 4) (b2 : j2 ≤ 4) (hd : ¬ j1 = j2) (s0 : Sg) (m : Nat) : ∀ (i : Nat) (v3 : Int32) (s : Sg), v3.toInt = (i : Int) → i ≤ 480 → CpJ (480 * j1) (480 * j2) i (s0.1 1) (s.1 1) → (∀ c, ¬ c = 1 → s.1 c = s0.1 c) → s.2 = s0.2 → PQ (f_X12_copies_b2 m v1 v2 v3 s) (fun _ s9 => CpM j1 j2 s0 s9) := by
  induction m with
  | zero => intro i v3 s _ _ _ _ _ r s9 e; cases e
  | succ m ih =>
    intro i v3 s h3 hi hc e1 e2
    have e480 : (480 : Int32).toInt = 480 := rfl
    have eo : (1 : Int32).toInt = 1 := rfl
    have a3 : (v3 + 1).toInt = v3.toInt + 1 := i_addx v3 1 (by omega)
    have m1 : (480 * v1).toInt = 480 * v1.toInt := i_mulx 480 v1 (show -2147483648 ≤ 480 * v1.toInt ∧ 480 * v1.toInt ≤ 2147483647 from by omega)
    have m2 : (480 * v2).toInt = 480 * v2.toInt := i_mulx 480 v2 (show -2147483648 ≤ 480 * v2.toInt ∧ 480 * v2.toInt ≤ 2147483647 from by omega)
    have x1 : (480 * v1 + v3).toInt = (480 * v1).toInt + v3.toInt := i_addx _ _ (by omega)
    have x2 : (480 * v2 + v3).toInt = (480 * v2).toInt + v3.toInt := i_addx _ _ (by omega)
    have k1 := cl_nat (480 * v1 + v3)
    have k2 := cl_nat (480 * v2 + v3)
    have d1 : (480 * v1 + v3).toNatClampNeg = 480 * j1 + i := by omega
    have d2 : (480 * v2 + v3).toNatClampNeg = 480 * j2 + i := by omega
    unfold f_X12_copies_b2
    refine pq_if (fun c => ?_) (fun c => pq_c (fun _ => pq_c (fun _ => pq_n (fun s3 es => ?_))))
    · have c := i_le c
      have q : i = 480 := by omega
      subst q
      refine pq_w (cm_41 v1 v2 j1 j2 h1 h2 b1 b2 hd s BIG 0 0 s rfl (Nat.zero_le _) cpj_0 rfl (fun _ _ => rfl)) (fun _ s9 g => ?_)
      obtain ⟨g1, g2, g3⟩ := g
      refine ⟨by rw [g2]; exact hc, by rw [← e2]; exact g1, fun c hc' => by rw [g2]; exact e1 c hc', fun c hc' => by rw [g3 c hc', e2]⟩
    · have c := i_nle c
      rw [d1, d2] at es
      refine ih (i + 1) (v3 + 1) s3 (by omega) (by omega) (cpj_s (N := 480) hc (by omega) (by omega) (fun p => ?_)) (fun c hc' => ?_) ?_
      · rw [es, pI_1]
        by_cases z : p = 480 * j2 + i
        · rw [if_pos ⟨rfl, z⟩, if_pos z]
        · rw [if_neg (fun y => z y.2), if_neg z]
      · rw [es, pI_o _ _ _ _ _ hc']
        exact e1 c hc'
      · rw [es]; exact e2
theorem copies_m (v1 v2 : Int32) (j1 j2 : Nat) (h1 : v1.toInt = (j1 : Int)) (h2 : v2.toInt = (j2 : Int)) (b1 : j1 ≤ 4) (b2 : j2 ≤ 4) (hd : ¬ j1 = j2) (s : Sg) : PQ (f_X12_copies v1 v2 s) (fun _ s9 => CpM j1 j2 s s9) := by
  unfold f_X12_copies
  exact cm_2 v1 v2 j1 j2 h1 h2 b1 b2 hd s BIG 0 0 s rfl (Nat.zero_le _) cpj_0 (fun _ _ => rfl) rfl
theorem taken_p (a : Int32) (s : Sg) : PQ (f_X12_taken a s) (fun r s9 => ((s.1 0 18).toInt ≤ 0 ∧ r = a ∧ s9 = pI (pI s 0 16 (s.1 0 18)) 0 2 0) ∨ (¬ (s.1 0 18).toInt ≤ 0 ∧ r = -1 ∧ s9 = pI (pI s 0 16 (s.1 0 18)) 0 2 9)) := by
  have e0 : (0 : Int32).toInt = 0 := rfl
  unfold f_X12_taken f_X12_gives f_X12_refuse
  rw [q_ne rfl]
  refine pq_if (fun c => ?_) (fun c => ?_)
  · have c := i_le c
    exact pq_s (Or.inl ⟨by omega, rfl, rfl⟩)
  · have c := i_nle c
    exact pq_s (Or.inr ⟨by omega, rfl, rfl⟩)
theorem swx_90 (s0 : Sg) (m : Nat) : ∀ (i : Nat) (v3 : Int32) (s : Sg), v3.toInt = (i : Int) → i ≤ 24 → CpJ 96 0 i (s0.2 2) (s.2 2) → s.1 = s0.1 → (∀ c, ¬ c = 2 → s.2 c = s0.2 c) → s0.1 0 18 = 0 → PQ (f_X12_street_b90 m v3 s) (fun r s9 => ∃ s', (CpJ 96 0 24 (s0.2 2) (s'.2 2) ∧ s'.1 = s0.1 ∧ (∀ c, ¬ c = 2 → s'.2 c = s0.2 c)) ∧ r = s'.1 1 1 ∧ s9 = pI (pI s' 0 16 (s'.1 0 18)) 0 2 0) := by
  induction m with
  | zero => intro i v3 s _ _ _ _ _ _ r s9 e; cases e
  | succ m ih =>
    intro i v3 s h3 hi hc e1 e2 hz
    have e24 : (24 : Int32).toInt = 24 := rfl
    have e0 : (0 : Int32).toInt = 0 := rfl
    have eo : (1 : Int32).toInt = 1 := rfl
    have e96 : (96 : Int32).toInt = 96 := rfl
    have a3 : (v3 + 1).toInt = v3.toInt + 1 := i_addx v3 1 (by omega)
    have x1 : (96 + v3).toInt = (96 : Int32).toInt + v3.toInt := i_addx _ _ (by omega)
    have k1 := cl_nat (96 + v3)
    have k2 := cl_nat v3
    have d1 : (96 + v3).toNatClampNeg = 96 + i := by omega
    have d2 : v3.toNatClampNeg = 0 + i := by omega
    unfold f_X12_street_b90
    refine pq_if (fun c => ?_) (fun c => pq_c (fun _ => pq_c (fun _ => pq_n (fun s3 es => ?_))))
    · have c := i_le c
      have q : i = 24 := by omega
      subst q
      refine pq_b (taken_p _ s) (fun r s9 g => pq_s ⟨s, ⟨hc, e1, e2⟩, ?_⟩)
      rcases g with g | g
      · exact g.2
      · refine absurd ?_ g.1
        rw [e1, hz, e0]
        exact Int.le_refl 0
    · have c := i_nle c
      rw [d1, d2] at es
      refine ih (i + 1) (v3 + 1) s3 (by omega) (by omega) (cpj_s (N := 24) hc (by omega) (by omega) (fun p => ?_)) ?_ (fun c hc' => ?_) hz
      · rw [es, pL_2]
        by_cases z : p = 0 + i
        · rw [if_pos ⟨rfl, z⟩, if_pos z]
        · rw [if_neg (fun y => z y.2), if_neg z]
      · rw [es]; exact e1
      · rw [es, pL_o _ _ _ _ _ hc']
        exact e2 c hc'
theorem swx_59 (s0 : Sg) (hz : s0.1 0 18 = 0) (m : Nat) : ∀ (i : Nat) (v3 : Int32) (s : Sg), v3.toInt = (i : Int) → i ≤ 480 → CpJ 1920 0 i (s0.1 1) (s.1 1) → (∀ c, ¬ c = 1 → s.1 c = s0.1 c) → s.2 = s0.2 → PQ (f_X12_street_b59 m v3 s) (fun r s9 => ∃ s', CpM 4 0 s0 s' ∧ r = s'.1 1 1 ∧ s9 = pI (pI s' 0 16 0) 0 2 0) := by
  induction m with
  | zero => intro i v3 s _ _ _ _ _ r s9 e; cases e
  | succ m ih =>
    intro i v3 s h3 hi hc e1 e2
    have e480 : (480 : Int32).toInt = 480 := rfl
    have eo : (1 : Int32).toInt = 1 := rfl
    have e1920 : (1920 : Int32).toInt = 1920 := rfl
    have a3 : (v3 + 1).toInt = v3.toInt + 1 := i_addx v3 1 (by omega)
    have x1 : (1920 + v3).toInt = (1920 : Int32).toInt + v3.toInt := i_addx _ _ (by omega)
    have k1 := cl_nat (1920 + v3)
    have k2 := cl_nat v3
    have d1 : (1920 + v3).toNatClampNeg = 1920 + i := by omega
    have d2 : v3.toNatClampNeg = 0 + i := by omega
    unfold f_X12_street_b59
    refine pq_if (fun c => ?_) (fun c => pq_c (fun _ => pq_c (fun _ => pq_n (fun s3 es => ?_))))
    · have c := i_le c
      have q : i = 480 := by omega
      subst q
      have z18 : s.1 0 18 = 0 := by rw [e1 0 (by decide)]; exact hz
      refine pq_w (swx_90 s BIG 0 0 s rfl (Nat.zero_le _) cpj_0 rfl (fun _ _ => rfl) z18) (fun r s9 g => ?_)
      obtain ⟨s', ⟨g1, g2, g3⟩, g4, g5⟩ := g
      refine ⟨s', ⟨by rw [g2]; exact hc, by rw [← e2]; exact g1, fun c hc' => by rw [g2]; exact e1 c hc', fun c hc' => by rw [g3 c hc', e2]⟩, g4, ?_⟩
      rw [g5, g2, z18]
    · have c := i_nle c
      rw [d1, d2] at es
      refine ih (i + 1) (v3 + 1) s3 (by omega) (by omega) (cpj_s (N := 480) hc (by omega) (by omega) (fun p => ?_)) (fun c hc' => ?_) ?_
      · rw [es, pI_1]
        by_cases z : p = 0 + i
        · rw [if_pos ⟨rfl, z⟩, if_pos z]
        · rw [if_neg (fun y => z y.2), if_neg z]
      · rw [es, pI_o _ _ _ _ _ hc']
        exact e1 c hc'
      · rw [es]; exact e2
theorem swx_50y (s : Sg) (hz : s.1 0 18 = 0) : PQ (f_X12_street_b50 s) (fun r s9 => ∃ s', CpM 4 0 s s' ∧ r = s'.1 1 1 ∧ s9 = pI (pI s' 0 16 0) 0 2 0) := by
  unfold f_X12_street_b50
  rw [if_pos hz]
  exact swx_59 s hz BIG 0 0 s rfl (Nat.zero_le _) cpj_0 (fun _ _ => rfl) rfl
theorem swx_50n (s : Sg) (hz : ¬ s.1 0 18 = 0) (hp : 0 ≤ (s.1 0 18).toInt) : PQ (f_X12_street_b50 s) (fun r s9 => r = -1 ∧ s9 = pI (pI s 0 16 (s.1 0 18)) 0 2 9) := by
  unfold f_X12_street_b50
  rw [if_neg hz]
  refine pq_b (taken_p _ s) (fun r s9 g => pq_s ?_)
  have e0 : (0 : Int32).toInt = 0 := rfl
  rcases g with g | g
  · refine absurd (Int32.toInt_inj.mp ?_) hz
    omega
  · exact g.2
/-! texts: a world cleared, a text begun -/
theorem cr_61 (s0 : Sg) (m : Nat) : ∀ (i : Nat) (v1 : Int32) (s : Sg), v1.toInt = (i : Int) → i ≤ 8 → (∀ k, k < i → s.1 61 k = 0) → (∀ c, ¬ c = 61 → s.1 c = s0.1 c) → s.2 = s0.2 → PQ (f_X11_clearRow_61_b2 m v1 s) (fun _ s9 => (∀ k, k < 8 → s9.1 61 k = 0) ∧ (∀ c, ¬ c = 61 → s9.1 c = s0.1 c) ∧ s9.2 = s0.2) := by
  induction m with
  | zero => intro i v1 s _ _ _ _ _ r s9 e; cases e
  | succ m ih =>
    intro i v1 s h1 hi hz hc h2
    have eN : (8 : Int32).toInt = 8 := rfl
    have eo : (1 : Int32).toInt = 1 := rfl
    have cl := cl_nat v1
    have d : v1.toNatClampNeg = i := by omega
    have a1 : (v1 + 1).toInt = v1.toInt + 1 := i_addx v1 1 (by omega)
    unfold f_X11_clearRow_61_b2
    refine pq_if (fun c => ?_) (fun c => pq_c (fun _ => ?_))
    · have c := i_le c
      exact pq_s ⟨fun k hk => hz k (by omega), hc, h2⟩
    · have c := i_nle c
      rw [d]
      refine ih (i + 1) (v1 + 1) _ (by omega) (by omega) (fun k hk => ?_) (fun c hc' => ?_) h2
      · rw [pI_1]
        by_cases z : k = i
        · rw [if_pos ⟨rfl, z⟩]
        · rw [if_neg (fun y => z y.2)]
          exact hz k (by omega)
      · rw [pI_o _ _ _ _ _ hc']
        exact hc c hc'
theorem cl_61 (s : Sg) : PQ (f_X11_clearRow_61 s) (fun _ s9 => (∀ k, k < 8 → s9.1 61 k = 0) ∧ (∀ c, ¬ c = 61 → s9.1 c = s.1 c) ∧ s9.2 = s.2) := by
  unfold f_X11_clearRow_61
  exact cr_61 s BIG 0 0 s rfl (Nat.zero_le _) (fun _ h => absurd h (Nat.not_lt_zero _)) (fun _ _ => rfl) rfl
theorem cr_67 (s0 : Sg) (m : Nat) : ∀ (i : Nat) (v1 : Int32) (s : Sg), v1.toInt = (i : Int) → i ≤ 8 → (∀ k, k < i → s.1 67 k = 0) → (∀ c, ¬ c = 67 → s.1 c = s0.1 c) → s.2 = s0.2 → PQ (f_X11_clearRow_67_b2 m v1 s) (fun _ s9 => (∀ k, k < 8 → s9.1 67 k = 0) ∧ (∀ c, ¬ c = 67 → s9.1 c = s0.1 c) ∧ s9.2 = s0.2) := by
  induction m with
  | zero => intro i v1 s _ _ _ _ _ r s9 e; cases e
  | succ m ih =>
    intro i v1 s h1 hi hz hc h2
    have eN : (8 : Int32).toInt = 8 := rfl
    have eo : (1 : Int32).toInt = 1 := rfl
    have cl := cl_nat v1
    have d : v1.toNatClampNeg = i := by omega
    have a1 : (v1 + 1).toInt = v1.toInt + 1 := i_addx v1 1 (by omega)
    unfold f_X11_clearRow_67_b2
    refine pq_if (fun c => ?_) (fun c => pq_c (fun _ => ?_))
    · have c := i_le c
      exact pq_s ⟨fun k hk => hz k (by omega), hc, h2⟩
    · have c := i_nle c
      rw [d]
      refine ih (i + 1) (v1 + 1) _ (by omega) (by omega) (fun k hk => ?_) (fun c hc' => ?_) h2
      · rw [pI_1]
        by_cases z : k = i
        · rw [if_pos ⟨rfl, z⟩]
        · rw [if_neg (fun y => z y.2)]
          exact hz k (by omega)
      · rw [pI_o _ _ _ _ _ hc']
        exact hc c hc'
theorem cl_67 (s : Sg) : PQ (f_X11_clearRow_67 s) (fun _ s9 => (∀ k, k < 8 → s9.1 67 k = 0) ∧ (∀ c, ¬ c = 67 → s9.1 c = s.1 c) ∧ s9.2 = s.2) := by
  unfold f_X11_clearRow_67
  exact cr_67 s BIG 0 0 s rfl (Nat.zero_le _) (fun _ h => absurd h (Nat.not_lt_zero _)) (fun _ _ => rfl) rfl
theorem cr_68 (s0 : Sg) (m : Nat) : ∀ (i : Nat) (v1 : Int32) (s : Sg), v1.toInt = (i : Int) → i ≤ 8 → (∀ k, k < i → s.1 68 k = 0) → (∀ c, ¬ c = 68 → s.1 c = s0.1 c) → s.2 = s0.2 → PQ (f_X11_clearRow_68_b2 m v1 s) (fun _ s9 => (∀ k, k < 8 → s9.1 68 k = 0) ∧ (∀ c, ¬ c = 68 → s9.1 c = s0.1 c) ∧ s9.2 = s0.2) := by
  induction m with
  | zero => intro i v1 s _ _ _ _ _ r s9 e; cases e
  | succ m ih =>
    intro i v1 s h1 hi hz hc h2
    have eN : (8 : Int32).toInt = 8 := rfl
    have eo : (1 : Int32).toInt = 1 := rfl
    have cl := cl_nat v1
    have d : v1.toNatClampNeg = i := by omega
    have a1 : (v1 + 1).toInt = v1.toInt + 1 := i_addx v1 1 (by omega)
    unfold f_X11_clearRow_68_b2
    refine pq_if (fun c => ?_) (fun c => pq_c (fun _ => ?_))
    · have c := i_le c
      exact pq_s ⟨fun k hk => hz k (by omega), hc, h2⟩
    · have c := i_nle c
      rw [d]
      refine ih (i + 1) (v1 + 1) _ (by omega) (by omega) (fun k hk => ?_) (fun c hc' => ?_) h2
      · rw [pI_1]
        by_cases z : k = i
        · rw [if_pos ⟨rfl, z⟩]
        · rw [if_neg (fun y => z y.2)]
          exact hz k (by omega)
      · rw [pI_o _ _ _ _ _ hc']
        exact hc c hc'
theorem cl_68 (s : Sg) : PQ (f_X11_clearRow_68 s) (fun _ s9 => (∀ k, k < 8 → s9.1 68 k = 0) ∧ (∀ c, ¬ c = 68 → s9.1 c = s.1 c) ∧ s9.2 = s.2) := by
  unfold f_X11_clearRow_68
  exact cr_68 s BIG 0 0 s rfl (Nat.zero_le _) (fun _ h => absurd h (Nat.not_lt_zero _)) (fun _ _ => rfl) rfl
theorem cr_69 (s0 : Sg) (m : Nat) : ∀ (i : Nat) (v1 : Int32) (s : Sg), v1.toInt = (i : Int) → i ≤ 8 → (∀ k, k < i → s.1 69 k = 0) → (∀ c, ¬ c = 69 → s.1 c = s0.1 c) → s.2 = s0.2 → PQ (f_X11_clearRow_69_b2 m v1 s) (fun _ s9 => (∀ k, k < 8 → s9.1 69 k = 0) ∧ (∀ c, ¬ c = 69 → s9.1 c = s0.1 c) ∧ s9.2 = s0.2) := by
  induction m with
  | zero => intro i v1 s _ _ _ _ _ r s9 e; cases e
  | succ m ih =>
    intro i v1 s h1 hi hz hc h2
    have eN : (8 : Int32).toInt = 8 := rfl
    have eo : (1 : Int32).toInt = 1 := rfl
    have cl := cl_nat v1
    have d : v1.toNatClampNeg = i := by omega
    have a1 : (v1 + 1).toInt = v1.toInt + 1 := i_addx v1 1 (by omega)
    unfold f_X11_clearRow_69_b2
    refine pq_if (fun c => ?_) (fun c => pq_c (fun _ => ?_))
    · have c := i_le c
      exact pq_s ⟨fun k hk => hz k (by omega), hc, h2⟩
    · have c := i_nle c
      rw [d]
      refine ih (i + 1) (v1 + 1) _ (by omega) (by omega) (fun k hk => ?_) (fun c hc' => ?_) h2
      · rw [pI_1]
        by_cases z : k = i
        · rw [if_pos ⟨rfl, z⟩]
        · rw [if_neg (fun y => z y.2)]
          exact hz k (by omega)
      · rw [pI_o _ _ _ _ _ hc']
        exact hc c hc'
theorem cl_69 (s : Sg) : PQ (f_X11_clearRow_69 s) (fun _ s9 => (∀ k, k < 8 → s9.1 69 k = 0) ∧ (∀ c, ¬ c = 69 → s9.1 c = s.1 c) ∧ s9.2 = s.2) := by
  unfold f_X11_clearRow_69
  exact cr_69 s BIG 0 0 s rfl (Nat.zero_le _) (fun _ h => absurd h (Nat.not_lt_zero _)) (fun _ _ => rfl) rfl
theorem cr_70 (s0 : Sg) (m : Nat) : ∀ (i : Nat) (v1 : Int32) (s : Sg), v1.toInt = (i : Int) → i ≤ 8 → (∀ k, k < i → s.1 70 k = 0) → (∀ c, ¬ c = 70 → s.1 c = s0.1 c) → s.2 = s0.2 → PQ (f_X11_clearRow_70_b2 m v1 s) (fun _ s9 => (∀ k, k < 8 → s9.1 70 k = 0) ∧ (∀ c, ¬ c = 70 → s9.1 c = s0.1 c) ∧ s9.2 = s0.2) := by
  induction m with
  | zero => intro i v1 s _ _ _ _ _ r s9 e; cases e
  | succ m ih =>
    intro i v1 s h1 hi hz hc h2
    have eN : (8 : Int32).toInt = 8 := rfl
    have eo : (1 : Int32).toInt = 1 := rfl
    have cl := cl_nat v1
    have d : v1.toNatClampNeg = i := by omega
    have a1 : (v1 + 1).toInt = v1.toInt + 1 := i_addx v1 1 (by omega)
    unfold f_X11_clearRow_70_b2
    refine pq_if (fun c => ?_) (fun c => pq_c (fun _ => ?_))
    · have c := i_le c
      exact pq_s ⟨fun k hk => hz k (by omega), hc, h2⟩
    · have c := i_nle c
      rw [d]
      refine ih (i + 1) (v1 + 1) _ (by omega) (by omega) (fun k hk => ?_) (fun c hc' => ?_) h2
      · rw [pI_1]
        by_cases z : k = i
        · rw [if_pos ⟨rfl, z⟩]
        · rw [if_neg (fun y => z y.2)]
          exact hz k (by omega)
      · rw [pI_o _ _ _ _ _ hc']
        exact hc c hc'
theorem cl_70 (s : Sg) : PQ (f_X11_clearRow_70 s) (fun _ s9 => (∀ k, k < 8 → s9.1 70 k = 0) ∧ (∀ c, ¬ c = 70 → s9.1 c = s.1 c) ∧ s9.2 = s.2) := by
  unfold f_X11_clearRow_70
  exact cr_70 s BIG 0 0 s rfl (Nat.zero_le _) (fun _ h => absurd h (Nat.not_lt_zero _)) (fun _ _ => rfl) rfl
theorem cr_71 (s0 : Sg) (m : Nat) : ∀ (i : Nat) (v1 : Int32) (s : Sg), v1.toInt = (i : Int) → i ≤ 4 → (∀ k, k < i → s.1 71 k = 0) → (∀ c, ¬ c = 71 → s.1 c = s0.1 c) → s.2 = s0.2 → PQ (f_X11_clearRow_71_b2 m v1 s) (fun _ s9 => (∀ k, k < 4 → s9.1 71 k = 0) ∧ (∀ c, ¬ c = 71 → s9.1 c = s0.1 c) ∧ s9.2 = s0.2) := by
  induction m with
  | zero => intro i v1 s _ _ _ _ _ r s9 e; cases e
  | succ m ih =>
    intro i v1 s h1 hi hz hc h2
    have eN : (4 : Int32).toInt = 4 := rfl
    have eo : (1 : Int32).toInt = 1 := rfl
    have cl := cl_nat v1
    have d : v1.toNatClampNeg = i := by omega
    have a1 : (v1 + 1).toInt = v1.toInt + 1 := i_addx v1 1 (by omega)
    unfold f_X11_clearRow_71_b2
    refine pq_if (fun c => ?_) (fun c => pq_c (fun _ => ?_))
    · have c := i_le c
      exact pq_s ⟨fun k hk => hz k (by omega), hc, h2⟩
    · have c := i_nle c
      rw [d]
      refine ih (i + 1) (v1 + 1) _ (by omega) (by omega) (fun k hk => ?_) (fun c hc' => ?_) h2
      · rw [pI_1]
        by_cases z : k = i
        · rw [if_pos ⟨rfl, z⟩]
        · rw [if_neg (fun y => z y.2)]
          exact hz k (by omega)
      · rw [pI_o _ _ _ _ _ hc']
        exact hc c hc'
theorem cl_71 (s : Sg) : PQ (f_X11_clearRow_71 s) (fun _ s9 => (∀ k, k < 4 → s9.1 71 k = 0) ∧ (∀ c, ¬ c = 71 → s9.1 c = s.1 c) ∧ s9.2 = s.2) := by
  unfold f_X11_clearRow_71
  exact cr_71 s BIG 0 0 s rfl (Nat.zero_le _) (fun _ h => absurd h (Nat.not_lt_zero _)) (fun _ _ => rfl) rfl
theorem cr_20 (s0 : Sg) (m : Nat) : ∀ (i : Nat) (v1 : Int32) (s : Sg), v1.toInt = (i : Int) → i ≤ 8 → (∀ k, k < i → s.1 20 k = 0) → (∀ c, ¬ c = 20 → s.1 c = s0.1 c) → s.2 = s0.2 → PQ (f_X11_clearRow_20_b2 m v1 s) (fun _ s9 => (∀ k, k < 8 → s9.1 20 k = 0) ∧ (∀ c, ¬ c = 20 → s9.1 c = s0.1 c) ∧ s9.2 = s0.2) := by
  induction m with
  | zero => intro i v1 s _ _ _ _ _ r s9 e; cases e
  | succ m ih =>
    intro i v1 s h1 hi hz hc h2
    have eN : (8 : Int32).toInt = 8 := rfl
    have eo : (1 : Int32).toInt = 1 := rfl
    have cl := cl_nat v1
    have d : v1.toNatClampNeg = i := by omega
    have a1 : (v1 + 1).toInt = v1.toInt + 1 := i_addx v1 1 (by omega)
    unfold f_X11_clearRow_20_b2
    refine pq_if (fun c => ?_) (fun c => pq_c (fun _ => ?_))
    · have c := i_le c
      exact pq_s ⟨fun k hk => hz k (by omega), hc, h2⟩
    · have c := i_nle c
      rw [d]
      refine ih (i + 1) (v1 + 1) _ (by omega) (by omega) (fun k hk => ?_) (fun c hc' => ?_) h2
      · rw [pI_1]
        by_cases z : k = i
        · rw [if_pos ⟨rfl, z⟩]
        · rw [if_neg (fun y => z y.2)]
          exact hz k (by omega)
      · rw [pI_o _ _ _ _ _ hc']
        exact hc c hc'
theorem cl_20 (s : Sg) : PQ (f_X11_clearRow_20 s) (fun _ s9 => (∀ k, k < 8 → s9.1 20 k = 0) ∧ (∀ c, ¬ c = 20 → s9.1 c = s.1 c) ∧ s9.2 = s.2) := by
  unfold f_X11_clearRow_20
  exact cr_20 s BIG 0 0 s rfl (Nat.zero_le _) (fun _ h => absurd h (Nat.not_lt_zero _)) (fun _ _ => rfl) rfl
theorem clr_52 (s : Sg) : PQ (f_X4_clear_52 s) (fun _ s9 => (∀ k, k < 8 → s9.1 61 k = 0) ∧ (s9.1 52 12 = 0 ∧ s9.1 52 13 = 0 ∧ s9.1 52 14 = 0 ∧ s9.1 52 15 = 0 ∧ s9.1 52 16 = 0 ∧ s9.1 52 17 = 0 ∧ s9.1 52 18 = 5 ∧ s9.1 52 19 = 0) ∧ (∀ c, ¬ c = 52 → ¬ c = 61 → s9.1 c = s.1 c) ∧ s9.2 = s.2) := by
  unfold f_X4_clear_52
  refine pq_b (cl_61 s) (fun _ s2 g => pq_n (fun s3 e3 => pq_n (fun s4 e4 => pq_s ?_)))
  obtain ⟨g1, g2, g3⟩ := g
  rw [e4, e3]
  refine ⟨fun k hk => ?_, ⟨by rw [q_ne rfl, q_ne rfl, q_ne rfl, q_ne rfl, q_ne rfl, q_ne rfl, q_ne rfl, q_eq], by rw [q_ne rfl, q_ne rfl, q_ne rfl, q_ne rfl, q_ne rfl, q_ne rfl, q_eq], by rw [q_ne rfl, q_ne rfl, q_ne rfl, q_ne rfl, q_ne rfl, q_eq], by rw [q_ne rfl, q_ne rfl, q_ne rfl, q_ne rfl, q_eq], by rw [q_ne rfl, q_ne rfl, q_ne rfl, q_eq], by rw [q_ne rfl, q_ne rfl, q_eq], by rw [q_ne rfl, q_eq], by rw [q_eq]⟩, fun c h1 h2 => ?_, g3⟩
  · rw [q_nc rfl, q_nc rfl, q_nc rfl, q_nc rfl, q_nc rfl, q_nc rfl, q_nc rfl, q_nc rfl]
    exact g1 k hk
  · rw [pI_o _ _ _ _ _ h1, pI_o _ _ _ _ _ h1, pI_o _ _ _ _ _ h1, pI_o _ _ _ _ _ h1, pI_o _ _ _ _ _ h1, pI_o _ _ _ _ _ h1, pI_o _ _ _ _ _ h1, pI_o _ _ _ _ _ h1]
    exact g2 c h2
theorem clr_53 (s : Sg) : PQ (f_X2_clear_53 s) (fun _ s9 => ((∀ k, k < 8 → s9.1 67 k = 0) ∧ (∀ k, k < 8 → s9.1 68 k = 0) ∧ (∀ k, k < 8 → s9.1 69 k = 0) ∧ (∀ k, k < 8 → s9.1 70 k = 0) ∧ (∀ k, k < 4 → s9.1 71 k = 0)) ∧ (∀ k, 5 ≤ k → k ≤ 12 → s9.1 53 k = 0) ∧ (∀ c, ¬ c = 53 → ¬ (67 ≤ c ∧ c ≤ 71) → s9.1 c = s.1 c) ∧ s9.2 = s.2) := by
  unfold f_X2_clear_53
  refine pq_b (cl_67 s) (fun _ s2 g => pq_b (cl_68 s2) (fun _ s4 h => pq_b (cl_69 s4) (fun _ s6 a => pq_b (cl_70 s6) (fun _ s8 b => pq_b (cl_71 s8) (fun _ s10 c => pq_n (fun s11 e11 => pq_n (fun s12 e12 => pq_s ?_)))))))
  obtain ⟨g1, g2, g3⟩ := g
  obtain ⟨h1, h2, h3⟩ := h
  obtain ⟨a1, a2, a3⟩ := a
  obtain ⟨b1, b2, b3⟩ := b
  obtain ⟨c1, c2, c3⟩ := c
  rw [e12, e11]
  refine ⟨⟨fun k hk => ?_, fun k hk => ?_, fun k hk => ?_, fun k hk => ?_, fun k hk => ?_⟩, fun k k1 k2 => ?_, fun c y1 y2 => ?_, ?_⟩
  · rw [q_nc rfl, q_nc rfl, q_nc rfl, q_nc rfl, q_nc rfl, q_nc rfl, q_nc rfl, q_nc rfl, c2 67 (by decide), b2 67 (by decide), a2 67 (by decide), h2 67 (by decide)]
    exact g1 k hk
  · rw [q_nc rfl, q_nc rfl, q_nc rfl, q_nc rfl, q_nc rfl, q_nc rfl, q_nc rfl, q_nc rfl, c2 68 (by decide), b2 68 (by decide), a2 68 (by decide)]
    exact h1 k hk
  · rw [q_nc rfl, q_nc rfl, q_nc rfl, q_nc rfl, q_nc rfl, q_nc rfl, q_nc rfl, q_nc rfl, c2 69 (by decide), b2 69 (by decide)]
    exact a1 k hk
  · rw [q_nc rfl, q_nc rfl, q_nc rfl, q_nc rfl, q_nc rfl, q_nc rfl, q_nc rfl, q_nc rfl, c2 70 (by decide)]
    exact b1 k hk
  · rw [q_nc rfl, q_nc rfl, q_nc rfl, q_nc rfl, q_nc rfl, q_nc rfl, q_nc rfl, q_nc rfl]
    exact c1 k hk
  · have z : k = 5 ∨ k = 6 ∨ k = 7 ∨ k = 8 ∨ k = 9 ∨ k = 10 ∨ k = 11 ∨ k = 12 := by omega
    rcases z with z | z | z | z | z | z | z | z <;> subst z
    · rw [q_ne rfl, q_ne rfl, q_ne rfl, q_ne rfl, q_ne rfl, q_ne rfl, q_ne rfl, q_eq]
    · rw [q_ne rfl, q_ne rfl, q_ne rfl, q_ne rfl, q_ne rfl, q_ne rfl, q_eq]
    · rw [q_ne rfl, q_ne rfl, q_ne rfl, q_ne rfl, q_ne rfl, q_eq]
    · rw [q_ne rfl, q_ne rfl, q_ne rfl, q_ne rfl, q_eq]
    · rw [q_ne rfl, q_ne rfl, q_ne rfl, q_eq]
    · rw [q_ne rfl, q_ne rfl, q_eq]
    · rw [q_ne rfl, q_eq]
    · rw [q_eq]
  · rw [pI_o _ _ _ _ _ y1, pI_o _ _ _ _ _ y1, pI_o _ _ _ _ _ y1, pI_o _ _ _ _ _ y1, pI_o _ _ _ _ _ y1, pI_o _ _ _ _ _ y1, pI_o _ _ _ _ _ y1, pI_o _ _ _ _ _ y1, c2 c (by omega), b2 c (by omega), a2 c (by omega), h2 c (by omega), g2 c (by omega)]
  · show s10.2 = s.2
    rw [c3, b3, a3, h3, g3]
theorem clr_54 (s : Sg) : PQ (f_X5_clear_54 s) (fun _ s9 => (s9.1 54 6 = 0 ∧ s9.1 54 7 = 0 ∧ s9.1 54 8 = 0) ∧ (∀ c, ¬ c = 54 → s9.1 c = s.1 c) ∧ s9.2 = s.2) := by
  unfold f_X5_clear_54
  refine pq_n (fun s1 e1 => pq_s ?_)
  rw [e1]
  exact ⟨⟨by rw [q_ne rfl, q_ne rfl, q_eq], by rw [q_ne rfl, q_eq], q_eq⟩, fun c h => by rw [pI_o _ _ _ _ _ h, pI_o _ _ _ _ _ h, pI_o _ _ _ _ _ h], rfl⟩
def ClrC (s s9 : Sg) : Prop := ((∀ k, k < 8 → s9.1 61 k = 0) ∧ (s9.1 52 12 = 0 ∧ s9.1 52 13 = 0 ∧ s9.1 52 14 = 0 ∧ s9.1 52 15 = 0 ∧ s9.1 52 16 = 0 ∧ s9.1 52 17 = 0 ∧ s9.1 52 18 = 5 ∧ s9.1 52 19 = 0)) ∧ (((∀ k, k < 8 → s9.1 67 k = 0) ∧ (∀ k, k < 8 → s9.1 68 k = 0) ∧ (∀ k, k < 8 → s9.1 69 k = 0) ∧ (∀ k, k < 8 → s9.1 70 k = 0) ∧ (∀ k, k < 4 → s9.1 71 k = 0)) ∧ (∀ k, 5 ≤ k → k ≤ 12 → s9.1 53 k = 0)) ∧ (s9.1 54 6 = 0 ∧ s9.1 54 7 = 0 ∧ s9.1 54 8 = 0) ∧ (∀ c, ¬ (52 ≤ c ∧ c ≤ 71) → s9.1 c = s.1 c) ∧ s9.2 = s.2
theorem clr_51 (s : Sg) : PQ (f_X10_clear_51 s) (fun _ s9 => ClrC s s9) := by
  unfold f_X10_clear_51
  refine pq_b (clr_52 s) (fun _ s2 a => pq_b (clr_53 s2) (fun _ s4 b => pq_b (clr_54 s4) (fun _ s6 c => pq_s ?_)))
  obtain ⟨a1, a2, a3, a4⟩ := a
  obtain ⟨b1, b2, b3, b4⟩ := b
  obtain ⟨c1, c2, c3⟩ := c
  have k52 : s6.1 52 = s2.1 52 := by rw [c2 52 (by decide), b3 52 (by decide) (by decide)]
  refine ⟨⟨fun k hk => ?_, ?_⟩, ⟨⟨fun k hk => ?_, fun k hk => ?_, fun k hk => ?_, fun k hk => ?_, fun k hk => ?_⟩, fun k k1 k2 => ?_⟩, c1, fun c hc => ?_, ?_⟩
  · rw [c2 61 (by decide), b3 61 (by decide) (by decide)]
    exact a1 k hk
  · rw [k52]
    exact a2
  · rw [c2 67 (by decide)]
    exact b1.1 k hk
  · rw [c2 68 (by decide)]
    exact b1.2.1 k hk
  · rw [c2 69 (by decide)]
    exact b1.2.2.1 k hk
  · rw [c2 70 (by decide)]
    exact b1.2.2.2.1 k hk
  · rw [c2 71 (by decide)]
    exact b1.2.2.2.2 k hk
  · rw [c2 53 (by decide)]
    exact b2 k k1 k2
  · rw [c2 c (by omega), b3 c (by omega) (by omega), a3 c (by omega) (by omega)]
  · rw [c3, b4, a4]
/-- the reference's new slot, cleared -/
def ClrM (s s9 : Sg) : Prop := (∀ k, k < 480 → s9.1 1 (1920 + k) = if k = 11 then -1 else if k = 13 then 5 else 0) ∧ (∀ p, ¬ (1920 ≤ p ∧ p < 2400) → s9.1 1 p = s.1 1 p) ∧ (∀ c, ¬ c = 1 → s9.1 c = s.1 c) ∧ s9.2 = s.2
theorem pln_b (s0 : Sg) (m : Nat) : ∀ (i : Nat) (v2 : Int32) (s : Sg), v2.toInt = (i : Int) → i ≤ 480 → (∀ k, k < i → s.1 1 (1920 + k) = 0) → (∀ p, ¬ (1920 ≤ p ∧ p < 2400) → s.1 1 p = s0.1 1 p) → (∀ c, ¬ c = 1 → s.1 c = s0.1 c) → s.2 = s0.2 → PQ (f_X12_plain_b2 m 1920 v2 s) (fun _ s9 => ClrM s0 s9) := by
  induction m with
  | zero => intro i v2 s _ _ _ _ _ _ r s9 e; cases e
  | succ m ih =>
    intro i v2 s h2 hi hz hp hc hs
    have e480 : (480 : Int32).toInt = 480 := rfl
    have e1920 : (1920 : Int32).toInt = 1920 := rfl
    have eo : (1 : Int32).toInt = 1 := rfl
    have a1 : (v2 + 1).toInt = v2.toInt + 1 := i_addx v2 1 (by omega)
    have x1 : (1920 + v2).toInt = (1920 : Int32).toInt + v2.toInt := i_addx _ _ (by omega)
    have cl := cl_nat (1920 + v2)
    have d : (1920 + v2).toNatClampNeg = 1920 + i := by omega
    have d11 : ((1920 : Int32) + 11).toNatClampNeg = 1931 := rfl
    have d13 : ((1920 : Int32) + 13).toNatClampNeg = 1933 := rfl
    unfold f_X12_plain_b2
    refine pq_if (fun c => pq_c (fun _ => pq_n (fun s2 e2 => pq_c (fun _ => pq_n (fun s4 e4 => pq_s ?_))))) (fun c => pq_c (fun _ => pq_n (fun s6 e6 => ?_)))
    · have c := i_le c
      have q : i = 480 := by omega
      subst q
      rw [d13] at e4
      rw [d11] at e2
      rw [e4, e2]
      refine ⟨fun k hk => ?_, fun p h => ?_, fun c h => ?_, hs⟩
      · rw [pI_1, pI_1]
        by_cases z : k = 13
        · rw [if_pos ⟨rfl, by omega⟩, if_neg (by omega), if_pos z]
        · rw [if_neg (fun y => z (by have := y.2; omega))]
          by_cases w : k = 11
          · rw [if_pos ⟨rfl, by omega⟩, if_pos w]
          · rw [if_neg (fun y => w (by have := y.2; omega)), if_neg w, if_neg z]
            exact hz k hk
      · rw [pI_1, if_neg (fun y => h (by have := y.2; omega)), pI_1, if_neg (fun y => h (by have := y.2; omega))]
        exact hp p h
      · rw [pI_o _ _ _ _ _ h, pI_o _ _ _ _ _ h]
        exact hc c h
    · have c := i_nle c
      rw [d] at e6
      refine ih (i + 1) (v2 + 1) s6 (by omega) (by omega) (fun k hk => ?_) (fun p h => ?_) (fun c h => ?_) (by rw [e6]; exact hs)
      · rw [e6, pI_1]
        by_cases z : k = i
        · rw [if_pos ⟨rfl, by omega⟩]
        · rw [if_neg (fun y => z (by have := y.2; omega))]
          exact hz k (by omega)
      · rw [e6, pI_1, if_neg (fun y => h (by have := y.2; omega))]
        exact hp p h
      · rw [e6, pI_o _ _ _ _ _ h]
        exact hc c h
theorem pln_p (s : Sg) : PQ (f_X12_plain 1920 s) (fun _ s9 => ClrM s s9) := by
  unfold f_X12_plain
  exact pln_b s BIG 0 0 s rfl (Nat.zero_le _) (fun _ h => absurd h (Nat.not_lt_zero _)) (fun _ _ => rfl) (fun _ _ => rfl) rfl
theorem qat_0 (on ot : Nat → Int32) (h : Nat) : qat on ot 0 h = 0 := rfl
/-- at the text's first token all is empty on both sides -/
theorem sr_0 {n : Nat} {sC sM s t s' t' : Sg} (h : TkRel n sC sM) (h0 : sM.1 0 18 = 0) (c : ClrC sC s) (m : ClrM sM t) (es : s' = pI (pI s 8 3 0) 8 4 0) (et : t' = pI t 0 20 0) : SR n s' t' := by
  obtain ⟨⟨a61, b12, b13, b14, b15, b16, b17, b18, b19⟩, ⟨⟨g67, g68, g69, g70, g71⟩, g53⟩, g54, kc, k2⟩ := c
  obtain ⟨m1, m2, m3, m4⟩ := m
  have ek : ∀ c, ¬ c = 8 → s'.1 c = s.1 c := fun c hc => by rw [es, pI_o _ _ _ _ _ hc, pI_o _ _ _ _ _ hc]
  have M : ∀ k, k < 480 → mN t' k = if k = 11 then -1 else if k = 13 then 5 else 0 := fun k hk => by
    show t'.1 1 (1920 + k) = _
    rw [et, q_nc rfl]
    exact m1 k hk
  have M0 : ∀ k, k < 480 → ¬ k = 11 → ¬ k = 13 → mN t' k = 0 := fun k h1 h2 h3 => by rw [M k h1, if_neg h2, if_neg h3]
  have e0 : (0 : Int32).toInt = 0 := rfl
  have tk : TkRel n s' t' := by
    have c1 : s'.1 1 = sC.1 1 := by rw [ek 1 (by decide), kc 1 (by decide)]
    have c7 : s'.1 7 = sC.1 7 := by rw [ek 7 (by decide), kc 7 (by decide)]
    have c2 : s'.2 = sC.2 := by rw [es]; exact k2
    have t7 : t'.1 7 = sM.1 7 := by rw [et, pI_o _ _ _ _ _ (by decide), m3 7 (by decide)]
    have t0 : ∀ k, ¬ k = 20 → t'.1 0 k = sM.1 0 k := fun k hk => by rw [et, pI_1, if_neg (fun z => hk z.2), m3 0 (by decide)]
    have by7 : byM t' = byM sM := by unfold byM; rw [t7]
    unfold TkRel TkA TkM KindC KindM at h ⊢
    rw [c1, c7, c2, t0 11 (by decide), t0 12 (by decide), t0 13 (by decide), t0 14 (by decide), t0 15 (by decide), by7]
    exact h
  have cn0 : ∀ q, cnN t' q = 0 := fun q => by
    unfold cnN
    by_cases z : q < 4
    · rw [if_pos z, show t'.1 1 (1920 + q) = mN t' q from rfl, M0 q (by omega) (by omega) (by omega)]
      rfl
    · rw [if_neg z]
  refine ⟨⟨tk, ?_, ?_⟩, ?_, ?_, ?_⟩
  · rw [et, q_ne rfl, m3 0 (by decide)]
    exact h0
  · unfold ToldS
    rw [et, q_eq, es, q_ne rfl, q_eq, q_eq]
    exact ⟨by decide, Or.inl rfl, Or.inl rfl⟩
  · unfold PlanS PlanA
    rw [M0 0 (by decide) (by decide) (by decide), M0 1 (by decide) (by decide) (by decide), M0 2 (by decide) (by decide) (by decide), M0 3 (by decide) (by decide) (by decide), M0 9 (by decide) (by decide) (by decide), M0 14 (by decide) (by decide) (by decide), M 13 (by decide), if_neg (show ¬ 13 = 11 by decide), if_pos (show 13 = 13 from rfl), ek 52 (by decide), b13, b14, b15, b16, b17, b18, b19, e0]
    refine ⟨⟨by decide, rfl, rfl, rfl⟩, ⟨by decide, by decide, by decide, by decide⟩, ⟨rfl, rfl, rfl⟩, fun q hq => absurd hq (by omega), fun x hx => ?_, fun q hq => absurd hq (by omega), fun q hq => absurd hq (by omega)⟩
    rw [ek 61 (by decide), a61 x hx]
    rfl
  · unfold GrS GrA
    rw [ek 67 (by decide), ek 68 (by decide), ek 69 (by decide), ek 70 (by decide), ek 71 (by decide), ek 53 (by decide)]
    refine ⟨fun x hx => ?_, fun g hg => ?_, fun q hq => ?_, g53, ?_, fun g hg _ => M0 _ (by omega) (by omega) (by omega)⟩
    · rw [M0 _ (by omega) (by omega) (by omega), M0 _ (by omega) (by omega) (by omega), M0 _ (by omega) (by omega) (by omega)]
      exact ⟨g67 x hx, g68 x hx, g69 x hx, rfl⟩
    · rw [M0 _ (by omega) (by omega) (by omega)]
      exact g71 g hg
    · rw [M0 _ (by omega) (by omega) (by omega), M0 _ (by omega) (by omega) (by omega)]
      exact ⟨g70 q hq, rfl, rfl⟩
    · rw [M0 4 (by decide) (by decide) (by decide), M0 5 (by decide) (by decide) (by decide), M0 6 (by decide) (by decide) (by decide), M0 7 (by decide) (by decide) (by decide), M0 8 (by decide) (by decide) (by decide), M0 10 (by decide) (by decide) (by decide), M 11 (by decide), if_pos (show 11 = 11 from rfl), M0 12 (by decide) (by decide) (by decide)]
      exact ⟨rfl, rfl, rfl, rfl, rfl, rfl, rfl, rfl⟩
  · unfold NmS
    refine ⟨0, by rw [ek 52 (by decide), b12]; rfl, ?_⟩
    refine ⟨by rw [cn0, cn0, cn0, cn0], fun i hi => absurd hi (Nat.not_lt_zero _), fun q j _ hj => ?_, fun i i' hi => absurd hi (Nat.not_lt_zero _)⟩
    rw [cn0] at hj
    exact absurd hj (Nat.not_lt_zero _)
/-- a byte of the tape and of the text -/
theorem by_nar (x : Int32) : (vp_nar .byte x) &&& 255 = x &&& 255 := by
  show x.toInt8.toInt32 &&& 255 = x &&& 255
  apply Int32.toBitVec_inj.mp
  rw [Int32.toBitVec_and, Int32.toBitVec_and]
  have e : (x.toInt8.toInt32).toBitVec = (x.toBitVec.signExtend 8).signExtend 32 := rfl
  rw [e]
  have h255 : ∀ i, i < 32 → ((255 : Int32).toBitVec).getLsbD i = decide (i < 8) := by decide
  apply BitVec.eq_of_getLsbD_eq
  intro i hi
  rw [BitVec.getLsbD_and, BitVec.getLsbD_and, h255 i hi]
  by_cases h8 : i < 8
  · rw [BitVec.getLsbD_signExtend, if_pos h8, BitVec.getLsbD_signExtend, if_pos hi]
    simp [h8, hi]
  · simp [h8]
theorem adv_p {n en : Nat} {sC sM : Sg} (ha : TkA (sC.1 1) n sC) (hm : TkM n sM) (hb : ∀ i, i < n → sC.1 1 i = byM sM i) (p2 : (sC.1 7 2).toInt = (en : Int)) (p4 : (sM.1 0 14).toInt = (en : Int)) (l3 : en ≤ n) : RQ (f_X7_advance sC) (f_X12_ahead sM) (fun _ s _ t => StT n sC sM s t) := by
  intro a s b t q1 q2
  have c := adv_c (sC.1 1) n en ha p2 l3 a s q1
  have m := ahd_m n en hm p4 l3 b t q2
  obtain ⟨ca, st1, en1, c1, c2, c3, c4, c5⟩ := c
  obtain ⟨mk, st2, en2, m1, m2, m3, m4, m5⟩ := m
  have hb' : ∀ i, i < n → byM sM i = sC.1 1 i := fun i hi => (hb i hi).symm
  have m1 := toks_c hb' m1
  have e1 := toks_u c1 m1
  subst e1
  have m2' := toke_c hb' m2
  have e2 := toke_u c2 m2'
  subst e2
  have le := toke_le c2
  have ea := ca.1
  refine ⟨⟨st1, en1, ⟨⟨rfl, ca.2.1, ca.2.2⟩, km0_t mk hm, fun i hi => ?_⟩, ⟨c1.2.1, le.1, le.2⟩, ⟨c3, c4, m3, m4⟩, ?_, ?_, ?_⟩, fr_up (ft_X7_advance sC a s q1) rfl, fr_up (ft_X12_ahead sM b t q2) rfl, ?_⟩
  · rw [ea, km0_b mk]
    exact hb i hi
  · rw [ea]; exact c2
  · rw [ea]; exact c5
  · rw [ea]; exact kindm_c hb' le.2 m5
  · have := c1.1
    omega
theorem ltm_b : ∀ c, c < 20 → LTM.testBit c = false := by decide
/-- the text begins: the tape's bytes come over, the first token is read -/
theorem beg_r {α β : Type} {n : Nat} {a1 : Int32} {sC : Sg} (hn : a1.toInt = (n : Int)) (ha : TkA (sC.1 1) n sC) (p2 : sC.1 7 2 = 0) {KC : Unit → Sg → Option (α × Sg)} {KM : Int32 → Sg → Option (β × Sg)} {R : α → Sg → β → Sg → Prop} (t0 : Sg) (tb : ∀ i, i < n → sC.1 1 i = t0.1 6 i &&& 255) (hk : ∀ s t, TkRel n s t → t.1 0 18 = 0 → Fr cC LTC sC s → (∀ c, c < 20 → ¬ c = 0 → ¬ c = 7 → t.1 c = t0.1 c) → (∀ c, c < 20 → ¬ c = 0 → t.2 c = t0.2 c) → t.1 0 17 = -1 → RQ (KC () s) (KM 1 t) R) (m : Nat) : ∀ (i : Nat) (v3 : Int32) (sM : Sg), v3.toInt = (i : Int) → i ≤ n → (∀ k, k < i → sM.1 7 k &&& 255 = t0.1 6 k &&& 255) → (sM.1 0 11).toInt = (n : Int) → (∀ c, ¬ c = 0 → ¬ c = 7 → sM.1 c = t0.1 c) → sM.2 = t0.2 → RQ (bd (f_X7_advance sC) KC) (bd (f_X12_begins_b26 m a1 v3 sM) KM) R := by
  induction m with
  | zero => intro i v3 sM _ _ _ _ _ _; exact rq_0
  | succ m ih =>
    intro i v3 sM h3 hi hb h11 hc h2
    have n9 := ha.2.2
    have e1 : (1 : Int32).toInt = 1 := rfl
    have e0 : (0 : Int32).toInt = 0 := rfl
    have cl := cl_nat v3
    have d : v3.toNatClampNeg = i := by omega
    have a3 : (v3 + 1).toInt = v3.toInt + 1 := i_addx v3 1 (by omega)
    unfold f_X12_begins_b26
    refine rm_i (fun c => rm_n (fun t1 g1 => rm_b ?_)) (fun c => rm_c (fun _ => rm_n (fun t5 g5 => ?_)))
    · have c := i_le c
      have q : i = n := by omega
      subst q
      have z11 : (pI (pI t1 0 14 0) 0 19 0).1 0 11 = sM.1 0 11 := by
        rw [q_ne rfl, q_ne rfl, g1, q_ne rfl, q_ne rfl, q_ne rfl]
      have zc : ∀ c, ¬ c = 0 → (pI (pI t1 0 14 0) 0 19 0).1 c = sM.1 c := fun c hc' => by
        rw [pI_o _ _ _ _ _ hc', pI_o _ _ _ _ _ hc', g1, pI_o _ _ _ _ _ hc', pI_o _ _ _ _ _ hc', pI_o _ _ _ _ _ hc']
      have z18 : (pI (pI t1 0 14 0) 0 19 0).1 0 18 = 0 := by rw [q_ne rfl, q_ne rfl, g1, q_ne rfl, q_eq]
      have z17 : (pI (pI t1 0 14 0) 0 19 0).1 0 17 = -1 := by rw [q_ne rfl, q_ne rfl, g1, q_eq]
      have z14 : (pI (pI t1 0 14 0) 0 19 0).1 0 14 = 0 := by rw [q_ne rfl, q_eq]
      have z2 : (pI (pI t1 0 14 0) 0 19 0).2 = sM.2 := by rw [g1]; rfl
      generalize pI (pI t1 0 14 0) 0 19 0 = t2 at z11 zc z18 z17 z14 z2 ⊢
      refine rq_b2 (adv_p (en := 0) ha ⟨by rw [z11]; exact h11, n9⟩ (fun k hk => ?_) (by rw [p2]; rfl) (by rw [z14]; rfl) (Nat.zero_le _)) (fun _ s _ t w => rm_s ?_)
      · show _ = t2.1 7 k &&& 255
        rw [zc 7 (by decide), hb k hk]
        exact tb k hk
      · have g := w.2.2.1
        have cd : ∀ c k, ¬ c = 0 → cdN c k = c := fun c k y => by unfold cdN; rw [if_neg y]
        refine hk s t w.1 ?_ w.2.1 (fun c y y1 y2 => ?_) (fun c y y1 => ?_) ?_
        · rw [fr_e g 0 18 38 rfl rfl]; exact z18
        · have q : t.1 c = t2.1 c := funext fun k => (g c k (by rw [cd c k y1]; exact ltm_b c y)).1
          rw [q, zc c y1, hc c y1 y2]
        · have q : t.2 c = t2.2 c := funext fun k => (g c k (by rw [cd c k y1]; exact ltm_b c y)).2
          rw [q, z2, h2]
        · rw [fr_e g 0 17 37 rfl rfl]; exact z17
    · have c := i_nle c
      rw [d] at g5
      refine ih (i + 1) (v3 + 1) t5 (by omega) (by omega) (fun k hk => ?_) ?_ (fun c y1 y2 => ?_) ?_
      · rw [g5, pI_1]
        by_cases z : k = i
        · rw [if_pos ⟨rfl, z⟩, by_nar, z, hc 6 (by decide) (by decide)]
        · rw [if_neg (fun y => z y.2)]
          exact hb k (by omega)
      · rw [g5, q_nc rfl]; exact h11
      · rw [g5, pI_o _ _ _ _ _ y2]
        exact hc c y1 y2
      · rw [g5]; exact h2
/-! street: its answer -/
def TapB (sC sM : Sg) : Prop := ∀ k : Nat, (k : Int) < (sM.1 0 10).toInt → sC.1 1 k = sM.1 6 k &&& 255
theorem ct_x (s : Sg) : PQ (f_X11_closeText s) (fun _ s9 => s9 = pI (pI (pI s 0 13 0) 0 18 (s.1 7 8)) 0 19 (s.1 7 9)) := by
  unfold f_X11_closeText
  refine pq_n (fun s1 e1 => pq_s ?_)
  rw [e1, q_nc rfl, q_nc rfl, q_nc rfl]
theorem street_x {sC sM : Sg} (a1 : Int32) (e10 : sC.1 0 13 = sM.1 0 10) (hc : 0 ≤ (sM.1 0 10).toInt ∧ (sM.1 0 10).toInt ≤ 900) (tb : TapB sC sM) {R : Int32 → Sg → Int32 → Sg → Prop} {J : Sg → Prop} (hJ : ∀ t, J t → PQ (f_X12_streetPart t) (fun r t' => ¬ r = 0 → J t')) (hJ0 : ∀ t t', ClrM t t' → J (pI t' 0 20 0))
    (hO : RQ (some ((-1 : Int32), pI sC 0 15 1)) (some ((-1 : Int32), pI sM 0 2 1)) R)
    (hE : ∀ n s t, SR n s t → J t → s.1 7 3 = 0 → RQ (bd (f_X11_closeText s) (fun _ s10 => bd (f_X10_copyFrom_51 s10) (fun _ s14 => bd (f_X11_answer (s14.1 25 14) s14) (fun r15 s16 => some (r15, s16))))) (f_X12_street_b50 t) R)
    (hF : ∀ s t, FtR s t → RQ (bd (f_X11_closeText s) (fun _ s10 => bd (f_X11_refuse 9 s10) (fun r11 s12 => some (r11, s12)))) (f_X12_street_b50 t) R) : RQ (f_X11_street a1 sC) (f_X12_street a1 sM) R := by
  have e0 : (0 : Int32).toInt = 0 := rfl
  have e900 : (900 : Int32).toInt = 900 := rfl
  unfold f_X11_street f_X12_street f_X12_begins
  refine rq_bC (wi_p a1 0 (sC.1 0 13) sC) (fun r1 s2 g => ?_)
  obtain ⟨es, g⟩ := g
  subst es
  rw [e10] at g
  have out : RQ (bd (f_X11_refuse 1 s2) (fun r s => some (r, s))) (bd (f_X12_refuse 1 sM) (fun r t => some (r, t))) R := hO
  rcases g with ⟨z, g1, g2⟩ | ⟨z, g⟩ <;> subst z
  · rw [if_neg i10]
    refine rm_i (fun c => absurd (i_lt c) (by omega)) (fun _ => rm_i (fun c => absurd (i_lt c) (by omega)) (fun _ => rm_i (fun _ => ?_) (fun c => absurd (i_nle c) (by omega))))
    unfold f_X7_begin
    refine rc_n (fun s1 e1 => rc_n (fun s3 e3 => rc_b ?_))
    have hn : a1.toInt = (a1.toInt.toNat : Int) := by omega
    have c1 : s3.1 1 = s2.1 1 := by rw [e3, pI_o _ _ _ _ _ (by decide), pI_o _ _ _ _ _ (by decide), pI_o _ _ _ _ _ (by decide), e1, pI_o _ _ _ _ _ (by decide)]
    have c71 : s3.1 7 1 = a1 := by
      rw [e3, q_ne rfl, q_ne rfl, q_ne rfl, e1, q_eq, if_neg (fun z => by have := i_lt z; omega)]
    have c72 : s3.1 7 2 = 0 := by rw [e3, q_ne rfl, q_ne rfl, q_eq]
    refine beg_r hn ⟨rfl, by rw [c71]; exact hn, by omega⟩ c72 sM (fun i hi => ?_) (fun s t tk z18 fC kM k2 z17 => ?_) BIG 0 0 _ rfl (Nat.zero_le _) (fun k hk => absurd hk (Nat.not_lt_zero _)) (by rw [q_eq]; exact hn) (fun c y1 _ => pI_o _ _ _ _ _ y1) rfl
    · rw [c1]
      exact tb i (by omega)
    · refine rc_s ?_
      unfold f_X6_takeText
      refine rq_iM (fun z => absurd z i10) (fun _ => rc_b (rq_bC (clr_51 s) (fun _ s4 c => rq_bM (pln_p t) (fun _ t6 m => ?_))))
      refine parts_r _ hJ (fun s9 t9 h9 j9 k9 => ?_) (fun s9 t9 h9 => ?_) BIG BIG 1 0 1 _ _ (Or.inl ⟨rfl, rfl, sr_0 tk z18 c m rfl rfl, ⟨Int.le_refl _, ?_⟩, hJ0 t t6 m⟩)
      · exact hE _ s9 t9 h9 j9 k9
      · exact hF s9 t9 h9
      · have q := tk_pos tk
        have k7 : (pI (pI s4 8 3 0) 8 4 0).1 7 = s.1 7 := by rw [pI_o _ _ _ _ _ (by decide), pI_o _ _ _ _ _ (by decide), c.2.2.2.1 7 (by decide)]
        rw [k7, e0]
        exact q.2.1
  · rw [if_pos rfl]
    by_cases c1 : a1 < 0
    · refine rm_i (fun _ => rm_s (rq_iM (fun _ => out) (fun z => absurd rfl z))) (fun z => absurd c1 z)
    · have c1' := i_nlt c1
      refine rm_i (fun z => absurd z c1) (fun _ => rm_i (fun _ => rm_s (rq_iM (fun _ => out) (fun z => absurd rfl z))) (fun z => ?_))
      have z := i_nlt z
      exact absurd ⟨c1', z⟩ g
theorem street_an {sC sM : Sg} (a1 : Int32) (e10 : sC.1 0 13 = sM.1 0 10) (hc : 0 ≤ (sM.1 0 10).toInt ∧ (sM.1 0 10).toInt ≤ 900) (tb : TapB sC sM) : RQ (f_X11_street a1 sC) (f_X12_street a1 sM) (fun r _ r' _ => r = r') := by
  refine street_x a1 e10 hc tb (J := fun _ => True) (fun _ _ _ _ _ _ => trivial) (fun _ _ _ => trivial) (rq_s rfl) (fun n s t h _ k => ?_) (fun s t h => ?_)
  · refine rq_bC (ct_x s) (fun _ s10 e => rq_bC (cw_X10_copyFrom_51 s10) (fun _ s14 w => ?_))
    have p : RQ (some (s14.1 25 14, pI s14 0 15 0)) (f_X12_street_b50 t) (fun r _ r' _ => r = r') := by
      refine rq_pp (P := fun r _ => r = s14.1 25 14) (pq_s rfl) (swx_50y t h.1.2.1) (fun r _ r' _ q y => ?_)
      obtain ⟨s', m, y1, -⟩ := y
      have a : s14.1 25 14 = s10.1 52 14 := w.2.1 1 14 (by decide) (by decide) (by decide) (by decide)
      have b : s'.1 1 1 = t.1 1 1921 := m.1.1 1 (by decide)
      have d : s10.1 52 14 = s.1 52 14 := by rw [e, q_nc rfl, q_nc rfl, q_nc rfl]
      have f : s.1 52 14 = t.1 1 1921 := h.2.1.1.2.1
      rw [q, y1, a, d, f, b]
    exact p
  · refine rq_bC (ct_x s) (fun _ s10 e => ?_)
    have p : RQ (some ((-1 : Int32), pI s10 0 15 9)) (f_X12_street_b50 t) (fun r _ r' _ => r = r') := by
      have h0 : ¬ t.1 0 18 = 0 := fun z => by
        have h3 := h.2.2
        rw [z] at h3
        exact absurd h3 (by decide)
      exact rq_pp (P := fun r _ => r = -1) (pq_s rfl) (swx_50n t h0 (Int.le_of_lt h.2.2)) (fun r _ r' _ q y => q.trans y.1.symm)
    exact p
/-! the tape's bytes: feed -/
theorem lsb255 : ∀ i, i < 32 → (255#32).getLsbD i = decide (i < 8) := by decide
theorem sh_bv (x : BitVec 32) (k : Nat) (hk : k ≤ 24) : (x >>> k) &&& 255#32 = (x.sshiftRight k) &&& 255#32 := by
  apply BitVec.eq_of_getLsbD_eq
  intro i hi
  rw [BitVec.getLsbD_and, BitVec.getLsbD_and, lsb255 i hi]
  by_cases h8 : i < 8
  · rw [BitVec.getLsbD_ushiftRight, BitVec.getLsbD_sshiftRight, if_pos (show k + i < 32 by omega)]
    simp [h8, show ¬ 32 ≤ i by omega]
  · simp [h8]
theorem by_sh (v1 v2 : Int32) (h : v2 = 24 ∨ v2 = 16 ∨ v2 = 8 ∨ v2 = 0) : ((v1.toUInt32 >>> (v2.toUInt32 &&& Int32.toUInt32 31)).toInt32) &&& 255 = (v1 >>> (v2 &&& 31)) &&& 255 := by
  apply Int32.toBitVec_inj.mp
  rcases h with h | h | h | h <;> subst h
  · exact sh_bv v1.toBitVec 24 (by decide)
  · exact sh_bv v1.toBitVec 16 (by decide)
  · exact sh_bv v1.toBitVec 8 (by decide)
  · exact sh_bv v1.toBitVec 0 (by decide)
theorem nar8 (x : Int32) : x.toInt8.toInt32 &&& 255 = x &&& 255 := by_nar x
theorem put_r (v1 : Int32) (m : Nat) : ∀ (m' r : Nat) (v2 : Int32) (s t : Sg), v2.toInt = 8 * (r : Int) - 8 → r ≤ 4 → s.1 0 13 = t.1 0 10 → 0 ≤ (t.1 0 10).toInt → (t.1 0 10).toInt + r ≤ 900 → TapB s t → RQ (f_X11_putOnTape_b3 m v1 v2 s) (f_X12_four_b3 m' v1 v2 t) (fun _ s9 _ t9 => s9.1 0 13 = t9.1 0 10 ∧ TapB s9 t9 ∧ (t9.1 0 10).toInt = (t.1 0 10).toInt + r) := by
  induction m with
  | zero => intro m' r v2 s t _ _ _ _ _ _ a s' b t' e; cases e
  | succ m ih =>
    intro m' r v2 s t h2 hr he h0 h9 tb
    cases m' with
    | zero => exact rq_0
    | succ m' =>
      have e0 : (0 : Int32).toInt = 0 := rfl
      have e1 : (1 : Int32).toInt = 1 := rfl
      have e8 : (-8 : Int32).toInt = -8 := rfl
      have e900 : (900 : Int32).toInt = 900 := rfl
      unfold f_X11_putOnTape_b3 f_X12_four_b3
      by_cases z : r = 0
      · have lt : v2 < 0 := Int32.lt_iff_toInt_lt.mpr (by omega)
        rw [if_pos lt, if_pos lt]
        exact rq_s ⟨he, tb, by omega⟩
      · have nlt : ¬ v2 < 0 := fun w => by
          have := i_lt w
          omega
        have n9 : ¬ (900 : Int32) ≤ s.1 0 13 := fun w => by
          have := i_le w
          rw [he] at this
          omega
        rw [if_neg nlt, if_neg nlt, if_neg n9]
        have a2 : (v2 + (-8)).toInt = v2.toInt + (-8 : Int32).toInt := i_addx v2 (-8) (by omega)
        have ac : ((t.1 0 10) + 1).toInt = (t.1 0 10).toInt + 1 := i_addx _ 1 (by omega)
        have cl := cl_nat (t.1 0 10)
        refine rq_cC (fun _ => rq_cM (fun _ => rq_nC (fun s2 q2 => rq_nM (fun t2 p2 => ?_))))
        have c13 : s2.1 0 13 = t.1 0 10 := by rw [q2, q_nc rfl]; exact he
        have c10 : t2.1 0 10 = t.1 0 10 := by rw [p2, q_nc rfl]
        rw [c13, c10]
        have v4 : v2 = 24 ∨ v2 = 16 ∨ v2 = 8 ∨ v2 = 0 := by
          have w : r = 4 ∨ r = 3 ∨ r = 2 ∨ r = 1 := by omega
          rcases w with w | w | w | w <;> subst w
          · exact Or.inl (Int32.toInt_inj.mp (by rw [h2]; rfl))
          · exact Or.inr (Or.inl (Int32.toInt_inj.mp (by rw [h2]; rfl)))
          · exact Or.inr (Or.inr (Or.inl (Int32.toInt_inj.mp (by rw [h2]; rfl))))
          · exact Or.inr (Or.inr (Or.inr (Int32.toInt_inj.mp (by rw [h2]; rfl))))
        refine rq_w (ih m' (r - 1) (v2 + (-8)) _ _ (by omega) (by omega) ?_ ?_ ?_ (fun k hk => ?_)) (fun _ s9 _ t9 g => ⟨g.1, g.2.1, ?_⟩)
        · rw [q_eq, q_eq]
        · rw [q_eq]; omega
        · rw [q_eq]; omega
        · rw [q_eq] at hk
          rw [q_nc rfl, q_nc rfl, q2, p2, pI_1, pI_1, he]
          by_cases y : k = (t.1 0 10).toNatClampNeg
          · rw [if_pos ⟨rfl, y⟩, if_pos ⟨rfl, y⟩, by_nar, nar8]
            exact by_sh v1 v2 v4
          · rw [if_neg (fun w => y w.2), if_neg (fun w => y w.2)]
            exact tb k (by omega)
        · have g := g.2.2
          rw [q_eq] at g
          omega
theorem feed_r {sC sM : Sg} (a1 a2 a3 a4 a5 : Int32) (e10 : sC.1 0 13 = sM.1 0 10) (hc : 0 ≤ (sM.1 0 10).toInt ∧ (sM.1 0 10).toInt ≤ 900) (tb : TapB sC sM) : RQ (f_X11_feed a1 a2 a3 a4 a5 sC) (f_X12_feed a1 a2 a3 a4 a5 sM) (fun r s r' t => r = r' ∧ TapB s t) := by
  unfold f_X11_feed f_X12_feed
  rw [e10]
  have e20 : (20 : Int32).toInt = 20 := rfl
  have e900 : (900 : Int32).toInt = 900 := rfl
  have a0 : ((sM.1 0 10) + 20).toInt = (sM.1 0 10).toInt + 20 := i_addx _ 20 (by omega)
  have pt : ∀ (a : Int32) (s t : Sg), s.1 0 13 = t.1 0 10 → 0 ≤ (t.1 0 10).toInt → (t.1 0 10).toInt + 4 ≤ 900 → TapB s t → RQ (f_X11_putOnTape a s) (f_X12_four a t) (fun _ s9 _ t9 => s9.1 0 13 = t9.1 0 10 ∧ TapB s9 t9 ∧ (t9.1 0 10).toInt = (t.1 0 10).toInt + 4) := fun a s t g1 g2 g3 g4 => by
    unfold f_X11_putOnTape f_X12_four
    exact put_r a BIG BIG 4 24 s t rfl (by decide) g1 g2 g3 g4
  refine rq_iC (fun c => rq_iM (fun _ => ?_) (fun z => absurd c z)) (fun c => rq_iM (fun z => absurd z c) (fun _ => rq_s ⟨rfl, tb⟩))
  have c := i_le c
  refine rq_b2 (pt a1 sC sM e10 hc.1 (by omega) tb) (fun _ s2 _ t2 g => ?_)
  refine rq_b2 (pt a2 s2 t2 g.1 (by omega) (by omega) g.2.1) (fun _ s4 _ t4 h => ?_)
  refine rq_b2 (pt a3 s4 t4 h.1 (by omega) (by omega) h.2.1) (fun _ s6 _ t6 i => ?_)
  refine rq_b2 (pt a4 s6 t6 i.1 (by omega) (by omega) i.2.1) (fun _ s8 _ t8 j => ?_)
  refine rq_b2 (pt a5 s8 t8 j.1 (by omega) (by omega) j.2.1) (fun _ s10 _ t10 k => rq_s ⟨k.1, k.2.1⟩)
/-! bits -/
def bt (x : Int32) (i : Nat) : Bool := x.toBitVec.getLsbD i
theorem bt_ge {x : Int32} {i : Nat} (h : 32 ≤ i) : bt x i = false := BitVec.getLsbD_of_ge _ _ h
theorem bt_ext {x y : Int32} (h : ∀ i, i < 32 → bt x i = bt y i) : x = y := Int32.toBitVec_inj.mp (BitVec.eq_of_getLsbD_eq (fun i hi => h i hi))
theorem bt_or (x y : Int32) (i : Nat) : bt (x ||| y) i = (bt x i || bt y i) := by
  unfold bt
  rw [Int32.toBitVec_or, BitVec.getLsbD_or]
theorem bt_and (x y : Int32) (i : Nat) : bt (x &&& y) i = (bt x i && bt y i) := by
  unfold bt
  rw [Int32.toBitVec_and, BitVec.getLsbD_and]
theorem bt_xor (x y : Int32) (i : Nat) : bt (x ^^^ y) i = (bt x i ^^ bt y i) := by
  unfold bt
  rw [Int32.toBitVec_xor, BitVec.getLsbD_xor]
theorem bt_m1 : ∀ i, i < 32 → bt (-1) i = true := by decide
theorem bt_0 (i : Nat) : bt 0 i = false := by
  by_cases h : i < 32
  · exact (show ∀ i, i < 32 → bt 0 i = false from by decide) i h
  · exact bt_ge (by omega)
set_option maxRecDepth 100000 in
theorem bt_bit' : ∀ q, q < 32 → ∀ i, i < 32 → bt (bitI q) i = decide (i = q) := by decide +kernel
theorem bt_bit {q i : Nat} (hq : q < 32) : bt (bitI q) i = decide (i = q) := by
  by_cases h : i < 32
  · exact bt_bit' q hq i h
  · rw [bt_ge (by omega)]
    exact (decide_eq_false (by omega)).symm
theorem of_nat {v : Int32} {q : Nat} (hv : v.toInt = (q : Int)) (hq : q < 32) : v = Int32.ofNat q := Int32.toInt_inj.mp (by rw [hv, Int32.toInt_ofNat_of_lt (by omega)])
theorem bitI_v {v : Int32} {q : Nat} (hv : v.toInt = (q : Int)) (hq : q < 32) : (1 : Int32) <<< (v &&& 31) = bitI q := by
  rw [of_nat hv hq]
  rfl
theorem shn : ∀ q, q < 32 → ((Int32.ofNat q &&& 31).toBitVec.smod 32).toNat = q := by decide +kernel
theorem one_b : ∀ i, i < 32 → bt 1 i = decide (i = 0) := by decide
/-- a bit asked for, as both sides do it -/
theorem sh1 (x v : Int32) {q : Nat} (hv : v.toInt = (q : Int)) (hq : q < 32) : (x >>> (v &&& 31)) &&& 1 = if bt x q = true then 1 else 0 := by
  apply bt_ext
  intro i hi
  rw [bt_and, one_b i hi]
  by_cases z : i = 0
  · subst z
    have e : bt (x >>> (v &&& 31)) 0 = bt x q := by
      rw [of_nat hv hq]
      unfold bt
      rw [Int32.toBitVec_shiftRight]
      show (x.toBitVec.sshiftRight (((Int32.ofNat q &&& 31).toBitVec.smod 32).toNat)).getLsbD 0 = _
      rw [shn q hq, BitVec.getLsbD_sshiftRight, if_pos (by omega)]
      simp
    rw [e]
    cases h : bt x q with
    | true => rw [if_pos rfl]; decide
    | false => rw [if_neg (by decide)]; decide
  · cases h : bt x q with
    | true => rw [if_pos rfl, one_b i hi]; simp [z]
    | false => rw [if_neg (by decide), bt_0]; simp [z]
theorem sh1_0 (x v : Int32) {q : Nat} (hv : v.toInt = (q : Int)) (hq : q < 32) : ((x >>> (v &&& 31)) &&& 1 = 0) ↔ ¬ bt x q = true := by
  rw [sh1 x v hv hq]
  by_cases h : bt x q = true
  · rw [if_pos h]; simp [h]
  · rw [if_neg h]; simp [h]
theorem sh1_1 (x v : Int32) {q : Nat} (hv : v.toInt = (q : Int)) (hq : q < 32) : ((x >>> (v &&& 31)) &&& 1 = 1) ↔ bt x q = true := by
  rw [sh1 x v hv hq]
  by_cases h : bt x q = true
  · rw [if_pos h]; simp [h]
  · rw [if_neg h]; simp [h]
theorem bt_qat (on ot : Nat → Int32) (h i : Nat) : ∀ n : Nat, n ≤ 32 → bt (qat on ot n h) i = decide (i < n ∧ ((on i).toInt = (h : Int) ∨ (ot i).toInt = (h : Int)))
  | 0, _ => by
    show bt 0 i = _
    rw [bt_0]
    exact (decide_eq_false (fun z => absurd z.1 (Nat.not_lt_zero _))).symm
  | n + 1, hn => by
    have ih := bt_qat on ot h i n (by omega)
    unfold qat
    by_cases c : (on n).toInt = (h : Int) ∨ (ot n).toInt = (h : Int)
    · rw [if_pos c, bt_or, ih, bt_bit (by omega), ← Bool.decide_or]
      apply decide_eq_decide.mpr
      constructor
      · rintro (w | w)
        · exact ⟨by omega, w.2⟩
        · subst w; exact ⟨by omega, c⟩
      · intro w
        by_cases z : i = n
        · exact Or.inr z
        · exact Or.inl ⟨by omega, w.2⟩
    · rw [if_neg c, ih]
      apply decide_eq_decide.mpr
      constructor
      · intro w; exact ⟨by omega, w.2⟩
      · intro w
        by_cases z : i = n
        · subst z; exact absurd w.2 c
        · exact ⟨by omega, w.2⟩
/-! flags and values on both sides -/
def Fl (P : Prop) (r : Int32) : Prop := (r = 1 ∧ P) ∨ (r = 0 ∧ ¬ P)
theorem rq_f {α β : Type} {P P' : Prop} {oC oM : Option (Int32 × Sg)} {s t : Sg} {kC : Int32 → Sg → Option (α × Sg)} {kM : Int32 → Sg → Option (β × Sg)} {R : α → Sg → β → Sg → Prop} (h : PQ oC (fun r s' => s' = s ∧ Fl P r)) (g : PQ oM (fun r t' => t' = t ∧ Fl P' r)) (e : P ↔ P') (y : P → RQ (kC 1 s) (kM 1 t) R) (n : ¬ P → RQ (kC 0 s) (kM 0 t) R) : RQ (bd oC kC) (bd oM kM) R := by
  refine rq_bC h (fun r s' a => rq_bM g (fun r' t' b => ?_))
  obtain ⟨es, a⟩ := a
  obtain ⟨et, b⟩ := b
  subst es; subst et
  rcases a with a | a <;> rcases b with b | b
  · rw [a.1, b.1]; exact y a.2
  · exact absurd (e.mp a.2) b.2
  · exact absurd (e.mpr b.2) a.2
  · rw [a.1, b.1]; exact n a.2
theorem rq_v {α β γ : Type} {oC oM : Option (γ × Sg)} {s t : Sg} {v : γ} {kC : γ → Sg → Option (α × Sg)} {kM : γ → Sg → Option (β × Sg)} {R : α → Sg → β → Sg → Prop} (h : PQ oC (fun r s' => s' = s ∧ r = v)) (g : PQ oM (fun r t' => t' = t ∧ r = v)) (y : RQ (kC v s) (kM v t) R) : RQ (bd oC kC) (bd oM kM) R := by
  refine rq_bC h (fun r s' a => rq_bM g (fun r' t' b => ?_))
  obtain ⟨es, a⟩ := a
  obtain ⟨et, b⟩ := b
  subst es; subst et
  rw [a, b]; exact y
theorem pq_fl {P : Prop} [Decidable P] {Q : Prop} {s : Sg} (e : P ↔ Q) : PQ (if P then some ((1 : Int32), s) else some (0, s)) (fun r s' => s' = s ∧ Fl Q r) := pq_if (fun c => pq_s ⟨rfl, Or.inl ⟨rfl, e.mp c⟩⟩) (fun c => pq_s ⟨rfl, Or.inr ⟨rfl, fun z => c (e.mpr z)⟩⟩)
theorem pq_f0 {P : Prop} [Decidable P] {Q : Prop} {s : Sg} (e : P ↔ ¬ Q) : PQ (if P then some ((0 : Int32), s) else some (1, s)) (fun r s' => s' = s ∧ Fl Q r) := pq_if (fun c => pq_s ⟨rfl, Or.inr ⟨rfl, e.mp c⟩⟩) (fun c => pq_s ⟨rfl, Or.inl ⟨rfl, Classical.byContradiction (fun z => c (e.mpr z))⟩⟩)
/-! the street on both sides: its plan, its ground -/
def PlnR (b : Nat) (s : Sg) (M : Nat → Int32) : Prop := PlanA 0 (s.1 (b + 1)) (s.1 (b + 7)) (s.1 (b + 8)) (s.1 (b + 9)) (s.1 (b + 10)) (s.1 (b + 11)) (s.1 (b + 12)) (s.1 (b + 13)) (s.1 (b + 14)) (s.1 (b + 15)) M
/-- cells of a ground and places of a slot that hold the same -/
def Gp (o c k p : Nat) : Prop := (k < 8 ∧ ((c = 40 + o ∧ p = 16 + 3 * k) ∨ (c = 41 + o ∧ p = 17 + 3 * k) ∨ (c = 42 + o ∧ p = 18 + 3 * k) ∨ (c = 43 + o ∧ p = 44 + 5 * k))) ∨ (k < 4 ∧ c = 44 + o ∧ p = 92 + 3 * k) ∨ (c = 26 + o ∧ ((k = 7 ∧ p = 10) ∨ (k = 8 ∧ p = 12) ∨ (k = 9 ∧ p = 5) ∨ (k = 10 ∧ p = 6) ∨ (k = 11 ∧ p = 7) ∨ (k = 12 ∧ p = 8)))
def GrdT (o : Nat) (s : Sg) (M : Nat → Int32) : Prop := ∀ c k p, Gp o c k p → s.1 c k = M p
def OvR (o : Nat) (s : Sg) (M : Nat → Int32) : Prop := (∀ q, q < 8 → M (43 + 5 * q) = 0 ∨ M (43 + 5 * q) = 1) ∧ (∀ q : Nat, q < 8 → (M 1).toInt ≤ (q : Int) → M (43 + 5 * q) = 0) ∧ ∀ i, i < 32 → bt (s.1 (26 + o) 5) i = decide (i < 8 ∧ M (43 + 5 * i) = 1)
def Rn01 (t : Sg) : Prop := (t.1 1 10 = 0 ∨ t.1 1 10 = 1) ∧ t.1 0 24 = -1
/-- the plan's places -/
def PlP (k : Nat) : Prop := k < 4 ∨ k = 9 ∨ k = 13 ∨ k = 14 ∨ (∃ q, q < 8 ∧ (k = 40 + 5 * q ∨ k = 41 + 5 * q ∨ k = 42 + 5 * q)) ∨ (∃ c, c < 4 ∧ (k = 80 + 3 * c ∨ k = 81 + 3 * c ∨ k = 82 + 3 * c)) ∨ (∃ g, g < 4 ∧ (k = 93 + 3 * g ∨ k = 94 + 3 * g))
/-- what the numbers of a plan are between; a cat's houses stand -/
def PlB (M : Nat → Int32) : Prop := (∀ q : Nat, (q : Int) < (M 1).toInt → 1 ≤ (M (42 + 5 * q)).toInt ∧ (M (42 + 5 * q)).toInt ≤ 99) ∧ (∀ c : Nat, (c : Int) < (M 2).toInt → (1 ≤ (M (82 + 3 * c)).toInt ∧ (M (82 + 3 * c)).toInt ≤ 99) ∧ bt (M 9) (M (80 + 3 * c)).toInt.toNat = false ∧ bt (M 9) (M (81 + 3 * c)).toInt.toNat = false) ∧ (∀ g : Nat, (g : Int) < (M 3).toInt → (1 ≤ (M (93 + 3 * g)).toInt ∧ (M (93 + 3 * g)).toInt ≤ 99) ∧ (0 ≤ (M (94 + 3 * g)).toInt ∧ (M (94 + 3 * g)).toInt ≤ 16)) ∧ (0 ≤ (M 13).toInt ∧ (M 13).toInt ≤ 99) ∧ (∀ h : Nat, (M 0).toInt ≤ (h : Int) → bt (M 9) h = false) ∧ (M 14 = 0 ∨ M 14 = 1)
/-- at a house that is gone nothing lies -/
def Gz (M : Nat → Int32) : Prop := ∀ h, h < 8 → bt (M 9) h = true → M (16 + 3 * h) = 0 ∧ M (17 + 3 * h) = 0 ∧ M (18 + 3 * h) = 0
def NowG (o : Nat) (s t : Sg) : Prop := (PlnR 24 s (t.1 1) ∧ GrdT o s (t.1 1) ∧ OvR o s (t.1 1)) ∧ Rn01 t ∧ PlB (t.1 1) ∧ Gz (t.1 1)
theorem gp_u {o c k p c' k' p' : Nat} (h : Gp o c k p) (g : Gp o c' k' p') : p' = p ↔ c' = c ∧ k' = k := by
  unfold Gp at h g
  omega
def GPl (p : Nat) : Prop := (16 ≤ p ∧ p < 40) ∨ (∃ g, p = 92 + 3 * g) ∨ (∃ q, q < 8 ∧ (p = 43 + 5 * q ∨ p = 44 + 5 * q)) ∨ (4 ≤ p ∧ p ≤ 8) ∨ p = 10 ∨ p = 12
theorem plp_n {p k : Nat} (hp : GPl p) (hk : PlP k) : ¬ k = p := by
  rcases hp with y | ⟨g, y⟩ | ⟨q, y, y'⟩ | y | y | y <;> rcases hk with z | z | z | z | ⟨q', z, z'⟩ | ⟨c', z, z'⟩ | ⟨g', z, z'⟩ <;> omega
theorem plp_q {q : Nat} (h : q < 8) : PlP (40 + 5 * q) ∧ PlP (41 + 5 * q) ∧ PlP (42 + 5 * q) := ⟨Or.inr (Or.inr (Or.inr (Or.inr (Or.inl ⟨q, h, Or.inl rfl⟩)))), Or.inr (Or.inr (Or.inr (Or.inr (Or.inl ⟨q, h, Or.inr (Or.inl rfl)⟩)))), Or.inr (Or.inr (Or.inr (Or.inr (Or.inl ⟨q, h, Or.inr (Or.inr rfl)⟩))))⟩
theorem plp_c {c : Nat} (h : c < 4) : PlP (80 + 3 * c) ∧ PlP (81 + 3 * c) ∧ PlP (82 + 3 * c) := ⟨Or.inr (Or.inr (Or.inr (Or.inr (Or.inr (Or.inl ⟨c, h, Or.inl rfl⟩))))), Or.inr (Or.inr (Or.inr (Or.inr (Or.inr (Or.inl ⟨c, h, Or.inr (Or.inl rfl)⟩))))), Or.inr (Or.inr (Or.inr (Or.inr (Or.inr (Or.inl ⟨c, h, Or.inr (Or.inr rfl)⟩)))))⟩
theorem plp_g {g : Nat} (h : g < 4) : PlP (93 + 3 * g) ∧ PlP (94 + 3 * g) := ⟨Or.inr (Or.inr (Or.inr (Or.inr (Or.inr (Or.inr ⟨g, h, Or.inl rfl⟩))))), Or.inr (Or.inr (Or.inr (Or.inr (Or.inr (Or.inr ⟨g, h, Or.inr rfl⟩)))))⟩
theorem plp_0 {k : Nat} (h : k < 4 ∨ k = 9 ∨ k = 13 ∨ k = 14) : PlP k := by
  unfold PlP
  omega
/-- the plan sees its own places and cells alone -/
theorem pln_g {b d : Nat} {s s' : Sg} {M M' : Nat → Int32} (h : PlnR b s M) (hf : ∀ k, 13 ≤ k → k ≤ 19 → s'.1 (d + 1) k = s.1 (b + 1) k) (hs : ∀ i k, 7 ≤ i → i ≤ 15 → k < (if i ≤ 10 then 8 else 4) → s'.1 (d + i) k = s.1 (b + i) k) (hM : ∀ k, PlP k → M' k = M k) : PlnR d s' M' := by
  have b1 := h.2.1.2.1
  have b2 := h.2.1.2.2.1
  have b3 := h.2.1.2.2.2
  unfold PlnR at h ⊢
  refine plan_x h (fun k k1 k2 => hf k (by omega) (by omega)) (fun k hk => hM k (plp_0 (by omega))) ⟨by rw [hf 17 (by decide) (by decide), hM 9 (plp_0 (by decide))]; exact h.2.2.1.1, by rw [hf 18 (by decide) (by decide), hM 13 (plp_0 (by decide))]; exact h.2.2.1.2.1, by rw [hf 19 (by decide) (by decide), hM 14 (plp_0 (by decide))]; exact h.2.2.1.2.2⟩ (fun q hq => ?_) (fun x hx => hs 10 x (by decide) (by decide) hx) (fun c hc => ?_) (fun g hg => ?_)
  · have q8 : q < 8 := by omega
    have w := plp_q q8
    exact ⟨⟨hs 7 q (by decide) (by decide) q8, hs 8 q (by decide) (by decide) q8, hs 9 q (by decide) (by decide) q8⟩, hM _ w.1, hM _ w.2.1, hM _ w.2.2⟩
  · have c4 : c < 4 := by omega
    have w := plp_c c4
    exact ⟨⟨hs 11 c (by decide) (by decide) c4, hs 12 c (by decide) (by decide) c4, hs 13 c (by decide) (by decide) c4⟩, hM _ w.1, hM _ w.2.1, hM _ w.2.2⟩
  · have g4 : g < 4 := by omega
    have w := plp_g g4
    exact ⟨⟨hs 14 g (by decide) (by decide) g4, hs 15 g (by decide) (by decide) g4⟩, hM _ w.1, hM _ w.2⟩
theorem plb_g {M M' : Nat → Int32} (h : PlB M) (b : (M 1).toInt ≤ 8 ∧ (M 2).toInt ≤ 4 ∧ (M 3).toInt ≤ 4) (hM : ∀ k, PlP k → M' k = M k) : PlB M' := by
  obtain ⟨h1, h2, h3, h4, h5, h6⟩ := h
  unfold PlB
  rw [hM 0 (plp_0 (by decide)), hM 1 (plp_0 (by decide)), hM 2 (plp_0 (by decide)), hM 3 (plp_0 (by decide)), hM 9 (plp_0 (by decide)), hM 13 (plp_0 (by decide)), hM 14 (plp_0 (by decide))]
  refine ⟨fun q hq => ?_, fun c hc => ?_, fun g hg => ?_, h4, h5, h6⟩
  · rw [hM _ (plp_q (by omega)).2.2]
    exact h1 q hq
  · have w := plp_c (show c < 4 by omega)
    rw [hM _ w.1, hM _ w.2.1, hM _ w.2.2]
    exact h2 c hc
  · have w := plp_g (show g < 4 by omega)
    rw [hM _ w.1, hM _ w.2]
    exact h3 g hg
/-- the same comes to a cell of the ground and to its place -/
theorem ng_i {o c k p : Nat} {v : Int32} {s t : Sg} (ho : o = 0 ∨ o = 27) (h : NowG o s t) (g : Gp o c k p) (hv : p = 10 → v = 0 ∨ v = 1) (hz : ∀ x, x < 8 → (p = 16 + 3 * x ∨ p = 17 + 3 * x ∨ p = 18 + 3 * x) → bt (t.1 1 9) x = true → v = 0) : NowG o (pI s c k v) (pI t 1 p v) := by
  obtain ⟨⟨h1, h2, h3, h4, h5⟩, h6, h7, h8⟩ := h
  have gc : c = 26 + o ∨ (40 + o ≤ c ∧ c ≤ 44 + o) := by
    unfold Gp at g
    omega
  have gk : c = 26 + o → ¬ k = 5 := by
    unfold Gp at g
    omega
  have gp : GPl p := by
    unfold Gp at g
    unfold GPl
    rcases g with ⟨y, z⟩ | ⟨y, z, w⟩ | ⟨y, z⟩
    · by_cases x : p = 44 + 5 * k
      · exact Or.inr (Or.inr (Or.inl ⟨k, y, Or.inr x⟩))
      · exact Or.inl (by omega)
    · exact Or.inr (Or.inl ⟨k, w⟩)
    · omega
  have n43 : ∀ q, q < 8 → ¬ 43 + 5 * q = p := by
    unfold Gp at g
    omega
  have n1 : ¬ 1 = p := by
    unfold Gp at g
    omega
  have eM : ∀ x, ¬ x = p → (pI t 1 p v).1 1 x = t.1 1 x := fun x hx => by rw [pI_1, if_neg (fun z => hx z.2)]
  have pM : ∀ k, PlP k → (pI t 1 p v).1 1 k = t.1 1 k := fun k hk => eM k (plp_n gp hk)
  refine ⟨⟨pln_g h1 (fun k _ _ => by rw [pI_o _ _ _ _ _ (by omega)]) (fun i k _ _ _ => by rw [pI_o _ _ _ _ _ (by omega)]) pM, fun c' k' p' g' => ?_, fun q hq => ?_, fun q hq hQ => ?_, fun i hi => ?_⟩, ?_, plb_g h7 ⟨h1.2.1.2.1.2, h1.2.1.2.2.1.2, h1.2.1.2.2.2.2⟩ pM, fun x hx hb => ?_⟩
  · have u := gp_u g g'
    by_cases z : p' = p
    · rw [pI_1, if_pos (u.mp z), z, q_eq]
    · rw [pI_1, if_neg (fun y => z (u.mpr y)), eM p' z]
      exact h2 c' k' p' g'
  · rw [eM _ (n43 q hq)]; exact h3 q hq
  · rw [eM 1 n1] at hQ
    rw [eM _ (n43 q hq)]; exact h4 q hq hQ
  · have e : (pI s c k v).1 (26 + o) 5 = s.1 (26 + o) 5 := by
      rw [pI_1, if_neg (fun z => gk z.1.symm z.2.symm)]
    rw [e, h5 i hi]
    apply decide_eq_decide.mpr
    constructor
    · intro w; exact ⟨w.1, by rw [eM _ (n43 i w.1)]; exact w.2⟩
    · intro w
      have y := w.2
      rw [eM _ (n43 i w.1)] at y
      exact ⟨w.1, y⟩
  · unfold Rn01
    rw [show (pI t 1 p v).1 0 24 = t.1 0 24 from q_nc rfl]
    refine ⟨?_, h6.2⟩
    by_cases z : p = 10
    · subst z
      rw [q_eq]
      exact hv rfl
    · rw [eM 10 (fun y => z y.symm)]
      exact h6.1
  · rw [pM 9 (plp_0 (by decide))] at hb
    have w := h8 x hx hb
    have y : ∀ j, j = 16 + 3 * x ∨ j = 17 + 3 * x ∨ j = 18 + 3 * x → t.1 1 j = 0 → (pI t 1 p v).1 1 j = 0 := fun j hj hz0 => by
      by_cases z : j = p
      · rw [z, q_eq]
        exact hz x hx (by omega) hb
      · rw [eM j z]; exact hz0
    exact ⟨y _ (by omega) w.1, y _ (by omega) w.2.1, y _ (by omega) w.2.2⟩
/-- cells that the ground and the plan don't have -/
theorem ng_k {o : Nat} {s t s' t' : Sg} (h : NowG o s t) (hs : ∀ c, (c = 25 ∨ (31 ≤ c ∧ c ≤ 39) ∨ c = 26 + o ∨ (40 + o ≤ c ∧ c ≤ 44 + o)) → s'.1 c = s.1 c) (ht : ∀ k, k < 110 → t'.1 1 k = t.1 1 k) (h24 : t'.1 0 24 = t.1 0 24) : NowG o s' t' := by
  obtain ⟨⟨h1, h2, h3, h4, h5⟩, h6, h7, h8⟩ := h
  have pM : ∀ k, PlP k → t'.1 1 k = t.1 1 k := fun k hk => ht k (by
    rcases hk with z | z | z | z | ⟨q', z, z'⟩ | ⟨c', z, z'⟩ | ⟨g', z, z'⟩ <;> omega)
  refine ⟨⟨pln_g h1 (fun k _ _ => by rw [hs _ (by omega)]) (fun i k _ _ _ => by rw [hs _ (by omega)]) pM, fun c k p g => ?_, fun q hq => ?_, fun q hq hQ => ?_, fun i hi => ?_⟩, ?_, plb_g h7 ⟨h1.2.1.2.1.2, h1.2.1.2.2.1.2, h1.2.1.2.2.2.2⟩ pM, fun x hx hb => ?_⟩
  · have a := h2 c k p g
    unfold Gp at g
    rw [hs c (by omega), ht p (by omega)]
    exact a
  · rw [ht _ (by omega)]; exact h3 q hq
  · rw [ht 1 (by decide)] at hQ
    rw [ht _ (by omega)]; exact h4 q hq hQ
  · rw [hs (26 + o) (by omega), h5 i hi]
    apply decide_eq_decide.mpr
    constructor
    · intro w; exact ⟨w.1, by rw [ht _ (by omega)]; exact w.2⟩
    · intro w
      have y := w.2
      rw [ht _ (by omega)] at y
      exact ⟨w.1, y⟩
  · unfold Rn01
    rw [ht 10 (by decide), h24]
    exact h6
  · rw [ht 9 (by decide)] at hb
    rw [ht _ (by omega), ht _ (by omega), ht _ (by omega)]
    exact h8 x hx hb
theorem e13_ {o : Nat} {s t : Sg} (H : NowG o s t) : s.1 25 13 = t.1 1 0 := Int32.toInt_inj.mp (by
  have h : (s.1 25 13).toInt = (t.1 1 0).toInt + 0 := H.1.1.1.1
  omega)
/-! small steps of both sides -/
theorem if1 {α : Type} {a b : α} : (if (1 : Int32) = 0 then a else b) = b := if_neg i10
theorem if0 {α : Type} {a b : α} : (if (0 : Int32) = 0 then a else b) = a := if_pos rfl
theorem cl_h {a : Int32} {h : Nat} (ha : a.toInt = (h : Int)) : a.toNatClampNeg = h := by
  have := cl_nat a
  omega
theorem hr_x {a : Int32} {h : Nat} (ha : a.toInt = (h : Int)) (hh : h < 8) : (16 + 3 * a).toNatClampNeg = 16 + 3 * h ∧ ((16 + 3 * a) + 1).toNatClampNeg = 17 + 3 * h ∧ ((16 + 3 * a) + 2).toNatClampNeg = 18 + 3 * h := by
  have e3 : (3 : Int32).toInt = 3 := rfl
  have e16 : (16 : Int32).toInt = 16 := rfl
  have e1 : (1 : Int32).toInt = 1 := rfl
  have e2 : (2 : Int32).toInt = 2 := rfl
  have m1 : (3 * a).toInt = 3 * a.toInt := i_mulx 3 a (show -2147483648 ≤ 3 * a.toInt ∧ 3 * a.toInt ≤ 2147483647 from by omega)
  have x1 : (16 + 3 * a).toInt = (16 : Int32).toInt + (3 * a).toInt := i_addx _ _ (by omega)
  have x2 : ((16 + 3 * a) + 1).toInt = (16 + 3 * a).toInt + (1 : Int32).toInt := i_addx _ _ (by omega)
  have x3 : ((16 + 3 * a) + 2).toInt = (16 + 3 * a).toInt + (2 : Int32).toInt := i_addx _ _ (by omega)
  exact ⟨cl_h (by omega), cl_h (by omega), cl_h (by omega)⟩
theorem gx_x {a : Int32} {g : Nat} (ha : a.toInt = (g : Int)) (hg : g < 4) : (92 + 3 * a).toNatClampNeg = 92 + 3 * g ∧ ((92 + 3 * a) + 1).toNatClampNeg = 93 + 3 * g ∧ ((92 + 3 * a) + 2).toNatClampNeg = 94 + 3 * g := by
  have e3 : (3 : Int32).toInt = 3 := rfl
  have e16 : (92 : Int32).toInt = 92 := rfl
  have e1 : (1 : Int32).toInt = 1 := rfl
  have e2 : (2 : Int32).toInt = 2 := rfl
  have m1 : (3 * a).toInt = 3 * a.toInt := i_mulx 3 a (show -2147483648 ≤ 3 * a.toInt ∧ 3 * a.toInt ≤ 2147483647 from by omega)
  have x1 : (92 + 3 * a).toInt = (92 : Int32).toInt + (3 * a).toInt := i_addx _ _ (by omega)
  have x2 : ((92 + 3 * a) + 1).toInt = (92 + 3 * a).toInt + (1 : Int32).toInt := i_addx _ _ (by omega)
  have x3 : ((92 + 3 * a) + 2).toInt = (92 + 3 * a).toInt + (2 : Int32).toInt := i_addx _ _ (by omega)
  exact ⟨cl_h (by omega), cl_h (by omega), cl_h (by omega)⟩
theorem cx_x {a : Int32} {c : Nat} (ha : a.toInt = (c : Int)) (hc : c < 4) : (80 + 3 * a).toNatClampNeg = 80 + 3 * c ∧ ((80 + 3 * a) + 1).toNatClampNeg = 81 + 3 * c ∧ ((80 + 3 * a) + 2).toNatClampNeg = 82 + 3 * c := by
  have e3 : (3 : Int32).toInt = 3 := rfl
  have e16 : (80 : Int32).toInt = 80 := rfl
  have e1 : (1 : Int32).toInt = 1 := rfl
  have e2 : (2 : Int32).toInt = 2 := rfl
  have m1 : (3 * a).toInt = 3 * a.toInt := i_mulx 3 a (show -2147483648 ≤ 3 * a.toInt ∧ 3 * a.toInt ≤ 2147483647 from by omega)
  have x1 : (80 + 3 * a).toInt = (80 : Int32).toInt + (3 * a).toInt := i_addx _ _ (by omega)
  have x2 : ((80 + 3 * a) + 1).toInt = (80 + 3 * a).toInt + (1 : Int32).toInt := i_addx _ _ (by omega)
  have x3 : ((80 + 3 * a) + 2).toInt = (80 + 3 * a).toInt + (2 : Int32).toInt := i_addx _ _ (by omega)
  exact ⟨cl_h (by omega), cl_h (by omega), cl_h (by omega)⟩
theorem hr_p (a : Int32) (t : Sg) : PQ (f_X12_houseRow a t) (fun r t' => t' = t ∧ r = 16 + 3 * a) := pq_s ⟨rfl, rfl⟩
def lyM (M : Nat → Int32) (h : Nat) : Int32 := M (16 + 3 * h) + M (17 + 3 * h)
theorem grains_m {a : Int32} {h : Nat} (ha : a.toInt = (h : Int)) (hh : h < 8) (t : Sg) : PQ (f_X12_grainsOn a t) (fun r t' => t' = t ∧ r = lyM (t.1 1) h) := by
  have x := hr_x ha hh
  unfold f_X12_grainsOn
  refine pq_b (hr_p a t) (fun r1 t2 g => pq_c (fun _ => pq_b (hr_p a t2) (fun r4 t5 k => pq_c (fun _ => pq_s ?_))))
  obtain ⟨e1, g⟩ := g
  obtain ⟨e2, k⟩ := k
  rw [e2, e1, g, k, x.1, x.2.1]
  exact ⟨rfl, rfl⟩
theorem gone_c {M : Nat → Int32} {s : Sg} (P : PlnR 24 s M) {a : Int32} {h : Nat} (ha : a.toInt = (h : Int)) (hh : h < 32) : PQ (f_X4_isGone a s) (fun r s' => s' = s ∧ Fl (bt (M 9) h = true) r) := by
  unfold f_X4_isGone
  have e : s.1 25 17 = M 9 := P.2.2.1.1
  rw [e]
  exact pq_f0 (sh1_0 (M 9) a ha hh)
theorem gone_m {a : Int32} {h : Nat} (ha : a.toInt = (h : Int)) (hh : h < 32) (t : Sg) : PQ (f_X12_isGone a t) (fun r t' => t' = t ∧ Fl (bt (t.1 1 9) h = true) r) := by
  unfold f_X12_isGone
  exact pq_fl (sh1_1 (t.1 1 9) a ha hh)
def HsM (M : Nat → Int32) (a : Int32) : Prop := 0 ≤ a.toInt ∧ a.toInt < (M 0).toInt
theorem isH_c {M : Nat → Int32} {s : Sg} (P : PlnR 24 s M) (a : Int32) : PQ (f_X11_isHouse a s) (fun r s' => s' = s ∧ Fl (HsM M a) r) := by
  have e : (s.1 25 13).toInt = (M 0).toInt + 0 := P.1.1
  have b := P.2.1.1
  have e0 : (0 : Int32).toInt = 0 := rfl
  have e1 : (1 : Int32).toInt = 1 := rfl
  have sb := i_sub (s.1 25 13) 1
  unfold f_X11_isHouse
  refine pq_b (wi_p a 0 ((s.1 25 13) - 1) s) (fun r s2 g => pq_c (fun _ => pq_s ⟨g.1, ?_⟩))
  unfold Fl HsM
  rcases g.2 with q | q
  · exact Or.inl ⟨q.1, by omega, by omega⟩
  · exact Or.inr ⟨q.1, by omega⟩
theorem isH_m (a : Int32) (t : Sg) : PQ (f_X12_isHouse a t) (fun r t' => t' = t ∧ Fl (HsM (t.1 1) a) r) := by
  have e0 : (0 : Int32).toInt = 0 := rfl
  unfold f_X12_isHouse Fl HsM
  refine pq_if (fun c => pq_s ⟨rfl, Or.inr ⟨rfl, ?_⟩⟩) (fun c => pq_if (fun d => pq_s ⟨rfl, Or.inr ⟨rfl, ?_⟩⟩) (fun d => pq_s ⟨rfl, Or.inl ⟨rfl, ?_⟩⟩))
  · have := i_lt c
    omega
  · have := i_le d
    omega
  · have := i_nlt c
    have := i_nle d
    omega
/-- why there is no such step: 1, 7, or 0 -/
def Wn (M : Nat → Int32) (a : Int32) (P : Prop) (r : Int32) : Prop := (r = 1 ∧ ¬ (HsM M a ∧ P)) ∨ (r = 7 ∧ (HsM M a ∧ P) ∧ bt (M 9) a.toInt.toNat = true) ∨ (r = 0 ∧ (HsM M a ∧ P) ∧ ¬ bt (M 9) a.toInt.toNat = true)
theorem hs_n {M : Nat → Int32} {a : Int32} (b : (M 0).toInt ≤ 8) (h : HsM M a) : a.toInt = (a.toInt.toNat : Int) ∧ a.toInt.toNat < 8 := by
  unfold HsM at h
  omega
theorem whyNo_c {M : Nat → Int32} {s : Sg} (P : PlnR 24 s M) (a f : Int32) {Q : Prop} (hf : Fl Q f) : PQ (f_X11_whyNoStep a f s) (fun r s' => s' = s ∧ Wn M a Q r) := by
  unfold f_X11_whyNoStep
  refine pq_b (isH_c P a) (fun r1 s2 g => ?_)
  obtain ⟨es, g⟩ := g
  subst es
  refine pq_if (fun c => pq_s ⟨rfl, Or.inl ⟨rfl, fun w => r1_n g c w.1⟩⟩) (fun c => pq_if (fun d => pq_s ⟨rfl, Or.inl ⟨rfl, fun w => r1_n hf d w.2⟩⟩) (fun d => ?_))
  have hh := r1_y g c
  have hq := r1_y hf d
  have n := hs_n P.2.1.1.2 hh
  refine pq_b (gone_c P n.1 (by omega)) (fun r3 s4 k => ?_)
  obtain ⟨es, k⟩ := k
  subst es
  exact pq_if (fun e => pq_s ⟨rfl, Or.inr (Or.inr ⟨rfl, ⟨hh, hq⟩, r1_n k e⟩)⟩) (fun e => pq_s ⟨rfl, Or.inr (Or.inl ⟨rfl, ⟨hh, hq⟩, r1_y k e⟩)⟩)
theorem wrong_m (a : Int32) {t : Sg} (b : (t.1 1 0).toInt ≤ 8) : PQ (f_X12_wrongStep a t) (fun r t' => t' = t ∧ Wn (t.1 1) a True r) := by
  unfold f_X12_wrongStep
  refine pq_b (isH_m a t) (fun r1 s2 g => ?_)
  obtain ⟨es, g⟩ := g
  subst es
  refine pq_if (fun c => pq_s ⟨rfl, Or.inl ⟨rfl, fun w => r1_n g c w.1⟩⟩) (fun c => ?_)
  have hh := r1_y g c
  have n := hs_n b hh
  refine pq_b (gone_m n.1 (by omega) s2) (fun r3 s4 k => ?_)
  obtain ⟨es, k⟩ := k
  subst es
  exact pq_if (fun e => pq_s ⟨rfl, Or.inr (Or.inr ⟨rfl, ⟨hh, trivial⟩, r1_n k e⟩)⟩) (fun e => pq_s ⟨rfl, Or.inr (Or.inl ⟨rfl, ⟨hh, trivial⟩, r1_y k e⟩)⟩)
theorem rq_wn {α β : Type} {M : Nat → Int32} {a : Int32} {oC oM : Option (Int32 × Sg)} {s t : Sg} {kC : Int32 → Sg → Option (α × Sg)} {kM : Int32 → Sg → Option (β × Sg)} {R : α → Sg → β → Sg → Prop} (h : PQ oC (fun r s' => s' = s ∧ Wn M a True r)) (g : PQ oM (fun r t' => t' = t ∧ Wn M a True r)) (h1 : RQ (kC 1 s) (kM 1 t) R) (h7 : HsM M a → bt (M 9) a.toInt.toNat = true → RQ (kC 7 s) (kM 7 t) R) (h0 : HsM M a → ¬ bt (M 9) a.toInt.toNat = true → RQ (kC 0 s) (kM 0 t) R) : RQ (bd oC kC) (bd oM kM) R := by
  refine rq_bC h (fun r s' x => rq_bM g (fun r' t' y => ?_))
  obtain ⟨es, x⟩ := x
  obtain ⟨et, y⟩ := y
  subst es; subst et
  rcases x with x | x | x <;> rcases y with y | y | y
  · rw [x.1, y.1]; exact h1
  · exact absurd y.2.1 x.2
  · exact absurd y.2.1 x.2
  · exact absurd x.2.1 y.2
  · rw [x.1, y.1]; exact h7 x.2.1.1 x.2.2
  · exact absurd x.2.2 y.2.2
  · exact absurd x.2.1 y.2
  · exact absurd y.2.2 x.2.2
  · rw [x.1, y.1]; exact h0 x.2.1.1 x.2.2
/-- the same answer, the same status, the same street -/
def AnS (r : Int32) (s : Sg) (r' : Int32) (t : Sg) : Prop := r = r' ∧ s.1 0 15 = t.1 0 2 ∧ NowG 0 s t
theorem ref_r {s t : Sg} (h : NowG 0 s t) (w : Int32) : RQ (bd (f_X11_refuse w s) (fun r s => some (r, s))) (bd (f_X12_refuse w t) (fun r t => some (r, t))) AnS := by
  have q : RQ (some ((-1 : Int32), pI s 0 15 w)) (some ((-1 : Int32), pI t 0 2 w)) AnS := rq_s ⟨rfl, by rw [q_eq, q_eq], ng_k h (fun c hc => pI_o _ _ _ _ _ (by omega)) (fun k _ => q_nc rfl) (q_ne rfl)⟩
  exact q
theorem ans_r {s t : Sg} (h : NowG 0 s t) {v v' : Int32} (e : v = v') : RQ (bd (f_X11_answer v s) (fun r s => some (r, s))) (bd (f_X12_gives v' t) (fun r t => some (r, t))) AnS := by
  have q : RQ (some (v, pI s 0 15 0)) (some (v', pI t 0 2 0)) AnS := rq_s ⟨e, by rw [q_eq, q_eq], ng_k h (fun c hc => pI_o _ _ _ _ _ (by omega)) (fun k _ => q_nc rfl) (q_ne rfl)⟩
  exact q
theorem from_m (g lo hi : Int32) (t : Sg) : PQ (f_X12_isFrom g.toInt64 lo.toInt64 hi.toInt64 t) (fun r t' => t' = t ∧ Fl (lo.toInt ≤ g.toInt ∧ g.toInt ≤ hi.toInt) r) := by
  refine pq_w (if_p _ _ _ t) (fun r t' w => ⟨w.1, ?_⟩)
  have e1 : g.toInt64.toInt = g.toInt := Int32.toInt_toInt64 g
  have e2 : lo.toInt64.toInt = lo.toInt := Int32.toInt_toInt64 lo
  have e3 : hi.toInt64.toInt = hi.toInt := Int32.toInt_toInt64 hi
  rw [e1, e2, e3] at w
  exact w.2
theorem ly_c {M : Nat → Int32} {s : Sg} (G : GrdT 0 s M) {a : Int32} {h : Nat} (ha : a.toInt = (h : Int)) (hh : h < 8) : PQ (f_X2_lying a s) (fun r s' => s' = s ∧ r = lyM M h) := by
  have e1 : s.1 40 h = M (16 + 3 * h) := G 40 h _ (Or.inl ⟨hh, Or.inl ⟨rfl, rfl⟩⟩)
  have e2 : s.1 41 h = M (17 + 3 * h) := G 41 h _ (Or.inl ⟨hh, Or.inr (Or.inl ⟨rfl, rfl⟩)⟩)
  unfold f_X2_lying
  refine pq_c (fun _ => pq_s ⟨rfl, ?_⟩)
  rw [cl_h ha, e1, e2]
  rfl
theorem room_c {M : Nat → Int32} {s : Sg} (G : GrdT 0 s M) {a : Int32} {h : Nat} (ha : a.toInt = (h : Int)) (hh : h < 8) (g : Int32) : PQ (f_X2_hasRoom a g s) (fun r s' => s' = s ∧ Fl (¬ 9999 < lyM M h + g) r) := by
  unfold f_X2_hasRoom
  refine pq_b (ly_c G ha hh) (fun r s2 e => ?_)
  obtain ⟨es, e⟩ := e
  subst es; subst e
  exact pq_f0 ⟨fun w z => z w, fun w => Classical.byContradiction w⟩
theorem addSalt_c {a : Int32} {h : Nat} (ha : a.toInt = (h : Int)) (g : Int32) (s : Sg) : PQ (f_X2_addSalt a g s) (fun _ s' => s' = pI (pI s 40 h (s.1 40 h + g)) 26 9 (s.1 26 9 + g)) := by
  unfold f_X2_addSalt
  refine pq_c (fun _ => pq_n (fun s2 e => pq_s ?_))
  rw [e, q_nc rfl, cl_h ha]
theorem ly_cz {M : Nat → Int32} {s : Sg} (G : GrdT 27 s M) {a : Int32} {h : Nat} (ha : a.toInt = (h : Int)) (hh : h < 8) : PQ (f_X2_lying_53 a s) (fun r s' => s' = s ∧ r = lyM M h) := by
  have e1 : s.1 67 h = M (16 + 3 * h) := G 67 h _ (Or.inl ⟨hh, Or.inl ⟨rfl, rfl⟩⟩)
  have e2 : s.1 68 h = M (17 + 3 * h) := G 68 h _ (Or.inl ⟨hh, Or.inr (Or.inl ⟨rfl, rfl⟩)⟩)
  unfold f_X2_lying_53
  refine pq_c (fun _ => pq_s ⟨rfl, ?_⟩)
  rw [cl_h ha, e1, e2]
  rfl
theorem room_cz {M : Nat → Int32} {s : Sg} (G : GrdT 27 s M) {a : Int32} {h : Nat} (ha : a.toInt = (h : Int)) (hh : h < 8) (g : Int32) : PQ (f_X2_hasRoom_53 a g s) (fun r s' => s' = s ∧ Fl (¬ 9999 < lyM M h + g) r) := by
  unfold f_X2_hasRoom_53
  refine pq_b (ly_cz G ha hh) (fun r s2 e => ?_)
  obtain ⟨es, e⟩ := e
  subst es; subst e
  exact pq_f0 ⟨fun w z => z w, fun w => Classical.byContradiction w⟩
theorem addSalt_cz {a : Int32} {h : Nat} (ha : a.toInt = (h : Int)) (g : Int32) (s : Sg) : PQ (f_X2_addSalt_53 a g s) (fun _ s' => s' = pI (pI s 67 h (s.1 67 h + g)) 53 9 (s.1 53 9 + g)) := by
  unfold f_X2_addSalt_53
  refine pq_c (fun _ => pq_n (fun s2 e => pq_s ?_))
  rw [e, q_nc rfl, cl_h ha]
theorem room_m {a : Int32} {h : Nat} (ha : a.toInt = (h : Int)) (hh : h < 8) (g : Int32) (t : Sg) : PQ (f_X12_hasRoom a g t) (fun r t' => t' = t ∧ Fl (¬ 9999 < lyM (t.1 1) h + g) r) := by
  unfold f_X12_hasRoom
  refine pq_b (grains_m ha hh t) (fun r s2 e => ?_)
  obtain ⟨es, e⟩ := e
  subst es; subst e
  exact pq_f0 ⟨fun w z => z w, fun w => Classical.byContradiction w⟩
theorem strews_m {a : Int32} {h : Nat} (ha : a.toInt = (h : Int)) (hh : h < 8) (g : Int32) (t : Sg) : PQ (f_X12_strews a g t) (fun _ t' => t' = pI (pI t 1 (16 + 3 * h) (t.1 1 (16 + 3 * h) + g)) 1 5 (t.1 1 5 + g)) := by
  have x := hr_x ha hh
  unfold f_X12_strews
  refine pq_b (hr_p a t) (fun r t2 e => pq_c (fun _ => pq_n (fun t4 f => pq_s ?_)))
  obtain ⟨et, e⟩ := e
  subst et
  rw [f, e, x.1, pI_1, if_neg (fun z => by have := z.2; omega)]
theorem add_r {s t : Sg} (H : NowG 0 s t) {a : Int32} {h : Nat} (ha : a.toInt = (h : Int)) (hh : h < 8) (hg : ¬ bt (t.1 1 9) h = true) (g : Int32) : RQ (f_X2_addSalt a g s) (f_X12_strews a g t) (fun _ s' _ t' => NowG 0 s' t' ∧ t'.1 1 9 = t.1 1 9) := by
  refine rq_pp (addSalt_c ha g s) (strews_m ha hh g t) (fun _ s' _ t' es et => ?_)
  have e1 : s.1 40 h = t.1 1 (16 + 3 * h) := H.1.2.1 40 h _ (Or.inl ⟨hh, Or.inl ⟨rfl, rfl⟩⟩)
  have e2 : s.1 26 9 = t.1 1 5 := H.1.2.1 26 9 5 (Or.inr (Or.inr ⟨rfl, by omega⟩))
  rw [es, et, e1, e2]
  refine ⟨ng_i (by omega) (ng_i (by omega) H (Or.inl ⟨hh, Or.inl ⟨rfl, rfl⟩⟩) (fun z => by omega) (fun x hx z b => ?_)) (Or.inr (Or.inr ⟨rfl, by omega⟩)) (fun z => absurd z (by decide)) (fun x hx z => absurd z (by omega)), ?_⟩
  · have q : x = h := by omega
    subst q
    exact absurd b hg
  · rw [q_ne rfl, pI_1, if_neg (fun z => by have := z.2; omega)]
theorem add_rz {s t : Sg} (H : NowG 27 s t) {a : Int32} {h : Nat} (ha : a.toInt = (h : Int)) (hh : h < 8) (hg : ¬ bt (t.1 1 9) h = true) (g : Int32) : RQ (f_X2_addSalt_53 a g s) (f_X12_strews a g t) (fun _ s' _ t' => NowG 27 s' t' ∧ t'.1 1 9 = t.1 1 9) := by
  refine rq_pp (addSalt_cz ha g s) (strews_m ha hh g t) (fun _ s' _ t' es et => ?_)
  have e1 : s.1 67 h = t.1 1 (16 + 3 * h) := H.1.2.1 67 h _ (Or.inl ⟨hh, Or.inl ⟨rfl, rfl⟩⟩)
  have e2 : s.1 53 9 = t.1 1 5 := H.1.2.1 53 9 5 (Or.inr (Or.inr ⟨rfl, by omega⟩))
  rw [es, et, e1, e2]
  refine ⟨ng_i (by omega) (ng_i (by omega) H (Or.inl ⟨hh, Or.inl ⟨rfl, rfl⟩⟩) (fun z => by omega) (fun x hx z b => ?_)) (Or.inr (Or.inr ⟨rfl, by omega⟩)) (fun z => absurd z (by decide)) (fun x hx z => absurd z (by omega)), ?_⟩
  · have q : x = h := by omega
    subst q
    exact absurd b hg
  · rw [q_ne rfl, pI_1, if_neg (fun z => by have := z.2; omega)]
theorem strew_r {s t : Sg} (H : NowG 0 s t) (a g : Int32) : RQ (f_X11_strew a g s) (f_X12_strew a g t) AnS := by
  have e1 : (1 : Int32).toInt = 1 := rfl
  have e999 : (999 : Int32).toInt = 999 := rfl
  unfold f_X11_strew f_X12_strew
  refine rq_f (P := (1 : Int32).toInt ≤ g.toInt ∧ g.toInt ≤ (999 : Int32).toInt) (wi_p g 1 999 s) (from_m g 1 999 t) Iff.rfl (fun hy => ?_) (fun hn => ?_)
  · rw [if1]
    refine rq_wn (whyNo_c H.1.1 a 1 (Or.inl ⟨rfl, trivial⟩)) (wrong_m a H.1.1.2.1.1.2) ?_ (fun hh hg => ?_) (fun hh hg => ?_)
    · unfold f_X12_strew_b21
      rw [if1, if_pos (show (1 : Int32) = 1 from rfl)]
      exact ref_r H 1
    · have n := hs_n H.1.1.2.1.1.2 hh
      have z := H.2.2.2 _ n.2 hg
      unfold f_X12_strew_b21
      rw [if_neg (show ¬ (7 : Int32) = 0 by decide), if_neg (show ¬ (7 : Int32) = 1 by decide)]
      refine rq_bM (room_m n.1 n.2 g t) (fun r t2 k => ?_)
      obtain ⟨et, k⟩ := k
      subst et
      rcases k with k | k
      · rw [k.1, if1, if_pos rfl]
        exact ref_r H 7
      · exfalso
        refine k.2 (fun w => ?_)
        have w := i_lt w
        have e : lyM (t2.1 1) a.toInt.toNat + g = g := by
          unfold lyM
          rw [z.1, z.2.1]
          apply Int32.toInt_inj.mp
          have e0 : ((0 : Int32) + 0) = 0 := rfl
          rw [e0, i_addx 0 g (by have e0 : (0 : Int32).toInt = 0 := rfl; omega)]
          have e0 : (0 : Int32).toInt = 0 := rfl
          omega
        rw [e] at w
        have e9 : (9999 : Int32).toInt = 9999 := rfl
        omega
    · have n := hs_n H.1.1.2.1.1.2 hh
      unfold f_X12_strew_b21
      rw [if0, if_neg (show ¬ (0 : Int32) = 1 by decide)]
      refine rq_f (room_c H.1.2.1 n.1 n.2 g) (room_m n.1 n.2 g t) Iff.rfl (fun _ => ?_) (fun _ => ?_)
      · rw [if1, if1, if_neg (show ¬ (0 : Int32) = 7 by decide)]
        refine rq_b2 (add_r H n.1 n.2 hg g) (fun _ s10 _ t12 k => rq_cC (fun _ => rq_bM (hr_p a t12) (fun r13 t14 e => rq_cM (fun _ => ?_))))
        obtain ⟨et, e⟩ := e
        subst et
        rw [e, (hr_x n.1 n.2).1, cl_h n.1]
        exact ans_r k.1 (k.1.1.2.1 40 _ _ (Or.inl ⟨n.2, Or.inl ⟨rfl, rfl⟩⟩))
      · rw [if0, if0]
        exact ref_r H 4
  · rw [if0]
    refine rq_bC (whyNo_c H.1.1 a 0 (Q := False) (Or.inr ⟨rfl, fun z => z⟩)) (fun r s2 k => ?_)
    obtain ⟨es, k⟩ := k
    subst es
    unfold f_X12_strew_b21
    rw [if_pos (show (1 : Int32) = 1 from rfl)]
    rcases k with k | k | k
    · rw [k.1, if1]
      exact ref_r H 1
    · exact k.2.1.2.elim
    · exact k.2.1.2.elim
/-! what is done: buy, sweep, shovel, rain, snow -/
theorem min_c (a b : Int32) : (if a < b then a else b) = (if b < a then b else a) := by
  by_cases h : a < b
  · have h' := i_lt h
    rw [if_pos h, if_neg (fun z => by have := i_lt z; omega)]
  · rw [if_neg h]
    by_cases g : b < a
    · rw [if_pos g]
    · rw [if_neg g]
      have h := i_nlt h
      have g := i_nlt g
      exact Int32.toInt_inj.mp (by omega)
theorem pI_cm (s : Sg) (c k k' : Nat) (v v' : Int32) (h : ¬ k = k') : pI (pI s c k v) c k' v' = pI (pI s c k' v') c k v := by
  have e : ∀ c2 k2, (pI (pI s c k v) c k' v').1 c2 k2 = (pI (pI s c k' v') c k v).1 c2 k2 := fun c2 k2 => by
    rw [pI_1, pI_1, pI_1, pI_1]
    by_cases a : c2 = c ∧ k2 = k
    · rw [if_neg (fun z => h (a.2.symm.trans z.2)), if_pos a, if_pos a]
    · rw [if_neg a, if_neg a]
  exact Prod.ext (funext fun c2 => funext fun k2 => e c2 k2) rfl
theorem gone_k {t : Sg} {h p : Nat} {v : Int32} (hp : ¬ p = 9) (hg : ¬ bt (t.1 1 9) h = true) : ¬ bt ((pI t 1 p v).1 1 9) h = true := by
  rw [pI_1, if_neg (fun z => hp z.2.symm)]
  exact hg
theorem gS {s t : Sg} (H : NowG 0 s t) {h : Nat} (hh : h < 8) : s.1 40 h = t.1 1 (16 + 3 * h) ∧ s.1 41 h = t.1 1 (17 + 3 * h) ∧ s.1 42 h = t.1 1 (18 + 3 * h) := ⟨H.1.2.1 40 h _ (Or.inl ⟨hh, Or.inl ⟨rfl, rfl⟩⟩), H.1.2.1 41 h _ (Or.inl ⟨hh, Or.inr (Or.inl ⟨rfl, rfl⟩)⟩), H.1.2.1 42 h _ (Or.inl ⟨hh, Or.inr (Or.inr (Or.inl ⟨rfl, rfl⟩))⟩)⟩
theorem nSalt {s t : Sg} (H : NowG 0 s t) {h : Nat} (hh : h < 8) (v : Int32) (hz : bt (t.1 1 9) h = true → v = 0) : NowG 0 (pI s 40 h v) (pI t 1 (16 + 3 * h) v) := ng_i (by omega) H (Or.inl ⟨hh, Or.inl ⟨rfl, rfl⟩⟩) (fun z => by omega) (fun x hx z b => hz (by
  have q : x = h := by omega
  subst q
  exact b))
theorem nSug {s t : Sg} (H : NowG 0 s t) {h : Nat} (hh : h < 8) (v : Int32) (hz : bt (t.1 1 9) h = true → v = 0) : NowG 0 (pI s 41 h v) (pI t 1 (17 + 3 * h) v) := ng_i (by omega) H (Or.inl ⟨hh, Or.inr (Or.inl ⟨rfl, rfl⟩)⟩) (fun z => by omega) (fun x hx z b => hz (by
  have q : x = h := by omega
  subst q
  exact b))
theorem nSnw {s t : Sg} (H : NowG 0 s t) {h : Nat} (hh : h < 8) (v : Int32) (hz : bt (t.1 1 9) h = true → v = 0) : NowG 0 (pI s 42 h v) (pI t 1 (18 + 3 * h) v) := ng_i (by omega) H (Or.inl ⟨hh, Or.inr (Or.inr (Or.inl ⟨rfl, rfl⟩))⟩) (fun z => by omega) (fun x hx z b => hz (by
  have q : x = h := by omega
  subst q
  exact b))
theorem nFld {s t : Sg} (H : NowG 0 s t) (k p : Nat) (v : Int32) (hk : (k = 8 ∧ p = 12) ∨ (k = 9 ∧ p = 5) ∨ (k = 10 ∧ p = 6) ∨ (k = 11 ∧ p = 7) ∨ (k = 12 ∧ p = 8)) : NowG 0 (pI s 26 k v) (pI t 1 p v) := ng_i (by omega) H (Or.inr (Or.inr ⟨rfl, by omega⟩)) (fun z => by omega) (fun x hx z => by omega)
theorem gF {s t : Sg} (H : NowG 0 s t) : s.1 26 7 = t.1 1 10 ∧ s.1 26 8 = t.1 1 12 ∧ s.1 26 9 = t.1 1 5 ∧ s.1 26 10 = t.1 1 6 ∧ s.1 26 11 = t.1 1 7 ∧ s.1 26 12 = t.1 1 8 := ⟨H.1.2.1 26 7 10 (Or.inr (Or.inr ⟨rfl, by omega⟩)), H.1.2.1 26 8 12 (Or.inr (Or.inr ⟨rfl, by omega⟩)), H.1.2.1 26 9 5 (Or.inr (Or.inr ⟨rfl, by omega⟩)), H.1.2.1 26 10 6 (Or.inr (Or.inr ⟨rfl, by omega⟩)), H.1.2.1 26 11 7 (Or.inr (Or.inr ⟨rfl, by omega⟩)), H.1.2.1 26 12 8 (Or.inr (Or.inr ⟨rfl, by omega⟩))⟩
theorem buys_r {s t : Sg} (H : NowG 0 s t) {a c : Int32} {g h : Nat} (ha : a.toInt = (g : Int)) (hg : (g : Int) < (t.1 1 3).toInt) (hc : c.toInt = (h : Int)) (hh : h < 8) (ng : ¬ bt (t.1 1 9) h = true) (n : Int32) : RQ (f_X2_addBought_25 a n c s) (f_X12_buys a n c t) (fun r s' r' t' => r = r' ∧ NowG 0 s' t') := by
  have g4 : g < 4 := by
    have := H.1.1.2.1.2.2.2.2
    omega
  have x := gx_x ha g4
  have y := hr_x hc hh
  have pl := H.1.1.2.2.2.2.2.2 g hg
  have p1 : s.1 38 g = t.1 1 (93 + 3 * g) := pl.1
  have p2 : s.1 39 g = t.1 1 (94 + 3 * g) := pl.2
  have st : s.1 44 g = t.1 1 (92 + 3 * g) := H.1.2.1 44 g _ (Or.inr (Or.inl ⟨g4, rfl, rfl⟩))
  unfold f_X2_addBought_25 f_X12_buys
  refine rq_cC (fun _ => rq_cM (fun _ => rq_nC (fun x2 e2 => rq_nM (fun y2 f2 => ?_))))
  have exy : x2 = y2 := by rw [e2, f2, cl_h ha, x.2.2, p2]
  subst exy
  refine rq_cM (fun _ => rq_nC (fun s3 e3 => rq_nM (fun t4 f4 => ?_)))
  have H3 : NowG 0 s3 t4 := by
    rw [e3, f4, cl_h ha, x.1, st]
    exact ng_i (by omega) H (Or.inr (Or.inl ⟨g4, rfl, rfl⟩)) (fun z => by omega) (fun x hx z => by omega)
  have q3 : s3.1 38 g = t.1 1 (93 + 3 * g) := by rw [e3, q_nc rfl]; exact p1
  have q4 : t4.1 1 (93 + 3 * g) = t.1 1 (93 + 3 * g) := by rw [f4, x.1, pI_1, if_neg (fun z => by have := z.2; omega)]
  have r4 : t4.1 1 9 = t.1 1 9 := by rw [f4, x.1, pI_1, if_neg (fun z => by have := z.2; omega)]
  refine rq_cM (fun _ => rq_nC (fun s4 e4 => rq_nM (fun t6 f6 => ?_)))
  have H4 : NowG 0 s4 t6 := by
    rw [e4, f6, cl_h ha, x.2.1, q3, q4, (gF H3).2.1]
    exact nFld H3 8 12 _ (Or.inl ⟨rfl, rfl⟩)
  have ng6 : ¬ bt (t6.1 1 9) h = true := by
    rw [f6, q_ne rfl, r4]
    exact ng
  refine rq_b2 (add_r H4 hc hh ng6 (n - x2)) (fun _ s6 _ t8 k => rq_cC (fun _ => rq_bM (hr_p c t8) (fun r9 t10 e => rq_cM (fun _ => rq_nC (fun s8 e8 => rq_nM (fun t12 f12 => rq_s ⟨rfl, ?_⟩))))))
  obtain ⟨et, e⟩ := e
  subst et
  obtain ⟨k1, k2⟩ := k
  have H8 : NowG 0 s8 t12 := by
    rw [e8, f12, e, cl_h hc, y.2.1, (gS k1 hh).2.1]
    exact nSug k1 hh _ (fun b => absurd b (by rw [k2]; exact ng6))
  have w := nFld H8 9 5 (s8.1 26 9 + x2) (Or.inr (Or.inl ⟨rfl, rfl⟩))
  rw [(gF H8).2.2.1] at w ⊢
  exact w
theorem sweeps_r {s t : Sg} (H : NowG 0 s t) {a : Int32} {h : Nat} (ha : a.toInt = (h : Int)) (hh : h < 8) : RQ (f_X2_clearStep a s) (f_X12_sweeps a t) (fun r s' r' t' => r = r' ∧ NowG 0 s' t') := by
  have x := hr_x ha hh
  unfold f_X2_clearStep f_X12_sweeps
  refine rq_v (ly_c H.1.2.1 ha hh) (grains_m ha hh t) (rq_cC (fun _ => rq_bM (hr_p a t) (fun r3 t4 e => rq_cM (fun _ => rq_bM (hr_p a _) (fun r6 t7 f => rq_cM (fun _ => rq_nC (fun s4 e4 => rq_nM (fun t9 f9 => rq_nC (fun s5 e5 => rq_s ⟨rfl, ?_⟩)))))))))
  obtain ⟨et, e⟩ := e
  obtain ⟨eu, f⟩ := f
  have H4 : NowG 0 s4 t9 := by
    rw [e4, f9, f, eu, e, et, cl_h ha, x.1, x.2.1]
    exact nSug (nSalt H hh 0 (fun _ => rfl)) hh 0 (fun _ => rfl)
  rw [e5, (gF H4).2.2.2.2.1]
  exact nFld H4 11 7 _ (Or.inr (Or.inr (Or.inr (Or.inl ⟨rfl, rfl⟩))))
theorem carry_r {s t : Sg} (H : NowG 0 s t) {a b : Int32} {h j : Nat} (ha : a.toInt = (h : Int)) (hh : h < 8) (hb : b.toInt = (j : Int)) (hj : j < 8) (na : ¬ bt (t.1 1 9) h = true) (nb : ¬ bt (t.1 1 9) j = true) (n : Int32) : RQ (f_X2_carry a b n s) (f_X12_brings a b n t) (fun r s' r' t' => r = r' ∧ NowG 0 s' t' ∧ (∀ c, ¬ c = 40 → ¬ c = 41 → s'.1 c = s.1 c) ∧ (∀ p, p < 16 → t'.1 1 p = t.1 1 p) ∧ t'.1 0 = t.1 0) := by
  have x := hr_x ha hh
  have y := hr_x hb hj
  have g0 := gS H hh
  unfold f_X2_carry f_X12_brings
  refine rq_bM (hr_p a t) (fun r1 t2 e => ?_)
  obtain ⟨et, e⟩ := e
  subst et
  refine rq_cC (fun _ => rq_cM (fun _ => rq_nC (fun x2 e2 => rq_nM (fun x4 f4 => ?_))))
  have q1 : x2 = x4 := by rw [e2, f4, e, cl_h ha, x.1, g0.1]
  subst q1
  refine rq_bM (hr_p a t2) (fun r5 t6 e6 => ?_)
  obtain ⟨et, e6⟩ := e6
  subst et
  refine rq_cM (fun _ => rq_nC (fun x3 e3 => rq_nM (fun x8 f8 => ?_)))
  have q2 : x3 = x8 := by rw [e3, f8, e6, cl_h ha, x.2.1, g0.2.1]
  subst q2
  refine rq_bM (hr_p a t6) (fun r9 t10 e10 => ?_)
  obtain ⟨et, e10⟩ := e10
  subst et
  refine rq_cM (fun _ => rq_nC (fun s4 e4 => rq_nM (fun t12 f12 => ?_)))
  have H4 : NowG 0 s4 t12 := by
    rw [e4, f12, e10, cl_h ha, x.1, g0.1]
    exact nSalt H hh _ (fun w => absurd w na)
  have k12 : ∀ p, p < 16 → t12.1 1 p = t10.1 1 p := fun p hp => by rw [f12, e10, x.1, pI_1, if_neg (fun z => by have := z.2; omega)]
  have r12 := k12 9 (by decide)
  refine rq_bM (hr_p a t12) (fun r13 t14 e14 => ?_)
  obtain ⟨et, e14⟩ := e14
  subst et
  refine rq_cM (fun _ => rq_nC (fun s5 e5 => rq_nM (fun t16 f16 => ?_)))
  have H5 : NowG 0 s5 t16 := by
    rw [e5, f16, e14, cl_h ha, x.2.1, (gS H4 hh).2.1]
    exact nSug H4 hh _ (fun w => absurd w (by rw [r12]; exact na))
  have k16 : ∀ p, p < 16 → t16.1 1 p = t10.1 1 p := fun p hp => by rw [f16, e14, x.2.1, pI_1, if_neg (fun z => by have := z.2; omega)]; exact k12 p hp
  have r16 := k16 9 (by decide)
  refine rq_bM (hr_p b t16) (fun r17 t18 e18 => ?_)
  obtain ⟨et, e18⟩ := e18
  subst et
  refine rq_cC (fun _ => rq_cM (fun _ => rq_nC (fun s7 e7 => rq_nM (fun t20 f20 => ?_))))
  have H7 : NowG 0 s7 t20 := by
    rw [e7, f20, e18, cl_h hb, y.1, (gS H5 hj).1]
    exact nSalt H5 hj _ (fun w => absurd w (by rw [r16]; exact nb))
  have k20 : ∀ p, p < 16 → t20.1 1 p = t10.1 1 p := fun p hp => by rw [f20, e18, y.1, pI_1, if_neg (fun z => by have := z.2; omega)]; exact k16 p hp
  have r20 := k20 9 (by decide)
  refine rq_bM (hr_p b t20) (fun r21 t22 e22 => ?_)
  obtain ⟨et, e22⟩ := e22
  subst et
  refine rq_cM (fun _ => rq_nC (fun s8 e8 => rq_nM (fun t24 f24 => rq_s ⟨rfl, ?_, fun c c1 c2 => ?_, fun p hp => ?_, ?_⟩)))
  · rw [e8, f24, e22, cl_h hb, y.2.1, (gS H7 hj).2.1]
    exact nSug H7 hj _ (fun w => absurd w (by rw [r20]; exact nb))
  · rw [e8, pI_o _ _ _ _ _ c2, e7, pI_o _ _ _ _ _ c1, e5, pI_o _ _ _ _ _ c2, e4, pI_o _ _ _ _ _ c1]
  · rw [f24, e22, y.2.1, pI_1, if_neg (fun z => by have := z.2; omega)]
    exact k20 p hp
  · rw [f24, pI_o _ _ _ _ _ (by decide), f20, pI_o _ _ _ _ _ (by decide), f16, pI_o _ _ _ _ _ (by decide), f12, pI_o _ _ _ _ _ (by decide)]
theorem rain_b (m : Nat) : ∀ (m' i : Nat) (v2 v3 : Int32) (s t : Sg), v3.toInt = (i : Int) → i ≤ 8 → NowG 0 s t → RQ (f_X2_letRain_25_b4 m v2 v3 s) (f_X12_rains_b4 m' v2 v3 t) (fun r s' r' t' => r = r' ∧ NowG 0 s' t') := by
  induction m with
  | zero => intro m' i v2 v3 s t _ _ _ a s' b t' e; cases e
  | succ m ih =>
    intro m' i v2 v3 s t h3 hi H
    cases m' with
    | zero => exact rq_0
    | succ m' =>
      have e1 : (1 : Int32).toInt = 1 := rfl
      have e0 : (0 : Int32).toInt = 0 := rfl
      have a3 : (v3 + 1).toInt = v3.toInt + 1 := i_addx v3 1 (by omega)
      have e13 : s.1 25 13 = t.1 1 0 := e13_ H
      have b0 := H.1.1.2.1.1
      unfold f_X2_letRain_25_b4 f_X12_rains_b4
      rw [e13]
      refine rq_iC (fun c => rq_iM (fun _ => rq_nM (fun t1 f1 => rq_s ⟨rfl, ?_⟩)) (fun z => absurd c z)) (fun c => rq_iM (fun z => absurd z c) (fun _ => ?_))
      · rw [f1, (gF H).2.2.2.1]
        exact ng_i (by omega) (nFld H 10 6 _ (Or.inr (Or.inr (Or.inl ⟨rfl, rfl⟩)))) (Or.inr (Or.inr ⟨rfl, by omega⟩)) (fun _ => Or.inr rfl) (fun x hx z => absurd z (by omega))
      · have c := i_nle c
        have hh : i < 8 := by omega
        have x := hr_x h3 hh
        have g0 := gS H hh
        have ew : s.1 25 18 = t.1 1 13 := H.1.1.2.2.1.2.1
        refine rq_bM (hr_p v3 t) (fun r2 t3 e => ?_)
        obtain ⟨et, e⟩ := e
        subst et
        refine rq_cC (fun _ => rq_cM (fun _ => rq_nC (fun x2 e2 => rq_nM (fun x5 f5 => ?_))))
        have q1 : x2 = x5 := by rw [e2, f5, e, cl_h h3, x.1, g0.1, ew]; exact min_c _ _
        subst q1
        refine rq_cM (fun _ => rq_nC (fun x3 e3 => rq_nM (fun x7 f7 => ?_)))
        have q2 : x3 = x7 := by rw [e3, f7, e, cl_h h3, x.2.1, g0.2.1, Int32.add_comm x2]
        subst q2
        refine rq_nC (fun s4 e4 => rq_nM (fun t8 f8 => rq_nM (fun t9 f9 => ih m' (i + 1) x3 (v3 + 1) s4 t9 (by omega) (by omega) ?_)))
        have z0 : bt (t3.1 1 9) i = true → t3.1 1 (16 + 3 * i) - x2 = 0 := fun w => by
          have z := (H.2.2.2 i hh w).1
          have wb := H.2.2.1.2.2.2.1
          have q : x2 = 0 := by
            rw [f5, e, x.1, z]
            by_cases y : t3.1 1 13 < 0
            · have y := i_lt y
              omega
            · rw [if_neg y]
          rw [z, q]
          rfl
        rw [e4, f9, f8, e, cl_h h3, x.1, x.2.1, pI_cm _ _ _ _ _ _ (by omega), q_nc rfl, g0.1]
        refine nSalt (nSug H hh 0 (fun _ => rfl)) hh _ (fun w => z0 ?_)
        rw [pI_1, if_neg (fun z => by have := z.2; omega)] at w
        exact w
theorem rains_r {s t : Sg} (H : NowG 0 s t) : RQ (f_X2_letRain_25 s) (f_X12_rains t) (fun r s' r' t' => r = r' ∧ NowG 0 s' t') := by
  unfold f_X2_letRain_25 f_X12_rains
  exact rain_b BIG BIG 0 0 0 s t rfl (by decide) H
theorem snow_b (n : Int32) (m : Nat) : ∀ (m' i : Nat) (v3 : Int32) (s t : Sg), v3.toInt = (i : Int) → i ≤ 8 → NowG 0 s t → RQ (f_X2_letSnow_25_b2 m n v3 s) (f_X12_snows_b2 m' n v3 t) (fun _ s' _ t' => NowG 0 s' t') := by
  induction m with
  | zero => intro m' i v3 s t _ _ _ a s' b t' e; cases e
  | succ m ih =>
    intro m' i v3 s t h3 hi H
    cases m' with
    | zero => exact rq_0
    | succ m' =>
      have e1 : (1 : Int32).toInt = 1 := rfl
      have a3 : (v3 + 1).toInt = v3.toInt + 1 := i_addx v3 1 (by omega)
      have e13 : s.1 25 13 = t.1 1 0 := e13_ H
      have b0 := H.1.1.2.1.1
      unfold f_X2_letSnow_25_b2 f_X12_snows_b2
      rw [e13]
      refine rq_iC (fun c => rq_iM (fun _ => rq_s H) (fun z => absurd c z)) (fun c => rq_iM (fun z => absurd z c) (fun _ => ?_))
      have c := i_nle c
      have hh : i < 8 := by omega
      have x := hr_x h3 hh
      have g0 := gS H hh
      refine rq_f (gone_c H.1.1 h3 (by omega)) (gone_m h3 (by omega) t) Iff.rfl (fun hg => ?_) (fun hg => ?_)
      · rw [if1, if1]
        exact ih m' (i + 1) (v3 + 1) s t (by omega) (by omega) H
      · rw [if0, if0]
        refine rq_bM (hr_p v3 t) (fun r3 t4 e => rq_bM (hr_p v3 t4) (fun r5 t6 f => rq_cC (fun _ => rq_cM (fun _ => rq_cM (fun _ => rq_nC (fun s4 e4 => rq_nM (fun t9 f9 => ih m' (i + 1) (v3 + 1) s4 t9 (by omega) (by omega) ?_)))))))
        obtain ⟨et, e⟩ := e
        obtain ⟨eu, f⟩ := f
        rw [e4, f9, f, e, eu, et, cl_h h3, x.2.2, g0.2.2]
        exact nSnw H hh _ (fun w => absurd w hg)
theorem snows_r {s t : Sg} (H : NowG 0 s t) (n : Int32) : RQ (f_X2_letSnow_25 n s) (f_X12_snows n t) (fun _ s' _ t' => NowG 0 s' t') := by
  unfold f_X2_letSnow_25 f_X12_snows
  exact snow_b n BIG BIG 0 0 s t rfl (by decide) H
theorem gSz {s t : Sg} (H : NowG 27 s t) {h : Nat} (hh : h < 8) : s.1 67 h = t.1 1 (16 + 3 * h) ∧ s.1 68 h = t.1 1 (17 + 3 * h) ∧ s.1 69 h = t.1 1 (18 + 3 * h) := ⟨H.1.2.1 67 h _ (Or.inl ⟨hh, Or.inl ⟨rfl, rfl⟩⟩), H.1.2.1 68 h _ (Or.inl ⟨hh, Or.inr (Or.inl ⟨rfl, rfl⟩)⟩), H.1.2.1 69 h _ (Or.inl ⟨hh, Or.inr (Or.inr (Or.inl ⟨rfl, rfl⟩))⟩)⟩
theorem nSaltz {s t : Sg} (H : NowG 27 s t) {h : Nat} (hh : h < 8) (v : Int32) (hz : bt (t.1 1 9) h = true → v = 0) : NowG 27 (pI s 67 h v) (pI t 1 (16 + 3 * h) v) := ng_i (by omega) H (Or.inl ⟨hh, Or.inl ⟨rfl, rfl⟩⟩) (fun z => by omega) (fun x hx z b => hz (by
  have q : x = h := by omega
  subst q
  exact b))
theorem nSugz {s t : Sg} (H : NowG 27 s t) {h : Nat} (hh : h < 8) (v : Int32) (hz : bt (t.1 1 9) h = true → v = 0) : NowG 27 (pI s 68 h v) (pI t 1 (17 + 3 * h) v) := ng_i (by omega) H (Or.inl ⟨hh, Or.inr (Or.inl ⟨rfl, rfl⟩)⟩) (fun z => by omega) (fun x hx z b => hz (by
  have q : x = h := by omega
  subst q
  exact b))
theorem nSnwz {s t : Sg} (H : NowG 27 s t) {h : Nat} (hh : h < 8) (v : Int32) (hz : bt (t.1 1 9) h = true → v = 0) : NowG 27 (pI s 69 h v) (pI t 1 (18 + 3 * h) v) := ng_i (by omega) H (Or.inl ⟨hh, Or.inr (Or.inr (Or.inl ⟨rfl, rfl⟩))⟩) (fun z => by omega) (fun x hx z b => hz (by
  have q : x = h := by omega
  subst q
  exact b))
theorem nFldz {s t : Sg} (H : NowG 27 s t) (k p : Nat) (v : Int32) (hk : (k = 8 ∧ p = 12) ∨ (k = 9 ∧ p = 5) ∨ (k = 10 ∧ p = 6) ∨ (k = 11 ∧ p = 7) ∨ (k = 12 ∧ p = 8)) : NowG 27 (pI s 53 k v) (pI t 1 p v) := ng_i (by omega) H (Or.inr (Or.inr ⟨rfl, by omega⟩)) (fun z => by omega) (fun x hx z => by omega)
theorem gFz {s t : Sg} (H : NowG 27 s t) : s.1 53 7 = t.1 1 10 ∧ s.1 53 8 = t.1 1 12 ∧ s.1 53 9 = t.1 1 5 ∧ s.1 53 10 = t.1 1 6 ∧ s.1 53 11 = t.1 1 7 ∧ s.1 53 12 = t.1 1 8 := ⟨H.1.2.1 53 7 10 (Or.inr (Or.inr ⟨rfl, by omega⟩)), H.1.2.1 53 8 12 (Or.inr (Or.inr ⟨rfl, by omega⟩)), H.1.2.1 53 9 5 (Or.inr (Or.inr ⟨rfl, by omega⟩)), H.1.2.1 53 10 6 (Or.inr (Or.inr ⟨rfl, by omega⟩)), H.1.2.1 53 11 7 (Or.inr (Or.inr ⟨rfl, by omega⟩)), H.1.2.1 53 12 8 (Or.inr (Or.inr ⟨rfl, by omega⟩))⟩
theorem buys_rz {s t : Sg} (H : NowG 27 s t) {a c : Int32} {g h : Nat} (ha : a.toInt = (g : Int)) (hg : (g : Int) < (t.1 1 3).toInt) (hc : c.toInt = (h : Int)) (hh : h < 8) (ng : ¬ bt (t.1 1 9) h = true) (n : Int32) : RQ (f_X2_addBought_25_53 a n c s) (f_X12_buys a n c t) (fun r s' r' t' => r = r' ∧ NowG 27 s' t') := by
  have g4 : g < 4 := by
    have := H.1.1.2.1.2.2.2.2
    omega
  have x := gx_x ha g4
  have y := hr_x hc hh
  have pl := H.1.1.2.2.2.2.2.2 g hg
  have p1 : s.1 38 g = t.1 1 (93 + 3 * g) := pl.1
  have p2 : s.1 39 g = t.1 1 (94 + 3 * g) := pl.2
  have st : s.1 71 g = t.1 1 (92 + 3 * g) := H.1.2.1 71 g _ (Or.inr (Or.inl ⟨g4, rfl, rfl⟩))
  unfold f_X2_addBought_25_53 f_X12_buys
  refine rq_cC (fun _ => rq_cM (fun _ => rq_nC (fun x2 e2 => rq_nM (fun y2 f2 => ?_))))
  have exy : x2 = y2 := by rw [e2, f2, cl_h ha, x.2.2, p2]
  subst exy
  refine rq_cM (fun _ => rq_nC (fun s3 e3 => rq_nM (fun t4 f4 => ?_)))
  have H3 : NowG 27 s3 t4 := by
    rw [e3, f4, cl_h ha, x.1, st]
    exact ng_i (by omega) H (Or.inr (Or.inl ⟨g4, rfl, rfl⟩)) (fun z => by omega) (fun x hx z => by omega)
  have q3 : s3.1 38 g = t.1 1 (93 + 3 * g) := by rw [e3, q_nc rfl]; exact p1
  have q4 : t4.1 1 (93 + 3 * g) = t.1 1 (93 + 3 * g) := by rw [f4, x.1, pI_1, if_neg (fun z => by have := z.2; omega)]
  have r4 : t4.1 1 9 = t.1 1 9 := by rw [f4, x.1, pI_1, if_neg (fun z => by have := z.2; omega)]
  refine rq_cM (fun _ => rq_nC (fun s4 e4 => rq_nM (fun t6 f6 => ?_)))
  have H4 : NowG 27 s4 t6 := by
    rw [e4, f6, cl_h ha, x.2.1, q3, q4, (gFz H3).2.1]
    exact nFldz H3 8 12 _ (Or.inl ⟨rfl, rfl⟩)
  have ng6 : ¬ bt (t6.1 1 9) h = true := by
    rw [f6, q_ne rfl, r4]
    exact ng
  refine rq_b2 (add_rz H4 hc hh ng6 (n - x2)) (fun _ s6 _ t8 k => rq_cC (fun _ => rq_bM (hr_p c t8) (fun r9 t10 e => rq_cM (fun _ => rq_nC (fun s8 e8 => rq_nM (fun t12 f12 => rq_s ⟨rfl, ?_⟩))))))
  obtain ⟨et, e⟩ := e
  subst et
  obtain ⟨k1, k2⟩ := k
  have H8 : NowG 27 s8 t12 := by
    rw [e8, f12, e, cl_h hc, y.2.1, (gSz k1 hh).2.1]
    exact nSugz k1 hh _ (fun b => absurd b (by rw [k2]; exact ng6))
  have w := nFldz H8 9 5 (s8.1 53 9 + x2) (Or.inr (Or.inl ⟨rfl, rfl⟩))
  rw [(gFz H8).2.2.1] at w ⊢
  exact w
theorem sweeps_rz {s t : Sg} (H : NowG 27 s t) {a : Int32} {h : Nat} (ha : a.toInt = (h : Int)) (hh : h < 8) : RQ (f_X2_clearStep_53 a s) (f_X12_sweeps a t) (fun r s' r' t' => r = r' ∧ NowG 27 s' t') := by
  have x := hr_x ha hh
  unfold f_X2_clearStep_53 f_X12_sweeps
  refine rq_v (ly_cz H.1.2.1 ha hh) (grains_m ha hh t) (rq_cC (fun _ => rq_bM (hr_p a t) (fun r3 t4 e => rq_cM (fun _ => rq_bM (hr_p a _) (fun r6 t7 f => rq_cM (fun _ => rq_nC (fun s4 e4 => rq_nM (fun t9 f9 => rq_nC (fun s5 e5 => rq_s ⟨rfl, ?_⟩)))))))))
  obtain ⟨et, e⟩ := e
  obtain ⟨eu, f⟩ := f
  have H4 : NowG 27 s4 t9 := by
    rw [e4, f9, f, eu, e, et, cl_h ha, x.1, x.2.1]
    exact nSugz (nSaltz H hh 0 (fun _ => rfl)) hh 0 (fun _ => rfl)
  rw [e5, (gFz H4).2.2.2.2.1]
  exact nFldz H4 11 7 _ (Or.inr (Or.inr (Or.inr (Or.inl ⟨rfl, rfl⟩))))
theorem carry_rz {s t : Sg} (H : NowG 27 s t) {a b : Int32} {h j : Nat} (ha : a.toInt = (h : Int)) (hh : h < 8) (hb : b.toInt = (j : Int)) (hj : j < 8) (na : ¬ bt (t.1 1 9) h = true) (nb : ¬ bt (t.1 1 9) j = true) (n : Int32) : RQ (f_X2_carry_53 a b n s) (f_X12_brings a b n t) (fun r s' r' t' => r = r' ∧ NowG 27 s' t' ∧ (∀ c, ¬ c = 67 → ¬ c = 68 → s'.1 c = s.1 c) ∧ (∀ p, p < 16 → t'.1 1 p = t.1 1 p) ∧ t'.1 0 = t.1 0) := by
  have x := hr_x ha hh
  have y := hr_x hb hj
  have g0 := gSz H hh
  unfold f_X2_carry_53 f_X12_brings
  refine rq_bM (hr_p a t) (fun r1 t2 e => ?_)
  obtain ⟨et, e⟩ := e
  subst et
  refine rq_cC (fun _ => rq_cM (fun _ => rq_nC (fun x2 e2 => rq_nM (fun x4 f4 => ?_))))
  have q1 : x2 = x4 := by rw [e2, f4, e, cl_h ha, x.1, g0.1]
  subst q1
  refine rq_bM (hr_p a t2) (fun r5 t6 e6 => ?_)
  obtain ⟨et, e6⟩ := e6
  subst et
  refine rq_cM (fun _ => rq_nC (fun x3 e3 => rq_nM (fun x8 f8 => ?_)))
  have q2 : x3 = x8 := by rw [e3, f8, e6, cl_h ha, x.2.1, g0.2.1]
  subst q2
  refine rq_bM (hr_p a t6) (fun r9 t10 e10 => ?_)
  obtain ⟨et, e10⟩ := e10
  subst et
  refine rq_cM (fun _ => rq_nC (fun s4 e4 => rq_nM (fun t12 f12 => ?_)))
  have H4 : NowG 27 s4 t12 := by
    rw [e4, f12, e10, cl_h ha, x.1, g0.1]
    exact nSaltz H hh _ (fun w => absurd w na)
  have k12 : ∀ p, p < 16 → t12.1 1 p = t10.1 1 p := fun p hp => by rw [f12, e10, x.1, pI_1, if_neg (fun z => by have := z.2; omega)]
  have r12 := k12 9 (by decide)
  refine rq_bM (hr_p a t12) (fun r13 t14 e14 => ?_)
  obtain ⟨et, e14⟩ := e14
  subst et
  refine rq_cM (fun _ => rq_nC (fun s5 e5 => rq_nM (fun t16 f16 => ?_)))
  have H5 : NowG 27 s5 t16 := by
    rw [e5, f16, e14, cl_h ha, x.2.1, (gSz H4 hh).2.1]
    exact nSugz H4 hh _ (fun w => absurd w (by rw [r12]; exact na))
  have k16 : ∀ p, p < 16 → t16.1 1 p = t10.1 1 p := fun p hp => by rw [f16, e14, x.2.1, pI_1, if_neg (fun z => by have := z.2; omega)]; exact k12 p hp
  have r16 := k16 9 (by decide)
  refine rq_bM (hr_p b t16) (fun r17 t18 e18 => ?_)
  obtain ⟨et, e18⟩ := e18
  subst et
  refine rq_cC (fun _ => rq_cM (fun _ => rq_nC (fun s7 e7 => rq_nM (fun t20 f20 => ?_))))
  have H7 : NowG 27 s7 t20 := by
    rw [e7, f20, e18, cl_h hb, y.1, (gSz H5 hj).1]
    exact nSaltz H5 hj _ (fun w => absurd w (by rw [r16]; exact nb))
  have k20 : ∀ p, p < 16 → t20.1 1 p = t10.1 1 p := fun p hp => by rw [f20, e18, y.1, pI_1, if_neg (fun z => by have := z.2; omega)]; exact k16 p hp
  have r20 := k20 9 (by decide)
  refine rq_bM (hr_p b t20) (fun r21 t22 e22 => ?_)
  obtain ⟨et, e22⟩ := e22
  subst et
  refine rq_cM (fun _ => rq_nC (fun s8 e8 => rq_nM (fun t24 f24 => rq_s ⟨rfl, ?_, fun c c1 c2 => ?_, fun p hp => ?_, ?_⟩)))
  · rw [e8, f24, e22, cl_h hb, y.2.1, (gSz H7 hj).2.1]
    exact nSugz H7 hj _ (fun w => absurd w (by rw [r20]; exact nb))
  · rw [e8, pI_o _ _ _ _ _ c2, e7, pI_o _ _ _ _ _ c1, e5, pI_o _ _ _ _ _ c2, e4, pI_o _ _ _ _ _ c1]
  · rw [f24, e22, y.2.1, pI_1, if_neg (fun z => by have := z.2; omega)]
    exact k20 p hp
  · rw [f24, pI_o _ _ _ _ _ (by decide), f20, pI_o _ _ _ _ _ (by decide), f16, pI_o _ _ _ _ _ (by decide), f12, pI_o _ _ _ _ _ (by decide)]
theorem rain_bz (m : Nat) : ∀ (m' i : Nat) (v2 v3 : Int32) (s t : Sg), v3.toInt = (i : Int) → i ≤ 8 → NowG 27 s t → RQ (f_X2_letRain_25_53_b4 m v2 v3 s) (f_X12_rains_b4 m' v2 v3 t) (fun r s' r' t' => r = r' ∧ NowG 27 s' t') := by
  induction m with
  | zero => intro m' i v2 v3 s t _ _ _ a s' b t' e; cases e
  | succ m ih =>
    intro m' i v2 v3 s t h3 hi H
    cases m' with
    | zero => exact rq_0
    | succ m' =>
      have e1 : (1 : Int32).toInt = 1 := rfl
      have e0 : (0 : Int32).toInt = 0 := rfl
      have a3 : (v3 + 1).toInt = v3.toInt + 1 := i_addx v3 1 (by omega)
      have e13 : s.1 25 13 = t.1 1 0 := e13_ H
      have b0 := H.1.1.2.1.1
      unfold f_X2_letRain_25_53_b4 f_X12_rains_b4
      rw [e13]
      refine rq_iC (fun c => rq_iM (fun _ => rq_nM (fun t1 f1 => rq_s ⟨rfl, ?_⟩)) (fun z => absurd c z)) (fun c => rq_iM (fun z => absurd z c) (fun _ => ?_))
      · rw [f1, (gFz H).2.2.2.1]
        exact ng_i (by omega) (nFldz H 10 6 _ (Or.inr (Or.inr (Or.inl ⟨rfl, rfl⟩)))) (Or.inr (Or.inr ⟨rfl, by omega⟩)) (fun _ => Or.inr rfl) (fun x hx z => absurd z (by omega))
      · have c := i_nle c
        have hh : i < 8 := by omega
        have x := hr_x h3 hh
        have g0 := gSz H hh
        have ew : s.1 25 18 = t.1 1 13 := H.1.1.2.2.1.2.1
        refine rq_bM (hr_p v3 t) (fun r2 t3 e => ?_)
        obtain ⟨et, e⟩ := e
        subst et
        refine rq_cC (fun _ => rq_cM (fun _ => rq_nC (fun x2 e2 => rq_nM (fun x5 f5 => ?_))))
        have q1 : x2 = x5 := by rw [e2, f5, e, cl_h h3, x.1, g0.1, ew]; exact min_c _ _
        subst q1
        refine rq_cM (fun _ => rq_nC (fun x3 e3 => rq_nM (fun x7 f7 => ?_)))
        have q2 : x3 = x7 := by rw [e3, f7, e, cl_h h3, x.2.1, g0.2.1, Int32.add_comm x2]
        subst q2
        refine rq_nC (fun s4 e4 => rq_nM (fun t8 f8 => rq_nM (fun t9 f9 => ih m' (i + 1) x3 (v3 + 1) s4 t9 (by omega) (by omega) ?_)))
        have z0 : bt (t3.1 1 9) i = true → t3.1 1 (16 + 3 * i) - x2 = 0 := fun w => by
          have z := (H.2.2.2 i hh w).1
          have wb := H.2.2.1.2.2.2.1
          have q : x2 = 0 := by
            rw [f5, e, x.1, z]
            by_cases y : t3.1 1 13 < 0
            · have y := i_lt y
              omega
            · rw [if_neg y]
          rw [z, q]
          rfl
        rw [e4, f9, f8, e, cl_h h3, x.1, x.2.1, pI_cm _ _ _ _ _ _ (by omega), q_nc rfl, g0.1]
        refine nSaltz (nSugz H hh 0 (fun _ => rfl)) hh _ (fun w => z0 ?_)
        rw [pI_1, if_neg (fun z => by have := z.2; omega)] at w
        exact w
theorem rains_rz {s t : Sg} (H : NowG 27 s t) : RQ (f_X2_letRain_25_53 s) (f_X12_rains t) (fun r s' r' t' => r = r' ∧ NowG 27 s' t') := by
  unfold f_X2_letRain_25_53 f_X12_rains
  exact rain_bz BIG BIG 0 0 0 s t rfl (by decide) H
theorem snow_bz (n : Int32) (m : Nat) : ∀ (m' i : Nat) (v3 : Int32) (s t : Sg), v3.toInt = (i : Int) → i ≤ 8 → NowG 27 s t → RQ (f_X2_letSnow_25_53_b2 m n v3 s) (f_X12_snows_b2 m' n v3 t) (fun _ s' _ t' => NowG 27 s' t') := by
  induction m with
  | zero => intro m' i v3 s t _ _ _ a s' b t' e; cases e
  | succ m ih =>
    intro m' i v3 s t h3 hi H
    cases m' with
    | zero => exact rq_0
    | succ m' =>
      have e1 : (1 : Int32).toInt = 1 := rfl
      have a3 : (v3 + 1).toInt = v3.toInt + 1 := i_addx v3 1 (by omega)
      have e13 : s.1 25 13 = t.1 1 0 := e13_ H
      have b0 := H.1.1.2.1.1
      unfold f_X2_letSnow_25_53_b2 f_X12_snows_b2
      rw [e13]
      refine rq_iC (fun c => rq_iM (fun _ => rq_s H) (fun z => absurd c z)) (fun c => rq_iM (fun z => absurd z c) (fun _ => ?_))
      have c := i_nle c
      have hh : i < 8 := by omega
      have x := hr_x h3 hh
      have g0 := gSz H hh
      refine rq_f (gone_c H.1.1 h3 (by omega)) (gone_m h3 (by omega) t) Iff.rfl (fun hg => ?_) (fun hg => ?_)
      · rw [if1, if1]
        exact ih m' (i + 1) (v3 + 1) s t (by omega) (by omega) H
      · rw [if0, if0]
        refine rq_bM (hr_p v3 t) (fun r3 t4 e => rq_bM (hr_p v3 t4) (fun r5 t6 f => rq_cC (fun _ => rq_cM (fun _ => rq_cM (fun _ => rq_nC (fun s4 e4 => rq_nM (fun t9 f9 => ih m' (i + 1) (v3 + 1) s4 t9 (by omega) (by omega) ?_)))))))
        obtain ⟨et, e⟩ := e
        obtain ⟨eu, f⟩ := f
        rw [e4, f9, f, e, eu, et, cl_h h3, x.2.2, g0.2.2]
        exact nSnwz H hh _ (fun w => absurd w hg)
theorem snows_rz {s t : Sg} (H : NowG 27 s t) (n : Int32) : RQ (f_X2_letSnow_25_53 n s) (f_X12_snows n t) (fun _ s' _ t' => NowG 27 s' t') := by
  unfold f_X2_letSnow_25_53 f_X12_snows
  exact snow_bz n BIG BIG 0 0 s t rfl (by decide) H
def GcM (M : Nat → Int32) (a : Int32) : Prop := 0 ≤ a.toInt ∧ a.toInt < (M 3).toInt
theorem isG_c {M : Nat → Int32} {s : Sg} (P : PlnR 24 s M) (a : Int32) : PQ (f_X11_isGrocer a s) (fun r s' => s' = s ∧ Fl (GcM M a) r) := by
  have e : s.1 25 16 = M 3 := P.1.2.2.2
  have b := P.2.1.2.2.2
  have e0 : (0 : Int32).toInt = 0 := rfl
  have e1 : (1 : Int32).toInt = 1 := rfl
  have sb := i_sub (s.1 25 16) 1
  have em := congrArg Int32.toInt e
  unfold f_X11_isGrocer
  refine pq_b (wi_p a 0 ((s.1 25 16) - 1) s) (fun r s2 g => pq_c (fun _ => pq_s ⟨g.1, ?_⟩))
  unfold Fl GcM
  rcases g.2 with q | q
  · exact Or.inl ⟨q.1, by omega, by omega⟩
  · exact Or.inr ⟨q.1, by omega⟩
theorem buy_r {s t : Sg} (H : NowG 0 s t) (a g c : Int32) : RQ (f_X11_buy a g c s) (f_X12_buy a g c t) AnS := by
  have e0 : (0 : Int32).toInt = 0 := rfl
  unfold f_X11_buy f_X12_buy
  refine rq_bC (isG_c H.1.1 a) (fun r1 s2 k => ?_)
  obtain ⟨es, k⟩ := k
  subst es
  rcases k with ⟨z, k⟩ | ⟨z, k⟩ <;> subst z
  · rw [if1]
    refine rq_iM (fun d => absurd (i_lt d) (by have := k.1; omega)) (fun _ => rq_iM (fun d => absurd (i_le d) (by have := k.2; omega)) (fun _ => ?_))
    have hg : a.toInt = (a.toInt.toNat : Int) := by have := k.1; omega
    refine rq_f (wi_p g 1 999 s2) (from_m g 1 999 t) Iff.rfl (fun hy => ?_) (fun hn => ?_)
    · rw [if1, if1]
      refine rq_f (isH_c H.1.1 c) (isH_m c t) Iff.rfl (fun hh => ?_) (fun hh => ?_)
      · rw [if1, if1]
        have n := hs_n H.1.1.2.1.1.2 hh
        refine rq_f (room_c H.1.2.1 n.1 n.2 g) (room_m n.1 n.2 g t) Iff.rfl (fun _ => ?_) (fun _ => ?_)
        · rw [if1, if1]
          have g4 : a.toInt.toNat < 4 := by
            have := H.1.1.2.1.2.2.2.2
            have := k.2
            have := k.1
            omega
          have st : s2.1 44 a.toInt.toNat = t.1 1 (92 + 3 * a.toInt.toNat) := H.1.2.1 44 _ _ (Or.inr (Or.inl ⟨g4, rfl, rfl⟩))
          refine rq_cC (fun _ => rq_cM (fun _ => ?_))
          refine rq_iC (fun d => rq_iM (fun _ => ?_) (fun z => absurd d (by rw [cl_h hg, st]; rw [(gx_x hg g4).1] at z; exact z))) (fun d => rq_iM (fun z => absurd z (by rw [(gx_x hg g4).1, ← st]; rw [cl_h hg] at d; exact d)) (fun _ => ref_r H 6))
          refine rq_f (gone_c H.1.1 n.1 (by omega)) (gone_m n.1 (by omega) t) Iff.rfl (fun hz => ?_) (fun hz => ?_)
          · rw [if1, if1]
            exact ref_r H 7
          · rw [if0, if0]
            exact rq_b2 (buys_r H hg (by have := k.2; omega) n.1 n.2 hz g) (fun r s' r' t' w => ans_r w.2 w.1)
        · rw [if0, if0]
          exact ref_r H 4
      · rw [if0, if0]
        exact ref_r H 1
    · rw [if0, if0]
      exact ref_r H 1
  · rw [if0]
    by_cases d : a < 0
    · exact rq_iM (fun _ => ref_r H 1) (fun z => absurd d z)
    · have d' := i_nlt d
      refine rq_iM (fun z => absurd z d) (fun _ => rq_iM (fun _ => ref_r H 1) (fun z => ?_))
      have z := i_nle z
      exact absurd ⟨by omega, z⟩ k
theorem sweep_r {s t : Sg} (H : NowG 0 s t) (a : Int32) : RQ (f_X11_sweep a s) (f_X12_sweep a t) AnS := by
  unfold f_X11_sweep f_X12_sweep
  refine rq_wn (whyNo_c H.1.1 a 1 (Or.inl ⟨rfl, trivial⟩)) (wrong_m a H.1.1.2.1.1.2) ?_ (fun hh hg => ?_) (fun hh hg => ?_)
  · rw [if1, if_neg (show ¬ (1 : Int32) ≤ 0 by decide)]
    exact ref_r H 1
  · rw [if_neg (show ¬ (7 : Int32) = 0 by decide), if_neg (show ¬ (7 : Int32) ≤ 0 by decide)]
    exact ref_r H 7
  · have n := hs_n H.1.1.2.1.1.2 hh
    rw [if0, if_pos (show (0 : Int32) ≤ 0 by decide)]
    exact rq_b2 (sweeps_r H n.1 n.2) (fun r s' r' t' w => ans_r w.2 w.1)
theorem shovel_r {s t : Sg} (H : NowG 0 s t) (a b g : Int32) : RQ (f_X11_shovel a b g s) (f_X12_shovel a b g t) AnS := by
  unfold f_X11_shovel f_X12_shovel
  refine rq_f (isH_c H.1.1 a) (isH_m a t) Iff.rfl (fun ha => ?_) (fun _ => ?_)
  · rw [if1, if1]
    refine rq_f (isH_c H.1.1 b) (isH_m b t) Iff.rfl (fun hb => ?_) (fun _ => ?_)
    · rw [if1, if1]
      refine rq_iC (fun d => rq_iM (fun _ => ref_r H 1) (fun z => absurd d z)) (fun d => rq_iM (fun z => absurd z d) (fun _ => ?_))
      refine rq_f (wi_p g 1 999 s) (from_m g 1 999 t) Iff.rfl (fun _ => ?_) (fun _ => ?_)
      · rw [if1, if1]
        have n := hs_n H.1.1.2.1.1.2 ha
        have n' := hs_n H.1.1.2.1.1.2 hb
        refine rq_v (ly_c H.1.2.1 n.1 n.2) (grains_m n.1 n.2 t) ?_
        refine rq_iC (fun d => rq_iM (fun _ => ?_) (fun z => absurd d z)) (fun d => rq_iM (fun z => absurd z d) (fun _ => ref_r H 6))
        refine rq_f (gone_c H.1.1 n.1 (by omega)) (gone_m n.1 (by omega) t) Iff.rfl (fun hz => ?_) (fun hz => ?_)
        · rw [if1, if1]
          exact ref_r H 7
        · rw [if0, if0]
          refine rq_f (gone_c H.1.1 n'.1 (by omega)) (gone_m n'.1 (by omega) t) Iff.rfl (fun hz' => ?_) (fun hz' => ?_)
          · rw [if1, if1]
            exact ref_r H 7
          · rw [if0, if0]
            exact rq_b2 (carry_r H n.1 n.2 n'.1 n'.2 hz hz' g) (fun r s' r' t' w => ans_r w.2.1 w.1)
      · rw [if0, if0]
        exact ref_r H 1
    · rw [if0, if0]
      exact ref_r H 1
  · rw [if0, if0]
    exact ref_r H 1
theorem rain_r {s t : Sg} (H : NowG 0 s t) : RQ (f_X11_rain s) (f_X12_rain t) AnS := by
  unfold f_X11_rain f_X12_rain
  exact rq_b2 (rains_r H) (fun r s' r' t' w => ans_r w.2 w.1)
theorem snow_r {s t : Sg} (H : NowG 0 s t) (n : Int32) : RQ (f_X11_snow n s) (f_X12_snow n t) AnS := by
  unfold f_X11_snow f_X12_snow
  have fin : ∀ {s t : Sg}, NowG 0 s t → RQ (bd (f_X11_granted s) (fun r s => ck (r = 0 ∨ r = 1) (some (r, s)))) (bd (f_X12_is 0 t) (fun r t => ck (r = 0 ∨ r = 1) (some (r, t)))) AnS := fun {s t} H => by
    unfold f_X11_granted f_X12_is
    rw [if_pos (show (0 : Int32) = 0 from rfl)]
    exact rc_s (rm_s (rq_cC (fun _ => rq_cM (fun _ => rq_s ⟨rfl, by rw [q_eq, q_eq], ng_k H (fun c hc => pI_o _ _ _ _ _ (by omega)) (fun k _ => q_nc rfl) (q_ne rfl)⟩))))
  refine rq_f (wi_p n 0 99 s) (from_m n 0 99 t) Iff.rfl (fun _ => ?_) (fun _ => ?_)
  · rw [if1, if1]
    exact rq_b2 (snows_r H n) (fun _ s' _ t' w => fin w)
  · rw [if0, if0]
    unfold f_X11_refused f_X12_is
    rw [if_neg i10]
    exact rc_s (rm_s (rq_cC (fun _ => rq_cM (fun _ => rq_s ⟨rfl, by rw [q_eq, q_eq], ng_k H (fun c hc => pI_o _ _ _ _ _ (by omega)) (fun k _ => q_nc rfl) (q_ne rfl)⟩))))
/-! peace, a night -/
theorem qr_x {a : Int32} {q : Nat} (ha : a.toInt = (q : Int)) (hq : q < 8) : ((40 + 5 * a) + 0).toNatClampNeg = 40 + 5 * q ∧ ((40 + 5 * a) + 1).toNatClampNeg = 41 + 5 * q ∧ ((40 + 5 * a) + 2).toNatClampNeg = 42 + 5 * q ∧ ((40 + 5 * a) + 3).toNatClampNeg = 43 + 5 * q ∧ ((40 + 5 * a) + 4).toNatClampNeg = 44 + 5 * q := by
  have e5 : (5 : Int32).toInt = 5 := rfl
  have e40 : (40 : Int32).toInt = 40 := rfl
  have e0 : (0 : Int32).toInt = 0 := rfl
  have e1 : (1 : Int32).toInt = 1 := rfl
  have e2 : (2 : Int32).toInt = 2 := rfl
  have e3 : (3 : Int32).toInt = 3 := rfl
  have e4 : (4 : Int32).toInt = 4 := rfl
  have m1 : (5 * a).toInt = 5 * a.toInt := i_mulx 5 a (show -2147483648 ≤ 5 * a.toInt ∧ 5 * a.toInt ≤ 2147483647 from by omega)
  have x : (40 + 5 * a).toInt = (40 : Int32).toInt + (5 * a).toInt := i_addx _ _ (by omega)
  have x0 : ((40 + 5 * a) + 0).toInt = (40 + 5 * a).toInt + (0 : Int32).toInt := i_addx _ _ (by omega)
  have x1 : ((40 + 5 * a) + 1).toInt = (40 + 5 * a).toInt + (1 : Int32).toInt := i_addx _ _ (by omega)
  have x2 : ((40 + 5 * a) + 2).toInt = (40 + 5 * a).toInt + (2 : Int32).toInt := i_addx _ _ (by omega)
  have x3 : ((40 + 5 * a) + 3).toInt = (40 + 5 * a).toInt + (3 : Int32).toInt := i_addx _ _ (by omega)
  have x4 : ((40 + 5 * a) + 4).toInt = (40 + 5 * a).toInt + (4 : Int32).toInt := i_addx _ _ (by omega)
  exact ⟨cl_h (by omega), cl_h (by omega), cl_h (by omega), cl_h (by omega), cl_h (by omega)⟩
/-- what a quarrel needs; one may need nothing -/
def nd (M : Nat → Int32) (e : Int) (q : Nat) : Int32 := if (q : Int) = e then 0 else M (42 + 5 * q)
def atB (M : Nat → Int32) (q h : Nat) : Bool := decide ((M (40 + 5 * q)).toInt = (h : Int) ∨ (M (41 + 5 * q)).toInt = (h : Int))
def sgM (M : Nat → Int32) (h : Nat) : Int32 := if M (18 + 3 * h) ≤ 0 then lyM M h else 0
/-- what is left of so many grains ahead of a quarrel -/
def lf (M : Nat → Int32) (e : Int) (h : Nat) (g : Int32) : Nat → Int32
  | 0 => g
  | n + 1 => if atB M n h = true then lf M e h g n - (if nd M e n < lf M e h g n then nd M e n else lf M e h g n) else lf M e h g n
theorem lf_s (M : Nat → Int32) (e : Int) (h : Nat) (g : Int32) (n : Nat) : lf M e h g (n + 1) = if atB M n h = true then lf M e h g n - (if nd M e n < lf M e h g n then nd M e n else lf M e h g n) else lf M e h g n := rfl
def flB (M : Nat → Int32) (e : Int) (q h : Nat) (g : Int32) : Bool := if bt (M 9) h = true then decide (M 14 = 1) else decide (¬ lf M e h g q < nd M e q)
def h0 (M : Nat → Int32) (q : Nat) : Nat := (M (40 + 5 * q)).toInt.toNat
def h1 (M : Nat → Int32) (q : Nat) : Nat := (M (41 + 5 * q)).toInt.toNat
def pcB (M : Nat → Int32) (e : Int) (q : Nat) : Bool := flB M e q (h0 M q) (sgM M (h0 M q)) && flB M e q (h1 M q) (sgM M (h1 M q))
theorem qrow_p (a : Int32) (t : Sg) : PQ (f_X12_quarrelRow a t) (fun r t' => t' = t ∧ r = 40 + 5 * a) := pq_s ⟨rfl, rfl⟩
theorem qh_p (a b : Int32) (t : Sg) : PQ (f_X12_quarrelHouse a b t) (fun r t' => t' = t ∧ r = (40 + 5 * a) + b) := pq_s ⟨rfl, rfl⟩
theorem need_m {a : Int32} {q : Nat} (ha : a.toInt = (q : Int)) (hq : q < 8) (t : Sg) : PQ (f_X12_needOf a t) (fun r t' => t' = t ∧ r = nd (t.1 1) (t.1 0 24).toInt q) := by
  unfold f_X12_needOf nd
  refine pq_if (fun c => pq_s ⟨rfl, ?_⟩) (fun c => pq_b (qrow_p a t) (fun r1 t2 k => pq_c (fun _ => pq_s ?_)))
  · rw [if_pos (by rw [← ha]; exact i_eq c)]
  · obtain ⟨et, k⟩ := k
    subst et
    rw [if_neg (by rw [← ha]; exact i_ne c), k, (qr_x ha hq).2.2.1]
    exact ⟨rfl, rfl⟩
theorem isAt_m {a b : Int32} {q h : Nat} (ha : a.toInt = (q : Int)) (hq : q < 8) (hb : b.toInt = (h : Int)) (t : Sg) : PQ (f_X12_isAt a b t) (fun r t' => t' = t ∧ Fl (atB (t.1 1) q h = true) r) := by
  have x := qr_x ha hq
  unfold f_X12_isAt
  refine pq_b (qh_p a 0 t) (fun r1 t2 k => pq_c (fun _ => ?_))
  obtain ⟨et, k⟩ := k
  subst et
  rw [k, x.1]
  refine pq_if (fun c => pq_s ⟨rfl, Or.inl ⟨rfl, ?_⟩⟩) (fun c => pq_b (qh_p a 1 t2) (fun r4 t5 l => pq_c (fun _ => ?_)))
  · exact decide_eq_true (Or.inl ((i_eq c).trans hb))
  · obtain ⟨et, l⟩ := l
    subst et
    rw [l, x.2.1]
    refine pq_if (fun d => pq_s ⟨rfl, Or.inl ⟨rfl, decide_eq_true (Or.inr ((i_eq d).trans hb))⟩⟩) (fun d => pq_s ⟨rfl, Or.inr ⟨rfl, fun w => ?_⟩⟩)
    rcases of_decide_eq_true w with w | w
    · exact i_ne c (w.trans hb.symm)
    · exact i_ne d (w.trans hb.symm)
theorem sub0 (a : Int32) : a - 0 = a := Int32.toInt_inj.mp (by
  have := i_sub a 0
  have e0 : (0 : Int32).toInt = 0 := rfl
  have b := Int32.toInt_lt a
  have c := Int32.le_toInt a
  omega)
theorem has_b {a b : Int32} {q h : Nat} (ha : a.toInt = (q : Int)) (hq : q < 8) (hb : b.toInt = (h : Int)) (g : Int32) (t : Sg) (m : Nat) : ∀ (i : Nat) (v3 v4 : Int32), v4.toInt = (i : Int) → i ≤ q → v3 = lf (t.1 1) (t.1 0 24).toInt h g i → PQ (f_X12_hasAt_b27 m a b v3 v4 t) (fun r t' => t' = t ∧ r = if nd (t.1 1) (t.1 0 24).toInt q < lf (t.1 1) (t.1 0 24).toInt h g q then nd (t.1 1) (t.1 0 24).toInt q else lf (t.1 1) (t.1 0 24).toInt h g q) := by
  induction m with
  | zero => intro i v3 v4 _ _ _ r t' e; cases e
  | succ m ih =>
    intro i v3 v4 h4 hi h3
    have e1 : (1 : Int32).toInt = 1 := rfl
    have a4 : (v4 + 1).toInt = v4.toInt + 1 := i_addx v4 1 (by omega)
    unfold f_X12_hasAt_b27
    refine pq_if (fun c => pq_b (need_m ha hq t) (fun r6 t7 k => pq_s ?_)) (fun c => pq_b (isAt_m h4 (by omega) hb t) (fun r8 t9 k => ?_))
    · obtain ⟨et, k⟩ := k
      subst et
      have c := i_le c
      have z : i = q := by omega
      subst z
      rw [k, h3]
      exact ⟨rfl, rfl⟩
    · obtain ⟨et, k⟩ := k
      subst et
      have c := i_nle c
      refine pq_if (fun d => ih (i + 1) (v3 - 0) (v4 + 1) (by omega) (by omega) ?_) (fun d => pq_b (need_m h4 (by omega) t9) (fun r10 t11 l => pq_n (fun x12 ex => ?_)))
      · rw [lf_s, if_neg (r1_n k d), sub0]
        exact h3
      · obtain ⟨et, l⟩ := l
        subst et
        refine ih (i + 1) x12 (v4 + 1) (by omega) (by omega) ?_
        rw [lf_s, if_pos (r1_y k d), ex, l, h3]
def hsM (M : Nat → Int32) (e : Int) (q h : Nat) : Int32 := if nd M e q < lf M e h (sgM M h) q then nd M e q else lf M e h (sgM M h) q
theorem has_m {a b : Int32} {q h : Nat} (ha : a.toInt = (q : Int)) (hq : q < 8) (hb : b.toInt = (h : Int)) (hh : h < 8) (t : Sg) : PQ (f_X12_hasAt a b t) (fun r t' => t' = t ∧ r = hsM (t.1 1) (t.1 0 24).toInt q h) := by
  unfold f_X12_hasAt
  refine pq_b (hr_p b t) (fun r1 t2 k => pq_c (fun _ => ?_))
  obtain ⟨et, k⟩ := k
  subst et
  rw [k, (hr_x hb hh).2.2]
  unfold hsM
  refine pq_if (fun c => pq_b (grains_m hb hh t2) (fun r4 t5 l => ?_)) (fun c => ?_)
  · obtain ⟨et, l⟩ := l
    subst et
    have w : sgM (t5.1 1) h = r4 := by
      unfold sgM
      rw [if_pos c, l]
    rw [w]
    exact has_b ha hq hb r4 t5 BIG 0 r4 0 rfl (Nat.zero_le _) rfl
  · have w : sgM (t2.1 1) h = 0 := by
      unfold sgM
      rw [if_neg c]
    rw [w]
    exact has_b ha hq hb 0 t2 BIG 0 0 0 rfl (Nat.zero_le _) rfl
theorem min_eq {a b : Int32} : (if a < b then a else b) = a ↔ ¬ b < a := by
  by_cases c : a < b
  · have c' := i_lt c
    rw [if_pos c]
    exact ⟨fun _ z => by have := i_lt z; omega, fun _ => rfl⟩
  · rw [if_neg c]
    have c' := i_nlt c
    constructor
    · intro e z
      have := i_lt z
      rw [e] at this
      omega
    · intro z
      have := i_nlt z
      exact Int32.toInt_inj.mp (by omega)
theorem full_m {a b : Int32} {q j : Nat} (ha : a.toInt = (q : Int)) (hq : q < 8) (hj : (b = 0 ∧ j = 40 + 5 * q) ∨ (b = 1 ∧ j = 41 + 5 * q)) (t : Sg) (hb : 0 ≤ (t.1 1 j).toInt ∧ (t.1 1 j).toInt < 8) : PQ (f_X12_isFull a b t) (fun r t' => t' = t ∧ Fl (flB (t.1 1) (t.1 0 24).toInt q (t.1 1 j).toInt.toNat (sgM (t.1 1) (t.1 1 j).toInt.toNat) = true) r) := by
  have x := qr_x ha hq
  have hn : (t.1 1 j).toInt = ((t.1 1 j).toInt.toNat : Int) := by omega
  have h8 : (t.1 1 j).toInt.toNat < 8 := by omega
  unfold f_X12_isFull
  refine pq_b (qh_p a b t) (fun r1 t2 k => pq_c (fun _ => ?_))
  obtain ⟨et, k⟩ := k
  subst et
  have dj : r1.toNatClampNeg = j := by
    rw [k]
    rcases hj with w | w
    · rw [w.1, w.2]; exact x.1
    · rw [w.1, w.2]; exact x.2.1
  rw [dj]
  refine pq_b (gone_m hn (by omega) t2) (fun r4 t5 g => ?_)
  obtain ⟨et, g⟩ := g
  subst et
  unfold flB
  refine pq_if (fun c => pq_b (has_m ha hq hn h8 t5) (fun r6 t7 l => pq_b (need_m ha hq t7) (fun r8 t9 n => ?_))) (fun c => ?_)
  · obtain ⟨et, l⟩ := l
    obtain ⟨eu, n⟩ := n
    subst et
    subst eu
    rw [if_neg (r1_n g c), l, n]
    unfold hsM
    exact pq_fl ⟨fun w => decide_eq_true (min_eq.mp w), fun w => min_eq.mpr (of_decide_eq_true w)⟩
  · rw [if_pos (r1_y g c)]
    exact pq_fl ⟨fun w => decide_eq_true w, fun w => of_decide_eq_true w⟩
def EndsM (M : Nat → Int32) (q : Nat) : Prop := (0 ≤ (M (40 + 5 * q)).toInt ∧ (M (40 + 5 * q)).toInt < 8) ∧ (0 ≤ (M (41 + 5 * q)).toInt ∧ (M (41 + 5 * q)).toInt < 8)
theorem peace_m {a : Int32} {q : Nat} (ha : a.toInt = (q : Int)) (hq : q < 8) (t : Sg) (hb : EndsM (t.1 1) q) : PQ (f_X12_hasPeace a t) (fun r t' => t' = t ∧ Fl (pcB (t.1 1) (t.1 0 24).toInt q = true) r) := by
  unfold f_X12_hasPeace
  refine pq_b (full_m ha hq (Or.inl ⟨rfl, rfl⟩) t hb.1) (fun r1 t2 k => ?_)
  obtain ⟨et, k⟩ := k
  subst et
  unfold pcB
  refine pq_if (fun c => pq_s ⟨rfl, Or.inr ⟨rfl, fun w => r1_n k c (Bool.and_eq_true_iff.mp w).1⟩⟩) (fun c => pq_b (full_m ha hq (Or.inr ⟨rfl, rfl⟩) t2 hb.2) (fun r3 t4 l => ?_))
  obtain ⟨et, l⟩ := l
  subst et
  exact pq_if (fun d => pq_s ⟨rfl, Or.inr ⟨rfl, fun w => r1_n l d (Bool.and_eq_true_iff.mp w).2⟩⟩) (fun d => pq_s ⟨rfl, Or.inl ⟨rfl, Bool.and_eq_true_iff.mpr ⟨r1_y k c, r1_y l d⟩⟩⟩)
/-! peace, as the class has it -/
theorem pln_q {M : Nat → Int32} {s : Sg} (P : PlnR 24 s M) {q : Nat} (hq : (q : Int) < (M 1).toInt) : q < 8 ∧ (s.1 31 q = M (40 + 5 * q) ∧ s.1 32 q = M (41 + 5 * q) ∧ s.1 33 q = M (42 + 5 * q)) ∧ EndsM M q ∧ ((M (40 + 5 * q)).toInt < (M 0).toInt ∧ (M (41 + 5 * q)).toInt < (M 0).toInt) ∧ ¬ M (40 + 5 * q) = M (41 + 5 * q) := by
  have b := P.2.1
  have w := P.2.2.2.1 q hq
  have w1 : s.1 31 q = M (40 + 5 * q) := w.1.1
  have w2 : s.1 32 q = M (41 + 5 * q) := w.1.2.1
  have w3 : s.1 33 q = M (42 + 5 * q) := w.1.2.2
  have c1 : 0 ≤ (s.1 31 q).toInt ∧ (s.1 31 q).toInt < (M 0).toInt := w.2.1
  have c2 : 0 ≤ (s.1 32 q).toInt ∧ (s.1 32 q).toInt < (M 0).toInt := w.2.2.1
  have c3 : ¬ s.1 31 q = s.1 32 q := w.2.2.2
  rw [w1] at c1 c3
  rw [w2] at c2 c3
  unfold EndsM
  exact ⟨by omega, ⟨w1, w2, w3⟩, ⟨⟨by omega, by omega⟩, by omega, by omega⟩, ⟨by omega, by omega⟩, c3⟩
theorem qa_b {M : Nat → Int32} {s : Sg} (P : PlnR 24 s M) {h : Nat} (hh : h < 8) (i : Nat) : bt (s.1 34 h) i = true ↔ ((i : Int) < (M 1).toInt ∧ atB M i h = true) := by
  have b := P.2.1.2.1
  have e : s.1 34 h = qat (s.1 31) (s.1 32) (M 1).toInt.toNat h := P.2.2.2.2.1 h hh
  rw [e, bt_qat _ _ _ _ _ (by omega)]
  unfold atB
  constructor
  · intro w
    have w := of_decide_eq_true w
    have hi : (i : Int) < (M 1).toInt := by omega
    have q := pln_q P hi
    rw [q.2.1.1, q.2.1.2.1] at w
    exact ⟨hi, decide_eq_true w.2⟩
  · intro w
    have q := pln_q P w.1
    refine decide_eq_true ⟨by omega, ?_⟩
    rw [q.2.1.1, q.2.1.2.1]
    exact of_decide_eq_true w.2
theorem isAt_c {M : Nat → Int32} {s : Sg} (P : PlnR 24 s M) {a b : Int32} {q h : Nat} (ha : a.toInt = (q : Int)) (hq : q < 8) (hb : b.toInt = (h : Int)) (hh : h < 8) : PQ (f_X4_isAt a b s) (fun r s' => s' = s ∧ Fl ((q : Int) < (M 1).toInt ∧ atB M q h = true) r) := by
  unfold f_X4_isAt
  refine pq_c (fun _ => ?_)
  rw [cl_h hb]
  exact pq_f0 ⟨fun w z => (sh1_0 _ a ha (by omega)).mp w ((qa_b P hh q).mpr z), fun w => (sh1_0 _ a ha (by omega)).mpr (fun z => w ((qa_b P hh q).mp z))⟩
theorem cont_b {M : Nat → Int32} {s : Sg} (P : PlnR 24 s M) {a : Int32} {h : Nat} (ha : a.toInt = (h : Int)) (hh : h < 8) (e g : Int32) (m : Nat) : ∀ (i : Nat) (v4 v5 v6 : Int32), v6.toInt = (i : Int) → i ≤ 8 → (i : Int) ≤ (M 1).toInt → v5 = lf M e.toInt h g i → (∀ x, x < 32 → (bt v4 x = true ↔ (x < i ∧ atB M x h = true ∧ ¬ lf M e.toInt h g x < nd M e.toInt x))) → PQ (f_X9_contentAt_25_b35 m a e v4 v5 v6 s) (fun r s' => s' = s ∧ ∀ x, x < 32 → (bt r x = true ↔ ((x : Int) < (M 1).toInt ∧ atB M x h = true ∧ ¬ lf M e.toInt h g x < nd M e.toInt x))) := by
  induction m with
  | zero => intro i v4 v5 v6 _ _ _ _ _ r s' q; cases q
  | succ m ih =>
    intro i v4 v5 v6 h6 hi hQ h5 h4
    have e1 : (1 : Int32).toInt = 1 := rfl
    have a6 : (v6 + 1).toInt = v6.toInt + 1 := i_addx v6 1 (by omega)
    have eQ : s.1 25 14 = M 1 := P.1.2.1
    unfold f_X9_contentAt_25_b35
    rw [eQ]
    refine pq_if (fun c => pq_s ⟨rfl, fun x hx => ?_⟩) (fun c => ?_)
    · have c := i_le c
      rw [h4 x hx]
      constructor
      · intro w; exact ⟨by omega, w.2⟩
      · intro w; exact ⟨by omega, w.2⟩
    · have c := i_nle c
      have hi' : (i : Int) < (M 1).toInt := by omega
      have pq := pln_q P hi'
      refine pq_b (isAt_c P h6 (by omega) ha hh) (fun r3 s4 k => ?_)
      obtain ⟨es, k⟩ := k
      subst es
      have nx : ∀ (t0 v4' v5' : Int32), t0 = nd M e.toInt i → atB M i h = true → v5' = v5 - (if t0 < v5 then t0 else v5) → (∀ x, x < 32 → (bt v4' x = true ↔ (bt v4 x = true ∨ (x = i ∧ ¬ v5 < t0)))) → PQ (f_X9_contentAt_25_b35 m a e v4' v5' (v6 + 1) s4) (fun r s' => s' = s4 ∧ ∀ x, x < 32 → (bt r x = true ↔ ((x : Int) < (M 1).toInt ∧ atB M x h = true ∧ ¬ lf M e.toInt h g x < nd M e.toInt x))) := fun t0 v4' v5' ht hat h5' h4' => by
        refine ih (i + 1) v4' v5' (v6 + 1) (by omega) (by omega) (by omega) ?_ (fun x hx => ?_)
        · rw [lf_s, if_pos hat, h5', ht, h5]
        · rw [h4' x hx, h4 x hx, ht, h5]
          constructor
          · rintro (w | w)
            · exact ⟨by omega, w.2⟩
            · obtain ⟨w1, w2⟩ := w
              subst w1
              exact ⟨by omega, hat, w2⟩
          · intro w
            by_cases z : x = i
            · subst z
              exact Or.inr ⟨rfl, w.2.2⟩
            · exact Or.inl ⟨by omega, w.2⟩
      have st : ∀ t0 : Int32, t0 = nd M e.toInt i → atB M i h = true → PQ (f_X9_contentAt_25_b71 (f_X9_contentAt_25_b35 m) a e v4 v5 v6 t0 s4) (fun r s' => s' = s4 ∧ ∀ x, x < 32 → (bt r x = true ↔ ((x : Int) < (M 1).toInt ∧ atB M x h = true ∧ ¬ lf M e.toInt h g x < nd M e.toInt x))) := fun t0 ht hat => by
        unfold f_X9_contentAt_25_b71
        refine pq_if (fun d => pq_n (fun x5 e5 => nx t0 v4 x5 ht hat e5 (fun x hx => ⟨fun w => Or.inl w, fun w => w.elim id (fun y => absurd d y.2)⟩))) (fun d => pq_n (fun x6 e6 => pq_n (fun x7 e7 => nx t0 x6 x7 ht hat e7 (fun x hx => ?_))))
        rw [e6, bt_or, bitI_v h6 (by omega), bt_bit (by omega)]
        constructor
        · intro w
          rcases Bool.or_eq_true_iff.mp w with w | w
          · exact Or.inl w
          · exact Or.inr ⟨of_decide_eq_true w, d⟩
        · rintro (w | w)
          · exact Bool.or_eq_true_iff.mpr (Or.inl w)
          · exact Bool.or_eq_true_iff.mpr (Or.inr (decide_eq_true w.1))
      refine pq_if (fun d => ?_) (fun d => pq_if (fun f => st 0 ?_ (r1_y k d).2) (fun f => pq_c (fun _ => st _ ?_ (r1_y k d).2)))
      · refine ih (i + 1) v4 v5 (v6 + 1) (by omega) (by omega) (by omega) ?_ (fun x hx => ?_)
        · rw [lf_s, if_neg (fun z => r1_n k d ⟨hi', z⟩)]
          exact h5
        · rw [h4 x hx]
          constructor
          · intro w; exact ⟨by omega, w.2⟩
          · intro w
            by_cases z : x = i
            · subst z
              exact absurd ⟨hi', w.2.1⟩ (r1_n k d)
            · exact ⟨by omega, w.2⟩
      · unfold nd
        rw [if_pos (by rw [← h6]; exact i_eq f)]
      · unfold nd
        rw [if_neg (by rw [← h6]; exact i_ne f), cl_h h6]
        exact pq.2.1.2.2
theorem cont_c {M : Nat → Int32} {s : Sg} (P : PlnR 24 s M) (B : PlB M) {a : Int32} {h : Nat} (ha : a.toInt = (h : Int)) (hh : h < 8) (g e : Int32) : PQ (f_X9_contentAt_25 a g e s) (fun r s' => s' = s ∧ ∀ x, x < 32 → (bt r x = true ↔ ((x : Int) < (M 1).toInt ∧ atB M x h = true ∧ flB M e.toInt x h g = true))) := by
  unfold f_X9_contentAt_25
  refine pq_b (gone_c P ha (by omega)) (fun r1 s2 k => ?_)
  obtain ⟨es, k⟩ := k
  subst es
  have e19 : s2.1 25 19 = M 14 := P.2.2.1.2.2
  have b1 := P.2.1.2.1
  refine pq_if (fun c => pq_w (cont_b P ha hh e g BIG 0 0 g 0 rfl (by decide) b1.1 rfl (fun x _ => ?_)) (fun r s' w => ⟨w.1, fun x hx => ?_⟩)) (fun c => ?_)
  · rw [bt_0]
    exact ⟨fun z => absurd z (by decide), fun z => absurd z.1 (Nat.not_lt_zero _)⟩
  · rw [w.2 x hx]
    unfold flB
    rw [if_neg (r1_n k c)]
    exact ⟨fun z => ⟨z.1, z.2.1, decide_eq_true z.2.2⟩, fun z => ⟨z.1, z.2.1, of_decide_eq_true z.2.2⟩⟩
  · have gn := r1_y k c
    have fe : ∀ x, flB M e.toInt x h g = decide (M 14 = 1) := fun x => by
      unfold flB
      rw [if_pos gn]
    refine pq_if (fun d => pq_s ⟨rfl, fun x hx => ?_⟩) (fun d => pq_c (fun _ => pq_s ⟨rfl, fun x hx => ?_⟩))
    · rw [bt_0, fe]
      refine ⟨fun z => absurd z (by decide), fun z => ?_⟩
      have z := of_decide_eq_true z.2.2
      rw [← e19, d] at z
      exact absurd z (by decide)
    · rw [cl_h ha, qa_b P hh, fe]
      have m14 : M 14 = 1 := by
        rcases B.2.2.2.2.2 with z | z
        · exact absurd (e19.trans z) d
        · exact z
      exact ⟨fun z => ⟨z.1, z.2, decide_eq_true m14⟩, fun z => ⟨z.1, z.2.1⟩⟩
theorem allq_c {M : Nat → Int32} {s : Sg} (P : PlnR 24 s M) : PQ (f_X4_allQuarrels s) (fun r s' => s' = s ∧ ∀ x, x < 32 → (bt r x = true ↔ (x : Int) < (M 1).toInt)) := by
  have b1 := P.2.1.2.1
  have eQ : s.1 25 14 = M 1 := P.1.2.1
  unfold f_X4_allQuarrels
  refine pq_s ⟨rfl, fun x hx => ?_⟩
  have e : s.1 25 14 = Int32.ofNat (M 1).toInt.toNat := of_nat (by rw [eQ]; omega) (by omega)
  rw [e]
  have d : ∀ n, n < 9 → ∀ x, x < 32 → (bt (((1 : Int32) <<< ((Int32.ofNat n) &&& 31)) - 1) x = true ↔ x < n) := by decide +kernel
  rw [d (M 1).toInt.toNat (by omega) x hx]
  omega
theorem sight_c {M : Nat → Int32} {s : Sg} (G : GrdT 0 s M) {a : Int32} {h : Nat} (ha : a.toInt = (h : Int)) (hh : h < 8) : PQ (f_X2_inSight a s) (fun r s' => s' = s ∧ r = sgM M h) := by
  have e3 : s.1 42 h = M (18 + 3 * h) := G 42 h _ (Or.inl ⟨hh, Or.inr (Or.inr (Or.inl ⟨rfl, rfl⟩))⟩)
  unfold f_X2_inSight sgM
  refine pq_c (fun _ => ?_)
  rw [cl_h ha, e3]
  refine pq_if (fun c => pq_b (ly_c G ha hh) (fun r s' w => pq_s ⟨w.1, ?_⟩)) (fun c => pq_s ⟨rfl, ?_⟩)
  · rw [if_pos c]; exact w.2
  · rw [if_neg c]
theorem peac_b {M : Nat → Int32} {s : Sg} (P : PlnR 24 s M) (B : PlB M) (G : GrdT 0 s M) (e : Int32) (m : Nat) : ∀ (i : Nat) (v3 v4 : Int32), v4.toInt = (i : Int) → i ≤ 8 → (i : Int) ≤ (M 0).toInt → (∀ x, x < 32 → (bt v3 x = true ↔ ((x : Int) < (M 1).toInt ∧ ∀ h, h < i → atB M x h = true → flB M e.toInt x h (sgM M h) = true))) → PQ (f_X9_atPeace_26_25_b8 m e v3 v4 s) (fun r s' => s' = s ∧ ∀ x, x < 32 → (bt r x = true ↔ ((x : Int) < (M 1).toInt ∧ ∀ h : Nat, (h : Int) < (M 0).toInt → atB M x h = true → flB M e.toInt x h (sgM M h) = true))) := by
  induction m with
  | zero => intro i v3 v4 _ _ _ _ r s' q; cases q
  | succ m ih =>
    intro i v3 v4 h4 hi hH h3
    have e1 : (1 : Int32).toInt = 1 := rfl
    have a4 : (v4 + 1).toInt = v4.toInt + 1 := i_addx v4 1 (by omega)
    have e13 : (s.1 25 13).toInt = (M 0).toInt + 0 := P.1.1
    have b0 := P.2.1.1
    unfold f_X9_atPeace_26_25_b8
    refine pq_if (fun c => pq_s ⟨rfl, fun x hx => ?_⟩) (fun c => pq_c (fun _ => ?_))
    · have c := i_le c
      rw [h3 x hx]
      exact ⟨fun w => ⟨w.1, fun h hh => w.2 h (by omega)⟩, fun w => ⟨w.1, fun h hh => w.2 h (by omega)⟩⟩
    · have c := i_nle c
      have hh : i < 8 := by omega
      refine pq_b (sight_c G h4 hh) (fun r4 s5 k => ?_)
      obtain ⟨es, k⟩ := k
      subst es
      refine pq_b (cont_c P B h4 hh r4 e) (fun r6 s7 l => pq_n (fun x8 e8 => ?_))
      obtain ⟨es, l⟩ := l
      subst es
      refine ih (i + 1) x8 (v4 + 1) (by omega) (by omega) (by omega) (fun x hx => ?_)
      have q34 := qa_b P hh x
      rw [e8, bt_and, bt_or, bt_xor, bt_m1 x hx, cl_h h4]
      have lx := l x hx
      have hx3 := h3 x hx
      rw [k] at lx
      constructor
      · intro w
        obtain ⟨w1, w2⟩ := Bool.and_eq_true_iff.mp w
        refine ⟨(hx3.mp w1).1, fun h hhi hat => ?_⟩
        by_cases z : h = i
        · subst z
          rcases Bool.or_eq_true_iff.mp w2 with y | y
          · rw [q34.mpr ⟨(hx3.mp w1).1, hat⟩] at y
            exact absurd y (by decide)
          · exact (lx.mp y).2.2
        · exact (hx3.mp w1).2 h (by omega) hat
      · intro w
        refine Bool.and_eq_true_iff.mpr ⟨hx3.mpr ⟨w.1, fun h hhi hat => w.2 h (by omega) hat⟩, Bool.or_eq_true_iff.mpr ?_⟩
        by_cases z : atB M x i = true
        · exact Or.inr (lx.mpr ⟨w.1, z, w.2 i (by omega) z⟩)
        · refine Or.inl ?_
          have y : bt (s7.1 34 i) x = false := by
            cases hb : bt (s7.1 34 i) x with
            | false => rfl
            | true => exact absurd (q34.mp hb).2 z
          rw [y]
          rfl
theorem peac_c {M : Nat → Int32} {s : Sg} (P : PlnR 24 s M) (B : PlB M) (G : GrdT 0 s M) (e : Int32) : PQ (f_X9_atPeace_26_25 e s) (fun r s' => s' = s ∧ ∀ x, x < 32 → (bt r x = true ↔ ((x : Int) < (M 1).toInt ∧ pcB M e.toInt x = true))) := by
  unfold f_X9_atPeace_26_25
  refine pq_b (allq_c P) (fun r1 s2 k => ?_)
  obtain ⟨es, k⟩ := k
  subst es
  refine pq_w (peac_b P B G e BIG 0 r1 0 rfl (by decide) P.2.1.1.1 (fun x hx => ?_)) (fun r s' w => ⟨w.1, fun x hx => ?_⟩)
  · rw [k x hx]
    exact ⟨fun w => ⟨w, fun h hh => absurd hh (Nat.not_lt_zero _)⟩, fun w => w.1⟩
  · rw [w.2 x hx]
    constructor
    · intro y
      have pq := pln_q P y.1
      have c := pq.2.2.1
      have d := pq.2.2.2.1
      have n0 : (M (40 + 5 * x)).toInt = (h0 M x : Int) := by
        unfold h0
        have := c.1
        omega
      have n1 : (M (41 + 5 * x)).toInt = (h1 M x : Int) := by
        unfold h1
        have := c.2
        omega
      exact ⟨y.1, Bool.and_eq_true_iff.mpr ⟨y.2 _ (by omega) (decide_eq_true (Or.inl n0)), y.2 _ (by omega) (decide_eq_true (Or.inr n1))⟩⟩
    · intro y
      obtain ⟨y1, y2⟩ := y
      obtain ⟨y2, y3⟩ := Bool.and_eq_true_iff.mp y2
      refine ⟨y1, fun h hh hat => ?_⟩
      rcases of_decide_eq_true hat with z | z
      · have : h0 M x = h := by
          unfold h0
          omega
        rw [← this]; exact y2
      · have : h1 M x = h := by
          unfold h1
          omega
        rw [← this]; exact y3
theorem sight_cz {M : Nat → Int32} {s : Sg} (G : GrdT 27 s M) {a : Int32} {h : Nat} (ha : a.toInt = (h : Int)) (hh : h < 8) : PQ (f_X2_inSight_53 a s) (fun r s' => s' = s ∧ r = sgM M h) := by
  have e3 : s.1 69 h = M (18 + 3 * h) := G 69 h _ (Or.inl ⟨hh, Or.inr (Or.inr (Or.inl ⟨rfl, rfl⟩))⟩)
  unfold f_X2_inSight_53 sgM
  refine pq_c (fun _ => ?_)
  rw [cl_h ha, e3]
  refine pq_if (fun c => pq_b (ly_cz G ha hh) (fun r s' w => pq_s ⟨w.1, ?_⟩)) (fun c => pq_s ⟨rfl, ?_⟩)
  · rw [if_pos c]; exact w.2
  · rw [if_neg c]
theorem peac_bz {M : Nat → Int32} {s : Sg} (P : PlnR 24 s M) (B : PlB M) (G : GrdT 27 s M) (e : Int32) (m : Nat) : ∀ (i : Nat) (v3 v4 : Int32), v4.toInt = (i : Int) → i ≤ 8 → (i : Int) ≤ (M 0).toInt → (∀ x, x < 32 → (bt v3 x = true ↔ ((x : Int) < (M 1).toInt ∧ ∀ h, h < i → atB M x h = true → flB M e.toInt x h (sgM M h) = true))) → PQ (f_X9_atPeace_53_25_b8 m e v3 v4 s) (fun r s' => s' = s ∧ ∀ x, x < 32 → (bt r x = true ↔ ((x : Int) < (M 1).toInt ∧ ∀ h : Nat, (h : Int) < (M 0).toInt → atB M x h = true → flB M e.toInt x h (sgM M h) = true))) := by
  induction m with
  | zero => intro i v3 v4 _ _ _ _ r s' q; cases q
  | succ m ih =>
    intro i v3 v4 h4 hi hH h3
    have e1 : (1 : Int32).toInt = 1 := rfl
    have a4 : (v4 + 1).toInt = v4.toInt + 1 := i_addx v4 1 (by omega)
    have e13 : (s.1 25 13).toInt = (M 0).toInt + 0 := P.1.1
    have b0 := P.2.1.1
    unfold f_X9_atPeace_53_25_b8
    refine pq_if (fun c => pq_s ⟨rfl, fun x hx => ?_⟩) (fun c => pq_c (fun _ => ?_))
    · have c := i_le c
      rw [h3 x hx]
      exact ⟨fun w => ⟨w.1, fun h hh => w.2 h (by omega)⟩, fun w => ⟨w.1, fun h hh => w.2 h (by omega)⟩⟩
    · have c := i_nle c
      have hh : i < 8 := by omega
      refine pq_b (sight_cz G h4 hh) (fun r4 s5 k => ?_)
      obtain ⟨es, k⟩ := k
      subst es
      refine pq_b (cont_c P B h4 hh r4 e) (fun r6 s7 l => pq_n (fun x8 e8 => ?_))
      obtain ⟨es, l⟩ := l
      subst es
      refine ih (i + 1) x8 (v4 + 1) (by omega) (by omega) (by omega) (fun x hx => ?_)
      have q34 := qa_b P hh x
      rw [e8, bt_and, bt_or, bt_xor, bt_m1 x hx, cl_h h4]
      have lx := l x hx
      have hx3 := h3 x hx
      rw [k] at lx
      constructor
      · intro w
        obtain ⟨w1, w2⟩ := Bool.and_eq_true_iff.mp w
        refine ⟨(hx3.mp w1).1, fun h hhi hat => ?_⟩
        by_cases z : h = i
        · subst z
          rcases Bool.or_eq_true_iff.mp w2 with y | y
          · rw [q34.mpr ⟨(hx3.mp w1).1, hat⟩] at y
            exact absurd y (by decide)
          · exact (lx.mp y).2.2
        · exact (hx3.mp w1).2 h (by omega) hat
      · intro w
        refine Bool.and_eq_true_iff.mpr ⟨hx3.mpr ⟨w.1, fun h hhi hat => w.2 h (by omega) hat⟩, Bool.or_eq_true_iff.mpr ?_⟩
        by_cases z : atB M x i = true
        · exact Or.inr (lx.mpr ⟨w.1, z, w.2 i (by omega) z⟩)
        · refine Or.inl ?_
          have y : bt (s7.1 34 i) x = false := by
            cases hb : bt (s7.1 34 i) x with
            | false => rfl
            | true => exact absurd (q34.mp hb).2 z
          rw [y]
          rfl
theorem peac_cz {M : Nat → Int32} {s : Sg} (P : PlnR 24 s M) (B : PlB M) (G : GrdT 27 s M) (e : Int32) : PQ (f_X9_atPeace_53_25 e s) (fun r s' => s' = s ∧ ∀ x, x < 32 → (bt r x = true ↔ ((x : Int) < (M 1).toInt ∧ pcB M e.toInt x = true))) := by
  unfold f_X9_atPeace_53_25
  refine pq_b (allq_c P) (fun r1 s2 k => ?_)
  obtain ⟨es, k⟩ := k
  subst es
  refine pq_w (peac_bz P B G e BIG 0 r1 0 rfl (by decide) P.2.1.1.1 (fun x hx => ?_)) (fun r s' w => ⟨w.1, fun x hx => ?_⟩)
  · rw [k x hx]
    exact ⟨fun w => ⟨w, fun h hh => absurd hh (Nat.not_lt_zero _)⟩, fun w => w.1⟩
  · rw [w.2 x hx]
    constructor
    · intro y
      have pq := pln_q P y.1
      have c := pq.2.2.1
      have d := pq.2.2.2.1
      have n0 : (M (40 + 5 * x)).toInt = (h0 M x : Int) := by
        unfold h0
        have := c.1
        omega
      have n1 : (M (41 + 5 * x)).toInt = (h1 M x : Int) := by
        unfold h1
        have := c.2
        omega
      exact ⟨y.1, Bool.and_eq_true_iff.mpr ⟨y.2 _ (by omega) (decide_eq_true (Or.inl n0)), y.2 _ (by omega) (decide_eq_true (Or.inr n1))⟩⟩
    · intro y
      obtain ⟨y1, y2⟩ := y
      obtain ⟨y2, y3⟩ := Bool.and_eq_true_iff.mp y2
      refine ⟨y1, fun h hh hat => ?_⟩
      rcases of_decide_eq_true hat with z | z
      · have : h0 M x = h := by
          unfold h0
          omega
        rw [← this]; exact y2
      · have : h1 M x = h := by
          unfold h1
          omega
        rw [← this]; exact y3
/-! a night on both sides -/
theorem rq_a {α β : Type} {oC : Option (α × Sg)} {oM : Option (β × Sg)} {R : α → Sg → β → Sg → Prop} {P : α → Sg → Prop} {Q : β → Sg → Prop} (h : RQ oC oM R) (p : PQ oC P) (q : PQ oM Q) : RQ oC oM (fun a s b t => R a s b t ∧ P a s ∧ Q b t) := fun a s b t e f => ⟨h a s b t e f, p a s e, q b t f⟩
def Pp (p : Nat) : Prop := PlP p ∨ (16 ≤ p ∧ p < 40)
theorem nd_c {M M' : Nat → Int32} (h : ∀ p, Pp p → M' p = M p) (e : Int) {q : Nat} (hq : q < 8) : nd M' e q = nd M e q := by
  unfold nd
  rw [h _ (Or.inl (plp_q hq).2.2)]
theorem atB_c {M M' : Nat → Int32} (h : ∀ p, Pp p → M' p = M p) {q : Nat} (hq : q < 8) (x : Nat) : atB M' q x = atB M q x := by
  unfold atB
  rw [h _ (Or.inl (plp_q hq).1), h _ (Or.inl (plp_q hq).2.1)]
theorem lf_c {M M' : Nat → Int32} (h : ∀ p, Pp p → M' p = M p) (e : Int) (x : Nat) (g : Int32) : ∀ n : Nat, n ≤ 8 → lf M' e x g n = lf M e x g n
  | 0, _ => rfl
  | n + 1, hn => by
    rw [lf_s, lf_s, lf_c h e x g n (by omega), nd_c h e (by omega), atB_c h (by omega)]
theorem sg_c {M M' : Nat → Int32} (h : ∀ p, Pp p → M' p = M p) {x : Nat} (hx : x < 8) : sgM M' x = sgM M x := by
  unfold sgM lyM
  rw [h _ (Or.inr (by omega)), h _ (Or.inr (by omega)), h _ (Or.inr (by omega))]
theorem flB_c {M M' : Nat → Int32} (h : ∀ p, Pp p → M' p = M p) (e : Int) {q : Nat} (hq : q < 8) (x : Nat) (g : Int32) : flB M' e q x g = flB M e q x g := by
  unfold flB
  rw [h 9 (Or.inl (plp_0 (by decide))), h 14 (Or.inl (plp_0 (by decide))), lf_c h e x g q (by omega), nd_c h e hq]
theorem pcB_c {M M' : Nat → Int32} (h : ∀ p, Pp p → M' p = M p) (e : Int) {q : Nat} (hq : q < 8) (hE : EndsM M q) : pcB M' e q = pcB M e q := by
  have a : h0 M' q = h0 M q := by
    unfold h0
    rw [h _ (Or.inl (plp_q hq).1)]
  have b : h1 M' q = h1 M q := by
    unfold h1
    rw [h _ (Or.inl (plp_q hq).2.1)]
  have x0 : h0 M q < 8 := by
    unfold h0
    have := hE.1
    omega
  have x1 : h1 M q < 8 := by
    unfold h1
    have := hE.2
    omega
  unfold pcB
  rw [a, b, flB_c h e hq, flB_c h e hq, sg_c h x0, sg_c h x1]
def cntI (f : Nat → Bool) : Nat → Int32
  | 0 => 0
  | n + 1 => cntI f n + (if f n = true then 1 else 0)
theorem cnt_s (f : Nat → Bool) (n : Nat) : cntI f (n + 1) = cntI f n + (if f n = true then 1 else 0) := rfl
theorem cnt_c {f g : Nat → Bool} : ∀ n : Nat, (∀ q, q < n → f q = g q) → cntI f n = cntI g n
  | 0, _ => rfl
  | n + 1, h => by
    rw [cnt_s, cnt_s, cnt_c n (fun q hq => h q (by omega)), h n (by omega)]
def ovN (M : Nat → Int32) (q : Nat) : Int32 := if pcB M (-1) q = true then 1 else if M 10 = 1 then 0 else M (43 + 5 * q)
def NgI (M : Nat → Int32) (t0 : Sg) (i : Nat) (t : Sg) : Prop := (∀ q, q < i → t.1 1 (43 + 5 * q) = ovN M q ∧ t.1 1 (44 + 5 * q) = M (44 + 5 * q) + (1 - ovN M q)) ∧ (∀ p, (∀ q, q < i → ¬ p = 43 + 5 * q ∧ ¬ p = 44 + 5 * q) → t.1 1 p = M p) ∧ ((∀ c, ¬ c = 0 → ¬ c = 1 → t.1 c = t0.1 c) ∧ (∀ k, ¬ k = 25 → ¬ k = 26 → t.1 0 k = t0.1 0 k) ∧ t.2 = t0.2) ∧ (t.1 0 25 = cntI (fun q => decide (M (43 + 5 * q) < ovN M q)) i ∧ t.1 0 26 = cntI (fun q => decide (ovN M q < M (43 + 5 * q))) i)
theorem add0 (a : Int32) : a + 0 = a := Int32.toInt_inj.mp (by
  have b := Int32.toInt_lt a
  have c := Int32.le_toInt a
  have e0 : (0 : Int32).toInt = 0 := rfl
  rw [i_addx a 0 (by omega), e0]
  omega)
theorem n221 {Q : Unit → Sg → Prop} (k : Int32 → Sg → Option (Unit × Sg)) (v1 v2 v3 : Int32) (t : Sg) {j3 j4 : Nat} (d3 : (v2 + 3).toNatClampNeg = j3) (d4 : (v2 + 4).toNatClampNeg = j4) (hk : ∀ u, u = pI (pI (pI t 0 25 (t.1 0 25 + (if v3 < t.1 1 j3 then 1 else 0))) 0 26 (t.1 0 26 + (if t.1 1 j3 < v3 then 1 else 0))) 1 j4 (t.1 1 j4 + (1 - t.1 1 j3)) → PQ (k (v1 + 1) u) Q) : PQ (f_X12_nightGoes_b221 k v1 v2 v3 t) Q := by
  have s269 : ∀ (a b : Int32) (u : Sg), u = pI t 0 25 (t.1 0 25 + a) → a = (if v3 < t.1 1 j3 then 1 else 0) → b = (if t.1 1 j3 < v3 then 1 else 0) → PQ (f_X12_nightGoes_b269 k v1 v2 b (u.1 0 26) u) Q := fun a b u hu ha hb => by
    unfold f_X12_nightGoes_b269
    refine pq_c (fun _ => pq_c (fun _ => pq_n (fun s13 e13 => hk s13 ?_)))
    rw [e13, d3, d4, q_nc rfl, q_nc rfl, hu, q_ne rfl, q_nc rfl, q_nc rfl, ha, hb]
  have s243 : ∀ (a : Int32), a = (if v3 < t.1 1 j3 then 1 else 0) → PQ (f_X12_nightGoes_b243 k v1 v2 v3 a (t.1 0 25) t) Q := fun a ha => by
    unfold f_X12_nightGoes_b243
    refine pq_c (fun _ => pq_if (fun c => s269 a 0 _ rfl ha ?_) (fun c => s269 a 1 _ rfl ha ?_))
    · rw [d3, q_nc rfl] at c
      have c := i_le c
      rw [if_neg (fun z => by have := i_lt z; omega)]
    · rw [d3, q_nc rfl] at c
      have c := i_nle c
      rw [if_pos (Int32.lt_iff_toInt_lt.mpr c)]
  unfold f_X12_nightGoes_b221
  refine pq_c (fun _ => pq_if (fun c => s243 0 ?_) (fun c => s243 1 ?_))
  · rw [d3] at c
    have c := i_le c
    rw [if_neg (fun z => by have := i_lt z; omega)]
  · rw [d3] at c
    have c := i_nle c
    rw [if_pos (Int32.lt_iff_toInt_lt.mpr c)]
theorem ng_157 {M : Nat → Int32} {t0 : Sg} (hM : M = t0.1 1) (hE : ∀ q : Nat, (q : Int) < (M 1).toInt → q < 8 ∧ EndsM M q) (h24 : t0.1 0 24 = -1) (hQ : 0 ≤ (M 1).toInt ∧ (M 1).toInt ≤ 8) (m : Nat) : ∀ (i : Nat) (v1 : Int32) (t : Sg), v1.toInt = (i : Int) → (i : Int) ≤ (M 1).toInt → NgI M t0 i t → PQ (f_X12_nightGoes_b157 m v1 t) (fun _ t' => ∃ t2, NgI M t0 (M 1).toInt.toNat t2 ∧ t' = pI (pI t2 1 4 (t2.1 1 4 + 1)) 1 10 0) := by
  induction m with
  | zero => intro i v1 t _ _ _ r t' e; cases e
  | succ m ih =>
    intro i v1 t h1 hi I
    obtain ⟨I1, I2, ⟨I3, I4, I5⟩, I6, I7⟩ := I
    have e1 : (1 : Int32).toInt = 1 := rfl
    have a1 : (v1 + 1).toInt = v1.toInt + 1 := i_addx v1 1 (by omega)
    have m1 : t.1 1 1 = M 1 := I2 1 (fun q _ => by omega)
    unfold f_X12_nightGoes_b157
    rw [m1]
    refine pq_if (fun c => pq_n (fun s1 es => pq_s ⟨t, ?_, es⟩)) (fun c => ?_)
    · have c := i_le c
      have z : (M 1).toInt.toNat = i := by omega
      rw [z]
      exact ⟨I1, I2, ⟨I3, I4, I5⟩, I6, I7⟩
    · have c := i_nle c
      have hi' : (i : Int) < (M 1).toInt := by omega
      have hq := hE i hi'
      have x := qr_x h1 hq.1
      refine pq_b (qrow_p v1 t) (fun r2 t3 k => ?_)
      obtain ⟨et, k⟩ := k
      subst et
      subst k
      refine pq_c (fun _ => pq_n (fun x5 e5 => ?_))
      rw [x.2.2.2.1] at e5
      have m43 : t3.1 1 (43 + 5 * i) = M (43 + 5 * i) := I2 _ (fun q _ => by omega)
      have m10 : t3.1 1 10 = M 10 := I2 10 (fun q _ => by omega)
      have mp : ∀ p, Pp p → t3.1 1 p = M p := fun p hp => I2 p (fun q hq' => by
        rcases hp with y | y
        · exact ⟨plp_n (Or.inr (Or.inr (Or.inl ⟨q, by omega, Or.inl rfl⟩))) y, plp_n (Or.inr (Or.inr (Or.inl ⟨q, by omega, Or.inr rfl⟩))) y⟩
        · omega)
      have e24 : (t3.1 0 24).toInt = -1 := by
        rw [I4 24 (by decide) (by decide), h24]
        rfl
      have hE3 : EndsM (t3.1 1) i := by
        unfold EndsM
        rw [mp _ (Or.inl (plp_q hq.1).1), mp _ (Or.inl (plp_q hq.1).2.1)]
        exact hq.2
      have nx : ∀ t8 : Sg, t8.1 1 (43 + 5 * i) = ovN M i → (∀ p, ¬ p = 43 + 5 * i → t8.1 1 p = t3.1 1 p) → (∀ c, ¬ c = 1 → t8.1 c = t3.1 c) → t8.2 = t3.2 → PQ (f_X12_nightGoes_b221 (f_X12_nightGoes_b157 m) v1 (40 + 5 * v1) x5 t8) (fun _ t' => ∃ t2, NgI M t0 (M 1).toInt.toNat t2 ∧ t' = pI (pI t2 1 4 (t2.1 1 4 + 1)) 1 10 0) := fun t8 w1 w2 w3 w4 => by
        refine n221 _ v1 _ x5 t8 x.2.2.2.1 x.2.2.2.2 (fun u hu => ih (i + 1) (v1 + 1) u (by omega) (by omega) ?_)
        have c0 : ∀ k, t8.1 0 k = t3.1 0 k := fun k => by rw [w3 0 (by decide)]
        have u1 : ∀ p, u.1 1 p = if p = 44 + 5 * i then t8.1 1 (44 + 5 * i) + (1 - ovN M i) else t8.1 1 p := fun p => by
          rw [hu, pI_1, w1]
          by_cases z : p = 44 + 5 * i
          · rw [if_pos ⟨rfl, z⟩, if_pos z]
          · rw [if_neg (fun y => z y.2), if_neg z, q_nc rfl, q_nc rfl]
        refine ⟨fun q hq' => ?_, fun p hp => ?_, ⟨fun c y1 y2 => ?_, fun k y1 y2 => ?_, ?_⟩, ?_, ?_⟩
        · by_cases z : q = i
          · subst z
            rw [u1, u1, if_neg (by omega), if_pos rfl, w1, w2 _ (by omega), I2 (44 + 5 * q) (fun q' _ => by omega)]
            exact ⟨rfl, rfl⟩
          · rw [u1, u1, if_neg (by omega), if_neg (by omega), w2 _ (by omega), w2 _ (by omega)]
            exact I1 q (by omega)
        · have y := hp i (by omega)
          rw [u1, if_neg y.2, w2 p y.1]
          exact I2 p (fun q hq' => hp q (by omega))
        · rw [hu, pI_o _ _ _ _ _ y2, pI_o _ _ _ _ _ y1, pI_o _ _ _ _ _ y1, w3 c y2]
          exact I3 c y1 y2
        · rw [hu, q_nc rfl, pI_1, if_neg (fun z => y2 z.2), pI_1, if_neg (fun z => y1 z.2), c0]
          exact I4 k y1 y2
        · rw [hu]
          show t8.2 = _
          rw [w4, I5]
        · rw [hu, q_nc rfl, q_ne rfl, q_eq, c0, I6, cnt_s, w1, e5, m43]
          by_cases z : M (43 + 5 * i) < ovN M i
          · rw [if_pos z, if_pos (decide_eq_true z)]
          · rw [if_neg z, if_neg (fun y => z (of_decide_eq_true y))]
        · rw [hu, q_nc rfl, q_eq, c0, I7, cnt_s, w1, e5, m43]
          by_cases z : ovN M i < M (43 + 5 * i)
          · rw [if_pos z, if_pos (decide_eq_true z)]
          · rw [if_neg z, if_neg (fun y => z (of_decide_eq_true y))]
      refine pq_b (peace_m h1 hq.1 t3 hE3) (fun r6 t7 l => ?_)
      obtain ⟨et, l⟩ := l
      subst et
      rw [e24, pcB_c mp (-1) hq.1 hq.2] at l
      refine pq_if (fun d => pq_if (fun f => pq_n (fun s8 e8 => nx s8 ?_ (fun p hp => ?_) (fun c hc => ?_) ?_)) (fun f => nx t7 ?_ (fun _ _ => rfl) (fun _ _ => rfl) rfl)) (fun d => pq_n (fun s14 e8 => nx s14 ?_ (fun p hp => ?_) (fun c hc => ?_) ?_))
      · rw [e8, x.2.2.2.1, q_eq]
        unfold ovN
        rw [if_neg (r1_n l d), if_pos (m10.symm.trans f)]
      · rw [e8, x.2.2.2.1, pI_1, if_neg (fun z => hp z.2)]
      · rw [e8, pI_o _ _ _ _ _ hc]
      · rw [e8]; rfl
      · unfold ovN
        rw [if_neg (r1_n l d), if_neg (fun z => f (m10.trans z))]
        exact m43
      · rw [e8, x.2.2.2.1, q_eq]
        unfold ovN
        rw [if_pos (r1_y l d)]
      · rw [e8, x.2.2.2.1, pI_1, if_neg (fun z => hp z.2)]
      · rw [e8, pI_o _ _ _ _ _ hc]
      · rw [e8]; rfl
/-- what neither cats nor melting touch -/
def Kn (o : Nat) (s0 s t0 t : Sg) : Prop := (∀ k, k < 8 → s.1 (26 + o) k = s0.1 (26 + o) k) ∧ s.1 (43 + o) = s0.1 (43 + o) ∧ (∀ p, p < 8 → t.1 1 p = t0.1 1 p) ∧ t.1 0 = t0.1 0
theorem kn_r {o : Nat} {s t : Sg} : Kn o s s t t := ⟨fun _ _ => rfl, rfl, fun _ _ => rfl, rfl⟩
theorem cats_r {R : Unit → Sg → Unit → Sg → Prop} {KC : Unit → Sg → Option (Unit × Sg)} (s0 t0 : Sg) (hK : ∀ s t, NowG 0 s t → Kn 0 s0 s t0 t → RQ (KC () s) (f_X12_nightGoes_b73 BIG 0 t) R) (m : Nat) : ∀ (m' i : Nat) (v : Int32) (s t : Sg), v.toInt = (i : Int) → i ≤ 4 → NowG 0 s t → Kn 0 s0 s t0 t → RQ (bd (f_X2_sendCats_25_b2 m v s) KC) (f_X12_nightGoes_b2 m' v t) R := by
  induction m with
  | zero =>
    intro m' i v s t _ _ _ _ a s' b t' e
    have e : (none : Option (Unit × Sg)) = some (a, s') := e
    cases e
  | succ m ih =>
    intro m' i v s t hv hi H K
    cases m' with
    | zero => exact rq_0
    | succ m' =>
      have e1 : (1 : Int32).toInt = 1 := rfl
      have av : (v + 1).toInt = v.toInt + 1 := i_addx v 1 (by omega)
      have e15 : s.1 25 15 = t.1 1 2 := H.1.1.1.2.2.1
      have b2 := H.1.1.2.1.2.2.1
      unfold f_X2_sendCats_25_b2 f_X12_nightGoes_b2
      rw [e15]
      refine rc_i (fun c => rq_iM (fun _ => rc_s (hK s t H K)) (fun z => absurd c z)) (fun c => rq_iM (fun z => absurd z c) (fun _ => ?_))
      have c := i_nle c
      have hi' : (i : Int) < (t.1 1 2).toInt := by omega
      have c4 : i < 4 := by
        have : (t.1 1 2).toInt ≤ 4 := b2.2
        omega
      have x := cx_x hv c4
      have pc := H.1.1.2.2.2.2.2.1 i hi'
      have p1 : s.1 35 i = t.1 1 (80 + 3 * i) := pc.1.1
      have p2 : s.1 36 i = t.1 1 (81 + 3 * i) := pc.1.2.1
      have p3 : s.1 37 i = t.1 1 (82 + 3 * i) := pc.1.2.2
      have q1 : 0 ≤ (s.1 35 i).toInt ∧ (s.1 35 i).toInt < (t.1 1 0).toInt := pc.2.1
      have q2 : 0 ≤ (s.1 36 i).toInt ∧ (s.1 36 i).toInt < (t.1 1 0).toInt := pc.2.2.1
      have b0 : (t.1 1 0).toInt ≤ 8 := H.1.1.2.1.1.2
      have gb := H.2.2.1.2.1 i hi'
      have nf : (s.1 35 i).toInt = ((s.1 35 i).toInt.toNat : Int) := by omega
      have nt : (s.1 36 i).toInt = ((s.1 36 i).toInt.toNat : Int) := by omega
      have f8 : (s.1 35 i).toInt.toNat < 8 := by omega
      have t8 : (s.1 36 i).toInt.toNat < 8 := by omega
      refine rc_c (fun _ => rc_c (fun _ => rq_cM (fun _ => rq_bM (hr_p _ t) (fun r23 t24 k => ?_))))
      obtain ⟨et, k⟩ := k
      subst et
      rw [x.1, ← p1] at k
      refine rq_cM (fun _ => ?_)
      have g0 := gS H f8
      rw [k, (hr_x nf f8).2.2, cl_h hv, cl_h nf, g0.2.2]
      refine rc_i (fun d => rq_iM (fun _ => ?_) (fun z => absurd d z)) (fun d => rq_iM (fun z => absurd z d) (fun _ => ih m' (i + 1) (v + 1) s t24 (by omega) (by omega) H K))
      refine rq_cM (fun _ => rq_cM (fun _ => ?_))
      rw [x.1, x.2.1, x.2.2, ← p1, ← p2, ← p3]
      refine rc_b (rq_b2 (carry_r H nf f8 nt t8 ?_ ?_ (s.1 37 i)) (fun r3 s4 r28 t29 w => ?_))
      · rw [p1]
        have := gb.2.1
        rw [this]
        decide
      · rw [p2]
        have := gb.2.2
        rw [this]
        decide
      · obtain ⟨w1, w2, w3, w4, w5⟩ := w
        exact ih m' (i + 1) (v + 1) s4 t29 (by omega) (by omega) w2 ⟨fun k hk => by rw [w3 26 (by decide) (by decide)]; exact K.1 k hk, by rw [w3 43 (by decide) (by decide)]; exact K.2.1, fun p hp => by rw [w4 p (by omega)]; exact K.2.2.1 p hp, by rw [w5]; exact K.2.2.2⟩
theorem melt_r {R : Unit → Sg → Unit → Sg → Prop} {KC : Unit → Sg → Option (Unit × Sg)} (s0 t0 : Sg) (hK : ∀ s t, NowG 0 s t → Kn 0 s0 s t0 t → RQ (KC () s) (f_X12_nightGoes_b157 BIG 0 (pI (pI t 0 25 0) 0 26 0)) R) (m : Nat) : ∀ (m' i : Nat) (v : Int32) (s t : Sg), v.toInt = (i : Int) → i ≤ 8 → NowG 0 s t → Kn 0 s0 s t0 t → RQ (bd (f_X2_meltSnow_25_b2 m v s) KC) (f_X12_nightGoes_b73 m' v t) R := by
  induction m with
  | zero =>
    intro m' i v s t _ _ _ _ a s' b t' e
    have e : (none : Option (Unit × Sg)) = some (a, s') := e
    cases e
  | succ m ih =>
    intro m' i v s t hv hi H K
    cases m' with
    | zero => exact rq_0
    | succ m' =>
      have e1 : (1 : Int32).toInt = 1 := rfl
      have av : (v + 1).toInt = v.toInt + 1 := i_addx v 1 (by omega)
      have e13 : s.1 25 13 = t.1 1 0 := e13_ H
      have b0 : (t.1 1 0).toInt ≤ 8 := H.1.1.2.1.1.2
      unfold f_X2_meltSnow_25_b2 f_X12_nightGoes_b73
      rw [e13]
      refine rc_i (fun c => rq_iM (fun _ => rc_s (hK s t H K)) (fun z => absurd c z)) (fun c => rq_iM (fun z => absurd z c) (fun _ => ?_))
      have c := i_nle c
      have hh : i < 8 := by omega
      have x := hr_x hv hh
      have g0 := gS H hh
      refine rc_c (fun _ => rq_bM (hr_p v t) (fun r15 t16 k => ?_))
      obtain ⟨et, k⟩ := k
      subst et
      refine rq_cM (fun _ => rq_cM (fun _ => rc_n (fun x2 e2 => rq_nM (fun x19 f19 => ?_))))
      have q1 : x2 = x19 := by rw [e2, f19, k, cl_h hv, x.1, x.2.2, g0.1, g0.2.2]
      subst q1
      have z0 : bt (t16.1 1 9) i = true → x2 = 0 := fun w => by
        have z := H.2.2.2 i hh w
        rw [f19, k, x.1, x.2.2, z.1, z.2.2]
        rfl
      refine rc_n (fun s3 e3 => rq_nM (fun t20 f20 => rc_n (fun s4 e4 => rq_nM (fun t21 f21 => rc_n (fun s5 e5 => ?_)))))
      have H3 : NowG 0 s3 t20 := by
        rw [e3, f20, k, cl_h hv, x.1, g0.1]
        exact nSalt H hh _ (fun w => by rw [(H.2.2.2 i hh w).1, z0 w]; rfl)
      have r20 : t20.1 1 9 = t16.1 1 9 := by rw [f20, k, x.1, pI_1, if_neg (fun z => by have := z.2; omega)]
      have g20 : t20.1 1 (18 + 3 * i) = t16.1 1 (18 + 3 * i) := by rw [f20, k, x.1, pI_1, if_neg (fun z => by have := z.2; omega)]
      have H4 : NowG 0 s4 t21 := by
        rw [e4, f21, k, cl_h hv, x.2.2, (gS H3 hh).2.2]
        exact nSnw H3 hh _ (fun w => by rw [r20] at w; rw [g20, (H.2.2.2 i hh w).2.2, z0 w]; rfl)
      have H5 : NowG 0 s5 (pI t21 1 8 ((t21.1 1 8) + x2)) := by
        rw [e5, (gF H4).2.2.2.2.2]
        exact nFld H4 12 8 _ (Or.inr (Or.inr (Or.inr (Or.inr ⟨rfl, rfl⟩))))
      refine ih m' (i + 1) (v + 1) s5 _ (by omega) (by omega) H5 ⟨fun k' hk => ?_, ?_, fun p hp => ?_, ?_⟩
      · rw [e5, pI_1, if_neg (fun z => by have := z.2; omega), e4, q_nc rfl, e3, q_nc rfl]
        exact K.1 k' hk
      · rw [e5, pI_o _ _ _ _ _ (by decide), e4, pI_o _ _ _ _ _ (by decide), e3, pI_o _ _ _ _ _ (by decide)]
        exact K.2.1
      · rw [pI_1, if_neg (fun z => by have := z.2; omega), f21, k, x.2.2, pI_1, if_neg (fun z => by have := z.2; omega), f20, k, x.1, pI_1, if_neg (fun z => by have := z.2; omega)]
        exact K.2.2.1 p hp
      · rw [pI_o _ _ _ _ _ (by decide), f21, pI_o _ _ _ _ _ (by decide), f20, pI_o _ _ _ _ _ (by decide)]
        exact K.2.2.2
def WarC (Q : Int) (s0 s : Sg) (i : Nat) : Prop := (∀ q : Nat, q < i → s.1 43 q = if bt (s0.1 26 5) q = true then s0.1 43 q else s0.1 43 q + 1) ∧ (∀ q : Nat, i ≤ q → s.1 43 q = s0.1 43 q) ∧ (∀ c, ¬ c = 43 → s.1 c = s0.1 c) ∧ s.2 = s0.2
theorem war_b (Q : Int) (hQ : 0 ≤ Q ∧ Q ≤ 8) (s0 : Sg) (h14 : (s0.1 25 14).toInt = Q) (m : Nat) : ∀ (i : Nat) (v : Int32) (s : Sg), v.toInt = (i : Int) → (i : Int) ≤ Q → WarC Q s0 s i → PQ (f_X2_countWar_25_b2 m v s) (fun _ s' => WarC Q s0 s' Q.toNat) := by
  induction m with
  | zero => intro i v s _ _ _ r s' e; cases e
  | succ m ih =>
    intro i v s hv hi W
    obtain ⟨W1, W2, W3, W4⟩ := W
    have e1 : (1 : Int32).toInt = 1 := rfl
    have av : (v + 1).toInt = v.toInt + 1 := i_addx v 1 (by omega)
    have e14 : s.1 25 14 = s0.1 25 14 := by rw [W3 25 (by decide)]
    have e5 : s.1 26 5 = s0.1 26 5 := by rw [W3 26 (by decide)]
    unfold f_X2_countWar_25_b2
    rw [e14]
    refine pq_if (fun c => pq_s ?_) (fun c => ?_)
    · have c := i_le c
      have z : Q.toNat = i := by omega
      rw [z]
      exact ⟨W1, W2, W3, W4⟩
    · have c := i_nle c
      unfold f_X11_has
      have nx : ∀ s9 : Sg, s9.1 43 i = (if bt (s0.1 26 5) i = true then s0.1 43 i else s0.1 43 i + 1) → (∀ q, ¬ q = i → s9.1 43 q = s.1 43 q) → (∀ c, ¬ c = 43 → s9.1 c = s.1 c) → s9.2 = s.2 → PQ (f_X2_countWar_25_b2 m (v + 1) s9) (fun _ s' => WarC Q s0 s' Q.toNat) := fun s9 w1 w2 w3 w4 => by
        refine ih (i + 1) (v + 1) s9 (by omega) (by omega) ⟨fun q hq => ?_, fun q hq => ?_, fun c hc => by rw [w3 c hc]; exact W3 c hc, w4.trans W4⟩
        · by_cases z : q = i
          · rw [z]; exact w1
          · rw [w2 q z]; exact W1 q (by omega)
        · rw [w2 q (by omega)]; exact W2 q (by omega)
      refine pq_b (P := fun r s' => s' = s ∧ Fl (bt (s0.1 26 5) i = true) r) ?_ (fun r1 s2 k => ?_)
      · rw [e5]
        exact pq_f0 (sh1_0 _ v hv (by omega))
      · obtain ⟨es, k⟩ := k
        subst es
        refine pq_if (fun d => pq_c (fun _ => pq_n (fun s4 e4 => nx s4 ?_ (fun q hq => ?_) (fun c hc => ?_) ?_))) (fun d => nx s2 ?_ (fun _ _ => rfl) (fun _ _ => rfl) rfl)
        · rw [e4, cl_h hv, q_eq, if_neg (r1_n k d), W2 i (Nat.le_refl _)]
        · rw [e4, cl_h hv, pI_1, if_neg (fun z => hq z.2)]
        · rw [e4, pI_o _ _ _ _ _ hc]
        · rw [e4]; rfl
        · rw [if_pos (r1_y k d)]
          exact W2 i (Nat.le_refl _)
/-- behind a night -/
def NtR (s t s' t' : Sg) : Prop := NowG 0 s' t' ∧ (s'.1 26 6 = if s.1 26 6 + 1 < 999 then s.1 26 6 + 1 else 999) ∧ t'.1 1 4 = t.1 1 4 + 1 ∧ (t'.1 0 25 = cntI (fun q => !bt (s.1 26 5) q && bt (s'.1 26 5) q) (t.1 1 1).toInt.toNat ∧ t'.1 0 26 = cntI (fun q => bt (s.1 26 5) q && !bt (s'.1 26 5) q) (t.1 1 1).toInt.toNat)
theorem night_f {s t s2 s9 t2 : Sg} {r5 : Int32} (H : NowG 0 s t) (hr : ∀ x, x < 32 → (bt r5 x = true ↔ ((x : Int) < (t.1 1 1).toInt ∧ pcB (t.1 1) (-1) x = true))) (hs2 : s2 = pI s 26 5 (if s.1 26 7 = 0 then s.1 26 5 ||| r5 else r5)) (W : WarC (t.1 1 1).toInt s2 s9 (t.1 1 1).toInt.toNat) (I : NgI (t.1 1) (pI (pI t 0 25 0) 0 26 0) (t.1 1 1).toInt.toNat t2) : NtR s t (pI (pI s9 26 6 (if s9.1 26 6 + 1 < 999 then s9.1 26 6 + 1 else 999)) 26 7 0) (pI (pI t2 1 4 (t2.1 1 4 + 1)) 1 10 0) := by
  obtain ⟨W1, W2, W3, W4⟩ := W
  obtain ⟨I1, I2, ⟨I3, I4, I5⟩, I6, I7⟩ := I
  obtain ⟨⟨P, G, O1, O2, O3⟩, ⟨R1, R2⟩, B, Z⟩ := H
  have bQ : 0 ≤ (t.1 1 1).toInt ∧ (t.1 1 1).toInt ≤ 8 := P.2.1.2.1
  unfold NtR
  generalize hM : t.1 1 = M at *
  have e7 : s.1 26 7 = M 10 := G 26 7 10 (Or.inr (Or.inr ⟨rfl, by omega⟩))
  -- the cells
  have cS : ∀ c, ¬ c = 26 → (pI (pI s9 26 6 (if s9.1 26 6 + 1 < 999 then s9.1 26 6 + 1 else 999)) 26 7 0).1 c = s9.1 c := fun c hc => by rw [pI_o _ _ _ _ _ hc, pI_o _ _ _ _ _ hc]
  have c2 : ∀ c, ¬ c = 26 → s2.1 c = s.1 c := fun c hc => by rw [hs2, pI_o _ _ _ _ _ hc]
  have c9 : ∀ c, ¬ c = 43 → ¬ c = 26 → s9.1 c = s.1 c := fun c h1 h2 => by rw [W3 c h1, c2 c h2]
  have c26 : ∀ k, ¬ k = 5 → s9.1 26 k = s.1 26 k := fun k hk => by rw [W3 26 (by decide), hs2, pI_1, if_neg (fun z => hk z.2)]
  have ov : s9.1 26 5 = if M 10 = 0 then s.1 26 5 ||| r5 else r5 := by rw [W3 26 (by decide), hs2, q_eq, e7]
  have tp : ∀ p, ¬ p = 4 → ¬ p = 10 → (pI (pI t2 1 4 (t2.1 1 4 + 1)) 1 10 0).1 1 p = t2.1 1 p := fun p h1 h2 => by rw [pI_1, if_neg (fun z => h2 z.2), pI_1, if_neg (fun z => h1 z.2)]
  have tq : ∀ p, ¬ p = 4 → ¬ p = 10 → (∀ q, q < (M 1).toInt.toNat → ¬ p = 43 + 5 * q ∧ ¬ p = 44 + 5 * q) → (pI (pI t2 1 4 (t2.1 1 4 + 1)) 1 10 0).1 1 p = M p := fun p h1 h2 h3 => by rw [tp p h1 h2, I2 p h3]
  have tpp : ∀ k, PlP k → (pI (pI t2 1 4 (t2.1 1 4 + 1)) 1 10 0).1 1 k = M k := fun k hk => tq k (plp_n (Or.inr (Or.inr (Or.inr (Or.inl (by decide))))) hk) (plp_n (Or.inr (Or.inr (Or.inr (Or.inr (Or.inl rfl))))) hk) (fun q hq => ⟨plp_n (Or.inr (Or.inr (Or.inl ⟨q, by omega, Or.inl rfl⟩))) hk, plp_n (Or.inr (Or.inr (Or.inl ⟨q, by omega, Or.inr rfl⟩))) hk⟩)
  have ov01 : ∀ q, q < 8 → ovN M q = 0 ∨ ovN M q = 1 := fun q hq => by
    unfold ovN
    by_cases a : pcB M (-1) q = true
    · rw [if_pos a]; exact Or.inr rfl
    · rw [if_neg a]
      by_cases b : M 10 = 1
      · rw [if_pos b]; exact Or.inl rfl
      · rw [if_neg b]; exact O1 q hq
  have ob : ∀ q, q < 8 → (bt (s.1 26 5) q = true ↔ M (43 + 5 * q) = 1) := fun q hq => by
    rw [O3 q (by omega)]
    exact ⟨fun w => (of_decide_eq_true w).2, fun w => decide_eq_true ⟨hq, w⟩⟩
  have nb : ∀ i, i < 32 → (bt (s9.1 26 5) i = true ↔ (i < (M 1).toInt.toNat ∧ ovN M i = 1)) := fun i hi => by
    rw [ov]
    unfold ovN
    rcases R1 with y | y
    · rw [if_pos y, bt_or]
      rw [if_neg (show ¬ M 10 = 1 by rw [y]; decide)]
      constructor
      · intro w
        rcases Bool.or_eq_true_iff.mp w with w | w
        · rw [O3 i hi] at w
          have w := of_decide_eq_true w
          by_cases z : (M 1).toInt ≤ (i : Int)
          · have := O2 i w.1 z
            rw [this] at w
            exact absurd w.2 (by decide)
          · refine ⟨by omega, ?_⟩
            by_cases a : pcB M (-1) i = true
            · rw [if_pos a]
            · rw [if_neg a]; exact w.2
        · have w := (hr i hi).mp w
          exact ⟨by omega, by rw [if_pos w.2]⟩
      · intro w
        by_cases a : pcB M (-1) i = true
        · exact Bool.or_eq_true_iff.mpr (Or.inr ((hr i hi).mpr ⟨by omega, a⟩))
        · have w2 := w.2
          rw [if_neg a] at w2
          refine Bool.or_eq_true_iff.mpr (Or.inl ?_)
          rw [O3 i hi]
          exact decide_eq_true ⟨by omega, w2⟩
    · rw [if_neg (show ¬ M 10 = 0 by rw [y]; decide), if_pos y]
      rw [hr i hi]
      constructor
      · intro w
        exact ⟨by omega, by rw [if_pos w.2]⟩
      · intro w
        by_cases a : pcB M (-1) i = true
        · exact ⟨by omega, a⟩
        · have w2 := w.2
          rw [if_neg a] at w2
          exact absurd w2 (by decide)
  refine ⟨⟨⟨pln_g P (fun k _ _ => by rw [cS 25 (by decide), c9 25 (by decide) (by decide)]) (fun i k i1 i2 _ => by rw [cS (24 + i) (by omega), c9 (24 + i) (by omega) (by omega)]) tpp, fun c k p g => ?_, fun q hq => ?_, fun q hq hQ => ?_, fun i hi => ?_⟩, ⟨?_, ?_⟩, plb_g B ⟨P.2.1.2.1.2, P.2.1.2.2.1.2, P.2.1.2.2.2.2⟩ tpp, fun x hx hb => ?_⟩, ?_, ?_, ?_, ?_⟩
  · have old := G c k p g
    have g' := g
    unfold Gp at g'
    by_cases w : c = 43
    · have k8 : k < 8 ∧ p = 44 + 5 * k := by omega
      rw [w, cS 43 (by decide), k8.2, tp _ (by omega) (by omega)]
      rw [w, k8.2] at old
      by_cases z : k < (M 1).toInt.toNat
      · rw [W1 k z, (I1 k z).2, c2 43 (by decide), old]
        have nbk := nb k (by omega)
        rw [W3 26 (by decide)] at nbk
        rcases ov01 k k8.1 with y | y
        · rw [if_neg (fun v => by have := (nbk.mp v).2; rw [y] at this; exact absurd this (by decide)), y]
          rfl
        · rw [if_pos (nbk.mpr ⟨z, y⟩), y]
          exact (add0 _).symm
      · rw [W2 k (by omega), c2 43 (by decide), I2 _ (fun q hq => by omega)]
        exact old
    · by_cases v : c = 26
      · rw [v] at old ⊢
        by_cases u : k = 7
        · have p10 : p = 10 := by omega
          rw [u, p10, q_eq, q_eq]
        · rw [pI_1, if_neg (fun z => u z.2), pI_1, if_neg (fun z => by have := z.2; omega), c26 k (by omega), tq p (by omega) (by omega) (fun q hq => by omega)]
          exact old
      · rw [cS c v, c9 c w v, tq p (by omega) (by omega) (fun q hq => by omega)]
        exact old
  · rw [tp _ (by omega) (by omega)]
    by_cases z : q < (M 1).toInt.toNat
    · rw [(I1 q z).1]; exact ov01 q hq
    · rw [I2 _ (fun q' hq' => by omega)]; exact O1 q hq
  · rw [tpp 1 (plp_0 (by decide))] at hQ
    rw [tp _ (by omega) (by omega), I2 _ (fun q' hq' => by omega)]
    exact O2 q hq hQ
  · have e5 : (pI (pI s9 26 6 (if s9.1 26 6 + 1 < 999 then s9.1 26 6 + 1 else 999)) 26 7 0).1 26 5 = s9.1 26 5 := by rw [q_ne rfl, q_ne rfl]
    show bt ((pI (pI s9 26 6 (if s9.1 26 6 + 1 < 999 then s9.1 26 6 + 1 else 999)) 26 7 0).1 26 5) i = _
    rw [e5]
    have nbi := nb i hi
    by_cases z : i < (M 1).toInt.toNat
    · rw [tp _ (by omega) (by omega), (I1 i z).1]
      cases hb : bt (s9.1 26 5) i with
      | true => exact (decide_eq_true ⟨by omega, (nbi.mp hb).2⟩).symm
      | false => exact (decide_eq_false (fun w => by rw [nbi.mpr ⟨z, w.2⟩] at hb; exact absurd hb (by decide))).symm
    · cases hb : bt (s9.1 26 5) i with
      | true => exact absurd (nbi.mp hb).1 z
      | false =>
        refine (decide_eq_false (fun w => ?_)).symm
        have w2 := w.2
        rw [tp _ (by omega) (by omega), I2 _ (fun q' hq' => by omega), O2 i w.1 (by omega)] at w2
        exact absurd w2 (by decide)
  · rw [q_eq]; exact Or.inl rfl
  · rw [q_nc rfl, q_nc rfl, I4 24 (by decide) (by decide), q_ne rfl, q_ne rfl]
    exact R2
  · rw [tpp 9 (plp_0 (by decide))] at hb
    rw [tq _ (by omega) (by omega) (fun q hq => by omega), tq _ (by omega) (by omega) (fun q hq => by omega), tq _ (by omega) (by omega) (fun q hq => by omega)]
    exact Z x hx hb
  · rw [q_ne rfl, q_eq, c26 6 (by decide)]
  · rw [q_ne rfl, q_eq, I2 4 (fun q hq => by omega)]
  · rw [q_nc rfl, q_nc rfl, I6]
    refine cnt_c _ (fun q hq => ?_)
    have e5 : (pI (pI s9 26 6 (if s9.1 26 6 + 1 < 999 then s9.1 26 6 + 1 else 999)) 26 7 0).1 26 5 = s9.1 26 5 := by rw [q_ne rfl, q_ne rfl]
    rw [e5]
    have a := ob q (by omega)
    have b := nb q (by omega)
    rcases O1 q (by omega) with y | y <;> rcases ov01 q (by omega) with v | v <;> rw [y, v]
    · have b' : ¬ bt (s9.1 26 5) q = true := fun z => by have := (b.mp z).2; rw [v] at this; exact absurd this (by decide)
      rw [Bool.eq_false_iff.mpr b', Bool.and_false]
      decide
    · have a' : ¬ bt (s.1 26 5) q = true := fun z => by have := a.mp z; rw [y] at this; exact absurd this (by decide)
      rw [Bool.eq_false_iff.mpr a', b.mpr ⟨hq, v⟩]
      decide
    · have b' : ¬ bt (s9.1 26 5) q = true := fun z => by have := (b.mp z).2; rw [v] at this; exact absurd this (by decide)
      rw [Bool.eq_false_iff.mpr b', Bool.and_false]
      decide
    · rw [a.mpr y, Bool.not_true, Bool.false_and]
      decide
  · rw [q_nc rfl, q_nc rfl, I7]
    refine cnt_c _ (fun q hq => ?_)
    have e5 : (pI (pI s9 26 6 (if s9.1 26 6 + 1 < 999 then s9.1 26 6 + 1 else 999)) 26 7 0).1 26 5 = s9.1 26 5 := by rw [q_ne rfl, q_ne rfl]
    rw [e5]
    have a := ob q (by omega)
    have b := nb q (by omega)
    rcases O1 q (by omega) with y | y <;> rcases ov01 q (by omega) with v | v <;> rw [y, v]
    · have a' : ¬ bt (s.1 26 5) q = true := fun z => by have := a.mp z; rw [y] at this; exact absurd this (by decide)
      rw [Bool.eq_false_iff.mpr a', Bool.false_and]
      decide
    · have a' : ¬ bt (s.1 26 5) q = true := fun z => by have := a.mp z; rw [y] at this; exact absurd this (by decide)
      rw [Bool.eq_false_iff.mpr a', Bool.false_and]
      decide
    · have b' : ¬ bt (s9.1 26 5) q = true := fun z => by have := (b.mp z).2; rw [v] at this; exact absurd this (by decide)
      rw [Bool.eq_false_iff.mpr b', a.mpr y]
      decide
    · rw [b.mpr ⟨hq, v⟩]
      show _ = (_ && false)
      rw [Bool.and_false]
      decide
theorem night_r {s t : Sg} (H : NowG 0 s t) : RQ (f_X2_passNight_25 s) (f_X12_nightGoes t) (fun _ s' _ t' => NtR s t s' t') := by
  unfold f_X2_passNight_25 f_X12_nightGoes f_X2_sendCats_25
  refine cats_r s t (fun s1 t1 H1 K1 => ?_) BIG BIG 0 0 s t rfl (by decide) H kn_r
  unfold f_X2_meltSnow_25
  refine melt_r s t (fun s3 t3 H3 K3 => ?_) BIG BIG 0 0 s1 t1 rfl (by decide) H1 K1
  refine rq_bC (peac_c H3.1.1 H3.2.2.1 H3.1.2.1 (-1)) (fun r5 s6 k => ?_)
  obtain ⟨es, k⟩ := k
  subst es
  have bQ : 0 ≤ (t3.1 1 1).toInt ∧ (t3.1 1 1).toInt ≤ 8 := H3.1.1.2.1.2.1
  have eQ : (s6.1 25 14).toInt = (t3.1 1 1).toInt := congrArg Int32.toInt H3.1.1.1.2.1
  have fin : ∀ t0 : Int32, t0 = (if s6.1 26 7 = 0 then s6.1 26 5 ||| r5 else r5) → RQ (f_X2_passNight_25_b35 t0 s6) (f_X12_nightGoes_b157 BIG 0 (pI (pI t3 0 25 0) 0 26 0)) (fun _ s' _ t' => NtR s t s' t') := fun t0 ht => by
    have m : PQ (f_X12_nightGoes_b157 BIG 0 (pI (pI t3 0 25 0) 0 26 0)) (fun _ t' => ∃ t2, NgI (t3.1 1) (pI (pI t3 0 25 0) 0 26 0) (t3.1 1 1).toInt.toNat t2 ∧ t' = pI (pI t2 1 4 (t2.1 1 4 + 1)) 1 10 0) := by
      refine ng_157 (t0 := pI (pI t3 0 25 0) 0 26 0) (by rw [pI_o _ _ _ _ _ (by decide), pI_o _ _ _ _ _ (by decide)]) (fun q hq => ⟨(pln_q H3.1.1 hq).1, (pln_q H3.1.1 hq).2.2.1⟩) (by rw [q_ne rfl, q_ne rfl]; exact H3.2.1.2) bQ BIG 0 0 _ rfl bQ.1 ⟨fun q hq => absurd hq (Nat.not_lt_zero _), fun p _ => by rw [q_nc rfl, q_nc rfl], ⟨fun _ _ _ => rfl, fun _ _ _ => rfl, rfl⟩, by rw [q_ne rfl, q_eq]; rfl, by rw [q_eq]; rfl⟩
    have c : PQ (f_X2_passNight_25_b35 t0 s6) (fun _ s' => ∃ s9, WarC (t3.1 1 1).toInt (pI s6 26 5 t0) s9 (t3.1 1 1).toInt.toNat ∧ s' = pI (pI s9 26 6 (if s9.1 26 6 + 1 < 999 then s9.1 26 6 + 1 else 999)) 26 7 0) := by
      unfold f_X2_passNight_25_b35 f_X2_countWar_25
      refine pq_b (war_b (t3.1 1 1).toInt bQ (pI s6 26 5 t0) (by rw [q_nc rfl]; exact eQ) BIG 0 0 _ rfl bQ.1 ⟨fun q hq => absurd hq (Nat.not_lt_zero _), fun _ _ => rfl, fun _ _ => rfl, rfl⟩) (fun _ s8 w => pq_n (fun s9 e9 => pq_s ⟨s8, w, ?_⟩))
      rw [e9]
    refine rq_pp c m (fun _ s' _ t' x y => ?_)
    obtain ⟨s9, x1, x2⟩ := x
    obtain ⟨t2, y1, y2⟩ := y
    have f := night_f (s2 := pI s6 26 5 t0) H3 k (by rw [ht]) x1 y1
    rw [← x2, ← y2] at f
    obtain ⟨f1, f2, f3, f4, f5⟩ := f
    refine ⟨f1, ?_, ?_, ?_, ?_⟩
    · rw [f2, K3.1 6 (by decide)]
    · rw [f3, K3.2.2.1 4 (by decide)]
    · rw [f4, K3.1 5 (by decide), K3.2.2.1 1 (by decide)]
    · rw [f5, K3.1 5 (by decide), K3.2.2.1 1 (by decide)]
  refine rq_iC (fun d => fin _ (by rw [if_pos d])) (fun d => fin _ (by rw [if_neg d]))
theorem cats_rz {R : Unit → Sg → Unit → Sg → Prop} {KC : Unit → Sg → Option (Unit × Sg)} (s0 t0 : Sg) (hK : ∀ s t, NowG 27 s t → Kn 27 s0 s t0 t → RQ (KC () s) (f_X12_nightGoes_b73 BIG 0 t) R) (m : Nat) : ∀ (m' i : Nat) (v : Int32) (s t : Sg), v.toInt = (i : Int) → i ≤ 4 → NowG 27 s t → Kn 27 s0 s t0 t → RQ (bd (f_X2_sendCats_25_53_b2 m v s) KC) (f_X12_nightGoes_b2 m' v t) R := by
  induction m with
  | zero =>
    intro m' i v s t _ _ _ _ a s' b t' e
    have e : (none : Option (Unit × Sg)) = some (a, s') := e
    cases e
  | succ m ih =>
    intro m' i v s t hv hi H K
    cases m' with
    | zero => exact rq_0
    | succ m' =>
      have e1 : (1 : Int32).toInt = 1 := rfl
      have av : (v + 1).toInt = v.toInt + 1 := i_addx v 1 (by omega)
      have e15 : s.1 25 15 = t.1 1 2 := H.1.1.1.2.2.1
      have b2 := H.1.1.2.1.2.2.1
      unfold f_X2_sendCats_25_53_b2 f_X12_nightGoes_b2
      rw [e15]
      refine rc_i (fun c => rq_iM (fun _ => rc_s (hK s t H K)) (fun z => absurd c z)) (fun c => rq_iM (fun z => absurd z c) (fun _ => ?_))
      have c := i_nle c
      have hi' : (i : Int) < (t.1 1 2).toInt := by omega
      have c4 : i < 4 := by
        have : (t.1 1 2).toInt ≤ 4 := b2.2
        omega
      have x := cx_x hv c4
      have pc := H.1.1.2.2.2.2.2.1 i hi'
      have p1 : s.1 35 i = t.1 1 (80 + 3 * i) := pc.1.1
      have p2 : s.1 36 i = t.1 1 (81 + 3 * i) := pc.1.2.1
      have p3 : s.1 37 i = t.1 1 (82 + 3 * i) := pc.1.2.2
      have q1 : 0 ≤ (s.1 35 i).toInt ∧ (s.1 35 i).toInt < (t.1 1 0).toInt := pc.2.1
      have q2 : 0 ≤ (s.1 36 i).toInt ∧ (s.1 36 i).toInt < (t.1 1 0).toInt := pc.2.2.1
      have b0 : (t.1 1 0).toInt ≤ 8 := H.1.1.2.1.1.2
      have gb := H.2.2.1.2.1 i hi'
      have nf : (s.1 35 i).toInt = ((s.1 35 i).toInt.toNat : Int) := by omega
      have nt : (s.1 36 i).toInt = ((s.1 36 i).toInt.toNat : Int) := by omega
      have f8 : (s.1 35 i).toInt.toNat < 8 := by omega
      have t8 : (s.1 36 i).toInt.toNat < 8 := by omega
      refine rc_c (fun _ => rc_c (fun _ => rq_cM (fun _ => rq_bM (hr_p _ t) (fun r23 t24 k => ?_))))
      obtain ⟨et, k⟩ := k
      subst et
      rw [x.1, ← p1] at k
      refine rq_cM (fun _ => ?_)
      have g0 := gSz H f8
      rw [k, (hr_x nf f8).2.2, cl_h hv, cl_h nf, g0.2.2]
      refine rc_i (fun d => rq_iM (fun _ => ?_) (fun z => absurd d z)) (fun d => rq_iM (fun z => absurd z d) (fun _ => ih m' (i + 1) (v + 1) s t24 (by omega) (by omega) H K))
      refine rq_cM (fun _ => rq_cM (fun _ => ?_))
      rw [x.1, x.2.1, x.2.2, ← p1, ← p2, ← p3]
      refine rc_b (rq_b2 (carry_rz H nf f8 nt t8 ?_ ?_ (s.1 37 i)) (fun r3 s4 r28 t29 w => ?_))
      · rw [p1]
        have := gb.2.1
        rw [this]
        decide
      · rw [p2]
        have := gb.2.2
        rw [this]
        decide
      · obtain ⟨w1, w2, w3, w4, w5⟩ := w
        exact ih m' (i + 1) (v + 1) s4 t29 (by omega) (by omega) w2 ⟨fun k hk => by rw [w3 53 (by decide) (by decide)]; exact K.1 k hk, by rw [w3 70 (by decide) (by decide)]; exact K.2.1, fun p hp => by rw [w4 p (by omega)]; exact K.2.2.1 p hp, by rw [w5]; exact K.2.2.2⟩
theorem melt_rz {R : Unit → Sg → Unit → Sg → Prop} {KC : Unit → Sg → Option (Unit × Sg)} (s0 t0 : Sg) (hK : ∀ s t, NowG 27 s t → Kn 27 s0 s t0 t → RQ (KC () s) (f_X12_nightGoes_b157 BIG 0 (pI (pI t 0 25 0) 0 26 0)) R) (m : Nat) : ∀ (m' i : Nat) (v : Int32) (s t : Sg), v.toInt = (i : Int) → i ≤ 8 → NowG 27 s t → Kn 27 s0 s t0 t → RQ (bd (f_X2_meltSnow_25_53_b2 m v s) KC) (f_X12_nightGoes_b73 m' v t) R := by
  induction m with
  | zero =>
    intro m' i v s t _ _ _ _ a s' b t' e
    have e : (none : Option (Unit × Sg)) = some (a, s') := e
    cases e
  | succ m ih =>
    intro m' i v s t hv hi H K
    cases m' with
    | zero => exact rq_0
    | succ m' =>
      have e1 : (1 : Int32).toInt = 1 := rfl
      have av : (v + 1).toInt = v.toInt + 1 := i_addx v 1 (by omega)
      have e13 : s.1 25 13 = t.1 1 0 := e13_ H
      have b0 : (t.1 1 0).toInt ≤ 8 := H.1.1.2.1.1.2
      unfold f_X2_meltSnow_25_53_b2 f_X12_nightGoes_b73
      rw [e13]
      refine rc_i (fun c => rq_iM (fun _ => rc_s (hK s t H K)) (fun z => absurd c z)) (fun c => rq_iM (fun z => absurd z c) (fun _ => ?_))
      have c := i_nle c
      have hh : i < 8 := by omega
      have x := hr_x hv hh
      have g0 := gSz H hh
      refine rc_c (fun _ => rq_bM (hr_p v t) (fun r15 t16 k => ?_))
      obtain ⟨et, k⟩ := k
      subst et
      refine rq_cM (fun _ => rq_cM (fun _ => rc_n (fun x2 e2 => rq_nM (fun x19 f19 => ?_))))
      have q1 : x2 = x19 := by rw [e2, f19, k, cl_h hv, x.1, x.2.2, g0.1, g0.2.2]
      subst q1
      have z0 : bt (t16.1 1 9) i = true → x2 = 0 := fun w => by
        have z := H.2.2.2 i hh w
        rw [f19, k, x.1, x.2.2, z.1, z.2.2]
        rfl
      refine rc_n (fun s3 e3 => rq_nM (fun t20 f20 => rc_n (fun s4 e4 => rq_nM (fun t21 f21 => rc_n (fun s5 e5 => ?_)))))
      have H3 : NowG 27 s3 t20 := by
        rw [e3, f20, k, cl_h hv, x.1, g0.1]
        exact nSaltz H hh _ (fun w => by rw [(H.2.2.2 i hh w).1, z0 w]; rfl)
      have r20 : t20.1 1 9 = t16.1 1 9 := by rw [f20, k, x.1, pI_1, if_neg (fun z => by have := z.2; omega)]
      have g20 : t20.1 1 (18 + 3 * i) = t16.1 1 (18 + 3 * i) := by rw [f20, k, x.1, pI_1, if_neg (fun z => by have := z.2; omega)]
      have H4 : NowG 27 s4 t21 := by
        rw [e4, f21, k, cl_h hv, x.2.2, (gSz H3 hh).2.2]
        exact nSnwz H3 hh _ (fun w => by rw [r20] at w; rw [g20, (H.2.2.2 i hh w).2.2, z0 w]; rfl)
      have H5 : NowG 27 s5 (pI t21 1 8 ((t21.1 1 8) + x2)) := by
        rw [e5, (gFz H4).2.2.2.2.2]
        exact nFldz H4 12 8 _ (Or.inr (Or.inr (Or.inr (Or.inr ⟨rfl, rfl⟩))))
      refine ih m' (i + 1) (v + 1) s5 _ (by omega) (by omega) H5 ⟨fun k' hk => ?_, ?_, fun p hp => ?_, ?_⟩
      · rw [e5, pI_1, if_neg (fun z => by have := z.2; omega), e4, q_nc rfl, e3, q_nc rfl]
        exact K.1 k' hk
      · rw [e5, pI_o _ _ _ _ _ (by decide), e4, pI_o _ _ _ _ _ (by decide), e3, pI_o _ _ _ _ _ (by decide)]
        exact K.2.1
      · rw [pI_1, if_neg (fun z => by have := z.2; omega), f21, k, x.2.2, pI_1, if_neg (fun z => by have := z.2; omega), f20, k, x.1, pI_1, if_neg (fun z => by have := z.2; omega)]
        exact K.2.2.1 p hp
      · rw [pI_o _ _ _ _ _ (by decide), f21, pI_o _ _ _ _ _ (by decide), f20, pI_o _ _ _ _ _ (by decide)]
        exact K.2.2.2
def WarCz (Q : Int) (s0 s : Sg) (i : Nat) : Prop := (∀ q : Nat, q < i → s.1 70 q = if bt (s0.1 53 5) q = true then s0.1 70 q else s0.1 70 q + 1) ∧ (∀ q : Nat, i ≤ q → s.1 70 q = s0.1 70 q) ∧ (∀ c, ¬ c = 70 → s.1 c = s0.1 c) ∧ s.2 = s0.2
theorem war_bz (Q : Int) (hQ : 0 ≤ Q ∧ Q ≤ 8) (s0 : Sg) (h14 : (s0.1 25 14).toInt = Q) (m : Nat) : ∀ (i : Nat) (v : Int32) (s : Sg), v.toInt = (i : Int) → (i : Int) ≤ Q → WarCz Q s0 s i → PQ (f_X2_countWar_25_53_b2 m v s) (fun _ s' => WarCz Q s0 s' Q.toNat) := by
  induction m with
  | zero => intro i v s _ _ _ r s' e; cases e
  | succ m ih =>
    intro i v s hv hi W
    obtain ⟨W1, W2, W3, W4⟩ := W
    have e1 : (1 : Int32).toInt = 1 := rfl
    have av : (v + 1).toInt = v.toInt + 1 := i_addx v 1 (by omega)
    have e14 : s.1 25 14 = s0.1 25 14 := by rw [W3 25 (by decide)]
    have e5 : s.1 53 5 = s0.1 53 5 := by rw [W3 53 (by decide)]
    unfold f_X2_countWar_25_53_b2
    rw [e14]
    refine pq_if (fun c => pq_s ?_) (fun c => ?_)
    · have c := i_le c
      have z : Q.toNat = i := by omega
      rw [z]
      exact ⟨W1, W2, W3, W4⟩
    · have c := i_nle c
      unfold f_X11_has
      have nx : ∀ s9 : Sg, s9.1 70 i = (if bt (s0.1 53 5) i = true then s0.1 70 i else s0.1 70 i + 1) → (∀ q, ¬ q = i → s9.1 70 q = s.1 70 q) → (∀ c, ¬ c = 70 → s9.1 c = s.1 c) → s9.2 = s.2 → PQ (f_X2_countWar_25_53_b2 m (v + 1) s9) (fun _ s' => WarCz Q s0 s' Q.toNat) := fun s9 w1 w2 w3 w4 => by
        refine ih (i + 1) (v + 1) s9 (by omega) (by omega) ⟨fun q hq => ?_, fun q hq => ?_, fun c hc => by rw [w3 c hc]; exact W3 c hc, w4.trans W4⟩
        · by_cases z : q = i
          · rw [z]; exact w1
          · rw [w2 q z]; exact W1 q (by omega)
        · rw [w2 q (by omega)]; exact W2 q (by omega)
      refine pq_b (P := fun r s' => s' = s ∧ Fl (bt (s0.1 53 5) i = true) r) ?_ (fun r1 s2 k => ?_)
      · rw [e5]
        exact pq_f0 (sh1_0 _ v hv (by omega))
      · obtain ⟨es, k⟩ := k
        subst es
        refine pq_if (fun d => pq_c (fun _ => pq_n (fun s4 e4 => nx s4 ?_ (fun q hq => ?_) (fun c hc => ?_) ?_))) (fun d => nx s2 ?_ (fun _ _ => rfl) (fun _ _ => rfl) rfl)
        · rw [e4, cl_h hv, q_eq, if_neg (r1_n k d), W2 i (Nat.le_refl _)]
        · rw [e4, cl_h hv, pI_1, if_neg (fun z => hq z.2)]
        · rw [e4, pI_o _ _ _ _ _ hc]
        · rw [e4]; rfl
        · rw [if_pos (r1_y k d)]
          exact W2 i (Nat.le_refl _)
/-- behind a night -/
def NtRz (s t s' t' : Sg) : Prop := NowG 27 s' t' ∧ (s'.1 53 6 = if s.1 53 6 + 1 < 999 then s.1 53 6 + 1 else 999) ∧ t'.1 1 4 = t.1 1 4 + 1 ∧ (t'.1 0 25 = cntI (fun q => !bt (s.1 53 5) q && bt (s'.1 53 5) q) (t.1 1 1).toInt.toNat ∧ t'.1 0 26 = cntI (fun q => bt (s.1 53 5) q && !bt (s'.1 53 5) q) (t.1 1 1).toInt.toNat)
theorem night_fz {s t s2 s9 t2 : Sg} {r5 : Int32} (H : NowG 27 s t) (hr : ∀ x, x < 32 → (bt r5 x = true ↔ ((x : Int) < (t.1 1 1).toInt ∧ pcB (t.1 1) (-1) x = true))) (hs2 : s2 = pI s 53 5 (if s.1 53 7 = 0 then s.1 53 5 ||| r5 else r5)) (W : WarCz (t.1 1 1).toInt s2 s9 (t.1 1 1).toInt.toNat) (I : NgI (t.1 1) (pI (pI t 0 25 0) 0 26 0) (t.1 1 1).toInt.toNat t2) : NtRz s t (pI (pI s9 53 6 (if s9.1 53 6 + 1 < 999 then s9.1 53 6 + 1 else 999)) 53 7 0) (pI (pI t2 1 4 (t2.1 1 4 + 1)) 1 10 0) := by
  obtain ⟨W1, W2, W3, W4⟩ := W
  obtain ⟨I1, I2, ⟨I3, I4, I5⟩, I6, I7⟩ := I
  obtain ⟨⟨P, G, O1, O2, O3⟩, ⟨R1, R2⟩, B, Z⟩ := H
  have bQ : 0 ≤ (t.1 1 1).toInt ∧ (t.1 1 1).toInt ≤ 8 := P.2.1.2.1
  unfold NtRz
  generalize hM : t.1 1 = M at *
  have e7 : s.1 53 7 = M 10 := G 53 7 10 (Or.inr (Or.inr ⟨rfl, by omega⟩))
  -- the cells
  have cS : ∀ c, ¬ c = 53 → (pI (pI s9 53 6 (if s9.1 53 6 + 1 < 999 then s9.1 53 6 + 1 else 999)) 53 7 0).1 c = s9.1 c := fun c hc => by rw [pI_o _ _ _ _ _ hc, pI_o _ _ _ _ _ hc]
  have c2 : ∀ c, ¬ c = 53 → s2.1 c = s.1 c := fun c hc => by rw [hs2, pI_o _ _ _ _ _ hc]
  have c9 : ∀ c, ¬ c = 70 → ¬ c = 53 → s9.1 c = s.1 c := fun c h1 h2 => by rw [W3 c h1, c2 c h2]
  have c26 : ∀ k, ¬ k = 5 → s9.1 53 k = s.1 53 k := fun k hk => by rw [W3 53 (by decide), hs2, pI_1, if_neg (fun z => hk z.2)]
  have ov : s9.1 53 5 = if M 10 = 0 then s.1 53 5 ||| r5 else r5 := by rw [W3 53 (by decide), hs2, q_eq, e7]
  have tp : ∀ p, ¬ p = 4 → ¬ p = 10 → (pI (pI t2 1 4 (t2.1 1 4 + 1)) 1 10 0).1 1 p = t2.1 1 p := fun p h1 h2 => by rw [pI_1, if_neg (fun z => h2 z.2), pI_1, if_neg (fun z => h1 z.2)]
  have tq : ∀ p, ¬ p = 4 → ¬ p = 10 → (∀ q, q < (M 1).toInt.toNat → ¬ p = 43 + 5 * q ∧ ¬ p = 44 + 5 * q) → (pI (pI t2 1 4 (t2.1 1 4 + 1)) 1 10 0).1 1 p = M p := fun p h1 h2 h3 => by rw [tp p h1 h2, I2 p h3]
  have tpp : ∀ k, PlP k → (pI (pI t2 1 4 (t2.1 1 4 + 1)) 1 10 0).1 1 k = M k := fun k hk => tq k (plp_n (Or.inr (Or.inr (Or.inr (Or.inl (by decide))))) hk) (plp_n (Or.inr (Or.inr (Or.inr (Or.inr (Or.inl rfl))))) hk) (fun q hq => ⟨plp_n (Or.inr (Or.inr (Or.inl ⟨q, by omega, Or.inl rfl⟩))) hk, plp_n (Or.inr (Or.inr (Or.inl ⟨q, by omega, Or.inr rfl⟩))) hk⟩)
  have ov01 : ∀ q, q < 8 → ovN M q = 0 ∨ ovN M q = 1 := fun q hq => by
    unfold ovN
    by_cases a : pcB M (-1) q = true
    · rw [if_pos a]; exact Or.inr rfl
    · rw [if_neg a]
      by_cases b : M 10 = 1
      · rw [if_pos b]; exact Or.inl rfl
      · rw [if_neg b]; exact O1 q hq
  have ob : ∀ q, q < 8 → (bt (s.1 53 5) q = true ↔ M (43 + 5 * q) = 1) := fun q hq => by
    rw [O3 q (by omega)]
    exact ⟨fun w => (of_decide_eq_true w).2, fun w => decide_eq_true ⟨hq, w⟩⟩
  have nb : ∀ i, i < 32 → (bt (s9.1 53 5) i = true ↔ (i < (M 1).toInt.toNat ∧ ovN M i = 1)) := fun i hi => by
    rw [ov]
    unfold ovN
    rcases R1 with y | y
    · rw [if_pos y, bt_or]
      rw [if_neg (show ¬ M 10 = 1 by rw [y]; decide)]
      constructor
      · intro w
        rcases Bool.or_eq_true_iff.mp w with w | w
        · rw [O3 i hi] at w
          have w := of_decide_eq_true w
          by_cases z : (M 1).toInt ≤ (i : Int)
          · have := O2 i w.1 z
            rw [this] at w
            exact absurd w.2 (by decide)
          · refine ⟨by omega, ?_⟩
            by_cases a : pcB M (-1) i = true
            · rw [if_pos a]
            · rw [if_neg a]; exact w.2
        · have w := (hr i hi).mp w
          exact ⟨by omega, by rw [if_pos w.2]⟩
      · intro w
        by_cases a : pcB M (-1) i = true
        · exact Bool.or_eq_true_iff.mpr (Or.inr ((hr i hi).mpr ⟨by omega, a⟩))
        · have w2 := w.2
          rw [if_neg a] at w2
          refine Bool.or_eq_true_iff.mpr (Or.inl ?_)
          rw [O3 i hi]
          exact decide_eq_true ⟨by omega, w2⟩
    · rw [if_neg (show ¬ M 10 = 0 by rw [y]; decide), if_pos y]
      rw [hr i hi]
      constructor
      · intro w
        exact ⟨by omega, by rw [if_pos w.2]⟩
      · intro w
        by_cases a : pcB M (-1) i = true
        · exact ⟨by omega, a⟩
        · have w2 := w.2
          rw [if_neg a] at w2
          exact absurd w2 (by decide)
  refine ⟨⟨⟨pln_g P (fun k _ _ => by rw [cS 25 (by decide), c9 25 (by decide) (by decide)]) (fun i k i1 i2 _ => by rw [cS (24 + i) (by omega), c9 (24 + i) (by omega) (by omega)]) tpp, fun c k p g => ?_, fun q hq => ?_, fun q hq hQ => ?_, fun i hi => ?_⟩, ⟨?_, ?_⟩, plb_g B ⟨P.2.1.2.1.2, P.2.1.2.2.1.2, P.2.1.2.2.2.2⟩ tpp, fun x hx hb => ?_⟩, ?_, ?_, ?_, ?_⟩
  · have old := G c k p g
    have g' := g
    unfold Gp at g'
    by_cases w : c = 70
    · have k8 : k < 8 ∧ p = 44 + 5 * k := by omega
      rw [w, cS 70 (by decide), k8.2, tp _ (by omega) (by omega)]
      rw [w, k8.2] at old
      by_cases z : k < (M 1).toInt.toNat
      · rw [W1 k z, (I1 k z).2, c2 70 (by decide), old]
        have nbk := nb k (by omega)
        rw [W3 53 (by decide)] at nbk
        rcases ov01 k k8.1 with y | y
        · rw [if_neg (fun v => by have := (nbk.mp v).2; rw [y] at this; exact absurd this (by decide)), y]
          rfl
        · rw [if_pos (nbk.mpr ⟨z, y⟩), y]
          exact (add0 _).symm
      · rw [W2 k (by omega), c2 70 (by decide), I2 _ (fun q hq => by omega)]
        exact old
    · by_cases v : c = 53
      · rw [v] at old ⊢
        by_cases u : k = 7
        · have p10 : p = 10 := by omega
          rw [u, p10, q_eq, q_eq]
        · rw [pI_1, if_neg (fun z => u z.2), pI_1, if_neg (fun z => by have := z.2; omega), c26 k (by omega), tq p (by omega) (by omega) (fun q hq => by omega)]
          exact old
      · rw [cS c v, c9 c w v, tq p (by omega) (by omega) (fun q hq => by omega)]
        exact old
  · rw [tp _ (by omega) (by omega)]
    by_cases z : q < (M 1).toInt.toNat
    · rw [(I1 q z).1]; exact ov01 q hq
    · rw [I2 _ (fun q' hq' => by omega)]; exact O1 q hq
  · rw [tpp 1 (plp_0 (by decide))] at hQ
    rw [tp _ (by omega) (by omega), I2 _ (fun q' hq' => by omega)]
    exact O2 q hq hQ
  · have e5 : (pI (pI s9 53 6 (if s9.1 53 6 + 1 < 999 then s9.1 53 6 + 1 else 999)) 53 7 0).1 53 5 = s9.1 53 5 := by rw [q_ne rfl, q_ne rfl]
    show bt ((pI (pI s9 53 6 (if s9.1 53 6 + 1 < 999 then s9.1 53 6 + 1 else 999)) 53 7 0).1 53 5) i = _
    rw [e5]
    have nbi := nb i hi
    by_cases z : i < (M 1).toInt.toNat
    · rw [tp _ (by omega) (by omega), (I1 i z).1]
      cases hb : bt (s9.1 53 5) i with
      | true => exact (decide_eq_true ⟨by omega, (nbi.mp hb).2⟩).symm
      | false => exact (decide_eq_false (fun w => by rw [nbi.mpr ⟨z, w.2⟩] at hb; exact absurd hb (by decide))).symm
    · cases hb : bt (s9.1 53 5) i with
      | true => exact absurd (nbi.mp hb).1 z
      | false =>
        refine (decide_eq_false (fun w => ?_)).symm
        have w2 := w.2
        rw [tp _ (by omega) (by omega), I2 _ (fun q' hq' => by omega), O2 i w.1 (by omega)] at w2
        exact absurd w2 (by decide)
  · rw [q_eq]; exact Or.inl rfl
  · rw [q_nc rfl, q_nc rfl, I4 24 (by decide) (by decide), q_ne rfl, q_ne rfl]
    exact R2
  · rw [tpp 9 (plp_0 (by decide))] at hb
    rw [tq _ (by omega) (by omega) (fun q hq => by omega), tq _ (by omega) (by omega) (fun q hq => by omega), tq _ (by omega) (by omega) (fun q hq => by omega)]
    exact Z x hx hb
  · rw [q_ne rfl, q_eq, c26 6 (by decide)]
  · rw [q_ne rfl, q_eq, I2 4 (fun q hq => by omega)]
  · rw [q_nc rfl, q_nc rfl, I6]
    refine cnt_c _ (fun q hq => ?_)
    have e5 : (pI (pI s9 53 6 (if s9.1 53 6 + 1 < 999 then s9.1 53 6 + 1 else 999)) 53 7 0).1 53 5 = s9.1 53 5 := by rw [q_ne rfl, q_ne rfl]
    rw [e5]
    have a := ob q (by omega)
    have b := nb q (by omega)
    rcases O1 q (by omega) with y | y <;> rcases ov01 q (by omega) with v | v <;> rw [y, v]
    · have b' : ¬ bt (s9.1 53 5) q = true := fun z => by have := (b.mp z).2; rw [v] at this; exact absurd this (by decide)
      rw [Bool.eq_false_iff.mpr b', Bool.and_false]
      decide
    · have a' : ¬ bt (s.1 53 5) q = true := fun z => by have := a.mp z; rw [y] at this; exact absurd this (by decide)
      rw [Bool.eq_false_iff.mpr a', b.mpr ⟨hq, v⟩]
      decide
    · have b' : ¬ bt (s9.1 53 5) q = true := fun z => by have := (b.mp z).2; rw [v] at this; exact absurd this (by decide)
      rw [Bool.eq_false_iff.mpr b', Bool.and_false]
      decide
    · rw [a.mpr y, Bool.not_true, Bool.false_and]
      decide
  · rw [q_nc rfl, q_nc rfl, I7]
    refine cnt_c _ (fun q hq => ?_)
    have e5 : (pI (pI s9 53 6 (if s9.1 53 6 + 1 < 999 then s9.1 53 6 + 1 else 999)) 53 7 0).1 53 5 = s9.1 53 5 := by rw [q_ne rfl, q_ne rfl]
    rw [e5]
    have a := ob q (by omega)
    have b := nb q (by omega)
    rcases O1 q (by omega) with y | y <;> rcases ov01 q (by omega) with v | v <;> rw [y, v]
    · have a' : ¬ bt (s.1 53 5) q = true := fun z => by have := a.mp z; rw [y] at this; exact absurd this (by decide)
      rw [Bool.eq_false_iff.mpr a', Bool.false_and]
      decide
    · have a' : ¬ bt (s.1 53 5) q = true := fun z => by have := a.mp z; rw [y] at this; exact absurd this (by decide)
      rw [Bool.eq_false_iff.mpr a', Bool.false_and]
      decide
    · have b' : ¬ bt (s9.1 53 5) q = true := fun z => by have := (b.mp z).2; rw [v] at this; exact absurd this (by decide)
      rw [Bool.eq_false_iff.mpr b', a.mpr y]
      decide
    · rw [b.mpr ⟨hq, v⟩]
      show _ = (_ && false)
      rw [Bool.and_false]
      decide
theorem night_rz {s t : Sg} (H : NowG 27 s t) : RQ (f_X2_passNight_25_53 s) (f_X12_nightGoes t) (fun _ s' _ t' => NtRz s t s' t') := by
  unfold f_X2_passNight_25_53 f_X12_nightGoes f_X2_sendCats_25_53
  refine cats_rz s t (fun s1 t1 H1 K1 => ?_) BIG BIG 0 0 s t rfl (by decide) H kn_r
  unfold f_X2_meltSnow_25_53
  refine melt_rz s t (fun s3 t3 H3 K3 => ?_) BIG BIG 0 0 s1 t1 rfl (by decide) H1 K1
  refine rq_bC (peac_cz H3.1.1 H3.2.2.1 H3.1.2.1 (-1)) (fun r5 s6 k => ?_)
  obtain ⟨es, k⟩ := k
  subst es
  have bQ : 0 ≤ (t3.1 1 1).toInt ∧ (t3.1 1 1).toInt ≤ 8 := H3.1.1.2.1.2.1
  have eQ : (s6.1 25 14).toInt = (t3.1 1 1).toInt := congrArg Int32.toInt H3.1.1.1.2.1
  have fin : ∀ t0 : Int32, t0 = (if s6.1 53 7 = 0 then s6.1 53 5 ||| r5 else r5) → RQ (f_X2_passNight_25_53_b35 t0 s6) (f_X12_nightGoes_b157 BIG 0 (pI (pI t3 0 25 0) 0 26 0)) (fun _ s' _ t' => NtRz s t s' t') := fun t0 ht => by
    have m : PQ (f_X12_nightGoes_b157 BIG 0 (pI (pI t3 0 25 0) 0 26 0)) (fun _ t' => ∃ t2, NgI (t3.1 1) (pI (pI t3 0 25 0) 0 26 0) (t3.1 1 1).toInt.toNat t2 ∧ t' = pI (pI t2 1 4 (t2.1 1 4 + 1)) 1 10 0) := by
      refine ng_157 (t0 := pI (pI t3 0 25 0) 0 26 0) (by rw [pI_o _ _ _ _ _ (by decide), pI_o _ _ _ _ _ (by decide)]) (fun q hq => ⟨(pln_q H3.1.1 hq).1, (pln_q H3.1.1 hq).2.2.1⟩) (by rw [q_ne rfl, q_ne rfl]; exact H3.2.1.2) bQ BIG 0 0 _ rfl bQ.1 ⟨fun q hq => absurd hq (Nat.not_lt_zero _), fun p _ => by rw [q_nc rfl, q_nc rfl], ⟨fun _ _ _ => rfl, fun _ _ _ => rfl, rfl⟩, by rw [q_ne rfl, q_eq]; rfl, by rw [q_eq]; rfl⟩
    have c : PQ (f_X2_passNight_25_53_b35 t0 s6) (fun _ s' => ∃ s9, WarCz (t3.1 1 1).toInt (pI s6 53 5 t0) s9 (t3.1 1 1).toInt.toNat ∧ s' = pI (pI s9 53 6 (if s9.1 53 6 + 1 < 999 then s9.1 53 6 + 1 else 999)) 53 7 0) := by
      unfold f_X2_passNight_25_53_b35 f_X2_countWar_25_53
      refine pq_b (war_bz (t3.1 1 1).toInt bQ (pI s6 53 5 t0) (by rw [q_nc rfl]; exact eQ) BIG 0 0 _ rfl bQ.1 ⟨fun q hq => absurd hq (Nat.not_lt_zero _), fun _ _ => rfl, fun _ _ => rfl, rfl⟩) (fun _ s8 w => pq_n (fun s9 e9 => pq_s ⟨s8, w, ?_⟩))
      rw [e9]
    refine rq_pp c m (fun _ s' _ t' x y => ?_)
    obtain ⟨s9, x1, x2⟩ := x
    obtain ⟨t2, y1, y2⟩ := y
    have f := night_fz (s2 := pI s6 53 5 t0) H3 k (by rw [ht]) x1 y1
    rw [← x2, ← y2] at f
    obtain ⟨f1, f2, f3, f4, f5⟩ := f
    refine ⟨f1, ?_, ?_, ?_, ?_⟩
    · rw [f2, K3.1 6 (by decide)]
    · rw [f3, K3.2.2.1 4 (by decide)]
    · rw [f4, K3.1 5 (by decide), K3.2.2.1 1 (by decide)]
    · rw [f5, K3.1 5 (by decide), K3.2.2.1 1 (by decide)]
  refine rq_iC (fun d => fin _ (by rw [if_pos d])) (fun d => fin _ (by rw [if_neg d]))
