/-! copies of worlds: the reference's -/
def CpJ {α : Type} (sp dp i : Nat) (f0 f : Nat → α) : Prop := (∀ k, k < i → f (dp + k) = f0 (sp + k)) ∧ (∀ p, ¬ (dp ≤ p ∧ p < dp + i) → f p = f0 p)
theorem cpj_0 {α : Type} {sp dp : Nat} {f : Nat → α} : CpJ sp dp 0 f f := ⟨fun _ h => absurd h (Nat.not_lt_zero _), fun _ _ => rfl⟩
theorem cpj_s {α : Type} {sp dp N i : Nat} {f0 f f' : Nat → α} (h : CpJ sp dp i f0 f) (hd : sp + N ≤ dp ∨ dp + N ≤ sp) (hi : i < N) (e : ∀ p, f' p = if p = dp + i then f (sp + i) else f p) : CpJ sp dp (i + 1) f0 f' := by
  refine ⟨fun k hk => ?_, fun p hp => ?_⟩
  · rw [e]
    by_cases z : k = i
    · rw [if_pos (by omega), h.2 (sp + i) (by omega), z]
    · rw [if_neg (by omega)]
      exact h.1 k (by omega)
  · rw [e, if_neg (by omega)]
    exact h.2 p (by omega)
theorem pI_o (s : Sg) (c k : Nat) (v : Int32) (c' : Nat) (h : ¬ c' = c) : (pI s c k v).1 c' = s.1 c' := funext fun k' => by rw [pI_1, if_neg (fun z => h z.1)]
theorem pL_o (s : Sg) (c k : Nat) (v : Int64) (c' : Nat) (h : ¬ c' = c) : (pL s c k v).2 c' = s.2 c' := funext fun k' => by rw [pL_2, if_neg (fun z => h z.1)]
/-- both rows of a slot copied, all else kept -/
def CpM (j1 j2 : Nat) (s0 s : Sg) : Prop := CpJ (480 * j1) (480 * j2) 480 (s0.1 1) (s.1 1) ∧ CpJ (24 * j1) (24 * j2) 24 (s0.2 2) (s.2 2) ∧ (∀ c, ¬ c = 1 → s.1 c = s0.1 c) ∧ (∀ c, ¬ c = 2 → s.2 c = s0.2 c)
theorem cm_41 (v1 v2 : Int32) (j1 j2 : Nat) (h1 : v1.toInt = (j1 : Int)) (h2 : v2.toInt = (j2 : Int)) (b1 : j1 ≤ 4) (b2 : j2 ≤ 4) (hd : ¬ j1 = j2) (s0 : Sg) (m : Nat) : ∀ (i : Nat) (v3 : Int32) (s : Sg), v3.toInt = (i : Int) → i ≤ 24 → CpJ (24 * j1) (24 * j2) i (s0.2 2) (s.2 2) → s.1 = s0.1 → (∀ c, ¬ c = 2 → s.2 c = s0.2 c) → PQ (f_X12_copies_b41 m v1 v2 v3 s) (fun _ s9 => CpJ (24 * j1) (24 * j2) 24 (s0.2 2) (s9.2 2) ∧ s9.1 = s0.1 ∧ (∀ c, ¬ c = 2 → s9.2 c = s0.2 c)) := by
  induction m with
  | zero => intro i v3 s _ _ _ _ _ r s9 e; cases e
  | succ m ih =>
    intro i v3 s h3 hi hc e1 e2
    have e24 : (24 : Int32).toInt = 24 := rfl
    have eo : (1 : Int32).toInt = 1 := rfl
    have a3 : (v3 + 1).toInt = v3.toInt + 1 := i_addx v3 1 (by omega)
    have m1 : (24 * v1).toInt = 24 * v1.toInt := i_mulx 24 v1 (show -2147483648 ≤ 24 * v1.toInt ∧ 24 * v1.toInt ≤ 2147483647 from by omega)
    have m2 : (24 * v2).toInt = 24 * v2.toInt := i_mulx 24 v2 (show -2147483648 ≤ 24 * v2.toInt ∧ 24 * v2.toInt ≤ 2147483647 from by omega)
    have x1 : (24 * v1 + v3).toInt = (24 * v1).toInt + v3.toInt := i_addx _ _ (by omega)
    have x2 : (24 * v2 + v3).toInt = (24 * v2).toInt + v3.toInt := i_addx _ _ (by omega)
    have k1 := cl_nat (24 * v1 + v3)
    have k2 := cl_nat (24 * v2 + v3)
    have d1 : (24 * v1 + v3).toNatClampNeg = 24 * j1 + i := by omega
    have d2 : (24 * v2 + v3).toNatClampNeg = 24 * j2 + i := by omega
    unfold f_X12_copies_b41
    refine pq_if (fun c => ?_) (fun c => pq_c (fun _ => pq_c (fun _ => pq_n (fun s3 es => ?_))))
    · have c := i_le c
      have q : i = 24 := by omega
      subst q
      exact pq_s ⟨hc, e1, e2⟩
    · have c := i_nle c
      rw [d1, d2] at es
      refine ih (i + 1) (v3 + 1) s3 (by omega) (by omega) (cpj_s (N := 24) hc (by omega) (by omega) (fun p => ?_)) ?_ (fun c hc' => ?_)
      · rw [es, pL_2]
        by_cases z : p = 24 * j2 + i
        · rw [if_pos ⟨rfl, z⟩, if_pos z]
        · rw [if_neg (fun y => z y.2), if_neg z]
      · rw [es]; exact e1
      · rw [es, pL_o _ _ _ _ _ hc']
        exact e2 c hc'
theorem cm_2 (v1 v2 : Int32) (j1 j2 : Nat) (h1 : v1.toInt = (j1 : Int)) (h2 : v2.toInt = (j2 : Int)) (b1 : j1 ≤ 4) (b2 : j2 ≤ 4) (hd : ¬ j1 = j2) (s0 : Sg) (m : Nat) : ∀ (i : Nat) (v3 : Int32) (s : Sg), v3.toInt = (i : Int) → i ≤ 480 → CpJ (480 * j1) (480 * j2) i (s0.1 1) (s.1 1) → (∀ c, ¬ c = 1 → s.1 c = s0.1 c) → s.2 = s0.2 → PQ (f_X12_copies_b2 m v1 v2 v3 s) (fun _ s9 => CpM j1 j2 s0 s9) := by
  induction m with
  | zero => intro i v3 s _ _ _ _ _ r s9 e; cases e
  | succ m ih =>
    intro i v3 s h3 hi hc e1 e2
    have e480 : (480 : Int32).toInt = 480 := rfl
    have eo : (1 : Int32).toInt = 1 := rfl
    have a3 : (v3 + 1).toInt = v3.toInt + 1 := i_addx v3 1 (by omega)
    have m1 : (480 * v1).toInt = 480 * v1.toInt := i_mulx 480 v1 (show -2147483648 ≤ 480 * v1.toInt ∧ 480 * v1.toInt ≤ 2147483647 from by omega)
    have m2 : (480 * v2).toInt = 480 * v2.toInt := i_mulx 480 v2 (show -2147483648 ≤ 480 * v2.toInt ∧ 480 * v2.toInt ≤ 2147483647 from by omega)
    have x1 : (480 * v1 + v3).toInt = (480 * v1).toInt + v3.toInt := i_addx _ _ (by omega)
    have x2 : (480 * v2 + v3).toInt = (480 * v2).toInt + v3.toInt := i_addx _ _ (by omega)
    have k1 := cl_nat (480 * v1 + v3)
    have k2 := cl_nat (480 * v2 + v3)
    have d1 : (480 * v1 + v3).toNatClampNeg = 480 * j1 + i := by omega
    have d2 : (480 * v2 + v3).toNatClampNeg = 480 * j2 + i := by omega
    unfold f_X12_copies_b2
    refine pq_if (fun c => ?_) (fun c => pq_c (fun _ => pq_c (fun _ => pq_n (fun s3 es => ?_))))
    · have c := i_le c
      have q : i = 480 := by omega
      subst q
      refine pq_w (cm_41 v1 v2 j1 j2 h1 h2 b1 b2 hd s BIG 0 0 s rfl (Nat.zero_le _) cpj_0 rfl (fun _ _ => rfl)) (fun _ s9 g => ?_)
      obtain ⟨g1, g2, g3⟩ := g
      refine ⟨by rw [g2]; exact hc, by rw [← e2]; exact g1, fun c hc' => by rw [g2]; exact e1 c hc', fun c hc' => by rw [g3 c hc', e2]⟩
    · have c := i_nle c
      rw [d1, d2] at es
      refine ih (i + 1) (v3 + 1) s3 (by omega) (by omega) (cpj_s (N := 480) hc (by omega) (by omega) (fun p => ?_)) (fun c hc' => ?_) ?_
      · rw [es, pI_1]
        by_cases z : p = 480 * j2 + i
        · rw [if_pos ⟨rfl, z⟩, if_pos z]
        · rw [if_neg (fun y => z y.2), if_neg z]
      · rw [es, pI_o _ _ _ _ _ hc']
        exact e1 c hc'
      · rw [es]; exact e2
theorem copies_m (v1 v2 : Int32) (j1 j2 : Nat) (h1 : v1.toInt = (j1 : Int)) (h2 : v2.toInt = (j2 : Int)) (b1 : j1 ≤ 4) (b2 : j2 ≤ 4) (hd : ¬ j1 = j2) (s : Sg) : PQ (f_X12_copies v1 v2 s) (fun _ s9 => CpM j1 j2 s s9) := by
  unfold f_X12_copies
  exact cm_2 v1 v2 j1 j2 h1 h2 b1 b2 hd s BIG 0 0 s rfl (Nat.zero_le _) cpj_0 (fun _ _ => rfl) rfl
theorem taken_p (a : Int32) (s : Sg) : PQ (f_X12_taken a s) (fun r s9 => ((s.1 0 18).toInt ≤ 0 ∧ r = a ∧ s9 = pI (pI s 0 16 (s.1 0 18)) 0 2 0) ∨ (¬ (s.1 0 18).toInt ≤ 0 ∧ r = -1 ∧ s9 = pI (pI s 0 16 (s.1 0 18)) 0 2 9)) := by
  have e0 : (0 : Int32).toInt = 0 := rfl
  unfold f_X12_taken f_X12_gives f_X12_refuse
  rw [q_ne rfl]
  refine pq_if (fun c => ?_) (fun c => ?_)
  · have c := i_le c
    exact pq_s (Or.inl ⟨by omega, rfl, rfl⟩)
  · have c := i_nle c
    exact pq_s (Or.inr ⟨by omega, rfl, rfl⟩)
theorem swx_90 (s0 : Sg) (m : Nat) : ∀ (i : Nat) (v3 : Int32) (s : Sg), v3.toInt = (i : Int) → i ≤ 24 → CpJ 96 0 i (s0.2 2) (s.2 2) → s.1 = s0.1 → (∀ c, ¬ c = 2 → s.2 c = s0.2 c) → s0.1 0 18 = 0 → PQ (f_X12_street_b90 m v3 s) (fun r s9 => ∃ s', (CpJ 96 0 24 (s0.2 2) (s'.2 2) ∧ s'.1 = s0.1 ∧ (∀ c, ¬ c = 2 → s'.2 c = s0.2 c)) ∧ r = s'.1 1 1 ∧ s9 = pI (pI s' 0 16 (s'.1 0 18)) 0 2 0) := by
  induction m with
  | zero => intro i v3 s _ _ _ _ _ _ r s9 e; cases e
  | succ m ih =>
    intro i v3 s h3 hi hc e1 e2 hz
    have e24 : (24 : Int32).toInt = 24 := rfl
    have e0 : (0 : Int32).toInt = 0 := rfl
    have eo : (1 : Int32).toInt = 1 := rfl
    have e96 : (96 : Int32).toInt = 96 := rfl
    have a3 : (v3 + 1).toInt = v3.toInt + 1 := i_addx v3 1 (by omega)
    have x1 : (96 + v3).toInt = (96 : Int32).toInt + v3.toInt := i_addx _ _ (by omega)
    have k1 := cl_nat (96 + v3)
    have k2 := cl_nat v3
    have d1 : (96 + v3).toNatClampNeg = 96 + i := by omega
    have d2 : v3.toNatClampNeg = 0 + i := by omega
    unfold f_X12_street_b90
    refine pq_if (fun c => ?_) (fun c => pq_c (fun _ => pq_c (fun _ => pq_n (fun s3 es => ?_))))
    · have c := i_le c
      have q : i = 24 := by omega
      subst q
      refine pq_b (taken_p _ s) (fun r s9 g => pq_s ⟨s, ⟨hc, e1, e2⟩, ?_⟩)
      rcases g with g | g
      · exact g.2
      · refine absurd ?_ g.1
        rw [e1, hz, e0]
        exact Int.le_refl 0
    · have c := i_nle c
      rw [d1, d2] at es
      refine ih (i + 1) (v3 + 1) s3 (by omega) (by omega) (cpj_s (N := 24) hc (by omega) (by omega) (fun p => ?_)) ?_ (fun c hc' => ?_) hz
      · rw [es, pL_2]
        by_cases z : p = 0 + i
        · rw [if_pos ⟨rfl, z⟩, if_pos z]
        · rw [if_neg (fun y => z y.2), if_neg z]
      · rw [es]; exact e1
      · rw [es, pL_o _ _ _ _ _ hc']
        exact e2 c hc'
theorem swx_59 (s0 : Sg) (hz : s0.1 0 18 = 0) (m : Nat) : ∀ (i : Nat) (v3 : Int32) (s : Sg), v3.toInt = (i : Int) → i ≤ 480 → CpJ 1920 0 i (s0.1 1) (s.1 1) → (∀ c, ¬ c = 1 → s.1 c = s0.1 c) → s.2 = s0.2 → PQ (f_X12_street_b59 m v3 s) (fun r s9 => ∃ s', CpM 4 0 s0 s' ∧ r = s'.1 1 1 ∧ s9 = pI (pI s' 0 16 0) 0 2 0) := by
  induction m with
  | zero => intro i v3 s _ _ _ _ _ r s9 e; cases e
  | succ m ih =>
    intro i v3 s h3 hi hc e1 e2
    have e480 : (480 : Int32).toInt = 480 := rfl
    have eo : (1 : Int32).toInt = 1 := rfl
    have e1920 : (1920 : Int32).toInt = 1920 := rfl
    have a3 : (v3 + 1).toInt = v3.toInt + 1 := i_addx v3 1 (by omega)
    have x1 : (1920 + v3).toInt = (1920 : Int32).toInt + v3.toInt := i_addx _ _ (by omega)
    have k1 := cl_nat (1920 + v3)
    have k2 := cl_nat v3
    have d1 : (1920 + v3).toNatClampNeg = 1920 + i := by omega
    have d2 : v3.toNatClampNeg = 0 + i := by omega
    unfold f_X12_street_b59
    refine pq_if (fun c => ?_) (fun c => pq_c (fun _ => pq_c (fun _ => pq_n (fun s3 es => ?_))))
    · have c := i_le c
      have q : i = 480 := by omega
      subst q
      have z18 : s.1 0 18 = 0 := by rw [e1 0 (by decide)]; exact hz
      refine pq_w (swx_90 s BIG 0 0 s rfl (Nat.zero_le _) cpj_0 rfl (fun _ _ => rfl) z18) (fun r s9 g => ?_)
      obtain ⟨s', ⟨g1, g2, g3⟩, g4, g5⟩ := g
      refine ⟨s', ⟨by rw [g2]; exact hc, by rw [← e2]; exact g1, fun c hc' => by rw [g2]; exact e1 c hc', fun c hc' => by rw [g3 c hc', e2]⟩, g4, ?_⟩
      rw [g5, g2, z18]
    · have c := i_nle c
      rw [d1, d2] at es
      refine ih (i + 1) (v3 + 1) s3 (by omega) (by omega) (cpj_s (N := 480) hc (by omega) (by omega) (fun p => ?_)) (fun c hc' => ?_) ?_
      · rw [es, pI_1]
        by_cases z : p = 0 + i
        · rw [if_pos ⟨rfl, z⟩, if_pos z]
        · rw [if_neg (fun y => z y.2), if_neg z]
      · rw [es, pI_o _ _ _ _ _ hc']
        exact e1 c hc'
      · rw [es]; exact e2
theorem swx_50y (s : Sg) (hz : s.1 0 18 = 0) : PQ (f_X12_street_b50 s) (fun r s9 => ∃ s', CpM 4 0 s s' ∧ r = s'.1 1 1 ∧ s9 = pI (pI s' 0 16 0) 0 2 0) := by
  unfold f_X12_street_b50
  rw [if_pos hz]
  exact swx_59 s hz BIG 0 0 s rfl (Nat.zero_le _) cpj_0 (fun _ _ => rfl) rfl
theorem swx_50n (s : Sg) (hz : ¬ s.1 0 18 = 0) (hp : 0 ≤ (s.1 0 18).toInt) : PQ (f_X12_street_b50 s) (fun r s9 => r = -1 ∧ s9 = pI (pI s 0 16 (s.1 0 18)) 0 2 9) := by
  unfold f_X12_street_b50
  rw [if_neg hz]
  refine pq_b (taken_p _ s) (fun r s9 g => pq_s ?_)
  have e0 : (0 : Int32).toInt = 0 := rfl
  rcases g with g | g
  · refine absurd (Int32.toInt_inj.mp ?_) hz
    omega
  · exact g.2
