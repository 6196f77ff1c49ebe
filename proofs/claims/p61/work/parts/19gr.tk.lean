/-! what more of the reference leaves alone: printed by genM.py -/
theorem ft_X12_is (a1 : Int32) (s : Sg) : PQ (f_X12_is a1 s) (fun _ s9 => Fr cdN 4194304 s s9) := by
  have hJ : Fr cdN 4194304 s s := fr_r
  unfold f_X12_is
  refine pq_if (fun _ => ?_) (fun _ => ?_)
  · exact pq_s (fr_i hJ 22 rfl rfl)
  · exact pq_s (fr_i hJ 22 rfl rfl)
theorem ft_X12_quarrelRow (a0 : Int32) (s : Sg) : PQ (f_X12_quarrelRow a0 s) (fun _ s9 => Fr cdN 0 s s9) := by
  have hJ : Fr cdN 0 s s := fr_r
  unfold f_X12_quarrelRow
  exact pq_s hJ
theorem ft_X12_quarrelHouse (a0 : Int32) (a1 : Int32) (s : Sg) : PQ (f_X12_quarrelHouse a0 a1 s) (fun _ s9 => Fr cdN 0 s s9) := by
  have hJ : Fr cdN 0 s s := fr_r
  unfold f_X12_quarrelHouse
  refine pq_b (ft_X12_quarrelRow _ _) (fun _ s2 gs2 => ?_)
  have js2 := fr_t hJ gs2 rfl
  exact pq_s js2
theorem ft_X12_isAt (a1 : Int32) (a2 : Int32) (s : Sg) : PQ (f_X12_isAt a1 a2 s) (fun _ s9 => Fr cdN 0 s s9) := by
  have hJ : Fr cdN 0 s s := fr_r
  unfold f_X12_isAt
  refine pq_b (ft_X12_quarrelHouse _ _ _) (fun _ s2 gs2 => ?_)
  have js2 := fr_t hJ gs2 rfl
  refine pq_c (fun _ => ?_)
  refine pq_if (fun _ => ?_) (fun _ => ?_)
  · exact pq_s js2
  · refine pq_b (ft_X12_quarrelHouse _ _ _) (fun _ s5 gs5 => ?_)
    have js5 := fr_t js2 gs5 rfl
    refine pq_c (fun _ => ?_)
    refine pq_if (fun _ => ?_) (fun _ => ?_)
    · exact pq_s js5
    · exact pq_s js5
theorem ft_X12_houseRow (a0 : Int32) (s : Sg) : PQ (f_X12_houseRow a0 s) (fun _ s9 => Fr cdN 0 s s9) := by
  have hJ : Fr cdN 0 s s := fr_r
  unfold f_X12_houseRow
  exact pq_s hJ
theorem ft_X12_isHouse (a1 : Int32) (s : Sg) : PQ (f_X12_isHouse a1 s) (fun _ s9 => Fr cdN 0 s s9) := by
  have hJ : Fr cdN 0 s s := fr_r
  unfold f_X12_isHouse
  refine pq_if (fun _ => ?_) (fun _ => ?_)
  · exact pq_s hJ
  · refine pq_if (fun _ => ?_) (fun _ => ?_)
    · exact pq_s hJ
    · exact pq_s hJ
theorem ft_X12_wrongStep (a1 : Int32) (s : Sg) : PQ (f_X12_wrongStep a1 s) (fun _ s9 => Fr cdN 0 s s9) := by
  have hJ : Fr cdN 0 s s := fr_r
  unfold f_X12_wrongStep
  refine pq_b (ft_X12_isHouse _ _) (fun _ s2 gs2 => ?_)
  have js2 := fr_t hJ gs2 rfl
  refine pq_if (fun _ => ?_) (fun _ => ?_)
  · exact pq_s js2
  · refine pq_b (ft_X12_isGone _ _) (fun _ s4 gs4 => ?_)
    have js4 := fr_t js2 gs4 rfl
    refine pq_if (fun _ => ?_) (fun _ => ?_)
    · exact pq_s js4
    · exact pq_s js4
theorem ft_X12_isQuarrel (a1 : Int32) (s : Sg) : PQ (f_X12_isQuarrel a1 s) (fun _ s9 => Fr cdN 0 s s9) := by
  have hJ : Fr cdN 0 s s := fr_r
  unfold f_X12_isQuarrel
  refine pq_if (fun _ => ?_) (fun _ => ?_)
  · exact pq_s hJ
  · refine pq_if (fun _ => ?_) (fun _ => ?_)
    · exact pq_s hJ
    · exact pq_s hJ
theorem ft_X12_grainsOn (a1 : Int32) (s : Sg) : PQ (f_X12_grainsOn a1 s) (fun _ s9 => Fr cdN 0 s s9) := by
  have hJ : Fr cdN 0 s s := fr_r
  unfold f_X12_grainsOn
  refine pq_b (ft_X12_houseRow _ _) (fun _ s2 gs2 => ?_)
  have js2 := fr_t hJ gs2 rfl
  refine pq_c (fun _ => ?_)
  refine pq_b (ft_X12_houseRow _ _) (fun _ s5 gs5 => ?_)
  have js5 := fr_t js2 gs5 rfl
  refine pq_c (fun _ => ?_)
  exact pq_s js5
theorem ft_X12_needOf (a1 : Int32) (s : Sg) : PQ (f_X12_needOf a1 s) (fun _ s9 => Fr cdN 0 s s9) := by
  have hJ : Fr cdN 0 s s := fr_r
  unfold f_X12_needOf
  refine pq_if (fun _ => ?_) (fun _ => ?_)
  · exact pq_s hJ
  · refine pq_b (ft_X12_quarrelRow _ _) (fun _ s2 gs2 => ?_)
    have js2 := fr_t hJ gs2 rfl
    refine pq_c (fun _ => ?_)
    exact pq_s js2
theorem ft_X12_hasAt_b27 {s0 : Sg} (n : Nat) : ∀ (v1 : Int32) (v2 : Int32) (v3 : Int32) (v4 : Int32) (s : Sg), Fr cdN 0 s0 s → PQ (f_X12_hasAt_b27 n v1 v2 v3 v4 s) (fun _ s9 => Fr cdN 0 s0 s9) := by
  induction n with
  | zero => intro v1 v2 v3 v4 s _ r s9 e; cases e
  | succ n ih =>
    intro v1 v2 v3 v4 s hJ
    unfold f_X12_hasAt_b27
    refine pq_if (fun _ => ?_) (fun _ => ?_)
    · refine pq_b (ft_X12_needOf _ _) (fun _ s7 gs7 => ?_)
      have js7 := fr_t hJ gs7 rfl
      exact pq_s js7
    · refine pq_b (ft_X12_isAt _ _ _) (fun _ s9 gs9 => ?_)
      have js9 := fr_t hJ gs9 rfl
      refine pq_if (fun _ => ?_) (fun _ => ?_)
      · exact ih _ _ _ _ _ js9
      · refine pq_b (ft_X12_needOf _ _) (fun _ s11 gs11 => ?_)
        have js11 := fr_t js9 gs11 rfl
        refine pq_n (fun x12 _ => ?_)
        exact ih _ _ _ _ _ js11
theorem ft_X12_hasAt (a1 : Int32) (a2 : Int32) (s : Sg) : PQ (f_X12_hasAt a1 a2 s) (fun _ s9 => Fr cdN 0 s s9) := by
  have hJ : Fr cdN 0 s s := fr_r
  unfold f_X12_hasAt
  refine pq_b (ft_X12_houseRow _ _) (fun _ s2 gs2 => ?_)
  have js2 := fr_t hJ gs2 rfl
  refine pq_c (fun _ => ?_)
  refine pq_if (fun _ => ?_) (fun _ => ?_)
  · refine pq_b (ft_X12_grainsOn _ _) (fun _ s5 gs5 => ?_)
    have js5 := fr_t js2 gs5 rfl
    exact ft_X12_hasAt_b27 BIG _ _ _ _ _ js5
  · exact ft_X12_hasAt_b27 BIG _ _ _ _ _ js2
theorem ft_X12_isFull (a1 : Int32) (a2 : Int32) (s : Sg) : PQ (f_X12_isFull a1 a2 s) (fun _ s9 => Fr cdN 0 s s9) := by
  have hJ : Fr cdN 0 s s := fr_r
  unfold f_X12_isFull
  refine pq_b (ft_X12_quarrelHouse _ _ _) (fun _ s2 gs2 => ?_)
  have js2 := fr_t hJ gs2 rfl
  refine pq_c (fun _ => ?_)
  refine pq_b (ft_X12_isGone _ _) (fun _ s5 gs5 => ?_)
  have js5 := fr_t js2 gs5 rfl
  refine pq_if (fun _ => ?_) (fun _ => ?_)
  · refine pq_b (ft_X12_hasAt _ _ _) (fun _ s7 gs7 => ?_)
    have js7 := fr_t js5 gs7 rfl
    refine pq_b (ft_X12_needOf _ _) (fun _ s9 gs9 => ?_)
    have js9 := fr_t js7 gs9 rfl
    refine pq_if (fun _ => ?_) (fun _ => ?_)
    · exact pq_s js9
    · exact pq_s js9
  · refine pq_if (fun _ => ?_) (fun _ => ?_)
    · exact pq_s js5
    · exact pq_s js5
theorem ft_X12_hasPeace (a1 : Int32) (s : Sg) : PQ (f_X12_hasPeace a1 s) (fun _ s9 => Fr cdN 0 s s9) := by
  have hJ : Fr cdN 0 s s := fr_r
  unfold f_X12_hasPeace
  refine pq_b (ft_X12_isFull _ _ _) (fun _ s2 gs2 => ?_)
  have js2 := fr_t hJ gs2 rfl
  refine pq_if (fun _ => ?_) (fun _ => ?_)
  · exact pq_s js2
  · refine pq_b (ft_X12_isFull _ _ _) (fun _ s4 gs4 => ?_)
    have js4 := fr_t js2 gs4 rfl
    refine pq_if (fun _ => ?_) (fun _ => ?_)
    · exact pq_s js4
    · exact pq_s js4
theorem ft_X12_isSome (a1 : Int32) (a2 : Int32) (s : Sg) : PQ (f_X12_isSome a1 a2 s) (fun _ s9 => Fr cdN 0 s s9) := by
  have hJ : Fr cdN 0 s s := fr_r
  unfold f_X12_isSome
  refine pq_b (ft_X12_quarrelHouse _ _ _) (fun _ s2 gs2 => ?_)
  have js2 := fr_t hJ gs2 rfl
  refine pq_c (fun _ => ?_)
  refine pq_b (ft_X12_isGone _ _) (fun _ s5 gs5 => ?_)
  have js5 := fr_t js2 gs5 rfl
  refine pq_if (fun _ => ?_) (fun _ => ?_)
  · refine pq_b (ft_X12_hasAt _ _ _) (fun _ s7 gs7 => ?_)
    have js7 := fr_t js5 gs7 rfl
    refine pq_if (fun _ => ?_) (fun _ => ?_)
    · exact pq_s js7
    · exact pq_s js7
  · refine pq_if (fun _ => ?_) (fun _ => ?_)
    · exact pq_s js5
    · exact pq_s js5
theorem ft_X12_neverCan (a1 : Int32) (s : Sg) : PQ (f_X12_neverCan a1 s) (fun _ s9 => Fr cdN 0 s s9) := by
  have hJ : Fr cdN 0 s s := fr_r
  unfold f_X12_neverCan
  refine pq_if (fun _ => ?_) (fun _ => ?_)
  · refine pq_b (ft_X12_quarrelHouse _ _ _) (fun _ s2 gs2 => ?_)
    have js2 := fr_t hJ gs2 rfl
    refine pq_c (fun _ => ?_)
    refine pq_b (ft_X12_isGone _ _) (fun _ s5 gs5 => ?_)
    have js5 := fr_t js2 gs5 rfl
    refine pq_if (fun _ => ?_) (fun _ => ?_)
    · refine pq_b (ft_X12_quarrelHouse _ _ _) (fun _ s7 gs7 => ?_)
      have js7 := fr_t js5 gs7 rfl
      refine pq_c (fun _ => ?_)
      refine pq_b (ft_X12_isGone _ _) (fun _ s10 gs10 => ?_)
      have js10 := fr_t js7 gs10 rfl
      refine pq_if (fun _ => ?_) (fun _ => ?_)
      · exact pq_s js10
      · exact pq_s js10
    · exact pq_s js5
  · exact pq_s hJ
theorem ft_X12_setOf_b90 {s0 : Sg} (k_4 : Int32 → Int32 → Int32 → Sg → Option (Int32 × Sg)) (hk_4 : ∀ (v1 : Int32) (v2 : Int32) (v3 : Int32) (s : Sg), Fr cdN 0 s0 s → PQ (k_4 v1 v2 v3 s) (fun _ s9 => Fr cdN 0 s0 s9)) (v1 : Int32) (v2 : Int32) (v3 : Int32) (t0 : Int32) (s : Sg) (hJ : Fr cdN 0 s0 s) : PQ (f_X12_setOf_b90 k_4 v1 v2 v3 t0 s) (fun _ s9 => Fr cdN 0 s0 s9) := by
  unfold f_X12_setOf_b90
  refine pq_if (fun _ => ?_) (fun _ => ?_)
  · exact hk_4 _ _ _ _ hJ
  · refine pq_n (fun x3 _ => ?_)
    exact hk_4 _ _ _ _ hJ
theorem ft_X12_setOf_b53 {s0 : Sg} (k_4 : Int32 → Int32 → Int32 → Sg → Option (Int32 × Sg)) (hk_4 : ∀ (v1 : Int32) (v2 : Int32) (v3 : Int32) (s : Sg), Fr cdN 0 s0 s → PQ (k_4 v1 v2 v3 s) (fun _ s9 => Fr cdN 0 s0 s9)) (v1 : Int32) (v2 : Int32) (v3 : Int32) (s : Sg) (hJ : Fr cdN 0 s0 s) : PQ (f_X12_setOf_b53 k_4 v1 v2 v3 s) (fun _ s9 => Fr cdN 0 s0 s9) := by
  unfold f_X12_setOf_b53
  exact ft_X12_setOf_b90 _ hk_4 _ _ _ _ _ hJ
theorem ft_X12_setOf_b4 {s0 : Sg} (n : Nat) : ∀ (v1 : Int32) (v2 : Int32) (v3 : Int32) (s : Sg), Fr cdN 0 s0 s → PQ (f_X12_setOf_b4 n v1 v2 v3 s) (fun _ s9 => Fr cdN 0 s0 s9) := by
  induction n with
  | zero => intro v1 v2 v3 s _ r s9 e; cases e
  | succ n ih =>
    intro v1 v2 v3 s hJ
    unfold f_X12_setOf_b4
    refine pq_if (fun _ => ?_) (fun _ => ?_)
    · exact pq_s hJ
    · refine pq_if (fun _ => ?_) (fun _ => ?_)
      · refine pq_b (ft_X12_hasPeace _ _) (fun _ s2 gs2 => ?_)
        have js2 := fr_t hJ gs2 rfl
        exact ft_X12_setOf_b90 _ ih _ _ _ _ _ js2
      · refine pq_if (fun _ => ?_) (fun _ => ?_)
        · refine pq_b (ft_X12_isSome _ _ _) (fun _ s5 gs5 => ?_)
          have js5 := fr_t hJ gs5 rfl
          refine pq_if (fun _ => ?_) (fun _ => ?_)
          · exact ft_X12_setOf_b53 _ ih _ _ _ _ js5
          · refine pq_b (ft_X12_isSome _ _ _) (fun _ s7 gs7 => ?_)
            have js7 := fr_t js5 gs7 rfl
            refine pq_if (fun _ => ?_) (fun _ => ?_)
            · exact ft_X12_setOf_b53 _ ih _ _ _ _ js7
            · exact ft_X12_setOf_b90 _ ih _ _ _ _ _ js7
        · refine pq_if (fun _ => ?_) (fun _ => ?_)
          · refine pq_b (ft_X12_quarrelRow _ _) (fun _ s9 gs9 => ?_)
            have js9 := fr_t hJ gs9 rfl
            refine pq_c (fun _ => ?_)
            refine pq_if (fun _ => ?_) (fun _ => ?_)
            · exact ft_X12_setOf_b90 _ ih _ _ _ _ _ js9
            · exact ft_X12_setOf_b90 _ ih _ _ _ _ _ js9
          · refine pq_b (ft_X12_neverCan _ _) (fun _ s12 gs12 => ?_)
            have js12 := fr_t hJ gs12 rfl
            exact ft_X12_setOf_b90 _ ih _ _ _ _ _ js12
theorem ft_X12_setOf (a1 : Int32) (s : Sg) : PQ (f_X12_setOf a1 s) (fun _ s9 => Fr cdN 0 s s9) := by
  have hJ : Fr cdN 0 s s := fr_r
  unfold f_X12_setOf
  exact ft_X12_setOf_b4 BIG _ _ _ _ hJ
theorem ft_X12_bits_b4 {s0 : Sg} (n : Nat) : ∀ (v1 : Int32) (v2 : Int32) (s : Sg), Fr cdN 0 s0 s → PQ (f_X12_bits_b4 n v1 v2 s) (fun _ s9 => Fr cdN 0 s0 s9) := by
  induction n with
  | zero => intro v1 v2 s _ r s9 e; cases e
  | succ n ih =>
    intro v1 v2 s hJ
    unfold f_X12_bits_b4
    refine pq_if (fun _ => ?_) (fun _ => ?_)
    · exact pq_s hJ
    · exact ih _ _ _ hJ
theorem ft_X12_bits (a0 : Int32) (s : Sg) : PQ (f_X12_bits a0 s) (fun _ s9 => Fr cdN 0 s s9) := by
  have hJ : Fr cdN 0 s s := fr_r
  unfold f_X12_bits
  exact ft_X12_bits_b4 BIG _ _ _ hJ
theorem ft_X12_isSnow_b2 {s0 : Sg} (n : Nat) : ∀ (v1 : Int32) (s : Sg), Fr cdN 0 s0 s → PQ (f_X12_isSnow_b2 n v1 s) (fun _ s9 => Fr cdN 0 s0 s9) := by
  induction n with
  | zero => intro v1 s _ r s9 e; cases e
  | succ n ih =>
    intro v1 s hJ
    unfold f_X12_isSnow_b2
    refine pq_if (fun _ => ?_) (fun _ => ?_)
    · exact pq_s hJ
    · refine pq_b (ft_X12_houseRow _ _) (fun _ s2 gs2 => ?_)
      have js2 := fr_t hJ gs2 rfl
      refine pq_c (fun _ => ?_)
      refine pq_if (fun _ => ?_) (fun _ => ?_)
      · exact ih _ _ js2
      · exact pq_s js2
theorem ft_X12_isSnow  (s : Sg) : PQ (f_X12_isSnow  s) (fun _ s9 => Fr cdN 0 s s9) := by
  have hJ : Fr cdN 0 s s := fr_r
  unfold f_X12_isSnow
  exact ft_X12_isSnow_b2 BIG _ _ hJ
theorem ft_X12_isSetOf (a1 : Int32) (s : Sg) : PQ (f_X12_isSetOf a1 s) (fun _ s9 => Fr cdN 0 s s9) := by
  have hJ : Fr cdN 0 s s := fr_r
  unfold f_X12_isSetOf
  refine pq_if (fun _ => ?_) (fun _ => ?_)
  · exact pq_s hJ
  · refine pq_if (fun _ => ?_) (fun _ => ?_)
    · exact pq_s hJ
    · exact pq_s hJ
theorem ft_X12_tellsBy_b6 {s0 : Sg} (n : Nat) : ∀ (v1 : Int64) (v3 : Int64) (v5 : Int64) (v7 : Int64) (s : Sg), Fr cdN 29360128 s0 s → PQ (f_X12_tellsBy_b6 n v1 v3 v5 v7 s) (fun _ s9 => Fr cdN 29360128 s0 s9) := by
  induction n with
  | zero => intro v1 v3 v5 v7 s _ r s9 e; cases e
  | succ n ih =>
    intro v1 v3 v5 v7 s hJ
    unfold f_X12_tellsBy_b6
    refine pq_if (fun _ => ?_) (fun _ => ?_)
    · refine pq_c (fun _ => ?_)
      refine pq_n (fun s2 es2 => ?_)
      have js2 : Fr cdN 29360128 s0 s2 := by rw [es2]; exact (fr_l (fr_l hJ 23 rfl rfl) 24 rfl rfl)
      refine pq_b (ft_X12_is _ _) (fun _ s4 gs4 => ?_)
      have js4 := fr_t js2 gs4 rfl
      refine pq_c (fun _ => ?_)
      exact pq_s js4
    · refine pq_c (fun _ => ?_)
      exact ih _ _ _ _ _ hJ
theorem ft_X12_tellsBy (a1 : Int64) (a2 : Int64) (s : Sg) : PQ (f_X12_tellsBy a1 a2 s) (fun _ s9 => Fr cdN 29360128 s s9) := by
  have hJ : Fr cdN 29360128 s s := fr_r
  unfold f_X12_tellsBy
  exact ft_X12_tellsBy_b6 BIG _ _ _ _ _ hJ
theorem ft_X12_draw  (s : Sg) : PQ (f_X12_draw  s) (fun _ s9 => Fr cdN 562949953421312 s s9) := by
  have hJ : Fr cdN 562949953421312 s s := fr_r
  unfold f_X12_draw
  refine pq_n (fun s1 es1 => ?_)
  have js1 : Fr cdN 562949953421312 s s1 := by rw [es1]; exact (fr_i hJ 49 rfl rfl)
  exact pq_s js1
theorem ft_X12_behindEnds_b95 {s0 : Sg} (k_2 : Int32 → Sg → Option (Int32 × Sg)) (hk_2 : ∀ (v2 : Int32) (s : Sg), Fr cdN 1024 s0 s → PQ (k_2 v2 s) (fun _ s9 => Fr cdN 1024 s0 s9)) (v2 : Int32) (v3 : Int32) (v4 : Int32) (t0 : Int32) (t1 : Int32) (t2 : Int32) (s : Sg) (hJ : Fr cdN 1024 s0 s) : PQ (f_X12_behindEnds_b95 k_2 v2 v3 v4 t0 t1 t2 s) (fun _ s9 => Fr cdN 1024 s0 s9) := by
  unfold f_X12_behindEnds_b95
  refine pq_c (fun _ => ?_)
  refine pq_n (fun s8 es8 => ?_)
  have js8 : Fr cdN 1024 s0 s8 := by rw [es8]; exact (fr_i hJ 10 rfl rfl)
  refine pq_if (fun _ => ?_) (fun _ => ?_)
  · exact hk_2 _ _ js8
  · exact hk_2 _ _ js8
theorem ft_X12_behindEnds_b76 {s0 : Sg} (k_2 : Int32 → Sg → Option (Int32 × Sg)) (hk_2 : ∀ (v2 : Int32) (s : Sg), Fr cdN 1024 s0 s → PQ (k_2 v2 s) (fun _ s9 => Fr cdN 1024 s0 s9)) (v2 : Int32) (v3 : Int32) (t0 : Int32) (s : Sg) (hJ : Fr cdN 1024 s0 s) : PQ (f_X12_behindEnds_b76 k_2 v2 v3 t0 s) (fun _ s9 => Fr cdN 1024 s0 s9) := by
  unfold f_X12_behindEnds_b76
  refine pq_c (fun _ => ?_)
  refine pq_if (fun _ => ?_) (fun _ => ?_)
  · exact ft_X12_behindEnds_b95 _ hk_2 _ _ _ _ _ _ _ hJ
  · exact ft_X12_behindEnds_b95 _ hk_2 _ _ _ _ _ _ _ hJ
theorem ft_X12_behindEnds_b75 {s0 : Sg} (k_2 : Int32 → Sg → Option (Int32 × Sg)) (hk_2 : ∀ (v2 : Int32) (s : Sg), Fr cdN 1024 s0 s → PQ (k_2 v2 s) (fun _ s9 => Fr cdN 1024 s0 s9)) (v2 : Int32) (v3 : Int32) (s : Sg) (hJ : Fr cdN 1024 s0 s) : PQ (f_X12_behindEnds_b75 k_2 v2 v3 s) (fun _ s9 => Fr cdN 1024 s0 s9) := by
  unfold f_X12_behindEnds_b75
  exact ft_X12_behindEnds_b76 _ hk_2 _ _ _ _ hJ
theorem ft_X12_behindEnds_b2 {s0 : Sg} (n : Nat) : ∀ (v2 : Int32) (s : Sg), Fr cdN 1024 s0 s → PQ (f_X12_behindEnds_b2 n v2 s) (fun _ s9 => Fr cdN 1024 s0 s9) := by
  induction n with
  | zero => intro v2 s _ r s9 e; cases e
  | succ n ih =>
    intro v2 s hJ
    unfold f_X12_behindEnds_b2
    refine pq_if (fun _ => ?_) (fun _ => ?_)
    · exact pq_s hJ
    · refine pq_c (fun _ => ?_)
      refine pq_if (fun _ => ?_) (fun _ => ?_)
      · refine pq_c (fun _ => ?_)
        refine pq_n (fun x3 _ => ?_)
        refine pq_c (fun _ => ?_)
        refine pq_if (fun _ => ?_) (fun _ => ?_)
        · refine pq_c (fun _ => ?_)
          refine pq_if (fun _ => ?_) (fun _ => ?_)
          · exact ft_X12_behindEnds_b75 _ ih _ _ _ hJ
          · exact ft_X12_behindEnds_b76 _ ih _ _ _ _ hJ
        · exact ft_X12_behindEnds_b75 _ ih _ _ _ hJ
      · exact pq_s hJ
theorem ft_X12_behindEnds (a1 : Int32) (s : Sg) : PQ (f_X12_behindEnds a1 s) (fun _ s9 => Fr cdN 1024 s s9) := by
  have hJ : Fr cdN 1024 s s := fr_r
  unfold f_X12_behindEnds
  exact ft_X12_behindEnds_b2 BIG _ _ hJ
theorem ft_X12_holds (a1 : Int32) (s : Sg) : PQ (f_X12_holds a1 s) (fun _ s9 => Fr cdN 0 s s9) := by
  have hJ : Fr cdN 0 s s := fr_r
  unfold f_X12_holds
  refine pq_c (fun _ => ?_)
  refine pq_n (fun x2 _ => ?_)
  refine pq_c (fun _ => ?_)
  refine pq_n (fun x4 _ => ?_)
  refine pq_if (fun _ => ?_) (fun _ => ?_)
  · refine pq_b (ft_X12_quarrelRow _ _) (fun _ s6 gs6 => ?_)
    have js6 := fr_t hJ gs6 rfl
    refine pq_c (fun _ => ?_)
    refine pq_if (fun _ => ?_) (fun _ => ?_)
    · exact pq_s js6
    · exact pq_s js6
  · refine pq_if (fun _ => ?_) (fun _ => ?_)
    · refine pq_b (ft_X12_isSome _ _ _) (fun _ s9 gs9 => ?_)
      have js9 := fr_t hJ gs9 rfl
      refine pq_if (fun _ => ?_) (fun _ => ?_)
      · exact pq_s js9
      · refine pq_b (ft_X12_isSome _ _ _) (fun _ s11 gs11 => ?_)
        have js11 := fr_t js9 gs11 rfl
        refine pq_if (fun _ => ?_) (fun _ => ?_)
        · exact pq_s js11
        · exact pq_s js11
    · refine pq_b (ft_X12_grainsOn _ _) (fun _ s13 gs13 => ?_)
      have js13 := fr_t hJ gs13 rfl
      refine pq_c (fun _ => ?_)
      refine pq_if (fun _ => ?_) (fun _ => ?_)
      · refine pq_c (fun _ => ?_)
        refine pq_if (fun _ => ?_) (fun _ => ?_)
        · exact pq_s js13
        · exact pq_s js13
      · refine pq_if (fun _ => ?_) (fun _ => ?_)
        · refine pq_c (fun _ => ?_)
          refine pq_if (fun _ => ?_) (fun _ => ?_)
          · exact pq_s js13
          · exact pq_s js13
        · refine pq_c (fun _ => ?_)
          refine pq_if (fun _ => ?_) (fun _ => ?_)
          · exact pq_s js13
          · exact pq_s js13
