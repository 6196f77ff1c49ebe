/-! what an act of the reference leaves alone, the tallies apart: printed by genA2.py -/
def cdQ (c k : Nat) : Nat := if c = 11 then 300 + k else c
theorem fq_X12_isGone (a1 : Int32) (s : Sg) : PQ (f_X12_isGone a1 s) (fun _ s9 => Fr cdQ 0 s s9) := by
  have hJ : Fr cdQ 0 s s := fr_r
  unfold f_X12_isGone
  refine pq_if (fun _ => ?_) (fun _ => ?_)
  · exact pq_s hJ
  · exact pq_s hJ
theorem fq_X12_quarrelRow (a0 : Int32) (s : Sg) : PQ (f_X12_quarrelRow a0 s) (fun _ s9 => Fr cdQ 0 s s9) := by
  have hJ : Fr cdQ 0 s s := fr_r
  unfold f_X12_quarrelRow
  exact pq_s hJ
theorem fq_X12_quarrelHouse (a0 : Int32) (a1 : Int32) (s : Sg) : PQ (f_X12_quarrelHouse a0 a1 s) (fun _ s9 => Fr cdQ 0 s s9) := by
  have hJ : Fr cdQ 0 s s := fr_r
  unfold f_X12_quarrelHouse
  refine pq_b (fq_X12_quarrelRow _ _) (fun _ s2 gs2 => ?_)
  have js2 := fr_t hJ gs2 rfl
  exact pq_s js2
theorem fq_X12_isAt (a1 : Int32) (a2 : Int32) (s : Sg) : PQ (f_X12_isAt a1 a2 s) (fun _ s9 => Fr cdQ 0 s s9) := by
  have hJ : Fr cdQ 0 s s := fr_r
  unfold f_X12_isAt
  refine pq_b (fq_X12_quarrelHouse _ _ _) (fun _ s2 gs2 => ?_)
  have js2 := fr_t hJ gs2 rfl
  refine pq_c (fun _ => ?_)
  refine pq_if (fun _ => ?_) (fun _ => ?_)
  · exact pq_s js2
  · refine pq_b (fq_X12_quarrelHouse _ _ _) (fun _ s5 gs5 => ?_)
    have js5 := fr_t js2 gs5 rfl
    refine pq_c (fun _ => ?_)
    refine pq_if (fun _ => ?_) (fun _ => ?_)
    · exact pq_s js5
    · exact pq_s js5
theorem fq_X12_houseRow (a0 : Int32) (s : Sg) : PQ (f_X12_houseRow a0 s) (fun _ s9 => Fr cdQ 0 s s9) := by
  have hJ : Fr cdQ 0 s s := fr_r
  unfold f_X12_houseRow
  exact pq_s hJ
theorem fq_X12_grainsOn (a1 : Int32) (s : Sg) : PQ (f_X12_grainsOn a1 s) (fun _ s9 => Fr cdQ 0 s s9) := by
  have hJ : Fr cdQ 0 s s := fr_r
  unfold f_X12_grainsOn
  refine pq_b (fq_X12_houseRow _ _) (fun _ s2 gs2 => ?_)
  have js2 := fr_t hJ gs2 rfl
  refine pq_c (fun _ => ?_)
  refine pq_b (fq_X12_houseRow _ _) (fun _ s5 gs5 => ?_)
  have js5 := fr_t js2 gs5 rfl
  refine pq_c (fun _ => ?_)
  exact pq_s js5
theorem fq_X12_needOf (a1 : Int32) (s : Sg) : PQ (f_X12_needOf a1 s) (fun _ s9 => Fr cdQ 0 s s9) := by
  have hJ : Fr cdQ 0 s s := fr_r
  unfold f_X12_needOf
  refine pq_if (fun _ => ?_) (fun _ => ?_)
  · exact pq_s hJ
  · refine pq_b (fq_X12_quarrelRow _ _) (fun _ s2 gs2 => ?_)
    have js2 := fr_t hJ gs2 rfl
    refine pq_c (fun _ => ?_)
    exact pq_s js2
theorem fq_X12_hasAt_b27 {s0 : Sg} (n : Nat) : ∀ (v1 : Int32) (v2 : Int32) (v3 : Int32) (v4 : Int32) (s : Sg), Fr cdQ 0 s0 s → PQ (f_X12_hasAt_b27 n v1 v2 v3 v4 s) (fun _ s9 => Fr cdQ 0 s0 s9) := by
  induction n with
  | zero => intro v1 v2 v3 v4 s _ r s9 e; cases e
  | succ n ih =>
    intro v1 v2 v3 v4 s hJ
    unfold f_X12_hasAt_b27
    refine pq_if (fun _ => ?_) (fun _ => ?_)
    · refine pq_b (fq_X12_needOf _ _) (fun _ s7 gs7 => ?_)
      have js7 := fr_t hJ gs7 rfl
      exact pq_s js7
    · refine pq_b (fq_X12_isAt _ _ _) (fun _ s9 gs9 => ?_)
      have js9 := fr_t hJ gs9 rfl
      refine pq_if (fun _ => ?_) (fun _ => ?_)
      · exact ih _ _ _ _ _ js9
      · refine pq_b (fq_X12_needOf _ _) (fun _ s11 gs11 => ?_)
        have js11 := fr_t js9 gs11 rfl
        refine pq_n (fun x12 _ => ?_)
        exact ih _ _ _ _ _ js11
theorem fq_X12_hasAt (a1 : Int32) (a2 : Int32) (s : Sg) : PQ (f_X12_hasAt a1 a2 s) (fun _ s9 => Fr cdQ 0 s s9) := by
  have hJ : Fr cdQ 0 s s := fr_r
  unfold f_X12_hasAt
  refine pq_b (fq_X12_houseRow _ _) (fun _ s2 gs2 => ?_)
  have js2 := fr_t hJ gs2 rfl
  refine pq_c (fun _ => ?_)
  refine pq_if (fun _ => ?_) (fun _ => ?_)
  · refine pq_b (fq_X12_grainsOn _ _) (fun _ s5 gs5 => ?_)
    have js5 := fr_t js2 gs5 rfl
    exact fq_X12_hasAt_b27 BIG _ _ _ _ _ js5
  · exact fq_X12_hasAt_b27 BIG _ _ _ _ _ js2
theorem fq_X12_isFull (a1 : Int32) (a2 : Int32) (s : Sg) : PQ (f_X12_isFull a1 a2 s) (fun _ s9 => Fr cdQ 0 s s9) := by
  have hJ : Fr cdQ 0 s s := fr_r
  unfold f_X12_isFull
  refine pq_b (fq_X12_quarrelHouse _ _ _) (fun _ s2 gs2 => ?_)
  have js2 := fr_t hJ gs2 rfl
  refine pq_c (fun _ => ?_)
  refine pq_b (fq_X12_isGone _ _) (fun _ s5 gs5 => ?_)
  have js5 := fr_t js2 gs5 rfl
  refine pq_if (fun _ => ?_) (fun _ => ?_)
  · refine pq_b (fq_X12_hasAt _ _ _) (fun _ s7 gs7 => ?_)
    have js7 := fr_t js5 gs7 rfl
    refine pq_b (fq_X12_needOf _ _) (fun _ s9 gs9 => ?_)
    have js9 := fr_t js7 gs9 rfl
    refine pq_if (fun _ => ?_) (fun _ => ?_)
    · exact pq_s js9
    · exact pq_s js9
  · refine pq_if (fun _ => ?_) (fun _ => ?_)
    · exact pq_s js5
    · exact pq_s js5
theorem fq_X12_hasPeace (a1 : Int32) (s : Sg) : PQ (f_X12_hasPeace a1 s) (fun _ s9 => Fr cdQ 0 s s9) := by
  have hJ : Fr cdQ 0 s s := fr_r
  unfold f_X12_hasPeace
  refine pq_b (fq_X12_isFull _ _ _) (fun _ s2 gs2 => ?_)
  have js2 := fr_t hJ gs2 rfl
  refine pq_if (fun _ => ?_) (fun _ => ?_)
  · exact pq_s js2
  · refine pq_b (fq_X12_isFull _ _ _) (fun _ s4 gs4 => ?_)
    have js4 := fr_t js2 gs4 rfl
    refine pq_if (fun _ => ?_) (fun _ => ?_)
    · exact pq_s js4
    · exact pq_s js4
theorem fq_X12_hasRoom (a1 : Int32) (a2 : Int32) (s : Sg) : PQ (f_X12_hasRoom a1 a2 s) (fun _ s9 => Fr cdQ 0 s s9) := by
  have hJ : Fr cdQ 0 s s := fr_r
  unfold f_X12_hasRoom
  refine pq_b (fq_X12_grainsOn _ _) (fun _ s2 gs2 => ?_)
  have js2 := fr_t hJ gs2 rfl
  refine pq_if (fun _ => ?_) (fun _ => ?_)
  · exact pq_s js2
  · exact pq_s js2
theorem fq_X12_strews (a1 : Int32) (a2 : Int32) (s : Sg) : PQ (f_X12_strews a1 a2 s) (fun _ s9 => Fr cdQ 2 s s9) := by
  have hJ : Fr cdQ 2 s s := fr_r
  unfold f_X12_strews
  refine pq_b (fq_X12_houseRow _ _) (fun _ s2 gs2 => ?_)
  have js2 := fr_t hJ gs2 rfl
  refine pq_c (fun _ => ?_)
  refine pq_n (fun s4 es4 => ?_)
  have js4 : Fr cdQ 2 s s4 := by rw [es4]; exact (fr_i js2 1 rfl rfl)
  exact pq_s (fr_i js4 1 rfl rfl)
theorem fq_X12_buys (a1 : Int32) (a2 : Int32) (a3 : Int32) (s : Sg) : PQ (f_X12_buys a1 a2 a3 s) (fun _ s9 => Fr cdQ 2 s s9) := by
  have hJ : Fr cdQ 2 s s := fr_r
  unfold f_X12_buys
  refine pq_c (fun _ => ?_)
  refine pq_n (fun x2 _ => ?_)
  refine pq_c (fun _ => ?_)
  refine pq_n (fun s4 es4 => ?_)
  have js4 : Fr cdQ 2 s s4 := by rw [es4]; exact (fr_i hJ 1 rfl rfl)
  refine pq_c (fun _ => ?_)
  refine pq_n (fun s6 es6 => ?_)
  have js6 : Fr cdQ 2 s s6 := by rw [es6]; exact (fr_i js4 1 rfl rfl)
  refine pq_b (fq_X12_strews _ _ _) (fun _ s8 gs8 => ?_)
  have js8 := fr_t js6 gs8 rfl
  refine pq_b (fq_X12_houseRow _ _) (fun _ s10 gs10 => ?_)
  have js10 := fr_t js8 gs10 rfl
  refine pq_c (fun _ => ?_)
  refine pq_n (fun s12 es12 => ?_)
  have js12 : Fr cdQ 2 s s12 := by rw [es12]; exact (fr_i js10 1 rfl rfl)
  exact pq_s (fr_i js12 1 rfl rfl)
theorem fq_X12_sweeps (a1 : Int32) (s : Sg) : PQ (f_X12_sweeps a1 s) (fun _ s9 => Fr cdQ 2 s s9) := by
  have hJ : Fr cdQ 2 s s := fr_r
  unfold f_X12_sweeps
  refine pq_b (fq_X12_grainsOn _ _) (fun _ s2 gs2 => ?_)
  have js2 := fr_t hJ gs2 rfl
  refine pq_b (fq_X12_houseRow _ _) (fun _ s4 gs4 => ?_)
  have js4 := fr_t js2 gs4 rfl
  refine pq_c (fun _ => ?_)
  refine pq_b (fq_X12_houseRow _ _) (fun _ s7 gs7 => ?_)
  have js7 := fr_t (fr_i js4 1 rfl rfl) gs7 rfl
  refine pq_c (fun _ => ?_)
  refine pq_n (fun s9 es9 => ?_)
  have js9 : Fr cdQ 2 s s9 := by rw [es9]; exact (fr_i js7 1 rfl rfl)
  exact pq_s (fr_i js9 1 rfl rfl)
theorem fq_X12_brings (a1 : Int32) (a2 : Int32) (a3 : Int32) (s : Sg) : PQ (f_X12_brings a1 a2 a3 s) (fun _ s9 => Fr cdQ 2 s s9) := by
  have hJ : Fr cdQ 2 s s := fr_r
  unfold f_X12_brings
  refine pq_b (fq_X12_houseRow _ _) (fun _ s2 gs2 => ?_)
  have js2 := fr_t hJ gs2 rfl
  refine pq_c (fun _ => ?_)
  refine pq_n (fun x4 _ => ?_)
  refine pq_b (fq_X12_houseRow _ _) (fun _ s6 gs6 => ?_)
  have js6 := fr_t js2 gs6 rfl
  refine pq_c (fun _ => ?_)
  refine pq_n (fun x8 _ => ?_)
  refine pq_b (fq_X12_houseRow _ _) (fun _ s10 gs10 => ?_)
  have js10 := fr_t js6 gs10 rfl
  refine pq_c (fun _ => ?_)
  refine pq_n (fun s12 es12 => ?_)
  have js12 : Fr cdQ 2 s s12 := by rw [es12]; exact (fr_i js10 1 rfl rfl)
  refine pq_b (fq_X12_houseRow _ _) (fun _ s14 gs14 => ?_)
  have js14 := fr_t js12 gs14 rfl
  refine pq_c (fun _ => ?_)
  refine pq_n (fun s16 es16 => ?_)
  have js16 : Fr cdQ 2 s s16 := by rw [es16]; exact (fr_i js14 1 rfl rfl)
  refine pq_b (fq_X12_houseRow _ _) (fun _ s18 gs18 => ?_)
  have js18 := fr_t js16 gs18 rfl
  refine pq_c (fun _ => ?_)
  refine pq_n (fun s20 es20 => ?_)
  have js20 : Fr cdQ 2 s s20 := by rw [es20]; exact (fr_i js18 1 rfl rfl)
  refine pq_b (fq_X12_houseRow _ _) (fun _ s22 gs22 => ?_)
  have js22 := fr_t js20 gs22 rfl
  refine pq_c (fun _ => ?_)
  refine pq_n (fun s24 es24 => ?_)
  have js24 : Fr cdQ 2 s s24 := by rw [es24]; exact (fr_i js22 1 rfl rfl)
  exact pq_s js24
theorem fq_X12_rains_b4 {s0 : Sg} (n : Nat) : ∀ (v1 : Int32) (v2 : Int32) (s : Sg), Fr cdQ 2 s0 s → PQ (f_X12_rains_b4 n v1 v2 s) (fun _ s9 => Fr cdQ 2 s0 s9) := by
  induction n with
  | zero => intro v1 v2 s _ r s9 e; cases e
  | succ n ih =>
    intro v1 v2 s hJ
    unfold f_X12_rains_b4
    refine pq_if (fun _ => ?_) (fun _ => ?_)
    · refine pq_n (fun s1 es1 => ?_)
      have js1 : Fr cdQ 2 s0 s1 := by rw [es1]; exact (fr_i (fr_i hJ 1 rfl rfl) 1 rfl rfl)
      exact pq_s js1
    · refine pq_b (fq_X12_houseRow _ _) (fun _ s3 gs3 => ?_)
      have js3 := fr_t hJ gs3 rfl
      refine pq_c (fun _ => ?_)
      refine pq_n (fun x5 _ => ?_)
      refine pq_c (fun _ => ?_)
      refine pq_n (fun x7 _ => ?_)
      refine pq_n (fun s8 es8 => ?_)
      have js8 : Fr cdQ 2 s0 s8 := by rw [es8]; exact (fr_i js3 1 rfl rfl)
      refine pq_n (fun s9 es9 => ?_)
      have js9 : Fr cdQ 2 s0 s9 := by rw [es9]; exact (fr_i js8 1 rfl rfl)
      exact ih _ _ _ js9
theorem fq_X12_rains  (s : Sg) : PQ (f_X12_rains  s) (fun _ s9 => Fr cdQ 2 s s9) := by
  have hJ : Fr cdQ 2 s s := fr_r
  unfold f_X12_rains
  exact fq_X12_rains_b4 BIG _ _ _ hJ
theorem fq_X12_snows_b2 {s0 : Sg} (n : Nat) : ∀ (v1 : Int32) (v2 : Int32) (s : Sg), Fr cdQ 2 s0 s → PQ (f_X12_snows_b2 n v1 v2 s) (fun _ s9 => Fr cdQ 2 s0 s9) := by
  induction n with
  | zero => intro v1 v2 s _ r s9 e; cases e
  | succ n ih =>
    intro v1 v2 s hJ
    unfold f_X12_snows_b2
    refine pq_if (fun _ => ?_) (fun _ => ?_)
    · exact pq_s hJ
    · refine pq_b (fq_X12_isGone _ _) (fun _ s2 gs2 => ?_)
      have js2 := fr_t hJ gs2 rfl
      refine pq_if (fun _ => ?_) (fun _ => ?_)
      · refine pq_b (fq_X12_houseRow _ _) (fun _ s4 gs4 => ?_)
        have js4 := fr_t js2 gs4 rfl
        refine pq_b (fq_X12_houseRow _ _) (fun _ s6 gs6 => ?_)
        have js6 := fr_t js4 gs6 rfl
        refine pq_c (fun _ => ?_)
        refine pq_c (fun _ => ?_)
        refine pq_n (fun s9 es9 => ?_)
        have js9 : Fr cdQ 2 s0 s9 := by rw [es9]; exact (fr_i js6 1 rfl rfl)
        exact ih _ _ _ js9
      · exact ih _ _ _ js2
theorem fq_X12_snows (a1 : Int32) (s : Sg) : PQ (f_X12_snows a1 s) (fun _ s9 => Fr cdQ 2 s s9) := by
  have hJ : Fr cdQ 2 s s := fr_r
  unfold f_X12_snows
  exact fq_X12_snows_b2 BIG _ _ _ hJ
theorem fq_X12_nightGoes_b269 {s0 : Sg} (k_157 : Int32 → Sg → Option (Unit × Sg)) (hk_157 : ∀ (v1 : Int32) (s : Sg), Fr cdQ 3 s0 s → PQ (k_157 v1 s) (fun _ s9 => Fr cdQ 3 s0 s9)) (v1 : Int32) (v2 : Int32) (t0 : Int32) (t1 : Int32) (s : Sg) (hJ : Fr cdQ 3 s0 s) : PQ (f_X12_nightGoes_b269 k_157 v1 v2 t0 t1 s) (fun _ s9 => Fr cdQ 3 s0 s9) := by
  unfold f_X12_nightGoes_b269
  refine pq_c (fun _ => ?_)
  refine pq_c (fun _ => ?_)
  refine pq_n (fun s13 es13 => ?_)
  have js13 : Fr cdQ 3 s0 s13 := by rw [es13]; exact (fr_i (fr_i hJ 0 rfl rfl) 1 rfl rfl)
  exact hk_157 _ _ js13
theorem fq_X12_nightGoes_b243 {s0 : Sg} (k_157 : Int32 → Sg → Option (Unit × Sg)) (hk_157 : ∀ (v1 : Int32) (s : Sg), Fr cdQ 3 s0 s → PQ (k_157 v1 s) (fun _ s9 => Fr cdQ 3 s0 s9)) (v1 : Int32) (v2 : Int32) (v3 : Int32) (t0 : Int32) (t1 : Int32) (s : Sg) (hJ : Fr cdQ 3 s0 s) : PQ (f_X12_nightGoes_b243 k_157 v1 v2 v3 t0 t1 s) (fun _ s9 => Fr cdQ 3 s0 s9) := by
  unfold f_X12_nightGoes_b243
  refine pq_c (fun _ => ?_)
  refine pq_if (fun _ => ?_) (fun _ => ?_)
  · exact fq_X12_nightGoes_b269 _ hk_157 _ _ _ _ _ (fr_i hJ 0 rfl rfl)
  · exact fq_X12_nightGoes_b269 _ hk_157 _ _ _ _ _ (fr_i hJ 0 rfl rfl)
theorem fq_X12_nightGoes_b221 {s0 : Sg} (k_157 : Int32 → Sg → Option (Unit × Sg)) (hk_157 : ∀ (v1 : Int32) (s : Sg), Fr cdQ 3 s0 s → PQ (k_157 v1 s) (fun _ s9 => Fr cdQ 3 s0 s9)) (v1 : Int32) (v2 : Int32) (v3 : Int32) (s : Sg) (hJ : Fr cdQ 3 s0 s) : PQ (f_X12_nightGoes_b221 k_157 v1 v2 v3 s) (fun _ s9 => Fr cdQ 3 s0 s9) := by
  unfold f_X12_nightGoes_b221
  refine pq_c (fun _ => ?_)
  refine pq_if (fun _ => ?_) (fun _ => ?_)
  · exact fq_X12_nightGoes_b243 _ hk_157 _ _ _ _ _ _ hJ
  · exact fq_X12_nightGoes_b243 _ hk_157 _ _ _ _ _ _ hJ
theorem fq_X12_nightGoes_b157 {s0 : Sg} (n : Nat) : ∀ (v1 : Int32) (s : Sg), Fr cdQ 3 s0 s → PQ (f_X12_nightGoes_b157 n v1 s) (fun _ s9 => Fr cdQ 3 s0 s9) := by
  induction n with
  | zero => intro v1 s _ r s9 e; cases e
  | succ n ih =>
    intro v1 s hJ
    unfold f_X12_nightGoes_b157
    refine pq_if (fun _ => ?_) (fun _ => ?_)
    · refine pq_n (fun s1 es1 => ?_)
      have js1 : Fr cdQ 3 s0 s1 := by rw [es1]; exact (fr_i (fr_i hJ 1 rfl rfl) 1 rfl rfl)
      exact pq_s js1
    · refine pq_b (fq_X12_quarrelRow _ _) (fun _ s3 gs3 => ?_)
      have js3 := fr_t hJ gs3 rfl
      refine pq_c (fun _ => ?_)
      refine pq_n (fun x5 _ => ?_)
      refine pq_b (fq_X12_hasPeace _ _) (fun _ s7 gs7 => ?_)
      have js7 := fr_t js3 gs7 rfl
      refine pq_if (fun _ => ?_) (fun _ => ?_)
      · refine pq_if (fun _ => ?_) (fun _ => ?_)
        · refine pq_n (fun s8 es8 => ?_)
          have js8 : Fr cdQ 3 s0 s8 := by rw [es8]; exact (fr_i js7 1 rfl rfl)
          exact fq_X12_nightGoes_b221 _ ih _ _ _ _ js8
        · exact fq_X12_nightGoes_b221 _ ih _ _ _ _ js7
      · refine pq_n (fun s14 es14 => ?_)
        have js14 : Fr cdQ 3 s0 s14 := by rw [es14]; exact (fr_i js7 1 rfl rfl)
        exact fq_X12_nightGoes_b221 _ ih _ _ _ _ js14
theorem fq_X12_nightGoes_b73 {s0 : Sg} (n : Nat) : ∀ (v1 : Int32) (s : Sg), Fr cdQ 3 s0 s → PQ (f_X12_nightGoes_b73 n v1 s) (fun _ s9 => Fr cdQ 3 s0 s9) := by
  induction n with
  | zero => intro v1 s _ r s9 e; cases e
  | succ n ih =>
    intro v1 s hJ
    unfold f_X12_nightGoes_b73
    refine pq_if (fun _ => ?_) (fun _ => ?_)
    · exact fq_X12_nightGoes_b157 BIG _ _ (fr_i (fr_i hJ 0 rfl rfl) 0 rfl rfl)
    · refine pq_b (fq_X12_houseRow _ _) (fun _ s16 gs16 => ?_)
      have js16 := fr_t hJ gs16 rfl
      refine pq_c (fun _ => ?_)
      refine pq_c (fun _ => ?_)
      refine pq_n (fun x19 _ => ?_)
      refine pq_n (fun s20 es20 => ?_)
      have js20 : Fr cdQ 3 s0 s20 := by rw [es20]; exact (fr_i js16 1 rfl rfl)
      refine pq_n (fun s21 es21 => ?_)
      have js21 : Fr cdQ 3 s0 s21 := by rw [es21]; exact (fr_i js20 1 rfl rfl)
      exact ih _ _ (fr_i js21 1 rfl rfl)
theorem fq_X12_nightGoes_b2 {s0 : Sg} (n : Nat) : ∀ (v1 : Int32) (s : Sg), Fr cdQ 3 s0 s → PQ (f_X12_nightGoes_b2 n v1 s) (fun _ s9 => Fr cdQ 3 s0 s9) := by
  induction n with
  | zero => intro v1 s _ r s9 e; cases e
  | succ n ih =>
    intro v1 s hJ
    unfold f_X12_nightGoes_b2
    refine pq_if (fun _ => ?_) (fun _ => ?_)
    · exact fq_X12_nightGoes_b73 BIG _ _ hJ
    · refine pq_c (fun _ => ?_)
      refine pq_b (fq_X12_houseRow _ _) (fun _ s24 gs24 => ?_)
      have js24 := fr_t hJ gs24 rfl
      refine pq_c (fun _ => ?_)
      refine pq_if (fun _ => ?_) (fun _ => ?_)
      · refine pq_c (fun _ => ?_)
        refine pq_c (fun _ => ?_)
        refine pq_b (fq_X12_brings _ _ _ _) (fun _ s29 gs29 => ?_)
        have js29 := fr_t js24 gs29 rfl
        exact ih _ _ js29
      · exact ih _ _ js24
theorem fq_X12_nightGoes  (s : Sg) : PQ (f_X12_nightGoes  s) (fun _ s9 => Fr cdQ 3 s s9) := by
  have hJ : Fr cdQ 3 s s := fr_r
  unfold f_X12_nightGoes
  exact fq_X12_nightGoes_b2 BIG _ _ hJ
theorem fq_X12_draw  (s : Sg) : PQ (f_X12_draw  s) (fun _ s9 => Fr cdQ 1 s s9) := by
  have hJ : Fr cdQ 1 s s := fr_r
  unfold f_X12_draw
  refine pq_n (fun s1 es1 => ?_)
  have js1 : Fr cdQ 1 s s1 := by rw [es1]; exact (fr_i hJ 0 rfl rfl)
  exact pq_s js1
theorem fq_X12_does (a1 : Int32) (s : Sg) : PQ (f_X12_does a1 s) (fun _ s9 => Fr cdQ 28518503668682805207758239637731294254720557511323107508905966290961338196686713886567563267 s s9) := by
  have hJ : Fr cdQ 28518503668682805207758239637731294254720557511323107508905966290961338196686713886567563267 s s := fr_r
  unfold f_X12_does
  refine pq_c (fun _ => ?_)
  refine pq_n (fun x2 _ => ?_)
  refine pq_c (fun _ => ?_)
  refine pq_n (fun x4 _ => ?_)
  refine pq_c (fun _ => ?_)
  refine pq_if (fun _ => ?_) (fun _ => ?_)
  · refine pq_b (fq_X12_draw  _) (fun _ s7 gs7 => ?_)
    have js7 := fr_t hJ gs7 rfl
    refine pq_if (fun _ => ?_) (fun _ => ?_)
    · refine pq_b (fq_X12_rains  _) (fun _ s9 gs9 => ?_)
      have js9 := fr_t js7 gs9 rfl
      exact pq_s (fr_i js9 301 rfl rfl)
    · exact pq_s js7
  · refine pq_if (fun _ => ?_) (fun _ => ?_)
    · exact pq_s hJ
    · refine pq_if (fun _ => ?_) (fun _ => ?_)
      · exact pq_s hJ
      · refine pq_if (fun _ => ?_) (fun _ => ?_)
        · exact pq_s hJ
        · refine pq_if (fun _ => ?_) (fun _ => ?_)
          · exact pq_s hJ
          · refine pq_if (fun _ => ?_) (fun _ => ?_)
            · exact pq_s hJ
            · refine pq_if (fun _ => ?_) (fun _ => ?_)
              · exact pq_s hJ
              · refine pq_if (fun _ => ?_) (fun _ => ?_)
                · exact pq_s hJ
                · refine pq_if (fun _ => ?_) (fun _ => ?_)
                  · exact pq_s hJ
                  · refine pq_if (fun _ => ?_) (fun _ => ?_)
                    · exact pq_s hJ
                    · refine pq_if (fun _ => ?_) (fun _ => ?_)
                      · exact pq_s hJ
                      · refine pq_if (fun _ => ?_) (fun _ => ?_)
                        · exact pq_s hJ
                        · refine pq_if (fun _ => ?_) (fun _ => ?_)
                          · exact pq_s hJ
                          · refine pq_if (fun _ => ?_) (fun _ => ?_)
                            · exact pq_s hJ
                            · refine pq_if (fun _ => ?_) (fun _ => ?_)
                              · exact pq_s hJ
                              · refine pq_if (fun _ => ?_) (fun _ => ?_)
                                · refine pq_b (fq_X12_hasRoom _ _ _) (fun _ s11 gs11 => ?_)
                                  have js11 := fr_t hJ gs11 rfl
                                  refine pq_if (fun _ => ?_) (fun _ => ?_)
                                  · exact pq_s js11
                                  · refine pq_b (fq_X12_strews _ _ _) (fun _ s13 gs13 => ?_)
                                    have js13 := fr_t js11 gs13 rfl
                                    exact pq_s js13
                                · refine pq_if (fun _ => ?_) (fun _ => ?_)
                                  · refine pq_b (fq_X12_hasRoom _ _ _) (fun _ s15 gs15 => ?_)
                                    have js15 := fr_t hJ gs15 rfl
                                    refine pq_if (fun _ => ?_) (fun _ => ?_)
                                    · exact pq_s js15
                                    · refine pq_c (fun _ => ?_)
                                      refine pq_c (fun _ => ?_)
                                      refine pq_if (fun _ => ?_) (fun _ => ?_)
                                      · refine pq_b (fq_X12_buys _ _ _ _) (fun _ s19 gs19 => ?_)
                                        have js19 := fr_t js15 gs19 rfl
                                        exact pq_s js19
                                      · exact pq_s js15
                                  · refine pq_if (fun _ => ?_) (fun _ => ?_)
                                    · refine pq_b (fq_X12_sweeps _ _) (fun _ s21 gs21 => ?_)
                                      have js21 := fr_t hJ gs21 rfl
                                      refine pq_if (fun _ => ?_) (fun _ => ?_)
                                      · exact pq_s js21
                                      · exact pq_s js21
                                    · refine pq_if (fun _ => ?_) (fun _ => ?_)
                                      · refine pq_b (fq_X12_snows _ _) (fun _ s23 gs23 => ?_)
                                        have js23 := fr_t hJ gs23 rfl
                                        exact pq_s js23
                                      · refine pq_if (fun _ => ?_) (fun _ => ?_)
                                        · refine pq_if (fun _ => ?_) (fun _ => ?_)
                                          · exact pq_s hJ
                                          · refine pq_b (fq_X12_nightGoes  _) (fun _ s25 gs25 => ?_)
                                            have js25 := fr_t hJ gs25 rfl
                                            refine pq_n (fun s26 es26 => ?_)
                                            have js26 : Fr cdQ 28518503668682805207758239637731294254720557511323107508905966290961338196686713886567563267 s s26 := by rw [es26]; exact (fr_i js25 302 rfl rfl)
                                            refine pq_n (fun s27 es27 => ?_)
                                            have js27 : Fr cdQ 28518503668682805207758239637731294254720557511323107508905966290961338196686713886567563267 s s27 := by rw [es27]; exact (fr_i js26 303 rfl rfl)
                                            exact pq_s js27
                                        · exact pq_s hJ
