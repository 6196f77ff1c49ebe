def cdN (c k : Nat) : Nat := if c = 0 then 20 + k else c
theorem ft_X12_byteAt (a1 : Int32) (s : Sg) : PQ (f_X12_byteAt a1 s) (fun _ s9 => Fr cdN 0 s s9) := by
  have hJ : Fr cdN 0 s s := fr_r
  unfold f_X12_byteAt
  refine pq_if (fun _ => ?_) (fun _ => ?_)
  · exact pq_s hJ
  · refine pq_c (fun _ => ?_)
    exact pq_s hJ

theorem ft_X12_isSmall (a0 : Int32) (s : Sg) : PQ (f_X12_isSmall a0 s) (fun _ s9 => Fr cdN 0 s s9) := by
  have hJ : Fr cdN 0 s s := fr_r
  unfold f_X12_isSmall
  refine pq_if (fun _ => ?_) (fun _ => ?_)
  · exact pq_s hJ
  · refine pq_if (fun _ => ?_) (fun _ => ?_)
    · exact pq_s hJ
    · exact pq_s hJ

theorem ft_X12_isDigit (a0 : Int32) (s : Sg) : PQ (f_X12_isDigit a0 s) (fun _ s9 => Fr cdN 0 s s9) := by
  have hJ : Fr cdN 0 s s := fr_r
  unfold f_X12_isDigit
  refine pq_if (fun _ => ?_) (fun _ => ?_)
  · exact pq_s hJ
  · refine pq_if (fun _ => ?_) (fun _ => ?_)
    · exact pq_s hJ
    · exact pq_s hJ

theorem ft_X12_ahead_b128 {s0 : Sg} (n : Nat) : ∀  (s : Sg), Fr cdN 64424509440 s0 s → PQ (f_X12_ahead_b128 n  s) (fun _ s9 => Fr cdN 64424509440 s0 s9) := by
  induction n with
  | zero => intro  s _ r s9 e; cases e
  | succ n ih =>
    intro  s hJ
    unfold f_X12_ahead_b128
    refine pq_b (ft_X12_byteAt _ _) (fun _ s17 gs17 => ?_)
    have js17 := fr_t hJ gs17 rfl
    refine pq_b (ft_X12_isDigit _ _) (fun _ s19 gs19 => ?_)
    have js19 := fr_t js17 gs19 rfl
    refine pq_if (fun _ => ?_) (fun _ => ?_)
    · refine pq_if (fun _ => ?_) (fun _ => ?_)
      · exact pq_s (fr_i js19 32 rfl rfl)
      · exact pq_s (fr_i js19 32 rfl rfl)
    · refine pq_b (ft_X12_byteAt _ _) (fun _ s21 gs21 => ?_)
      have js21 := fr_t js19 gs21 rfl
      refine pq_n (fun s22 es22 => ?_)
      have js22 : Fr cdN 64424509440 s0 s22 := by rw [es22]; exact (fr_i js21 35 rfl rfl)
      exact ih  _ (fr_i js22 34 rfl rfl)
theorem ft_X12_ahead_b81 {s0 : Sg} (n : Nat) : ∀  (s : Sg), Fr cdN 64424509440 s0 s → PQ (f_X12_ahead_b81 n  s) (fun _ s9 => Fr cdN 64424509440 s0 s9) := by
  induction n with
  | zero => intro  s _ r s9 e; cases e
  | succ n ih =>
    intro  s hJ
    unfold f_X12_ahead_b81
    refine pq_b (ft_X12_byteAt _ _) (fun _ s24 gs24 => ?_)
    have js24 := fr_t hJ gs24 rfl
    refine pq_b (ft_X12_isSmall _ _) (fun _ s26 gs26 => ?_)
    have js26 := fr_t js24 gs26 rfl
    refine pq_if (fun _ => ?_) (fun _ => ?_)
    · exact pq_s (fr_i js26 32 rfl rfl)
    · exact ih  _ (fr_i js26 34 rfl rfl)
theorem ft_X12_ahead_b0 {s0 : Sg} (n : Nat) : ∀  (s : Sg), Fr cdN 64424509440 s0 s → PQ (f_X12_ahead_b0 n  s) (fun _ s9 => Fr cdN 64424509440 s0 s9) := by
  induction n with
  | zero => intro  s _ r s9 e; cases e
  | succ n ih =>
    intro  s hJ
    unfold f_X12_ahead_b0
    refine pq_b (ft_X12_byteAt _ _) (fun _ s2 gs2 => ?_)
    have js2 := fr_t hJ gs2 rfl
    refine pq_if (fun _ => ?_) (fun _ => ?_)
    · exact ih  _ (fr_i js2 34 rfl rfl)
    · refine pq_b (ft_X12_byteAt _ _) (fun _ s4 gs4 => ?_)
      have js4 := fr_t js2 gs4 rfl
      refine pq_if (fun _ => ?_) (fun _ => ?_)
      · exact ih  _ (fr_i js4 34 rfl rfl)
      · refine pq_b (ft_X12_byteAt _ _) (fun _ s6 gs6 => ?_)
        have js6 := fr_t (fr_i js4 33 rfl rfl) gs6 rfl
        refine pq_if (fun _ => ?_) (fun _ => ?_)
        · exact pq_s (fr_i (fr_i js6 35 rfl rfl) 32 rfl rfl)
        · refine pq_b (ft_X12_isSmall _ _) (fun _ s8 gs8 => ?_)
          have js8 := fr_t (fr_i js6 35 rfl rfl) gs8 rfl
          refine pq_if (fun _ => ?_) (fun _ => ?_)
          · refine pq_b (ft_X12_isDigit _ _) (fun _ s10 gs10 => ?_)
            have js10 := fr_t js8 gs10 rfl
            refine pq_if (fun _ => ?_) (fun _ => ?_)
            · refine pq_if (fun _ => ?_) (fun _ => ?_)
              · refine pq_n (fun s11 es11 => ?_)
                have js11 : Fr cdN 64424509440 s0 s11 := by rw [es11]; exact (fr_i (fr_i js10 34 rfl rfl) 32 rfl rfl)
                exact pq_s js11
              · refine pq_if (fun _ => ?_) (fun _ => ?_)
                · refine pq_n (fun s12 es12 => ?_)
                  have js12 : Fr cdN 64424509440 s0 s12 := by rw [es12]; exact (fr_i (fr_i js10 34 rfl rfl) 32 rfl rfl)
                  exact pq_s js12
                · refine pq_if (fun _ => ?_) (fun _ => ?_)
                  · refine pq_n (fun s13 es13 => ?_)
                    have js13 : Fr cdN 64424509440 s0 s13 := by rw [es13]; exact (fr_i (fr_i js10 34 rfl rfl) 32 rfl rfl)
                    exact pq_s js13
                  · refine pq_if (fun _ => ?_) (fun _ => ?_)
                    · refine pq_n (fun s14 es14 => ?_)
                      have js14 : Fr cdN 64424509440 s0 s14 := by rw [es14]; exact (fr_i (fr_i js10 34 rfl rfl) 32 rfl rfl)
                      exact pq_s js14
                    · refine pq_n (fun s15 es15 => ?_)
                      have js15 : Fr cdN 64424509440 s0 s15 := by rw [es15]; exact (fr_i (fr_i js10 34 rfl rfl) 32 rfl rfl)
                      exact pq_s js15
            · exact ft_X12_ahead_b128 BIG  _ (fr_i js10 35 rfl rfl)
          · exact ft_X12_ahead_b81 BIG  _ js8
theorem ft_X12_ahead  (s : Sg) : PQ (f_X12_ahead  s) (fun _ s9 => Fr cdN 64424509440 s s9) := by
  have hJ : Fr cdN 64424509440 s s := fr_r
  unfold f_X12_ahead
  exact ft_X12_ahead_b0 BIG  _ hJ

theorem ft_X12_begins_b26 {s0 : Sg} (n : Nat) : ∀ (v1 : Int32) (v3 : Int32) (s : Sg), Fr cdN 1029718409344 s0 s → PQ (f_X12_begins_b26 n v1 v3 s) (fun _ s9 => Fr cdN 1029718409344 s0 s9) := by
  induction n with
  | zero => intro v1 v3 s _ r s9 e; cases e
  | succ n ih =>
    intro v1 v3 s hJ
    unfold f_X12_begins_b26
    refine pq_if (fun _ => ?_) (fun _ => ?_)
    · refine pq_n (fun s1 es1 => ?_)
      have js1 : Fr cdN 1029718409344 s0 s1 := by rw [es1]; exact (fr_i (fr_i (fr_i hJ 30 rfl rfl) 38 rfl rfl) 37 rfl rfl)
      refine pq_b (ft_X12_ahead  _) (fun _ s3 gs3 => ?_)
      have js3 := fr_t (fr_i (fr_i js1 34 rfl rfl) 39 rfl rfl) gs3 rfl
      exact pq_s js3
    · refine pq_c (fun _ => ?_)
      refine pq_n (fun s5 es5 => ?_)
      have js5 : Fr cdN 1029718409344 s0 s5 := by rw [es5]; exact (fr_i hJ 7 rfl rfl)
      exact ih _ _ _ js5
theorem ft_X12_begins (a1 : Int32) (a2 : Int32) (s : Sg) : PQ (f_X12_begins a1 a2 s) (fun _ s9 => Fr cdN 1029718409344 s s9) := by
  have hJ : Fr cdN 1029718409344 s s := fr_r
  unfold f_X12_begins
  refine pq_if (fun _ => ?_) (fun _ => ?_)
  · exact pq_s hJ
  · refine pq_if (fun _ => ?_) (fun _ => ?_)
    · exact pq_s hJ
    · refine pq_if (fun _ => ?_) (fun _ => ?_)
      · exact ft_X12_begins_b26 BIG _ _ _ (fr_i hJ 31 rfl rfl)
      · exact pq_s hJ

theorem ft_X12_refuse (a1 : Int32) (s : Sg) : PQ (f_X12_refuse a1 s) (fun _ s9 => Fr cdN 4194304 s s9) := by
  have hJ : Fr cdN 4194304 s s := fr_r
  unfold f_X12_refuse
  exact pq_s (fr_i hJ 22 rfl rfl)

theorem ft_X12_plain_b2 {s0 : Sg} (n : Nat) : ∀ (v1 : Int32) (v2 : Int32) (s : Sg), Fr cdN 2 s0 s → PQ (f_X12_plain_b2 n v1 v2 s) (fun _ s9 => Fr cdN 2 s0 s9) := by
  induction n with
  | zero => intro v1 v2 s _ r s9 e; cases e
  | succ n ih =>
    intro v1 v2 s hJ
    unfold f_X12_plain_b2
    refine pq_if (fun _ => ?_) (fun _ => ?_)
    · refine pq_c (fun _ => ?_)
      refine pq_n (fun s2 es2 => ?_)
      have js2 : Fr cdN 2 s0 s2 := by rw [es2]; exact (fr_i hJ 1 rfl rfl)
      refine pq_c (fun _ => ?_)
      refine pq_n (fun s4 es4 => ?_)
      have js4 : Fr cdN 2 s0 s4 := by rw [es4]; exact (fr_i js2 1 rfl rfl)
      exact pq_s js4
    · refine pq_c (fun _ => ?_)
      refine pq_n (fun s6 es6 => ?_)
      have js6 : Fr cdN 2 s0 s6 := by rw [es6]; exact (fr_i hJ 1 rfl rfl)
      exact ih _ _ _ js6
theorem ft_X12_plain (a1 : Int32) (s : Sg) : PQ (f_X12_plain a1 s) (fun _ s9 => Fr cdN 2 s s9) := by
  have hJ : Fr cdN 2 s s := fr_r
  unfold f_X12_plain
  exact ft_X12_plain_b2 BIG _ _ _ hJ

theorem ft_X12_gives (a1 : Int32) (s : Sg) : PQ (f_X12_gives a1 s) (fun _ s9 => Fr cdN 4194304 s s9) := by
  have hJ : Fr cdN 4194304 s s := fr_r
  unfold f_X12_gives
  exact pq_s (fr_i hJ 22 rfl rfl)

theorem ft_X12_taken (a1 : Int32) (s : Sg) : PQ (f_X12_taken a1 s) (fun _ s9 => Fr cdN 68723671040 s s9) := by
  have hJ : Fr cdN 68723671040 s s := fr_r
  unfold f_X12_taken
  refine pq_if (fun _ => ?_) (fun _ => ?_)
  · refine pq_b (ft_X12_gives _ _) (fun _ s2 gs2 => ?_)
    have js2 := fr_t (fr_i hJ 36 rfl rfl) gs2 rfl
    exact pq_s js2
  · refine pq_b (ft_X12_refuse _ _) (fun _ s4 gs4 => ?_)
    have js4 := fr_t (fr_i hJ 36 rfl rfl) gs4 rfl
    exact pq_s js4

theorem ft_X12_inWords_1001_b115 {s0 : Sg} (k_14 : Int32 → Int32 → Sg → Option (Int32 × Sg)) (hk_14 : ∀ (v2 : Int32) (v3 : Int32) (s : Sg), Fr cdN 0 s0 s → PQ (k_14 v2 v3 s) (fun _ s9 => Fr cdN 0 s0 s9)) (v2 : Int32) (v4 : Int32) (v5 : Int32) (s : Sg) (hJ : Fr cdN 0 s0 s) : PQ (f_X12_inWords_1001_b115 k_14 v2 v4 v5 s) (fun _ s9 => Fr cdN 0 s0 s9) := by
  unfold f_X12_inWords_1001_b115
  refine pq_if (fun _ => ?_) (fun _ => ?_)
  · exact hk_14 _ _ _ hJ
  · exact pq_s hJ
theorem ft_X12_inWords_1001_b68 {s0 : Sg} (k_14 : Int32 → Int32 → Sg → Option (Int32 × Sg)) (hk_14 : ∀ (v2 : Int32) (v3 : Int32) (s : Sg), Fr cdN 0 s0 s → PQ (k_14 v2 v3 s) (fun _ s9 => Fr cdN 0 s0 s9)) (n : Nat) : ∀ (v2 : Int32) (v3 : Int32) (v4 : Int32) (v5 : Int32) (v6 : Int32) (s : Sg), Fr cdN 0 s0 s → PQ (f_X12_inWords_1001_b68 k_14 n v2 v3 v4 v5 v6 s) (fun _ s9 => Fr cdN 0 s0 s9) := by
  induction n with
  | zero => intro v2 v3 v4 v5 v6 s _ r s9 e; cases e
  | succ n ih =>
    intro v2 v3 v4 v5 v6 s hJ
    unfold f_X12_inWords_1001_b68
    refine pq_if (fun _ => ?_) (fun _ => ?_)
    · exact ft_X12_inWords_1001_b115 _ hk_14 _ _ _ _ hJ
    · refine pq_if (fun _ => ?_) (fun _ => ?_)
      · exact ft_X12_inWords_1001_b115 _ hk_14 _ _ _ _ hJ
      · refine pq_c (fun _ => ?_)
        refine pq_b (ft_X12_byteAt _ _) (fun _ s2 gs2 => ?_)
        have js2 := fr_t hJ gs2 rfl
        refine pq_if (fun _ => ?_) (fun _ => ?_)
        · exact ih _ _ _ _ _ _ js2
        · exact ih _ _ _ _ _ _ js2
theorem ft_X12_inWords_1001_b25 {s0 : Sg} (k_14 : Int32 → Int32 → Sg → Option (Int32 × Sg)) (hk_14 : ∀ (v2 : Int32) (v3 : Int32) (s : Sg), Fr cdN 0 s0 s → PQ (k_14 v2 v3 s) (fun _ s9 => Fr cdN 0 s0 s9)) (n : Nat) : ∀ (v2 : Int32) (v3 : Int32) (v4 : Int32) (s : Sg), Fr cdN 0 s0 s → PQ (f_X12_inWords_1001_b25 k_14 n v2 v3 v4 s) (fun _ s9 => Fr cdN 0 s0 s9) := by
  induction n with
  | zero => intro v2 v3 v4 s _ r s9 e; cases e
  | succ n ih =>
    intro v2 v3 v4 s hJ
    unfold f_X12_inWords_1001_b25
    refine pq_c (fun _ => ?_)
    refine pq_if (fun _ => ?_) (fun _ => ?_)
    · refine pq_if (fun _ => ?_) (fun _ => ?_)
      · exact ft_X12_inWords_1001_b68 _ hk_14 BIG _ _ _ _ _ _ hJ
      · exact ft_X12_inWords_1001_b68 _ hk_14 BIG _ _ _ _ _ _ hJ
    · exact ih _ _ _ _ hJ
theorem ft_X12_inWords_1001_b14 {s0 : Sg} (n : Nat) : ∀ (v2 : Int32) (v3 : Int32) (s : Sg), Fr cdN 0 s0 s → PQ (f_X12_inWords_1001_b14 n v2 v3 s) (fun _ s9 => Fr cdN 0 s0 s9) := by
  induction n with
  | zero => intro v2 v3 s _ r s9 e; cases e
  | succ n ih =>
    intro v2 v3 s hJ
    unfold f_X12_inWords_1001_b14
    refine pq_if (fun _ => ?_) (fun _ => ?_)
    · exact pq_s hJ
    · exact ft_X12_inWords_1001_b25 _ ih BIG _ _ _ _ hJ
theorem ft_X12_inWords_1001  (s : Sg) : PQ (f_X12_inWords_1001  s) (fun _ s9 => Fr cdN 0 s s9) := by
  have hJ : Fr cdN 0 s s := fr_r
  unfold f_X12_inWords_1001
  refine pq_if (fun _ => ?_) (fun _ => ?_)
  · exact ft_X12_inWords_1001_b14 BIG _ _ _ hJ
  · exact pq_s hJ

theorem ft_X12_fails (a1 : Int32) (s : Sg) : PQ (f_X12_fails a1 s) (fun _ s9 => Fr cdN 412316860416 s s9) := by
  have hJ : Fr cdN 412316860416 s s := fr_r
  unfold f_X12_fails
  refine pq_if (fun _ => ?_) (fun _ => ?_)
  · refine pq_if (fun _ => ?_) (fun _ => ?_)
    · refine pq_n (fun s1 es1 => ?_)
      have js1 : Fr cdN 412316860416 s s1 := by rw [es1]; exact (fr_i (fr_i hJ 38 rfl rfl) 37 rfl rfl)
      exact pq_s js1
    · refine pq_n (fun s2 es2 => ?_)
      have js2 : Fr cdN 412316860416 s s2 := by rw [es2]; exact (fr_i (fr_i hJ 38 rfl rfl) 37 rfl rfl)
      exact pq_s js2
  · exact pq_s hJ

theorem ft_X12_isName_1001  (s : Sg) : PQ (f_X12_isName_1001  s) (fun _ s9 => Fr cdN 0 s s9) := by
  have hJ : Fr cdN 0 s s := fr_r
  unfold f_X12_isName_1001
  refine pq_if (fun _ => ?_) (fun _ => ?_)
  · refine pq_if (fun _ => ?_) (fun _ => ?_)
    · exact pq_s hJ
    · refine pq_b (ft_X12_inWords_1001  _) (fun _ s2 gs2 => ?_)
      have js2 := fr_t hJ gs2 rfl
      refine pq_if (fun _ => ?_) (fun _ => ?_)
      · exact pq_s js2
      · exact pq_s js2
  · exact pq_s hJ

theorem ft_X12_nameHere_b7 {s0 : Sg} (n : Nat) : ∀ (v1 : Int64) (v3 : Int32) (s : Sg), Fr cdN 0 s0 s → PQ (f_X12_nameHere_b7 n v1 v3 s) (fun _ s9 => Fr cdN 0 s0 s9) := by
  induction n with
  | zero => intro v1 v3 s _ r s9 e; cases e
  | succ n ih =>
    intro v1 v3 s hJ
    unfold f_X12_nameHere_b7
    refine pq_if (fun _ => ?_) (fun _ => ?_)
    · exact pq_s hJ
    · refine pq_b (ft_X12_byteAt _ _) (fun _ s2 gs2 => ?_)
      have js2 := fr_t hJ gs2 rfl
      refine pq_n (fun x3 _ => ?_)
      exact ih _ _ _ js2
theorem ft_X12_nameHere  (s : Sg) : PQ (f_X12_nameHere  s) (fun _ s9 => Fr cdN 0 s s9) := by
  have hJ : Fr cdN 0 s s := fr_r
  unfold f_X12_nameHere
  exact ft_X12_nameHere_b7 BIG _ _ _ hJ

theorem ft_X12_findHere_b2 {s0 : Sg} (n : Nat) : ∀ (v1 : Int32) (v2 : Int32) (v3 : Int32) (s : Sg), Fr cdN 0 s0 s → PQ (f_X12_findHere_b2 n v1 v2 v3 s) (fun _ s9 => Fr cdN 0 s0 s9) := by
  induction n with
  | zero => intro v1 v2 v3 s _ r s9 e; cases e
  | succ n ih =>
    intro v1 v2 v3 s hJ
    unfold f_X12_findHere_b2
    refine pq_if (fun _ => ?_) (fun _ => ?_)
    · exact pq_s hJ
    · refine pq_c (fun _ => ?_)
      refine pq_b (ft_X12_nameHere  _) (fun _ s3 gs3 => ?_)
      have js3 := fr_t hJ gs3 rfl
      refine pq_if (fun _ => ?_) (fun _ => ?_)
      · exact pq_s js3
      · exact ih _ _ _ _ js3
theorem ft_X12_findHere (a1 : Int32) (a2 : Int32) (s : Sg) : PQ (f_X12_findHere a1 a2 s) (fun _ s9 => Fr cdN 0 s s9) := by
  have hJ : Fr cdN 0 s s := fr_r
  unfold f_X12_findHere
  exact ft_X12_findHere_b2 BIG _ _ _ _ hJ

theorem ft_X12_newOne (a1 : Int32) (a2 : Int32) (a3 : Int32) (s : Sg) : PQ (f_X12_newOne a1 a2 a3 s) (fun _ s9 => Fr cdN 476741369860 s s9) := by
  have hJ : Fr cdN 476741369860 s s := fr_r
  unfold f_X12_newOne
  refine pq_c (fun _ => ?_)
  refine pq_if (fun _ => ?_) (fun _ => ?_)
  · refine pq_b (ft_X12_fails _ _) (fun _ s3 gs3 => ?_)
    have js3 := fr_t hJ gs3 rfl
    refine pq_c (fun _ => ?_)
    exact pq_s js3
  · refine pq_b (ft_X12_ahead  _) (fun _ s5 gs5 => ?_)
    have js5 := fr_t hJ gs5 rfl
    refine pq_b (ft_X12_isName_1001  _) (fun _ s7 gs7 => ?_)
    have js7 := fr_t js5 gs7 rfl
    refine pq_if (fun _ => ?_) (fun _ => ?_)
    · refine pq_b (ft_X12_fails _ _) (fun _ s9 gs9 => ?_)
      have js9 := fr_t js7 gs9 rfl
      refine pq_c (fun _ => ?_)
      exact pq_s js9
    · refine pq_b (ft_X12_findHere _ _ _) (fun _ s11 gs11 => ?_)
      have js11 := fr_t js7 gs11 rfl
      refine pq_if (fun _ => ?_) (fun _ => ?_)
      · refine pq_b (ft_X12_findHere _ _ _) (fun _ s13 gs13 => ?_)
        have js13 := fr_t js11 gs13 rfl
        refine pq_if (fun _ => ?_) (fun _ => ?_)
        · refine pq_b (ft_X12_findHere _ _ _) (fun _ s15 gs15 => ?_)
          have js15 := fr_t js13 gs15 rfl
          refine pq_if (fun _ => ?_) (fun _ => ?_)
          · refine pq_b (ft_X12_findHere _ _ _) (fun _ s17 gs17 => ?_)
            have js17 := fr_t js15 gs17 rfl
            refine pq_if (fun _ => ?_) (fun _ => ?_)
            · refine pq_b (ft_X12_nameHere  _) (fun _ s19 gs19 => ?_)
              have js19 := fr_t js17 gs19 rfl
              refine pq_c (fun _ => ?_)
              refine pq_n (fun s21 es21 => ?_)
              have js21 : Fr cdN 476741369860 s s21 := by rw [es21]; exact (fr_l js19 2 rfl rfl)
              refine pq_b (ft_X12_ahead  _) (fun _ s23 gs23 => ?_)
              have js23 := fr_t js21 gs23 rfl
              exact pq_s js23
            · refine pq_b (ft_X12_fails _ _) (fun _ s25 gs25 => ?_)
              have js25 := fr_t js17 gs25 rfl
              refine pq_c (fun _ => ?_)
              exact pq_s js25
          · refine pq_b (ft_X12_fails _ _) (fun _ s27 gs27 => ?_)
            have js27 := fr_t js15 gs27 rfl
            refine pq_c (fun _ => ?_)
            exact pq_s js27
        · refine pq_b (ft_X12_fails _ _) (fun _ s29 gs29 => ?_)
          have js29 := fr_t js13 gs29 rfl
          refine pq_c (fun _ => ?_)
          exact pq_s js29
      · refine pq_b (ft_X12_fails _ _) (fun _ s31 gs31 => ?_)
        have js31 := fr_t js11 gs31 rfl
        refine pq_c (fun _ => ?_)
        exact pq_s js31

theorem ft_X12_isThere (a1 : Int32) (s : Sg) : PQ (f_X12_isThere a1 s) (fun _ s9 => Fr cdN 64424509440 s s9) := by
  have hJ : Fr cdN 64424509440 s s := fr_r
  unfold f_X12_isThere
  refine pq_b (ft_X12_inWords_1001  _) (fun _ s2 gs2 => ?_)
  have js2 := fr_t hJ gs2 rfl
  refine pq_if (fun _ => ?_) (fun _ => ?_)
  · refine pq_b (ft_X12_ahead  _) (fun _ s4 gs4 => ?_)
    have js4 := fr_t js2 gs4 rfl
    exact pq_s js4
  · exact pq_s js2

theorem ft_X12_number (a1 : Int32) (a2 : Int32) (a3 : Int32) (s : Sg) : PQ (f_X12_number a1 a2 a3 s) (fun _ s9 => Fr cdN 476741369858 s s9) := by
  have hJ : Fr cdN 476741369858 s s := fr_r
  unfold f_X12_number
  refine pq_if (fun _ => ?_) (fun _ => ?_)
  · refine pq_if (fun _ => ?_) (fun _ => ?_)
    · refine pq_b (ft_X12_fails _ _) (fun _ s2 gs2 => ?_)
      have js2 := fr_t hJ gs2 rfl
      refine pq_c (fun _ => ?_)
      exact pq_s js2
    · refine pq_if (fun _ => ?_) (fun _ => ?_)
      · refine pq_c (fun _ => ?_)
        refine pq_n (fun s4 es4 => ?_)
        have js4 : Fr cdN 476741369858 s s4 := by rw [es4]; exact (fr_i hJ 1 rfl rfl)
        refine pq_b (ft_X12_ahead  _) (fun _ s6 gs6 => ?_)
        have js6 := fr_t js4 gs6 rfl
        exact pq_s js6
      · refine pq_b (ft_X12_fails _ _) (fun _ s8 gs8 => ?_)
        have js8 := fr_t hJ gs8 rfl
        refine pq_c (fun _ => ?_)
        exact pq_s js8
  · refine pq_b (ft_X12_fails _ _) (fun _ s10 gs10 => ?_)
    have js10 := fr_t hJ gs10 rfl
    refine pq_c (fun _ => ?_)
    exact pq_s js10

theorem ft_X12_aHouse_b144 {s0 : Sg}  (s : Sg) (hJ : Fr cdN 476741369862 s0 s) : PQ (f_X12_aHouse_b144  s) (fun _ s9 => Fr cdN 476741369862 s0 s9) := by
  unfold f_X12_aHouse_b144
  exact pq_s (fr_i hJ 1 rfl rfl)
theorem ft_X12_aHouse_b106 {s0 : Sg} (v1 : Int32) (v3 : Int32) (s : Sg) (hJ : Fr cdN 476741369862 s0 s) : PQ (f_X12_aHouse_b106 v1 v3 s) (fun _ s9 => Fr cdN 476741369862 s0 s9) := by
  unfold f_X12_aHouse_b106
  refine pq_b (ft_X12_inWords_1001  _) (fun _ s11 gs11 => ?_)
  have js11 := fr_t hJ gs11 rfl
  refine pq_if (fun _ => ?_) (fun _ => ?_)
  · refine pq_if (fun _ => ?_) (fun _ => ?_)
    · refine pq_n (fun s12 es12 => ?_)
      have js12 : Fr cdN 476741369862 s0 s12 := by rw [es12]; exact (fr_i js11 1 rfl rfl)
      refine pq_b (ft_X12_ahead  _) (fun _ s14 gs14 => ?_)
      have js14 := fr_t js12 gs14 rfl
      exact ft_X12_aHouse_b144  _ js14
    · refine pq_b (ft_X12_fails _ _) (fun _ s16 gs16 => ?_)
      have js16 := fr_t js11 gs16 rfl
      refine pq_c (fun _ => ?_)
      exact pq_s js16
  · exact ft_X12_aHouse_b144  _ js11
theorem ft_X12_aHouse_b81 {s0 : Sg} (v1 : Int32) (v2 : Int32) (v3 : Int32) (s : Sg) (hJ : Fr cdN 476741369862 s0 s) : PQ (f_X12_aHouse_b81 v1 v2 v3 s) (fun _ s9 => Fr cdN 476741369862 s0 s9) := by
  unfold f_X12_aHouse_b81
  refine pq_b (ft_X12_isThere _ _) (fun _ s9 gs9 => ?_)
  have js9 := fr_t hJ gs9 rfl
  refine pq_if (fun _ => ?_) (fun _ => ?_)
  · exact ft_X12_aHouse_b106 _ _ _ js9
  · refine pq_b (ft_X12_number _ _ _ _) (fun _ s18 gs18 => ?_)
    have js18 := fr_t js9 gs18 rfl
    refine pq_if (fun _ => ?_) (fun _ => ?_)
    · exact pq_s js18
    · exact ft_X12_aHouse_b106 _ _ _ js18
theorem ft_X12_aHouse_b57 {s0 : Sg} (v1 : Int32) (v2 : Int32) (t0 : Int32) (s : Sg) (hJ : Fr cdN 476741369862 s0 s) : PQ (f_X12_aHouse_b57 v1 v2 t0 s) (fun _ s9 => Fr cdN 476741369862 s0 s9) := by
  unfold f_X12_aHouse_b57
  refine pq_b (ft_X12_isThere _ _) (fun _ s7 gs7 => ?_)
  have js7 := fr_t hJ gs7 rfl
  refine pq_if (fun _ => ?_) (fun _ => ?_)
  · exact ft_X12_aHouse_b81 _ _ _ _ js7
  · refine pq_b (ft_X12_number _ _ _ _) (fun _ s20 gs20 => ?_)
    have js20 := fr_t js7 gs20 rfl
    refine pq_if (fun _ => ?_) (fun _ => ?_)
    · exact pq_s js20
    · exact ft_X12_aHouse_b81 _ _ _ _ js20
theorem ft_X12_aHouse_b52 {s0 : Sg} (v1 : Int32) (v2 : Int32) (s : Sg) (hJ : Fr cdN 476741369862 s0 s) : PQ (f_X12_aHouse_b52 v1 v2 s) (fun _ s9 => Fr cdN 476741369862 s0 s9) := by
  unfold f_X12_aHouse_b52
  exact ft_X12_aHouse_b57 _ _ _ _ hJ
theorem ft_X12_aHouse  (s : Sg) : PQ (f_X12_aHouse  s) (fun _ s9 => Fr cdN 476741369862 s s9) := by
  have hJ : Fr cdN 476741369862 s s := fr_r
  unfold f_X12_aHouse
  refine pq_n (fun x1 _ => ?_)
  refine pq_b (ft_X12_newOne _ _ _ _) (fun _ s3 gs3 => ?_)
  have js3 := fr_t hJ gs3 rfl
  refine pq_if (fun _ => ?_) (fun _ => ?_)
  · exact pq_s js3
  · refine pq_b (ft_X12_inWords_1001  _) (fun _ s5 gs5 => ?_)
    have js5 := fr_t js3 gs5 rfl
    refine pq_if (fun _ => ?_) (fun _ => ?_)
    · exact ft_X12_aHouse_b52 _ _ _ js5
    · refine pq_b (ft_X12_inWords_1001  _) (fun _ s22 gs22 => ?_)
      have js22 := fr_t js5 gs22 rfl
      refine pq_if (fun _ => ?_) (fun _ => ?_)
      · exact ft_X12_aHouse_b52 _ _ _ js22
      · exact ft_X12_aHouse_b57 _ _ _ _ js22

theorem ft_X12_isSign (a1 : Int32) (s : Sg) : PQ (f_X12_isSign a1 s) (fun _ s9 => Fr cdN 0 s s9) := by
  have hJ : Fr cdN 0 s s := fr_r
  unfold f_X12_isSign
  refine pq_if (fun _ => ?_) (fun _ => ?_)
  · refine pq_if (fun _ => ?_) (fun _ => ?_)
    · exact pq_s hJ
    · exact pq_s hJ
  · exact pq_s hJ

theorem ft_X12_wantSign (a1 : Int32) (s : Sg) : PQ (f_X12_wantSign a1 s) (fun _ s9 => Fr cdN 476741369856 s s9) := by
  have hJ : Fr cdN 476741369856 s s := fr_r
  unfold f_X12_wantSign
  refine pq_b (ft_X12_isSign _ _) (fun _ s2 gs2 => ?_)
  have js2 := fr_t hJ gs2 rfl
  refine pq_if (fun _ => ?_) (fun _ => ?_)
  · refine pq_b (ft_X12_fails _ _) (fun _ s4 gs4 => ?_)
    have js4 := fr_t js2 gs4 rfl
    refine pq_c (fun _ => ?_)
    exact pq_s js4
  · refine pq_b (ft_X12_ahead  _) (fun _ s6 gs6 => ?_)
    have js6 := fr_t js2 gs6 rfl
    exact pq_s js6

theorem ft_X12_wantWord_1001 (a2 : Int32) (s : Sg) : PQ (f_X12_wantWord_1001 a2 s) (fun _ s9 => Fr cdN 476741369856 s s9) := by
  have hJ : Fr cdN 476741369856 s s := fr_r
  unfold f_X12_wantWord_1001
  refine pq_b (ft_X12_inWords_1001  _) (fun _ s2 gs2 => ?_)
  have js2 := fr_t hJ gs2 rfl
  refine pq_if (fun _ => ?_) (fun _ => ?_)
  · refine pq_b (ft_X12_ahead  _) (fun _ s4 gs4 => ?_)
    have js4 := fr_t js2 gs4 rfl
    exact pq_s js4
  · refine pq_b (ft_X12_fails _ _) (fun _ s6 gs6 => ?_)
    have js6 := fr_t js2 gs6 rfl
    refine pq_c (fun _ => ?_)
    exact pq_s js6

theorem ft_X12_houseHere  (s : Sg) : PQ (f_X12_houseHere  s) (fun _ s9 => Fr cdN 0 s s9) := by
  have hJ : Fr cdN 0 s s := fr_r
  unfold f_X12_houseHere
  refine pq_b (ft_X12_isName_1001  _) (fun _ s2 gs2 => ?_)
  have js2 := fr_t hJ gs2 rfl
  refine pq_if (fun _ => ?_) (fun _ => ?_)
  · exact pq_s js2
  · refine pq_b (ft_X12_findHere _ _ _) (fun _ s4 gs4 => ?_)
    have js4 := fr_t js2 gs4 rfl
    exact pq_s js4

theorem ft_X12_oldOne (a1 : Int32) (a2 : Int32) (a3 : Int32) (s : Sg) : PQ (f_X12_oldOne a1 a2 a3 s) (fun _ s9 => Fr cdN 476741369858 s s9) := by
  have hJ : Fr cdN 476741369858 s s := fr_r
  unfold f_X12_oldOne
  refine pq_b (ft_X12_isName_1001  _) (fun _ s2 gs2 => ?_)
  have js2 := fr_t hJ gs2 rfl
  refine pq_if (fun _ => ?_) (fun _ => ?_)
  · refine pq_b (ft_X12_fails _ _) (fun _ s4 gs4 => ?_)
    have js4 := fr_t js2 gs4 rfl
    refine pq_c (fun _ => ?_)
    exact pq_s js4
  · refine pq_b (ft_X12_findHere _ _ _) (fun _ s6 gs6 => ?_)
    have js6 := fr_t js2 gs6 rfl
    refine pq_c (fun _ => ?_)
    refine pq_if (fun _ => ?_) (fun _ => ?_)
    · refine pq_b (ft_X12_fails _ _) (fun _ s9 gs9 => ?_)
      have js9 := fr_t (fr_i js6 1 rfl rfl) gs9 rfl
      refine pq_c (fun _ => ?_)
      exact pq_s js9
    · refine pq_b (ft_X12_ahead  _) (fun _ s11 gs11 => ?_)
      have js11 := fr_t (fr_i js6 1 rfl rfl) gs11 rfl
      exact pq_s js11

theorem ft_X12_twoHouses_b65 {s0 : Sg} (k_3 : Int32 → Int32 → Int32 → Int32 → Sg → Option (Int32 × Sg)) (hk_3 : ∀ (v1 : Int32) (v2 : Int32) (v3 : Int32) (v4 : Int32) (s : Sg), Fr cdN 476741369858 s0 s → PQ (k_3 v1 v2 v3 v4 s) (fun _ s9 => Fr cdN 476741369858 s0 s9)) (v1 : Int32) (v2 : Int32) (v3 : Int32) (v4 : Int32) (s : Sg) (hJ : Fr cdN 476741369858 s0 s) : PQ (f_X12_twoHouses_b65 k_3 v1 v2 v3 v4 s) (fun _ s9 => Fr cdN 476741369858 s0 s9) := by
  unfold f_X12_twoHouses_b65
  refine pq_b (ft_X12_oldOne _ _ _ _) (fun _ s4 gs4 => ?_)
  have js4 := fr_t hJ gs4 rfl
  refine pq_if (fun _ => ?_) (fun _ => ?_)
  · exact pq_s js4
  · refine pq_if (fun _ => ?_) (fun _ => ?_)
    · refine pq_b (ft_X12_wantWord_1001 _ _) (fun _ s6 gs6 => ?_)
      have js6 := fr_t js4 gs6 rfl
      refine pq_if (fun _ => ?_) (fun _ => ?_)
      · exact pq_s js6
      · exact hk_3 _ _ _ _ _ js6
    · exact hk_3 _ _ _ _ _ js4
theorem ft_X12_twoHouses_b42 {s0 : Sg} (k_3 : Int32 → Int32 → Int32 → Int32 → Sg → Option (Int32 × Sg)) (hk_3 : ∀ (v1 : Int32) (v2 : Int32) (v3 : Int32) (v4 : Int32) (s : Sg), Fr cdN 476741369858 s0 s → PQ (k_3 v1 v2 v3 v4 s) (fun _ s9 => Fr cdN 476741369858 s0 s9)) (v1 : Int32) (v2 : Int32) (v3 : Int32) (v4 : Int32) (v5 : Int32) (s : Sg) (hJ : Fr cdN 476741369858 s0 s) : PQ (f_X12_twoHouses_b42 k_3 v1 v2 v3 v4 v5 s) (fun _ s9 => Fr cdN 476741369858 s0 s9) := by
  unfold f_X12_twoHouses_b42
  refine pq_if (fun _ => ?_) (fun _ => ?_)
  · refine pq_c (fun _ => ?_)
    refine pq_if (fun _ => ?_) (fun _ => ?_)
    · refine pq_b (ft_X12_fails _ _) (fun _ s9 gs9 => ?_)
      have js9 := fr_t hJ gs9 rfl
      refine pq_c (fun _ => ?_)
      exact pq_s js9
    · exact ft_X12_twoHouses_b65 _ hk_3 _ _ _ _ _ hJ
  · exact ft_X12_twoHouses_b65 _ hk_3 _ _ _ _ _ hJ
theorem ft_X12_twoHouses_b3 {s0 : Sg} (n : Nat) : ∀ (v1 : Int32) (v2 : Int32) (v3 : Int32) (v4 : Int32) (s : Sg), Fr cdN 476741369858 s0 s → PQ (f_X12_twoHouses_b3 n v1 v2 v3 v4 s) (fun _ s9 => Fr cdN 476741369858 s0 s9) := by
  induction n with
  | zero => intro v1 v2 v3 v4 s _ r s9 e; cases e
  | succ n ih =>
    intro v1 v2 v3 v4 s hJ
    unfold f_X12_twoHouses_b3
    refine pq_if (fun _ => ?_) (fun _ => ?_)
    · exact pq_s hJ
    · refine pq_b (ft_X12_houseHere  _) (fun _ s2 gs2 => ?_)
      have js2 := fr_t hJ gs2 rfl
      refine pq_if (fun _ => ?_) (fun _ => ?_)
      · exact ft_X12_twoHouses_b65 _ ih _ _ _ _ _ js2
      · refine pq_if (fun _ => ?_) (fun _ => ?_)
        · exact ft_X12_twoHouses_b42 _ ih _ _ _ _ _ _ js2
        · refine pq_if (fun _ => ?_) (fun _ => ?_)
          · refine pq_b (ft_X12_fails _ _) (fun _ s11 gs11 => ?_)
            have js11 := fr_t js2 gs11 rfl
            refine pq_c (fun _ => ?_)
            exact pq_s js11
          · exact ft_X12_twoHouses_b42 _ ih _ _ _ _ _ _ js2
theorem ft_X12_twoHouses (a1 : Int32) (a2 : Int32) (a3 : Int32) (s : Sg) : PQ (f_X12_twoHouses a1 a2 a3 s) (fun _ s9 => Fr cdN 476741369858 s s9) := by
  have hJ : Fr cdN 476741369858 s s := fr_r
  unfold f_X12_twoHouses
  exact ft_X12_twoHouses_b3 BIG _ _ _ _ _ hJ

theorem ft_X12_aQuarrel  (s : Sg) : PQ (f_X12_aQuarrel  s) (fun _ s9 => Fr cdN 476741369862 s s9) := by
  have hJ : Fr cdN 476741369862 s s := fr_r
  unfold f_X12_aQuarrel
  refine pq_n (fun x1 _ => ?_)
  refine pq_b (ft_X12_newOne _ _ _ _) (fun _ s3 gs3 => ?_)
  have js3 := fr_t hJ gs3 rfl
  refine pq_if (fun _ => ?_) (fun _ => ?_)
  · exact pq_s js3
  · refine pq_b (ft_X12_wantWord_1001 _ _) (fun _ s5 gs5 => ?_)
    have js5 := fr_t js3 gs5 rfl
    refine pq_if (fun _ => ?_) (fun _ => ?_)
    · exact pq_s js5
    · refine pq_b (ft_X12_twoHouses _ _ _ _) (fun _ s7 gs7 => ?_)
      have js7 := fr_t js5 gs7 rfl
      refine pq_if (fun _ => ?_) (fun _ => ?_)
      · exact pq_s js7
      · refine pq_b (ft_X12_wantWord_1001 _ _) (fun _ s9 gs9 => ?_)
        have js9 := fr_t js7 gs9 rfl
        refine pq_if (fun _ => ?_) (fun _ => ?_)
        · exact pq_s js9
        · refine pq_b (ft_X12_number _ _ _ _) (fun _ s11 gs11 => ?_)
          have js11 := fr_t js9 gs11 rfl
          refine pq_if (fun _ => ?_) (fun _ => ?_)
          · exact pq_s js11
          · refine pq_n (fun s12 es12 => ?_)
            have js12 : Fr cdN 476741369862 s s12 := by rw [es12]; exact (fr_i js11 1 rfl rfl)
            exact pq_s js12

theorem ft_X12_aCat  (s : Sg) : PQ (f_X12_aCat  s) (fun _ s9 => Fr cdN 476741369862 s s9) := by
  have hJ : Fr cdN 476741369862 s s := fr_r
  unfold f_X12_aCat
  refine pq_n (fun x1 _ => ?_)
  refine pq_b (ft_X12_newOne _ _ _ _) (fun _ s3 gs3 => ?_)
  have js3 := fr_t hJ gs3 rfl
  refine pq_if (fun _ => ?_) (fun _ => ?_)
  · exact pq_s js3
  · refine pq_b (ft_X12_wantWord_1001 _ _) (fun _ s5 gs5 => ?_)
    have js5 := fr_t js3 gs5 rfl
    refine pq_if (fun _ => ?_) (fun _ => ?_)
    · exact pq_s js5
    · refine pq_b (ft_X12_twoHouses _ _ _ _) (fun _ s7 gs7 => ?_)
      have js7 := fr_t js5 gs7 rfl
      refine pq_if (fun _ => ?_) (fun _ => ?_)
      · exact pq_s js7
      · refine pq_b (ft_X12_wantWord_1001 _ _) (fun _ s9 gs9 => ?_)
        have js9 := fr_t js7 gs9 rfl
        refine pq_if (fun _ => ?_) (fun _ => ?_)
        · exact pq_s js9
        · refine pq_b (ft_X12_number _ _ _ _) (fun _ s11 gs11 => ?_)
          have js11 := fr_t js9 gs11 rfl
          refine pq_if (fun _ => ?_) (fun _ => ?_)
          · exact pq_s js11
          · refine pq_n (fun s12 es12 => ?_)
            have js12 : Fr cdN 476741369862 s s12 := by rw [es12]; exact (fr_i js11 1 rfl rfl)
            exact pq_s js12

theorem ft_X12_aGrocer_b101 {s0 : Sg}  (s : Sg) (hJ : Fr cdN 476741369862 s0 s) : PQ (f_X12_aGrocer_b101  s) (fun _ s9 => Fr cdN 476741369862 s0 s9) := by
  unfold f_X12_aGrocer_b101
  exact pq_s (fr_i hJ 1 rfl rfl)
theorem ft_X12_aGrocer  (s : Sg) : PQ (f_X12_aGrocer  s) (fun _ s9 => Fr cdN 476741369862 s s9) := by
  have hJ : Fr cdN 476741369862 s s := fr_r
  unfold f_X12_aGrocer
  refine pq_n (fun x1 _ => ?_)
  refine pq_b (ft_X12_newOne _ _ _ _) (fun _ s3 gs3 => ?_)
  have js3 := fr_t hJ gs3 rfl
  refine pq_if (fun _ => ?_) (fun _ => ?_)
  · exact pq_s js3
  · refine pq_b (ft_X12_wantWord_1001 _ _) (fun _ s5 gs5 => ?_)
    have js5 := fr_t js3 gs5 rfl
    refine pq_if (fun _ => ?_) (fun _ => ?_)
    · exact pq_s js5
    · refine pq_b (ft_X12_number _ _ _ _) (fun _ s7 gs7 => ?_)
      have js7 := fr_t js5 gs7 rfl
      refine pq_if (fun _ => ?_) (fun _ => ?_)
      · exact pq_s js7
      · refine pq_b (ft_X12_wantWord_1001 _ _) (fun _ s9 gs9 => ?_)
        have js9 := fr_t js7 gs9 rfl
        refine pq_if (fun _ => ?_) (fun _ => ?_)
        · exact pq_s js9
        · refine pq_b (ft_X12_number _ _ _ _) (fun _ s11 gs11 => ?_)
          have js11 := fr_t js9 gs11 rfl
          refine pq_if (fun _ => ?_) (fun _ => ?_)
          · exact pq_s js11
          · refine pq_b (ft_X12_isThere _ _) (fun _ s13 gs13 => ?_)
            have js13 := fr_t js11 gs13 rfl
            refine pq_if (fun _ => ?_) (fun _ => ?_)
            · exact ft_X12_aGrocer_b101  _ js13
            · refine pq_b (ft_X12_number _ _ _ _) (fun _ s15 gs15 => ?_)
              have js15 := fr_t js13 gs15 rfl
              refine pq_if (fun _ => ?_) (fun _ => ?_)
              · exact pq_s js15
              · exact ft_X12_aGrocer_b101  _ js15

theorem ft_X12_once (a1 : Int32) (s : Sg) : PQ (f_X12_once a1 s) (fun _ s9 => Fr cdN 1576252997634 s s9) := by
  have hJ : Fr cdN 1576252997634 s s := fr_r
  unfold f_X12_once
  refine pq_b (ft_X12_ahead  _) (fun _ s2 gs2 => ?_)
  have js2 := fr_t hJ gs2 rfl
  refine pq_b (ft_X12_inWords_1001  _) (fun _ s4 gs4 => ?_)
  have js4 := fr_t js2 gs4 rfl
  refine pq_if (fun _ => ?_) (fun _ => ?_)
  · refine pq_if (fun _ => ?_) (fun _ => ?_)
    · refine pq_b (ft_X12_fails _ _) (fun _ s6 gs6 => ?_)
      have js6 := fr_t js4 gs6 rfl
      refine pq_c (fun _ => ?_)
      exact pq_s js6
    · refine pq_n (fun s7 es7 => ?_)
      have js7 : Fr cdN 1576252997634 s s7 := by rw [es7]; exact (fr_i js4 40 rfl rfl)
      refine pq_b (ft_X12_ahead  _) (fun _ s9 gs9 => ?_)
      have js9 := fr_t js7 gs9 rfl
      refine pq_if (fun _ => ?_) (fun _ => ?_)
      · refine pq_b (ft_X12_number _ _ _ _) (fun _ s11 gs11 => ?_)
        have js11 := fr_t js9 gs11 rfl
        refine pq_c (fun _ => ?_)
        exact pq_s js11
      · exact pq_s (fr_i js9 1 rfl rfl)
  · refine pq_b (ft_X12_fails _ _) (fun _ s13 gs13 => ?_)
    have js13 := fr_t js4 gs13 rfl
    refine pq_c (fun _ => ?_)
    exact pq_s js13

theorem ft_X12_streetPart_b102 {s0 : Sg} (v1 : Int32) (s : Sg) (hJ : Fr cdN 1576252997638 s0 s) : PQ (f_X12_streetPart_b102 v1 s) (fun _ s9 => Fr cdN 1576252997638 s0 s9) := by
  unfold f_X12_streetPart_b102
  refine pq_if (fun _ => ?_) (fun _ => ?_)
  · exact pq_s hJ
  · refine pq_b (ft_X12_wantSign _ _) (fun _ s6 gs6 => ?_)
    have js6 := fr_t hJ gs6 rfl
    refine pq_if (fun _ => ?_) (fun _ => ?_)
    · exact pq_s js6
    · exact pq_s js6
theorem ft_X12_streetPart  (s : Sg) : PQ (f_X12_streetPart  s) (fun _ s9 => Fr cdN 1576252997638 s s9) := by
  have hJ : Fr cdN 1576252997638 s s := fr_r
  unfold f_X12_streetPart
  refine pq_b (ft_X12_inWords_1001  _) (fun _ s2 gs2 => ?_)
  have js2 := fr_t hJ gs2 rfl
  refine pq_if (fun _ => ?_) (fun _ => ?_)
  · refine pq_b (ft_X12_aHouse  _) (fun _ s4 gs4 => ?_)
    have js4 := fr_t js2 gs4 rfl
    exact ft_X12_streetPart_b102 _ _ js4
  · refine pq_if (fun _ => ?_) (fun _ => ?_)
    · refine pq_b (ft_X12_aQuarrel  _) (fun _ s8 gs8 => ?_)
      have js8 := fr_t js2 gs8 rfl
      exact ft_X12_streetPart_b102 _ _ js8
    · refine pq_if (fun _ => ?_) (fun _ => ?_)
      · refine pq_b (ft_X12_aCat  _) (fun _ s10 gs10 => ?_)
        have js10 := fr_t js2 gs10 rfl
        exact ft_X12_streetPart_b102 _ _ js10
      · refine pq_if (fun _ => ?_) (fun _ => ?_)
        · refine pq_b (ft_X12_aGrocer  _) (fun _ s12 gs12 => ?_)
          have js12 := fr_t js2 gs12 rfl
          exact ft_X12_streetPart_b102 _ _ js12
        · refine pq_if (fun _ => ?_) (fun _ => ?_)
          · refine pq_b (ft_X12_once _ _) (fun _ s14 gs14 => ?_)
            have js14 := fr_t js2 gs14 rfl
            exact ft_X12_streetPart_b102 _ _ js14
          · refine pq_if (fun _ => ?_) (fun _ => ?_)
            · refine pq_b (ft_X12_once _ _) (fun _ s16 gs16 => ?_)
              have js16 := fr_t js2 gs16 rfl
              exact ft_X12_streetPart_b102 _ _ js16
            · refine pq_b (ft_X12_fails _ _) (fun _ s18 gs18 => ?_)
              have js18 := fr_t js2 gs18 rfl
              refine pq_c (fun _ => ?_)
              exact pq_s js18

theorem ft_X12_street_b90 {s0 : Sg} (n : Nat) : ∀ (v3 : Int32) (s : Sg), Fr cdN 1644976668678 s0 s → PQ (f_X12_street_b90 n v3 s) (fun _ s9 => Fr cdN 1644976668678 s0 s9) := by
  induction n with
  | zero => intro v3 s _ r s9 e; cases e
  | succ n ih =>
    intro v3 s hJ
    unfold f_X12_street_b90
    refine pq_if (fun _ => ?_) (fun _ => ?_)
    · refine pq_b (ft_X12_taken _ _) (fun _ s8 gs8 => ?_)
      have js8 := fr_t hJ gs8 rfl
      exact pq_s js8
    · refine pq_c (fun _ => ?_)
      refine pq_c (fun _ => ?_)
      refine pq_n (fun s11 es11 => ?_)
      have js11 : Fr cdN 1644976668678 s0 s11 := by rw [es11]; exact (fr_l hJ 2 rfl rfl)
      exact ih _ _ js11
theorem ft_X12_street_b59 {s0 : Sg} (n : Nat) : ∀ (v3 : Int32) (s : Sg), Fr cdN 1644976668678 s0 s → PQ (f_X12_street_b59 n v3 s) (fun _ s9 => Fr cdN 1644976668678 s0 s9) := by
  induction n with
  | zero => intro v3 s _ r s9 e; cases e
  | succ n ih =>
    intro v3 s hJ
    unfold f_X12_street_b59
    refine pq_if (fun _ => ?_) (fun _ => ?_)
    · exact ft_X12_street_b90 BIG _ _ hJ
    · refine pq_c (fun _ => ?_)
      refine pq_c (fun _ => ?_)
      refine pq_n (fun s14 es14 => ?_)
      have js14 : Fr cdN 1644976668678 s0 s14 := by rw [es14]; exact (fr_i hJ 1 rfl rfl)
      exact ih _ _ js14
theorem ft_X12_street_b50 {s0 : Sg}  (s : Sg) (hJ : Fr cdN 1644976668678 s0 s) : PQ (f_X12_street_b50  s) (fun _ s9 => Fr cdN 1644976668678 s0 s9) := by
  unfold f_X12_street_b50
  refine pq_if (fun _ => ?_) (fun _ => ?_)
  · exact ft_X12_street_b59 BIG _ _ hJ
  · refine pq_b (ft_X12_taken _ _) (fun _ s16 gs16 => ?_)
    have js16 := fr_t hJ gs16 rfl
    exact pq_s js16
theorem ft_X12_street_b31 {s0 : Sg} (n : Nat) : ∀ (v2 : Int32) (s : Sg), Fr cdN 1644976668678 s0 s → PQ (f_X12_street_b31 n v2 s) (fun _ s9 => Fr cdN 1644976668678 s0 s9) := by
  induction n with
  | zero => intro v2 s _ r s9 e; cases e
  | succ n ih =>
    intro v2 s hJ
    unfold f_X12_street_b31
    refine pq_if (fun _ => ?_) (fun _ => ?_)
    · exact ft_X12_street_b50  _ hJ
    · refine pq_if (fun _ => ?_) (fun _ => ?_)
      · exact ft_X12_street_b50  _ hJ
      · refine pq_b (ft_X12_streetPart  _) (fun _ s18 gs18 => ?_)
        have js18 := fr_t hJ gs18 rfl
        exact ih _ _ js18

theorem ft_X12_isGone (a1 : Int32) (s : Sg) : PQ (f_X12_isGone a1 s) (fun _ s9 => Fr cdN 0 s s9) := by
  have hJ : Fr cdN 0 s s := fr_r
  unfold f_X12_isGone
  refine pq_if (fun _ => ?_) (fun _ => ?_)
  · exact pq_s hJ
  · exact pq_s hJ

theorem ft_X12_stepTo_b24 {s0 : Sg} (v1 : Int32) (t0 : Int32) (s : Sg) (hJ : Fr cdN 476741369858 s0 s) : PQ (f_X12_stepTo_b24 v1 t0 s) (fun _ s9 => Fr cdN 476741369858 s0 s9) := by
  unfold f_X12_stepTo_b24
  refine pq_if (fun _ => ?_) (fun _ => ?_)
  · refine pq_b (ft_X12_oldOne _ _ _ _) (fun _ s4 gs4 => ?_)
    have js4 := fr_t hJ gs4 rfl
    refine pq_c (fun _ => ?_)
    exact pq_s js4
  · refine pq_b (ft_X12_isGone _ _) (fun _ s6 gs6 => ?_)
    have js6 := fr_t hJ gs6 rfl
    refine pq_if (fun _ => ?_) (fun _ => ?_)
    · refine pq_b (ft_X12_oldOne _ _ _ _) (fun _ s8 gs8 => ?_)
      have js8 := fr_t js6 gs8 rfl
      refine pq_c (fun _ => ?_)
      exact pq_s js8
    · refine pq_b (ft_X12_fails _ _) (fun _ s10 gs10 => ?_)
      have js10 := fr_t js6 gs10 rfl
      refine pq_c (fun _ => ?_)
      exact pq_s js10
theorem ft_X12_stepTo (a1 : Int32) (s : Sg) : PQ (f_X12_stepTo a1 s) (fun _ s9 => Fr cdN 476741369858 s s9) := by
  have hJ : Fr cdN 476741369858 s s := fr_r
  unfold f_X12_stepTo
  refine pq_b (ft_X12_isName_1001  _) (fun _ s2 gs2 => ?_)
  have js2 := fr_t hJ gs2 rfl
  refine pq_if (fun _ => ?_) (fun _ => ?_)
  · exact ft_X12_stepTo_b24 _ _ _ js2
  · refine pq_b (ft_X12_findHere _ _ _) (fun _ s12 gs12 => ?_)
    have js12 := fr_t js2 gs12 rfl
    exact ft_X12_stepTo_b24 _ _ _ js12

theorem ft_X12_test_b101 {s0 : Sg} (v1 : Int32) (s : Sg) (hJ : Fr cdN 476741369858 s0 s) : PQ (f_X12_test_b101 v1 s) (fun _ s9 => Fr cdN 476741369858 s0 s9) := by
  unfold f_X12_test_b101
  refine pq_c (fun _ => ?_)
  refine pq_n (fun s18 es18 => ?_)
  have js18 : Fr cdN 476741369858 s0 s18 := by rw [es18]; exact (fr_i hJ 1 rfl rfl)
  refine pq_b (ft_X12_ahead  _) (fun _ s20 gs20 => ?_)
  have js20 := fr_t js18 gs20 rfl
  refine pq_b (ft_X12_number _ _ _ _) (fun _ s22 gs22 => ?_)
  have js22 := fr_t js20 gs22 rfl
  refine pq_c (fun _ => ?_)
  exact pq_s js22
theorem ft_X12_test (a1 : Int32) (s : Sg) : PQ (f_X12_test a1 s) (fun _ s9 => Fr cdN 476741369858 s s9) := by
  have hJ : Fr cdN 476741369858 s s := fr_r
  unfold f_X12_test
  refine pq_b (ft_X12_inWords_1001  _) (fun _ s2 gs2 => ?_)
  have js2 := fr_t hJ gs2 rfl
  refine pq_if (fun _ => ?_) (fun _ => ?_)
  · refine pq_c (fun _ => ?_)
    refine pq_n (fun s4 es4 => ?_)
    have js4 : Fr cdN 476741369858 s s4 := by rw [es4]; exact (fr_i js2 1 rfl rfl)
    refine pq_b (ft_X12_ahead  _) (fun _ s6 gs6 => ?_)
    have js6 := fr_t js4 gs6 rfl
    refine pq_if (fun _ => ?_) (fun _ => ?_)
    · refine pq_b (ft_X12_stepTo _ _) (fun _ s8 gs8 => ?_)
      have js8 := fr_t js6 gs8 rfl
      refine pq_if (fun _ => ?_) (fun _ => ?_)
      · exact pq_s js8
      · refine pq_b (ft_X12_isSign _ _) (fun _ s10 gs10 => ?_)
        have js10 := fr_t js8 gs10 rfl
        refine pq_if (fun _ => ?_) (fun _ => ?_)
        · refine pq_b (ft_X12_isSign _ _) (fun _ s12 gs12 => ?_)
          have js12 := fr_t js10 gs12 rfl
          refine pq_if (fun _ => ?_) (fun _ => ?_)
          · refine pq_b (ft_X12_isSign _ _) (fun _ s14 gs14 => ?_)
            have js14 := fr_t js12 gs14 rfl
            refine pq_if (fun _ => ?_) (fun _ => ?_)
            · refine pq_b (ft_X12_fails _ _) (fun _ s16 gs16 => ?_)
              have js16 := fr_t js14 gs16 rfl
              refine pq_c (fun _ => ?_)
              exact pq_s js16
            · exact ft_X12_test_b101 _ _ js14
          · exact ft_X12_test_b101 _ _ js12
        · exact ft_X12_test_b101 _ _ js10
    · refine pq_b (ft_X12_oldOne _ _ _ _) (fun _ s24 gs24 => ?_)
      have js24 := fr_t js6 gs24 rfl
      refine pq_c (fun _ => ?_)
      exact pq_s js24
  · refine pq_b (ft_X12_fails _ _) (fun _ s26 gs26 => ?_)
    have js26 := fr_t js2 gs26 rfl
    refine pq_c (fun _ => ?_)
    exact pq_s js26

theorem ft_X12_dayOrder (a1 : Int32) (a2 : Int32) (s : Sg) : PQ (f_X12_dayOrder a1 a2 s) (fun _ s9 => Fr cdN 476741369858 s s9) := by
  have hJ : Fr cdN 476741369858 s s := fr_r
  unfold f_X12_dayOrder
  refine pq_if (fun _ => ?_) (fun _ => ?_)
  · refine pq_b (ft_X12_number _ _ _ _) (fun _ s2 gs2 => ?_)
    have js2 := fr_t hJ gs2 rfl
    refine pq_c (fun _ => ?_)
    exact pq_s js2
  · refine pq_if (fun _ => ?_) (fun _ => ?_)
    · exact pq_s hJ
    · refine pq_if (fun _ => ?_) (fun _ => ?_)
      · exact pq_s hJ
      · refine pq_if (fun _ => ?_) (fun _ => ?_)
        · exact pq_s hJ
        · refine pq_if (fun _ => ?_) (fun _ => ?_)
          · exact pq_s hJ
          · refine pq_if (fun _ => ?_) (fun _ => ?_)
            · exact pq_s hJ
            · refine pq_if (fun _ => ?_) (fun _ => ?_)
              · exact pq_s hJ
              · refine pq_if (fun _ => ?_) (fun _ => ?_)
                · exact pq_s hJ
                · refine pq_if (fun _ => ?_) (fun _ => ?_)
                  · exact pq_s hJ
                  · refine pq_if (fun _ => ?_) (fun _ => ?_)
                    · exact pq_s hJ
                    · refine pq_if (fun _ => ?_) (fun _ => ?_)
                      · exact pq_s hJ
                      · refine pq_if (fun _ => ?_) (fun _ => ?_)
                        · exact pq_s hJ
                        · refine pq_if (fun _ => ?_) (fun _ => ?_)
                          · exact pq_s hJ
                          · refine pq_if (fun _ => ?_) (fun _ => ?_)
                            · exact pq_s hJ
                            · refine pq_if (fun _ => ?_) (fun _ => ?_)
                              · exact pq_s hJ
                              · refine pq_if (fun _ => ?_) (fun _ => ?_)
                                · refine pq_b (ft_X12_stepTo _ _) (fun _ s4 gs4 => ?_)
                                  have js4 := fr_t hJ gs4 rfl
                                  refine pq_if (fun _ => ?_) (fun _ => ?_)
                                  · exact pq_s js4
                                  · refine pq_b (ft_X12_number _ _ _ _) (fun _ s6 gs6 => ?_)
                                    have js6 := fr_t js4 gs6 rfl
                                    refine pq_if (fun _ => ?_) (fun _ => ?_)
                                    · exact pq_s js6
                                    · exact pq_s js6
                                · refine pq_if (fun _ => ?_) (fun _ => ?_)
                                  · refine pq_b (ft_X12_oldOne _ _ _ _) (fun _ s8 gs8 => ?_)
                                    have js8 := fr_t hJ gs8 rfl
                                    refine pq_if (fun _ => ?_) (fun _ => ?_)
                                    · exact pq_s js8
                                    · refine pq_b (ft_X12_number _ _ _ _) (fun _ s10 gs10 => ?_)
                                      have js10 := fr_t js8 gs10 rfl
                                      refine pq_if (fun _ => ?_) (fun _ => ?_)
                                      · exact pq_s js10
                                      · refine pq_b (ft_X12_wantWord_1001 _ _) (fun _ s12 gs12 => ?_)
                                        have js12 := fr_t js10 gs12 rfl
                                        refine pq_if (fun _ => ?_) (fun _ => ?_)
                                        · exact pq_s js12
                                        · refine pq_b (ft_X12_stepTo _ _) (fun _ s14 gs14 => ?_)
                                          have js14 := fr_t js12 gs14 rfl
                                          refine pq_if (fun _ => ?_) (fun _ => ?_)
                                          · exact pq_s js14
                                          · exact pq_s js14
                                  · refine pq_if (fun _ => ?_) (fun _ => ?_)
                                    · refine pq_b (ft_X12_stepTo _ _) (fun _ s16 gs16 => ?_)
                                      have js16 := fr_t hJ gs16 rfl
                                      refine pq_c (fun _ => ?_)
                                      exact pq_s js16
                                    · refine pq_if (fun _ => ?_) (fun _ => ?_)
                                      · refine pq_b (ft_X12_number _ _ _ _) (fun _ s18 gs18 => ?_)
                                        have js18 := fr_t hJ gs18 rfl
                                        refine pq_c (fun _ => ?_)
                                        exact pq_s js18
                                      · refine pq_if (fun _ => ?_) (fun _ => ?_)
                                        · exact pq_s hJ
                                        · refine pq_if (fun _ => ?_) (fun _ => ?_)
                                          · refine pq_b (ft_X12_test _ _) (fun _ s20 gs20 => ?_)
                                            have js20 := fr_t hJ gs20 rfl
                                            refine pq_c (fun _ => ?_)
                                            exact pq_s js20
                                          · refine pq_if (fun _ => ?_) (fun _ => ?_)
                                            · refine pq_b (ft_X12_number _ _ _ _) (fun _ s22 gs22 => ?_)
                                              have js22 := fr_t hJ gs22 rfl
                                              refine pq_c (fun _ => ?_)
                                              exact pq_s js22
                                            · exact pq_s hJ

theorem ft_X12_dayStep_b227 {s0 : Sg} (v1 : Int32) (v2 : Int32) (v3 : Int32) (s : Sg) (hJ : Fr cdN 13670880903426 s0 s) : PQ (f_X12_dayStep_b227 v1 v2 v3 s) (fun _ s9 => Fr cdN 13670880903426 s0 s9) := by
  unfold f_X12_dayStep_b227
  refine pq_if (fun _ => ?_) (fun _ => ?_)
  · refine pq_c (fun _ => ?_)
    refine pq_c (fun _ => ?_)
    refine pq_n (fun s14 es14 => ?_)
    have js14 : Fr cdN 13670880903426 s0 s14 := by rw [es14]; exact (fr_i (fr_i hJ 42 rfl rfl) 1 rfl rfl)
    refine pq_c (fun _ => ?_)
    refine pq_c (fun _ => ?_)
    refine pq_n (fun s17 es17 => ?_)
    have js17 : Fr cdN 13670880903426 s0 s17 := by rw [es17]; exact (fr_i js14 1 rfl rfl)
    refine pq_b (ft_X12_wantSign _ _) (fun _ s19 gs19 => ?_)
    have js19 := fr_t js17 gs19 rfl
    refine pq_c (fun _ => ?_)
    exact pq_s js19
  · refine pq_b (ft_X12_wantSign _ _) (fun _ s21 gs21 => ?_)
    have js21 := fr_t hJ gs21 rfl
    refine pq_c (fun _ => ?_)
    exact pq_s js21
theorem ft_X12_dayStep_b152 {s0 : Sg} (n : Nat) : ∀ (v1 : Int32) (v2 : Int32) (v3 : Int32) (v4 : Int32) (v5 : Int32) (s : Sg), Fr cdN 13670880903426 s0 s → PQ (f_X12_dayStep_b152 n v1 v2 v3 v4 v5 s) (fun _ s9 => Fr cdN 13670880903426 s0 s9) := by
  induction n with
  | zero => intro v1 v2 v3 v4 v5 s _ r s9 e; cases e
  | succ n ih =>
    intro v1 v2 v3 v4 v5 s hJ
    unfold f_X12_dayStep_b152
    refine pq_if (fun _ => ?_) (fun _ => ?_)
    · refine pq_b (ft_X12_ahead  _) (fun _ s9 gs9 => ?_)
      have js9 := fr_t (fr_i hJ 1 rfl rfl) gs9 rfl
      refine pq_b (ft_X12_dayOrder _ _ _) (fun _ s11 gs11 => ?_)
      have js11 := fr_t js9 gs11 rfl
      refine pq_if (fun _ => ?_) (fun _ => ?_)
      · exact pq_s js11
      · refine pq_if (fun _ => ?_) (fun _ => ?_)
        · exact ft_X12_dayStep_b227 _ _ _ _ js11
        · refine pq_c (fun _ => ?_)
          refine pq_n (fun s23 es23 => ?_)
          have js23 : Fr cdN 13670880903426 s0 s23 := by rw [es23]; exact (fr_i js11 8 rfl rfl)
          exact ft_X12_dayStep_b227 _ _ _ _ (fr_i js23 42 rfl rfl)
    · refine pq_c (fun _ => ?_)
      refine pq_n (fun s25 es25 => ?_)
      have js25 : Fr cdN 13670880903426 s0 s25 := by rw [es25]; exact (fr_i hJ 1 rfl rfl)
      exact ih _ _ _ _ _ _ js25
theorem ft_X12_dayStep_b122 {s0 : Sg} (v1 : Int32) (v2 : Int32) (v3 : Int32) (v4 : Int32) (s : Sg) (hJ : Fr cdN 13670880903426 s0 s) : PQ (f_X12_dayStep_b122 v1 v2 v3 v4 s) (fun _ s9 => Fr cdN 13670880903426 s0 s9) := by
  unfold f_X12_dayStep_b122
  refine pq_if (fun _ => ?_) (fun _ => ?_)
  · refine pq_c (fun _ => ?_)
    refine pq_n (fun s7 es7 => ?_)
    have js7 : Fr cdN 13670880903426 s0 s7 := by rw [es7]; exact (fr_i (fr_i hJ 43 rfl rfl) 1 rfl rfl)
    exact ft_X12_dayStep_b152 BIG _ _ _ _ _ _ js7
  · refine pq_c (fun _ => ?_)
    refine pq_n (fun s27 es27 => ?_)
    have js27 : Fr cdN 13670880903426 s0 s27 := by rw [es27]; exact (fr_i (fr_i hJ 43 rfl rfl) 1 rfl rfl)
    exact ft_X12_dayStep_b152 BIG _ _ _ _ _ _ js27
theorem ft_X12_dayStep_b102 {s0 : Sg} (v1 : Int32) (v2 : Int32) (v3 : Int32) (v4 : Int32) (s : Sg) (hJ : Fr cdN 13670880903426 s0 s) : PQ (f_X12_dayStep_b102 v1 v2 v3 v4 s) (fun _ s9 => Fr cdN 13670880903426 s0 s9) := by
  unfold f_X12_dayStep_b102
  refine pq_if (fun _ => ?_) (fun _ => ?_)
  · exact ft_X12_dayStep_b122 _ _ _ _ _ hJ
  · refine pq_if (fun _ => ?_) (fun _ => ?_)
    · refine pq_b (ft_X12_fails _ _) (fun _ s29 gs29 => ?_)
      have js29 := fr_t hJ gs29 rfl
      refine pq_c (fun _ => ?_)
      exact pq_s js29
    · exact ft_X12_dayStep_b122 _ _ _ _ _ hJ
theorem ft_X12_dayStep_b80 {s0 : Sg} (v1 : Int32) (v2 : Int32) (v3 : Int32) (v4 : Int32) (s : Sg) (hJ : Fr cdN 13670880903426 s0 s) : PQ (f_X12_dayStep_b80 v1 v2 v3 v4 s) (fun _ s9 => Fr cdN 13670880903426 s0 s9) := by
  unfold f_X12_dayStep_b80
  refine pq_if (fun _ => ?_) (fun _ => ?_)
  · exact ft_X12_dayStep_b102 _ _ _ _ _ hJ
  · refine pq_if (fun _ => ?_) (fun _ => ?_)
    · refine pq_b (ft_X12_fails _ _) (fun _ s31 gs31 => ?_)
      have js31 := fr_t hJ gs31 rfl
      refine pq_c (fun _ => ?_)
      exact pq_s js31
    · exact ft_X12_dayStep_b102 _ _ _ _ _ hJ
theorem ft_X12_dayStep_b61 {s0 : Sg} (v1 : Int32) (v2 : Int32) (v3 : Int32) (v4 : Int32) (s : Sg) (hJ : Fr cdN 13670880903426 s0 s) : PQ (f_X12_dayStep_b61 v1 v2 v3 v4 s) (fun _ s9 => Fr cdN 13670880903426 s0 s9) := by
  unfold f_X12_dayStep_b61
  refine pq_if (fun _ => ?_) (fun _ => ?_)
  · refine pq_if (fun _ => ?_) (fun _ => ?_)
    · refine pq_b (ft_X12_fails _ _) (fun _ s5 gs5 => ?_)
      have js5 := fr_t hJ gs5 rfl
      refine pq_c (fun _ => ?_)
      exact pq_s js5
    · exact ft_X12_dayStep_b80 _ _ _ _ _ hJ
  · exact ft_X12_dayStep_b80 _ _ _ _ _ hJ
theorem ft_X12_dayStep_b42 {s0 : Sg} (v1 : Int32) (v2 : Int32) (v3 : Int32) (t0 : Int32) (s : Sg) (hJ : Fr cdN 13670880903426 s0 s) : PQ (f_X12_dayStep_b42 v1 v2 v3 t0 s) (fun _ s9 => Fr cdN 13670880903426 s0 s9) := by
  unfold f_X12_dayStep_b42
  refine pq_if (fun _ => ?_) (fun _ => ?_)
  · exact ft_X12_dayStep_b61 _ _ _ _ _ hJ
  · refine pq_if (fun _ => ?_) (fun _ => ?_)
    · refine pq_b (ft_X12_fails _ _) (fun _ s33 gs33 => ?_)
      have js33 := fr_t hJ gs33 rfl
      refine pq_c (fun _ => ?_)
      exact pq_s js33
    · refine pq_if (fun _ => ?_) (fun _ => ?_)
      · refine pq_b (ft_X12_fails _ _) (fun _ s35 gs35 => ?_)
        have js35 := fr_t hJ gs35 rfl
        refine pq_c (fun _ => ?_)
        exact pq_s js35
      · exact ft_X12_dayStep_b61 _ _ _ _ _ hJ
theorem ft_X12_dayStep_b37 {s0 : Sg} (v1 : Int32) (v2 : Int32) (v3 : Int32) (s : Sg) (hJ : Fr cdN 13670880903426 s0 s) : PQ (f_X12_dayStep_b37 v1 v2 v3 s) (fun _ s9 => Fr cdN 13670880903426 s0 s9) := by
  unfold f_X12_dayStep_b37
  exact ft_X12_dayStep_b42 _ _ _ _ _ hJ
theorem ft_X12_dayStep  (s : Sg) : PQ (f_X12_dayStep  s) (fun _ s9 => Fr cdN 13670880903426 s s9) := by
  have hJ : Fr cdN 13670880903426 s s := fr_r
  unfold f_X12_dayStep
  refine pq_b (ft_X12_inWords_1001  _) (fun _ s2 gs2 => ?_)
  have js2 := fr_t hJ gs2 rfl
  refine pq_n (fun x3 _ => ?_)
  refine pq_if (fun _ => ?_) (fun _ => ?_)
  · exact ft_X12_dayStep_b37 _ _ _ _ js2
  · refine pq_if (fun _ => ?_) (fun _ => ?_)
    · exact ft_X12_dayStep_b37 _ _ _ _ js2
    · exact ft_X12_dayStep_b42 _ _ _ _ _ js2

theorem ft_X12_days_b102 {s0 : Sg} (n : Nat) : ∀ (v3 : Int32) (s : Sg), Fr cdN 13739604574466 s0 s → PQ (f_X12_days_b102 n v3 s) (fun _ s9 => Fr cdN 13739604574466 s0 s9) := by
  induction n with
  | zero => intro v3 s _ r s9 e; cases e
  | succ n ih =>
    intro v3 s hJ
    unfold f_X12_days_b102
    refine pq_if (fun _ => ?_) (fun _ => ?_)
    · refine pq_b (ft_X12_taken _ _) (fun _ s7 gs7 => ?_)
      have js7 := fr_t hJ gs7 rfl
      exact pq_s js7
    · refine pq_c (fun _ => ?_)
      refine pq_c (fun _ => ?_)
      refine pq_n (fun s10 es10 => ?_)
      have js10 : Fr cdN 13739604574466 s0 s10 := by rw [es10]; exact (fr_i hJ 1 rfl rfl)
      exact ih _ _ js10
theorem ft_X12_days_b77 {s0 : Sg}  (s : Sg) (hJ : Fr cdN 13739604574466 s0 s) : PQ (f_X12_days_b77  s) (fun _ s9 => Fr cdN 13739604574466 s0 s9) := by
  unfold f_X12_days_b77
  refine pq_if (fun _ => ?_) (fun _ => ?_)
  · exact ft_X12_days_b102 BIG _ _ (fr_i hJ 1 rfl rfl)
  · refine pq_b (ft_X12_taken _ _) (fun _ s12 gs12 => ?_)
    have js12 := fr_t hJ gs12 rfl
    exact pq_s js12
theorem ft_X12_days_b57 {s0 : Sg}  (s : Sg) (hJ : Fr cdN 13739604574466 s0 s) : PQ (f_X12_days_b57  s) (fun _ s9 => Fr cdN 13739604574466 s0 s9) := by
  unfold f_X12_days_b57
  refine pq_if (fun _ => ?_) (fun _ => ?_)
  · refine pq_if (fun _ => ?_) (fun _ => ?_)
    · exact ft_X12_days_b77  _ hJ
    · refine pq_b (ft_X12_fails _ _) (fun _ s14 gs14 => ?_)
      have js14 := fr_t hJ gs14 rfl
      exact ft_X12_days_b77  _ js14
  · exact ft_X12_days_b77  _ hJ
theorem ft_X12_days_b38 {s0 : Sg} (n : Nat) : ∀ (v2 : Int32) (s : Sg), Fr cdN 13739604574466 s0 s → PQ (f_X12_days_b38 n v2 s) (fun _ s9 => Fr cdN 13739604574466 s0 s9) := by
  induction n with
  | zero => intro v2 s _ r s9 e; cases e
  | succ n ih =>
    intro v2 s hJ
    unfold f_X12_days_b38
    refine pq_if (fun _ => ?_) (fun _ => ?_)
    · exact ft_X12_days_b57  _ hJ
    · refine pq_if (fun _ => ?_) (fun _ => ?_)
      · exact ft_X12_days_b57  _ hJ
      · refine pq_b (ft_X12_dayStep  _) (fun _ s16 gs16 => ?_)
        have js16 := fr_t hJ gs16 rfl
        exact ih _ _ js16

theorem ft_X12_copies_b41 {s0 : Sg} (n : Nat) : ∀ (v1 : Int32) (v2 : Int32) (v3 : Int32) (s : Sg), Fr cdN 6 s0 s → PQ (f_X12_copies_b41 n v1 v2 v3 s) (fun _ s9 => Fr cdN 6 s0 s9) := by
  induction n with
  | zero => intro v1 v2 v3 s _ r s9 e; cases e
  | succ n ih =>
    intro v1 v2 v3 s hJ
    unfold f_X12_copies_b41
    refine pq_if (fun _ => ?_) (fun _ => ?_)
    · exact pq_s hJ
    · refine pq_c (fun _ => ?_)
      refine pq_c (fun _ => ?_)
      refine pq_n (fun s3 es3 => ?_)
      have js3 : Fr cdN 6 s0 s3 := by rw [es3]; exact (fr_l hJ 2 rfl rfl)
      exact ih _ _ _ _ js3
theorem ft_X12_copies_b2 {s0 : Sg} (n : Nat) : ∀ (v1 : Int32) (v2 : Int32) (v3 : Int32) (s : Sg), Fr cdN 6 s0 s → PQ (f_X12_copies_b2 n v1 v2 v3 s) (fun _ s9 => Fr cdN 6 s0 s9) := by
  induction n with
  | zero => intro v1 v2 v3 s _ r s9 e; cases e
  | succ n ih =>
    intro v1 v2 v3 s hJ
    unfold f_X12_copies_b2
    refine pq_if (fun _ => ?_) (fun _ => ?_)
    · exact ft_X12_copies_b41 BIG _ _ _ _ hJ
    · refine pq_c (fun _ => ?_)
      refine pq_c (fun _ => ?_)
      refine pq_n (fun s6 es6 => ?_)
      have js6 : Fr cdN 6 s0 s6 := by rw [es6]; exact (fr_i hJ 1 rfl rfl)
      exact ih _ _ _ _ js6
theorem ft_X12_copies (a1 : Int32) (a2 : Int32) (s : Sg) : PQ (f_X12_copies a1 a2 s) (fun _ s9 => Fr cdN 6 s s9) := by
  have hJ : Fr cdN 6 s s := fr_r
  unfold f_X12_copies
  exact ft_X12_copies_b2 BIG _ _ _ _ hJ

theorem ft_X12_mark  (s : Sg) : PQ (f_X12_mark  s) (fun _ s9 => Fr cdN 36028797023158278 s s9) := by
  have hJ : Fr cdN 36028797023158278 s s := fr_r
  unfold f_X12_mark
  refine pq_if (fun _ => ?_) (fun _ => ?_)
  · refine pq_b (ft_X12_refuse _ _) (fun _ s2 gs2 => ?_)
    have js2 := fr_t hJ gs2 rfl
    exact pq_s js2
  · refine pq_b (ft_X12_copies _ _ _) (fun _ s4 gs4 => ?_)
    have js4 := fr_t (fr_i hJ 55 rfl rfl) gs4 rfl
    refine pq_b (ft_X12_gives _ _) (fun _ s6 gs6 => ?_)
    have js6 := fr_t js4 gs6 rfl
    exact pq_s js6

theorem ft_X12_back  (s : Sg) : PQ (f_X12_back  s) (fun _ s9 => Fr cdN 36028797023158278 s s9) := by
  have hJ : Fr cdN 36028797023158278 s s := fr_r
  unfold f_X12_back
  refine pq_if (fun _ => ?_) (fun _ => ?_)
  · refine pq_b (ft_X12_refuse _ _) (fun _ s2 gs2 => ?_)
    have js2 := fr_t hJ gs2 rfl
    exact pq_s js2
  · refine pq_b (ft_X12_copies _ _ _) (fun _ s4 gs4 => ?_)
    have js4 := fr_t hJ gs4 rfl
    refine pq_b (ft_X12_gives _ _) (fun _ s6 gs6 => ?_)
    have js6 := fr_t (fr_i js4 55 rfl rfl) gs6 rfl
    exact pq_s js6

